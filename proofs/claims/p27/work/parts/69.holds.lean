/-! THE LAW'S HOLDS -/
section HOLDS
variable {d : Nat} {H H1 : zH} {σ σ' : mS} {r r' : Int32} {e e' : Nat → mS × Int32} {len len' : Nat} {k : Bool} {κ : mS × Int32} {w w' : Nat → Nat} {m m' : Nat} {x y : Int32} {c n p : Nat}
theorem nI_m4 {a : Nat} (ha : a < 2147483648) : (nI a = -4) = False := eq_false (fun h => by
  have := congrArg Int32.toInt h
  rw [nI_toInt (by omega)] at this
  have e : Int32.toInt (-4) = -4 := by decide
  rw [e] at this
  omega)
theorem cB_eq {u n : Nat} (hu : u ≤ 12) (hn : n < 13) : (cB u = nI n) = (u = n + 1) := by
  cases u with
  | zero =>
    refine propext ⟨fun z => ?_, fun z => absurd z (by omega)⟩
    have z : (-4 : Int32) = nI n := z
    have := congrArg Int32.toInt z
    rw [nI_toInt (by omega)] at this
    have e : Int32.toInt (-4) = -4 := by decide
    rw [e] at this
    omega
  | succ a =>
    show (nI a = nI n) = (a + 1 = n + 1)
    rw [nI_eqp (by omega) (by omega)]
    exact propext ⟨fun z => by omega, fun z => by omega⟩
theorem cB_inj {u v : Nat} (hu : u ≤ 12) (hv : v ≤ 12) : (cB u = cB v) = (u = v) := by
  cases v with
  | zero => exact cB_m4 hu
  | succ a => exact cB_eq hu (by omega)
theorem cB_neg {u : Nat} (hu : u ≤ 12) : (cB u < 0) = (u = 0) := by
  cases u with
  | zero => exact propext ⟨fun _ => rfl, fun _ => by decide⟩
  | succ a => exact propext ⟨fun z => absurd z (nI_pos (by omega)), fun z => absurd z (by omega)⟩
theorem lw_open1 (hp : p < 4) (hC : CI H σ r e len k κ w m) (hW : WF σ e len k κ) {z : Option Value} : ∀ (f u : Nat) (b : Bool), u ≤ σ.1 → trm σ f u → ev (d + 21) 131 10 [some (.ref 0), z, some (.int (nI p)), some (.int (bI (b = true))), some (.int (cB u))] [] H = some (some (.int (bI ((b && (chu σ f u).all fun a => (σ.2 a 2).testBit p) = true))), H) := by
  intro f
  induction f with
  | zero =>
    intro u b hu ht
    cases u with
    | succ a => exact ht.elim
    | zero =>
      have e1 : (cB 0 < 0) = True := by decide
      rw [e131_10]
      simp only [e131_12, e131_52, e131_53 (bI_01 _), e1, if_true, chu, List.all_nil, Bool.and_true]
  | succ f ih =>
    intro u b hu ht
    cases u with
    | zero =>
      have e1 : (cB 0 < 0) = True := by decide
      rw [e131_10]
      simp only [e131_12, e131_52, e131_53 (bI_01 _), e1, if_true, chu, List.all_nil, Bool.and_true]
    | succ a =>
      have hn := hW.1.1
      have ha : a < σ.1 := by omega
      have hb := hW.1.bnd.2 a ha
      have e1 : (nI a < 0) = False := eq_false (nI_pos (by omega))
      have e2 := ca_cr2 (d := d) ha hC hW
      have e4 := ca_cr4 (d := d) ha hC hW
      have z0 := CI_z hC
      have eg := gapb (σ.2 a 2) (by omega) p hp
      have ih1 := ih (σ.2 a 7) (b && (σ.2 a 2).testBit p) hb.2.2.2.2.1 ht
      rw [chu, List.all_cons, ← Bool.and_assoc]
      rw [← ih1]
      show ev (d + 21) 131 10 [some (.ref 0), z, some (.int (nI p)), some (.int (bI (b = true))), some (.int (nI a))] [] H = _
      rw [e131_10]
      cases b with
      | false =>
        rw [Bool.false_and, bI_f Bool.false_ne_true]
        simp only [e131_12, e131_15, e131_16, e131_19, e131_20, e131_22, e131_23, e131_26, e131_27, e131_28, e131_29, e131_30, e131_31, e131_34, e131_35, e131_38, e131_39, e131_40, e131_41, e131_43, e131_44, e131_47, e131_49, e131_52, Option.bind_some, Option.toList_some, Option.toList_none, List.cons_append, List.nil_append, true_or, or_true, and_true, true_and, i10, Bool.false_eq_true, if_true, if_false, reduceIte, e1, e4, z0, eq_self]
      | true =>
        cases q : (σ.2 a 2).testBit p with
        | false =>
          rw [q] at eg
          rw [Bool.and_false, bI_t rfl, bI_f Bool.false_ne_true]
          simp only [e131_12, e131_15, e131_16, e131_19, e131_20, e131_22, e131_23, e131_26, e131_27, e131_28, e131_29, e131_30, e131_31, e131_34, e131_35, e131_38, e131_39, e131_40, e131_41, e131_43, e131_44, e131_47, e131_49, e131_52, Option.bind_some, Option.toList_some, Option.toList_none, List.cons_append, List.nil_append, true_or, or_true, and_true, true_and, i10, Bool.false_eq_true, if_true, if_false, reduceIte, e1, e2, e4, z0, eg]
        | true =>
          rw [q] at eg
          rw [Bool.and_self, bI_t rfl]
          simp only [e131_12, e131_15, e131_16, e131_19, e131_20, e131_22, e131_23, e131_26, e131_27, e131_28, e131_29, e131_30, e131_31, e131_34, e131_35, e131_38, e131_39, e131_40, e131_41, e131_43, e131_44, e131_47, e131_49, e131_52, Option.bind_some, Option.toList_some, Option.toList_none, List.cons_append, List.nil_append, true_or, or_true, and_true, true_and, i10, Bool.false_eq_true, if_true, if_false, reduceIte, e1, e2, e4, z0, eg]
theorem lw_open (hc : c < σ.1) (hp : p < 4) (hC : CI H σ r e len k κ w m) (hW : WF σ e len k κ) : ev (d + 21) 131 0 [some (.ref 0), some (.int (nI c)), some (.int (nI p)), none, none] [] H = some (some (.int (bI (opn σ c p = true))), H) := by
  have e4 := ca_cr4 (d := d) hc hC hW
  have z0 := CI_z hC
  have hb := hW.1.bnd.2 c hc
  have h1 := lw_open1 (d := d) hp hC hW (z := some (.int (nI c))) 12 (σ.2 c 7) true hb.2.2.2.2.1 (hW.1.ends hc)
  rw [Bool.true_and, bI_t rfl] at h1
  simp only [e131_0, e131_1, e131_2, e131_3, e131_4, e131_5, e131_8, Option.bind_some, Option.toList_some, Option.toList_none, List.cons_append, List.nil_append, true_or, or_true, and_true, true_and, i10, Bool.false_eq_true, if_true, if_false, reduceIte, e4, z0]
  exact h1
theorem hd_room {a : Nat} {t : Int} (ha : a < σ.1) (hc : n < σ.1) (hC : CI H σ r e len k κ w m) (hW : WF σ e len k κ) {gG gL gD gT l10 l11 l13 : Option Value} : ev (d + 22) 130 90 [some (.ref 0), some (.int (nI σ.1)), gG, gL, gD, gT, some (.int 1), some (.int (nI n)), some (.int (cB (σ.2 n 7))), some (.int (iI t)), l10, l11, some (.int (nI a)), l13] [] H = ev (d + 22) 130 118 [some (.ref 0), some (.int (nI σ.1)), gG, gL, gD, gT, some (.int 1), some (.int (nI n)), some (.int (cB (σ.2 n 7))), some (.int (iI (t - if σ.2 a 7 = n + 1 then (σ.2 a 0 : Int) else 0))), l10, l11, some (.int (nI a)), l13] [] H := by
  have hn := hW.1.1
  have hb := hW.1.bnd.2 n hc
  have z0 := CI_z hC
  have e0 := ca_cr0 (d := d + 1) ha hC hW
  have e4 := ca_cr4 (d := d + 1) ha hC hW
  have hba := hW.1.bnd.2 a ha
  have c1 := cB_eq (u := σ.2 a 7) (n := n) (by omega) (by omega)
  by_cases q : σ.2 a 7 = n + 1
  · have c2 : (cB (σ.2 a 7) = nI n) = True := c1.trans (eq_true q)
    rw [if_pos q, ← iI_sub, ← iI_nat]
    simp only [e130_90, e130_92, e130_93, e130_95, e130_96, e130_99, e130_101, e130_104, e130_105, e130_107, e130_108, e130_111, e130_114, e130_115, e130_116, Option.bind_some, Option.toList_some, Option.toList_none, List.cons_append, List.nil_append, true_or, or_true, and_true, true_and, i10, Bool.false_eq_true, if_true, if_false, reduceIte, e0, e4, z0, c2]
  · have c2 : (cB (σ.2 a 7) = nI n) = False := c1.trans (eq_false q)
    rw [if_neg q, ← iI_sub]
    simp only [e130_90, e130_92, e130_93, e130_95, e130_96, e130_99, e130_101, e130_104, e130_105, e130_107, e130_108, e130_111, e130_114, e130_115, e130_116, Option.bind_some, Option.toList_some, Option.toList_none, List.cons_append, List.nil_append, true_or, or_true, and_true, true_and, i10, Bool.false_eq_true, if_true, if_false, reduceIte, e4, z0, c2]
    rfl
theorem hd_pile {a t : Nat} (ha : a < σ.1) (hc : n < σ.1) (hC : CI H σ r e len k κ w m) (hW : WF σ e len k κ) {gG gL gD gT l9 l11 l13 : Option Value} : ev (d + 22) 130 118 [some (.ref 0), some (.int (nI σ.1)), gG, gL, gD, gT, some (.int 1), some (.int (nI n)), some (.int (cB (σ.2 n 7))), l9, some (.int (nI t)), l11, some (.int (nI a)), l13] [] H = ev (d + 22) 130 140 [some (.ref 0), some (.int (nI σ.1)), gG, gL, gD, gT, some (.int 1), some (.int (nI n)), some (.int (cB (σ.2 n 7))), l9, some (.int (nI (t + if decide (σ.2 a 7 = n + 1) = true then 1 else 0))), l11, some (.int (nI a)), l13] [] H := by
  have hn := hW.1.1
  have hb := hW.1.bnd.2 n hc
  have z0 := CI_z hC
  have e4 := ca_cr4 (d := d + 1) ha hC hW
  have hba := hW.1.bnd.2 a ha
  have c1 := cB_eq (u := σ.2 a 7) (n := n) (by omega) (by omega)
  by_cases q : σ.2 a 7 = n + 1
  · have c2 : (cB (σ.2 a 7) = nI n) = True := c1.trans (eq_true q)
    rw [if_pos (decide_eq_true q)]
    simp only [e130_118, e130_120, e130_121, e130_123, e130_124, e130_127, e130_129, e130_132, e130_133, e130_136, e130_137, e130_138, Option.bind_some, Option.toList_some, Option.toList_none, List.cons_append, List.nil_append, true_or, or_true, and_true, true_and, i10, Bool.false_eq_true, if_true, if_false, reduceIte, e4, z0, c2, nI_1]
  · have c2 : (cB (σ.2 a 7) = nI n) = False := c1.trans (eq_false q)
    rw [if_neg (by rw [decide_eq_true_eq]; exact q)]
    simp only [e130_118, e130_120, e130_121, e130_123, e130_124, e130_127, e130_129, e130_132, e130_133, e130_136, e130_137, e130_138, Option.bind_some, Option.toList_some, Option.toList_none, List.cons_append, List.nil_append, true_or, or_true, and_true, true_and, i10, Bool.false_eq_true, if_true, if_false, reduceIte, e4, z0, c2, Int32.add_zero, Nat.add_zero]
theorem hd_above {a t : Nat} (ha : a < σ.1) (hc : n < σ.1) (hC : CI H σ r e len k κ w m) (hW : WF σ e len k κ) {gG gL gD gT l9 l10 l13 : Option Value} : ev (d + 22) 130 140 [some (.ref 0), some (.int (nI σ.1)), gG, gL, gD, gT, some (.int 1), some (.int (nI n)), some (.int (cB (σ.2 n 7))), l9, l10, some (.int (nI t)), some (.int (nI a)), l13] [] H = ev (d + 22) 130 188 [some (.ref 0), some (.int (nI σ.1)), gG, gL, gD, gT, some (.int 1), some (.int (nI n)), some (.int (cB (σ.2 n 7))), l9, l10, some (.int (nI (t + if decide (σ.2 n 7 ≠ 0 ∧ σ.2 a 7 = σ.2 n 7 ∧ σ.2 n 8 < σ.2 a 8) = true then 1 else 0))), some (.int (nI a)), l13] [] H := by
  have hn := hW.1.1
  have hb := hW.1.bnd.2 n hc
  have z0 := CI_z hC
  have e4 := ca_cr4 (d := d + 1) ha hC hW
  have e9 := ca_cr9 (d := d + 1) ha hC hW
  have e9n := ca_cr9 (d := d + 1) hc hC hW
  have hba := hW.1.bnd.2 a ha
  have c1 := cB_m4 (b := σ.2 n 7) (by omega)
  have c3 := cB_inj (u := σ.2 a 7) (v := σ.2 n 7) (by omega) (by omega)
  have c5 : (nI (σ.2 a 8) ≤ nI (σ.2 n 8)) = (σ.2 a 8 ≤ σ.2 n 8) := nI_lep (by omega) (by omega)
  by_cases q1 : σ.2 n 7 = 0
  · rw [if_neg (by rw [decide_eq_true_eq]; exact fun z => z.1 q1)]
    simp only [e130_140, e130_142, e130_144, e130_146, e130_149, e130_150, e130_152, e130_153, e130_156, e130_158, e130_161, e130_162, e130_164, e130_166, e130_169, e130_170, e130_172, e130_174, e130_177, e130_180, e130_181, e130_184, e130_185, e130_186, Option.bind_some, Option.toList_some, Option.toList_none, List.cons_append, List.nil_append, true_or, or_true, and_true, true_and, i10, Bool.false_eq_true, if_true, if_false, reduceIte, z0, c1.trans (eq_true q1), Int32.add_zero, Nat.add_zero]
  · by_cases q2 : σ.2 a 7 = σ.2 n 7
    · by_cases q3 : σ.2 a 8 ≤ σ.2 n 8
      · rw [if_neg (by rw [decide_eq_true_eq]; exact fun z => by omega)]
        simp only [e130_140, e130_142, e130_144, e130_146, e130_149, e130_150, e130_152, e130_153, e130_156, e130_158, e130_161, e130_162, e130_164, e130_166, e130_169, e130_170, e130_172, e130_174, e130_177, e130_180, e130_181, e130_184, e130_185, e130_186, Option.bind_some, Option.toList_some, Option.toList_none, List.cons_append, List.nil_append, true_or, or_true, and_true, true_and, i10, Bool.false_eq_true, if_true, if_false, reduceIte, z0, e4, e9, e9n, c1.trans (eq_false q1), c3.trans (eq_true q2), c5.trans (eq_true q3), Int32.add_zero, Nat.add_zero]
      · rw [if_pos (decide_eq_true ⟨q1, q2, by omega⟩)]
        simp only [e130_140, e130_142, e130_144, e130_146, e130_149, e130_150, e130_152, e130_153, e130_156, e130_158, e130_161, e130_162, e130_164, e130_166, e130_169, e130_170, e130_172, e130_174, e130_177, e130_180, e130_181, e130_184, e130_185, e130_186, Option.bind_some, Option.toList_some, Option.toList_none, List.cons_append, List.nil_append, true_or, or_true, and_true, true_and, i10, Bool.false_eq_true, if_true, if_false, reduceIte, z0, e4, e9, e9n, c1.trans (eq_false q1), c3.trans (eq_true q2), c5.trans (eq_false q3), nI_1]
    · rw [if_neg (by rw [decide_eq_true_eq]; exact fun z => q2 z.2.1)]
      simp only [e130_140, e130_142, e130_144, e130_146, e130_149, e130_150, e130_152, e130_153, e130_156, e130_158, e130_161, e130_162, e130_164, e130_166, e130_169, e130_170, e130_172, e130_174, e130_177, e130_180, e130_181, e130_184, e130_185, e130_186, Option.bind_some, Option.toList_some, Option.toList_none, List.cons_append, List.nil_append, true_or, or_true, and_true, true_and, i10, Bool.false_eq_true, if_true, if_false, reduceIte, z0, e4, c1.trans (eq_false q1), c3.trans (eq_false q2), Int32.add_zero, Nat.add_zero]
theorem hd_k (hc : n < σ.1) (hC : CI H σ r e len k κ w m) (hW : WF σ e len k κ) {gG gL gD gT l13 : Option Value} : ev (d + 22) 130 84 [some (.ref 0), some (.int (nI σ.1)), gG, gL, gD, gT, some (.int 1), some (.int (nI n)), some (.int (cB (σ.2 n 7))), some (.int (nI (σ.2 n 1))), some (.int (0)), some (.int (0)), some (.int (0)), l13] [] H = ev (d + 22) 130 194 [some (.ref 0), some (.int (nI σ.1)), gG, gL, gD, gT, some (.int 1), some (.int (nI n)), some (.int (cB (σ.2 n 7))), some (.int (iI (lft σ n))), some (.int (nI (pil σ n))), some (.int (nI (abc σ n))), some (.int (nI σ.1)), l13] [] H := by
  have hn := hW.1.1
  have hb := hW.1.bnd.2 n hc
  have z0 := CI_z hC
  have step : ∀ (a : Nat), a < σ.1 → ev (d + 22) 130 84 [some (.ref 0), some (.int (nI σ.1)), gG, gL, gD, gT, some (.int 1), some (.int (nI n)), some (.int (cB (σ.2 n 7))), some (.int (iI ((σ.2 n 1 : Int) - si (fun j => if σ.2 j 7 = n + 1 then (σ.2 j 0 : Int) else 0) a))), some (.int (nI (ct (fun j => decide (σ.2 j 7 = n + 1)) a))), some (.int (nI (ct (fun j => decide (σ.2 n 7 ≠ 0 ∧ σ.2 j 7 = σ.2 n 7 ∧ σ.2 n 8 < σ.2 j 8)) a))), some (.int (nI a)), l13] [] H = ev (d + 22) 130 84 [some (.ref 0), some (.int (nI σ.1)), gG, gL, gD, gT, some (.int 1), some (.int (nI n)), some (.int (cB (σ.2 n 7))), some (.int (iI ((σ.2 n 1 : Int) - si (fun j => if σ.2 j 7 = n + 1 then (σ.2 j 0 : Int) else 0) (a + 1)))), some (.int (nI (ct (fun j => decide (σ.2 j 7 = n + 1)) (a + 1)))), some (.int (nI (ct (fun j => decide (σ.2 n 7 ≠ 0 ∧ σ.2 j 7 = σ.2 n 7 ∧ σ.2 n 8 < σ.2 j 8)) (a + 1)))), some (.int (nI (a + 1))), l13] [] H := by
    intro a ha
    have e1 : (nI σ.1 ≤ nI a) = False := (nI_lep (by omega) (by omega)).trans (eq_false (by omega))
    have s1 := hd_room (d := d) (t := (σ.2 n 1 : Int) - si (fun j => if σ.2 j 7 = n + 1 then (σ.2 j 0 : Int) else 0) a) ha hc hC hW (gG := gG) (gL := gL) (gD := gD) (gT := gT) (l10 := some (.int (nI (ct (fun j => decide (σ.2 j 7 = n + 1)) a)))) (l11 := some (.int (nI (ct (fun j => decide (σ.2 n 7 ≠ 0 ∧ σ.2 j 7 = σ.2 n 7 ∧ σ.2 n 8 < σ.2 j 8)) a)))) (l13 := l13)
    have s2 := hd_pile (d := d) (t := ct (fun j => decide (σ.2 j 7 = n + 1)) a) ha hc hC hW (gG := gG) (gL := gL) (gD := gD) (gT := gT) (l9 := some (.int (iI ((σ.2 n 1 : Int) - si (fun j => if σ.2 j 7 = n + 1 then (σ.2 j 0 : Int) else 0) (a + 1))))) (l11 := some (.int (nI (ct (fun j => decide (σ.2 n 7 ≠ 0 ∧ σ.2 j 7 = σ.2 n 7 ∧ σ.2 n 8 < σ.2 j 8)) a)))) (l13 := l13)
    have s3 := hd_above (d := d) (t := ct (fun j => decide (σ.2 n 7 ≠ 0 ∧ σ.2 j 7 = σ.2 n 7 ∧ σ.2 n 8 < σ.2 j 8)) a) ha hc hC hW (gG := gG) (gL := gL) (gD := gD) (gT := gT) (l9 := some (.int (iI ((σ.2 n 1 : Int) - si (fun j => if σ.2 j 7 = n + 1 then (σ.2 j 0 : Int) else 0) (a + 1))))) (l10 := some (.int (nI (ct (fun j => decide (σ.2 j 7 = n + 1)) (a + 1))))) (l13 := l13)
    rw [Int.sub_sub] at s1
    refine Eq.trans ?_ (s1.trans (s2.trans (s3.trans ?_)))
    · rw [e130_84]
      simp only [e130_86, e130_87, e1, if_false]
    · simp only [e130_188, e130_191, nI_1, ct]
  have fin : ev (d + 22) 130 84 [some (.ref 0), some (.int (nI σ.1)), gG, gL, gD, gT, some (.int 1), some (.int (nI n)), some (.int (cB (σ.2 n 7))), some (.int (iI ((σ.2 n 1 : Int) - si (fun j => if σ.2 j 7 = n + 1 then (σ.2 j 0 : Int) else 0) σ.1))), some (.int (nI (ct (fun j => decide (σ.2 j 7 = n + 1)) σ.1))), some (.int (nI (ct (fun j => decide (σ.2 n 7 ≠ 0 ∧ σ.2 j 7 = σ.2 n 7 ∧ σ.2 n 8 < σ.2 j 8)) σ.1))), some (.int (nI σ.1)), l13] [] H = ev (d + 22) 130 194 [some (.ref 0), some (.int (nI σ.1)), gG, gL, gD, gT, some (.int 1), some (.int (nI n)), some (.int (cB (σ.2 n 7))), some (.int (iI (lft σ n))), some (.int (nI (pil σ n))), some (.int (nI (abc σ n))), some (.int (nI σ.1)), l13] [] H := by
    have e5 : (σ.2 n 1 : Int) - si (fun j => if σ.2 j 7 = n + 1 then (σ.2 j 0 : Int) else 0) σ.1 = lft σ n := by
      unfold lft pis
      have : ∀ q, si (fun j => if σ.2 j 7 = n + 1 then (σ.2 j 0 : Int) else 0) q = ((sm (fun d => if σ.2 d 7 = n + 1 then σ.2 d 0 else 0) q : Nat) : Int) := by
        intro q
        induction q with
        | zero => rfl
        | succ q ih =>
          rw [si, sm, ih]
          split <;> simp
      rw [this]
    rw [e5, e130_84]
    simp only [e130_86, e130_87, Int32.le_refl, if_true]
    rfl
  have main := z_for (fun (a : Nat) (_ : Unit) => ev (d + 22) 130 84 [some (.ref 0), some (.int (nI σ.1)), gG, gL, gD, gT, some (.int 1), some (.int (nI n)), some (.int (cB (σ.2 n 7))), some (.int (iI ((σ.2 n 1 : Int) - si (fun j => if σ.2 j 7 = n + 1 then (σ.2 j 0 : Int) else 0) a))), some (.int (nI (ct (fun j => decide (σ.2 j 7 = n + 1)) a))), some (.int (nI (ct (fun j => decide (σ.2 n 7 ≠ 0 ∧ σ.2 j 7 = σ.2 n 7 ∧ σ.2 n 8 < σ.2 j 8)) a))), some (.int (nI a)), l13] [] H) (fun _ s => s) (n := σ.1) (s := ()) (fun a _ ha => step a ha)
  refine Eq.trans ?_ (main.trans fin)
  show ev (d + 22) 130 84 [some (.ref 0), some (.int (nI σ.1)), gG, gL, gD, gT, some (.int 1), some (.int (nI n)), some (.int (cB (σ.2 n 7))), some (.int (nI (σ.2 n 1))), some (.int (0)), some (.int (0)), some (.int (0)), l13] [] H = ev (d + 22) 130 84 [some (.ref 0), some (.int (nI σ.1)), gG, gL, gD, gT, some (.int 1), some (.int (nI n)), some (.int (cB (σ.2 n 7))), some (.int (iI ((σ.2 n 1 : Int) - 0))), some (.int (nI 0)), some (.int (nI 0)), some (.int (nI 0)), l13] [] H
  rw [Int.sub_zero, ← iI_nat]
  rfl
theorem hd_sums {g1 g2 g3 g4 : Nat} (h3 : g3 < 1000) (hc : n < σ.1) (hC : CI H σ r e len k κ w m) (hW : WF σ e len k κ) {l13 : Option Value} : ev (d + 22) 130 194 [some (.ref 0), some (.int (nI σ.1)), some (.int (nI g1)), some (.int (nI g2)), some (.int (nI g3)), some (.int (nI g4)), some (.int 1), some (.int (nI n)), some (.int (cB (σ.2 n 7))), some (.int (iI (lft σ n))), some (.int (nI (pil σ n))), some (.int (nI (abc σ n))), some (.int (nI σ.1)), l13] [] H = ev (d + 22) 130 267 [some (.ref 0), some (.int (nI σ.1)), some (.int (nI (g1 + if decide (σ.2 n 7 = 0) = true then 1 else 0))), some (.int (nI (g2 + if lse σ n = true then 1 else 0))), some (.int (nI (if g3 < dpt σ n then dpt σ n else g3))), some (.int (nI (g4 + lts σ n))), some (.int 1), some (.int (nI n)), some (.int (cB (σ.2 n 7))), some (.int (iI (lft σ n))), some (.int (nI (pil σ n))), some (.int (nI (abc σ n))), some (.int (nI σ.1)), l13] [] H := by
  have hn := hW.1.1
  have hb := hW.1.bnd.2 n hc
  have z0 := CI_z hC
  have e5 := ca_cr5 (d := d + 1) hc hC hW
  have e3 := ca_cr3 (d := d + 1) hc hC hW
  have hd := hW.1.dpt_lt hc
  have hp := pil_le (c := n) hW.1.bnd
  have c1 := cB_m4 (b := σ.2 n 7) (by omega)
  have c2 : (nI (dpt σ n) ≤ nI g3) = (dpt σ n ≤ g3) := nI_lep (by omega) (by omega)
  have c3 : (nI (pil σ n) = 0) = (pil σ n = 0) := nI_eqp (b := 0) (by omega) (by omega)
  have t1 : ev (d + 22) 130 194 [some (.ref 0), some (.int (nI σ.1)), some (.int (nI g1)), some (.int (nI g2)), some (.int (nI g3)), some (.int (nI g4)), some (.int 1), some (.int (nI n)), some (.int (cB (σ.2 n 7))), some (.int (iI (lft σ n))), some (.int (nI (pil σ n))), some (.int (nI (abc σ n))), some (.int (nI σ.1)), l13] [] H = ev (d + 22) 130 209 [some (.ref 0), some (.int (nI σ.1)), some (.int (nI (g1 + if decide (σ.2 n 7 = 0) = true then 1 else 0))), some (.int (nI g2)), some (.int (nI g3)), some (.int (nI g4)), some (.int 1), some (.int (nI n)), some (.int (cB (σ.2 n 7))), some (.int (iI (lft σ n))), some (.int (nI (pil σ n))), some (.int (nI (abc σ n))), some (.int (nI σ.1)), l13] [] H := by
    by_cases q : σ.2 n 7 = 0
    · rw [if_pos (decide_eq_true q)]
      simp only [e130_194, e130_195, e130_197, e130_199, e130_202, e130_203, e130_206, e130_207, e130_208, Option.bind_some, Option.toList_some, Option.toList_none, List.cons_append, List.nil_append, true_or, or_true, and_true, true_and, i10, Bool.false_eq_true, if_true, if_false, reduceIte, c1.trans (eq_true q), nI_1]
    · rw [if_neg (by rw [decide_eq_true_eq]; exact q)]
      simp only [e130_194, e130_195, e130_197, e130_199, e130_202, e130_203, e130_206, e130_207, e130_208, Option.bind_some, Option.toList_some, Option.toList_none, List.cons_append, List.nil_append, true_or, or_true, and_true, true_and, i10, Bool.false_eq_true, if_true, if_false, reduceIte, c1.trans (eq_false q), Int32.add_zero, Nat.add_zero]
  have t2 : ev (d + 22) 130 209 [some (.ref 0), some (.int (nI σ.1)), some (.int (nI (g1 + if decide (σ.2 n 7 = 0) = true then 1 else 0))), some (.int (nI g2)), some (.int (nI g3)), some (.int (nI g4)), some (.int 1), some (.int (nI n)), some (.int (cB (σ.2 n 7))), some (.int (iI (lft σ n))), some (.int (nI (pil σ n))), some (.int (nI (abc σ n))), some (.int (nI σ.1)), l13] [] H = ev (d + 22) 130 229 [some (.ref 0), some (.int (nI σ.1)), some (.int (nI (g1 + if decide (σ.2 n 7 = 0) = true then 1 else 0))), some (.int (nI (g2 + if lse σ n = true then 1 else 0))), some (.int (nI g3)), some (.int (nI g4)), some (.int 1), some (.int (nI n)), some (.int (cB (σ.2 n 7))), some (.int (iI (lft σ n))), some (.int (nI (pil σ n))), some (.int (nI (abc σ n))), some (.int (nI σ.1)), l13] [] H := by
    unfold lse
    by_cases q : σ.2 n 7 = 0
    · by_cases q2 : pil σ n = 0
      · rw [if_pos (c := (decide (σ.2 n 7 = 0) && decide (pil σ n = 0)) = true) (by simp [q, q2])]
        simp only [e130_209, e130_210, e130_212, e130_214, e130_217, e130_219, e130_222, e130_223, e130_226, e130_227, e130_228, Option.bind_some, Option.toList_some, Option.toList_none, List.cons_append, List.nil_append, true_or, or_true, and_true, true_and, i10, Bool.false_eq_true, if_true, if_false, reduceIte, c1.trans (eq_true q), c3.trans (eq_true q2), nI_1]
      · rw [if_neg (c := (decide (σ.2 n 7 = 0) && decide (pil σ n = 0)) = true) (by simp [q2])]
        simp only [e130_209, e130_210, e130_212, e130_214, e130_217, e130_219, e130_222, e130_223, e130_226, e130_227, e130_228, Option.bind_some, Option.toList_some, Option.toList_none, List.cons_append, List.nil_append, true_or, or_true, and_true, true_and, i10, Bool.false_eq_true, if_true, if_false, reduceIte, c1.trans (eq_true q), c3.trans (eq_false q2), Int32.add_zero, Nat.add_zero]
    · rw [if_neg (c := (decide (σ.2 n 7 = 0) && decide (pil σ n = 0)) = true) (by simp [q])]
      simp only [e130_209, e130_210, e130_212, e130_214, e130_217, e130_219, e130_222, e130_223, e130_226, e130_227, e130_228, Option.bind_some, Option.toList_some, Option.toList_none, List.cons_append, List.nil_append, true_or, or_true, and_true, true_and, i10, Bool.false_eq_true, if_true, if_false, reduceIte, c1.trans (eq_false q), Int32.add_zero, Nat.add_zero]
  have t3 : ev (d + 22) 130 229 [some (.ref 0), some (.int (nI σ.1)), some (.int (nI (g1 + if decide (σ.2 n 7 = 0) = true then 1 else 0))), some (.int (nI (g2 + if lse σ n = true then 1 else 0))), some (.int (nI g3)), some (.int (nI g4)), some (.int 1), some (.int (nI n)), some (.int (cB (σ.2 n 7))), some (.int (iI (lft σ n))), some (.int (nI (pil σ n))), some (.int (nI (abc σ n))), some (.int (nI σ.1)), l13] [] H = ev (d + 22) 130 267 [some (.ref 0), some (.int (nI σ.1)), some (.int (nI (g1 + if decide (σ.2 n 7 = 0) = true then 1 else 0))), some (.int (nI (g2 + if lse σ n = true then 1 else 0))), some (.int (nI (if g3 < dpt σ n then dpt σ n else g3))), some (.int (nI (g4 + lts σ n))), some (.int 1), some (.int (nI n)), some (.int (cB (σ.2 n 7))), some (.int (iI (lft σ n))), some (.int (nI (pil σ n))), some (.int (nI (abc σ n))), some (.int (nI σ.1)), l13] [] H := by
    by_cases q : dpt σ n ≤ g3
    · rw [if_neg (show ¬ g3 < dpt σ n by omega)]
      simp only [e130_229, e130_230, e130_232, e130_233, e130_236, e130_238, e130_241, e130_242, e130_244, e130_245, e130_248, e130_251, e130_253, e130_255, e130_257, e130_258, e130_260, e130_261, e130_264, e130_265, Option.bind_some, Option.toList_some, Option.toList_none, List.cons_append, List.nil_append, true_or, or_true, and_true, true_and, i10, Bool.false_eq_true, if_true, if_false, reduceIte, e5, e3, z0, c2.trans (eq_true q), nI_add]
    · rw [if_pos (show g3 < dpt σ n by omega)]
      simp only [e130_229, e130_230, e130_232, e130_233, e130_236, e130_238, e130_241, e130_242, e130_244, e130_245, e130_248, e130_251, e130_253, e130_255, e130_257, e130_258, e130_260, e130_261, e130_264, e130_265, Option.bind_some, Option.toList_some, Option.toList_none, List.cons_append, List.nil_append, true_or, or_true, and_true, true_and, i10, Bool.false_eq_true, if_true, if_false, reduceIte, e5, e3, z0, c2.trans (eq_false q), nI_add]
  exact t1.trans (t2.trans t3)
theorem hd_is (hc : n < σ.1) (hC : CI H σ r e len k κ w m) (hW : WF σ e len k κ) {gG gL gD gT l13 : Option Value} : ev (d + 22) 130 267 [some (.ref 0), some (.int (nI σ.1)), gG, gL, gD, gT, some (.int 1), some (.int (nI n)), some (.int (cB (σ.2 n 7))), some (.int (iI (lft σ n))), some (.int (nI (pil σ n))), some (.int (nI (abc σ n))), some (.int (nI σ.1)), l13] [] H = ev (d + 22) 130 530 [some (.ref 0), some (.int (nI σ.1)), gG, gL, gD, gT, some (.int 1), some (.int (nI n)), some (.int (cB (σ.2 n 7))), some (.int (iI (lft σ n))), some (.int (nI (pil σ n))), some (.int (nI (abc σ n))), some (.int (nI σ.1)), l13] [] H := by
  have hn := hW.1.1
  have hb := hW.1.bnd.2 n hc
  have z0 := CI_z hC
  have hw := hW.1
  obtain ⟨⟨a1, a2⟩, a3, a4, a5, a6, a7, a8, a9, a10, a11⟩ := hw.2 n hc
  have hl := lts_14 a5
  have h0 := hw.lft0 hc
  have h1 := lft_b hw.bnd hc
  have hp := pil_le (c := n) hw.bnd
  have ha := ct_le (fun j => decide (σ.2 n 7 ≠ 0 ∧ σ.2 j 7 = σ.2 n 7 ∧ σ.2 n 8 < σ.2 j 8)) σ.1
  change abc σ n ≤ σ.1 at ha
  have f0 := ca_cr0 (d := d + 1) hc hC hW
  have f1 := ca_cr1 (d := d + 1) hc hC hW
  have f2 := ca_cr2 (d := d + 1) hc hC hW
  have f3 := ca_cr3 (d := d + 1) hc hC hW
  have f5 := ca_cr5 (d := d + 1) hc hC hW
  have f6 := ca_cr6 (d := d + 1) hc hC hW
  have f8 := ca_cr8 (d := d + 1) hc hC hW
  have f9 := ca_cr9 (d := d + 1) hc hC hW
  have f10 := ca_cr10 (d := d + 1) hc hC hW
  have f14 := ca_cr14 (d := d + 1) hc hC hW
  have c1 : (nI (σ.2 n 0) < 1) = False := (nI_ltp (b := 1) (by omega) (by omega)).trans (eq_false (by omega))
  have c2 : (60 < nI (σ.2 n 0)) = False := (nI_ltp (a := 60) (by omega) (by omega)).trans (eq_false (by omega))
  have c3 : (nI (σ.2 n 0) ≤ nI (σ.2 n 1)) = False := (nI_lep (by omega) (by omega)).trans (eq_false (by omega))
  have c4 : (nI (σ.2 n 2) < 0) = False := eq_false (nI_pos (by omega))
  have c5 : ((16 : Int32) ≤ nI (σ.2 n 2)) = False := (nI_lep (a := 16) (by omega) (by omega)).trans (eq_false (by omega))
  have c6 : (nI (lts σ n) < 1) = False := (nI_ltp (b := 1) (by omega) (by omega)).trans (eq_false (by omega))
  have c7 : (4 < nI (lts σ n)) = False := (nI_ltp (a := 4) (by omega) (by omega)).trans (eq_false (by omega))
  have c8 : (iI (lft σ n) < 0) = False := (iI_lt (b := 0) (by omega) (by omega)).trans (eq_false (by omega))
  have t1 : ev (d + 22) 130 267 [some (.ref 0), some (.int (nI σ.1)), gG, gL, gD, gT, some (.int 1), some (.int (nI n)), some (.int (cB (σ.2 n 7))), some (.int (iI (lft σ n))), some (.int (nI (pil σ n))), some (.int (nI (abc σ n))), some (.int (nI σ.1)), l13] [] H = ev (d + 22) 130 382 [some (.ref 0), some (.int (nI σ.1)), gG, gL, gD, gT, some (.int 1), some (.int (nI n)), some (.int (cB (σ.2 n 7))), some (.int (iI (lft σ n))), some (.int (nI (pil σ n))), some (.int (nI (abc σ n))), some (.int (nI σ.1)), l13] [] H := by
    simp only [e130_267, e130_268, e130_270, e130_271, e130_274, e130_275, e130_278, e130_279, e130_281, e130_282, e130_285, e130_287, e130_290, e130_291, e130_293, e130_294, e130_297, e130_298, e130_300, e130_301, e130_304, e130_307, e130_308, e130_310, e130_311, e130_314, e130_317, e130_318, e130_320, e130_321, e130_324, e130_326, e130_329, e130_330, e130_332, e130_333, e130_336, e130_337, e130_340, e130_341, e130_343, e130_344, e130_347, e130_348, e130_351, e130_352, e130_354, e130_356, e130_359, e130_361, e130_364, e130_365, e130_367, e130_369, e130_372, e130_374, e130_377, e130_379, Option.bind_some, Option.toList_some, Option.toList_none, List.cons_append, List.nil_append, true_or, or_true, and_true, true_and, i10, Bool.false_eq_true, if_true, if_false, reduceIte, f0, f1, f2, f3, f6, f8, z0, c1, c2, c3, c4, c5, c6, c7, c8, eq_self]
  have b1 : (nI (abc σ n) ≤ 0) = (abc σ n ≤ 0) := nI_lep (b := 0) (by omega) (by omega)
  have b2 := cB_m4 (b := σ.2 n 7) (by omega)
  have t2 : ev (d + 22) 130 382 [some (.ref 0), some (.int (nI σ.1)), gG, gL, gD, gT, some (.int 1), some (.int (nI n)), some (.int (cB (σ.2 n 7))), some (.int (iI (lft σ n))), some (.int (nI (pil σ n))), some (.int (nI (abc σ n))), some (.int (nI σ.1)), l13] [] H = ev (d + 22) 130 414 [some (.ref 0), some (.int (nI σ.1)), gG, gL, gD, gT, some (.int 1), some (.int (nI n)), some (.int (cB (σ.2 n 7))), some (.int (iI (lft σ n))), some (.int (nI (pil σ n))), some (.int (nI (abc σ n))), some (.int (nI σ.1)), l13] [] H := by
    rw [hw.rgd_e hc] at f14
    by_cases q : abc σ n ≤ 0
    · rw [if_neg (show ¬ 0 < abc σ n by omega)] at f14
      by_cases q2 : σ.2 n 7 = 0
      · rw [if_pos q2, show nI 4 = 4 from rfl] at f14
        simp only [e130_382, e130_383, e130_385, e130_387, e130_390, e130_392, e130_395, e130_396, e130_399, e130_401, e130_403, e130_406, e130_407, e130_410, e130_411, Option.bind_some, Option.toList_some, Option.toList_none, List.cons_append, List.nil_append, true_or, or_true, and_true, true_and, i10, Bool.false_eq_true, if_true, if_false, reduceIte, f14, z0, b1.trans (eq_true q), b2.trans (eq_true q2), eq_self]
      · rw [if_neg q2, show nI 0 = 0 from rfl] at f14
        simp only [e130_382, e130_383, e130_385, e130_387, e130_390, e130_392, e130_395, e130_396, e130_399, e130_401, e130_403, e130_406, e130_407, e130_410, e130_411, Option.bind_some, Option.toList_some, Option.toList_none, List.cons_append, List.nil_append, true_or, or_true, and_true, true_and, i10, Bool.false_eq_true, if_true, if_false, reduceIte, f14, z0, b1.trans (eq_true q), b2.trans (eq_false q2), eq_self]
    · rw [if_pos (show 0 < abc σ n by omega), show nI 1 = 1 from rfl] at f14
      simp only [e130_382, e130_383, e130_385, e130_387, e130_390, e130_392, e130_395, e130_396, e130_399, e130_401, e130_403, e130_406, e130_407, e130_410, e130_411, Option.bind_some, Option.toList_some, Option.toList_none, List.cons_append, List.nil_append, true_or, or_true, and_true, true_and, i10, Bool.false_eq_true, if_true, if_false, reduceIte, f14, z0, b1.trans (eq_false q), eq_self]
  have t3 : ev (d + 22) 130 414 [some (.ref 0), some (.int (nI σ.1)), gG, gL, gD, gT, some (.int 1), some (.int (nI n)), some (.int (cB (σ.2 n 7))), some (.int (iI (lft σ n))), some (.int (nI (pil σ n))), some (.int (nI (abc σ n))), some (.int (nI σ.1)), l13] [] H = ev (d + 22) 130 530 [some (.ref 0), some (.int (nI σ.1)), gG, gL, gD, gT, some (.int 1), some (.int (nI n)), some (.int (cB (σ.2 n 7))), some (.int (iI (lft σ n))), some (.int (nI (pil σ n))), some (.int (nI (abc σ n))), some (.int (nI σ.1)), l13] [] H := by
    cases q : σ.2 n 7 with
    | zero =>
      rw [dpt_0 q, show nI 0 = 0 from rfl] at f5
      rw [a8 q, show nI 0 = 0 from rfl] at f9
      rw [eft_0 q, show iI 0 = 0 from rfl] at f10
      simp only [e130_414, e130_416, e130_418, e130_421, e130_422, e130_424, e130_425, e130_428, e130_431, e130_432, e130_434, e130_436, e130_439, e130_442, e130_443, e130_445, e130_447, e130_450, e130_453, e130_456, e130_457, e130_459, e130_460, e130_463, e130_464, e130_466, e130_467, e130_470, e130_471, e130_472, e130_475, e130_476, e130_478, e130_480, e130_483, e130_485, e130_486, e130_487, e130_488, e130_489, e130_491, e130_493, e130_496, e130_499, e130_500, e130_502, e130_504, e130_507, e130_508, e130_510, e130_512, e130_515, e130_516, e130_517, e130_519, e130_520, e130_523, e130_524, e130_527, e130_528, Option.bind_some, Option.toList_some, Option.toList_none, List.cons_append, List.nil_append, true_or, or_true, and_true, true_and, i10, Bool.false_eq_true, if_true, if_false, reduceIte, f5, f9, f10, z0, show (cB 0 = -4) = True by decide, eq_self]
    | succ a =>
      have hk := (hw.acy hc q).1
      have b3 : (cB (a + 1) = -4) = False := (cB_m4 (b := a + 1) (by omega)).trans (eq_false (by omega))
      have k5 := ca_cr5 (d := d + 1) hk hC hW
      have k6 := ca_cr6 (d := d + 1) hk hC hW
      have k10 := ca_cr10 (d := d + 1) hk hC hW
      have s1 := hw.abc_s hc q
      rw [hw.dpt_s hc q, ← nI_1] at f5
      rw [← s1, ← nI_1, ← nI_add] at k6
      have e10 : eft σ n = eft σ a + 1 + (abc σ n : Int) := by
        rw [hw.eft_s hc q, ← s1]
        simp only [Int.natCast_add]
        omega
      rw [e10, ← iI_add, ← iI_add, ← iI_nat, show iI 1 = 1 from rfl] at f10
      show ev (d + 22) 130 414 [some (.ref 0), some (.int (nI σ.1)), gG, gL, gD, gT, some (.int 1), some (.int (nI n)), some (.int (cB (a + 1))), some (.int (iI (lft σ n))), some (.int (nI (pil σ n))), some (.int (nI (abc σ n))), some (.int (nI σ.1)), l13] [] H = ev (d + 22) 130 530 [some (.ref 0), some (.int (nI σ.1)), gG, gL, gD, gT, some (.int 1), some (.int (nI n)), some (.int (cB (a + 1))), some (.int (iI (lft σ n))), some (.int (nI (pil σ n))), some (.int (nI (abc σ n))), some (.int (nI σ.1)), l13] [] H
      change ev (d + 1 + 20) _ 0 [some (.ref 0), some (.int (cB (a + 1))), _] [] H = _ at k5 k6 k10
      simp only [e130_414, e130_416, e130_418, e130_421, e130_422, e130_424, e130_425, e130_428, e130_431, e130_432, e130_434, e130_436, e130_439, e130_442, e130_443, e130_445, e130_447, e130_450, e130_453, e130_456, e130_457, e130_459, e130_460, e130_463, e130_464, e130_466, e130_467, e130_470, e130_471, e130_472, e130_475, e130_476, e130_478, e130_480, e130_483, e130_485, e130_486, e130_487, e130_488, e130_489, e130_491, e130_493, e130_496, e130_499, e130_500, e130_502, e130_504, e130_507, e130_508, e130_510, e130_512, e130_515, e130_516, e130_517, e130_519, e130_520, e130_523, e130_524, e130_527, e130_528, Option.bind_some, Option.toList_some, Option.toList_none, List.cons_append, List.nil_append, true_or, or_true, and_true, true_and, i10, Bool.false_eq_true, if_true, if_false, reduceIte, f5, f9, f10, k5, k6, k10, z0, b3, eq_self]
  exact t1.trans (t2.trans t3)
theorem hd_open (hc : n < σ.1) (hp : p < 4) (hC : CI H σ r e len k κ w m) (hW : WF σ e len k κ) {gG gL gD gT l9 l10 l11 l13 : Option Value} : ev (d + 22) 130 539 [some (.ref 0), some (.int (nI σ.1)), gG, gL, gD, gT, some (.int 1), some (.int (nI n)), some (.int (cB (σ.2 n 7))), l9, l10, l11, some (.int (nI p)), l13] [] H = ev (d + 22) 130 592 [some (.ref 0), some (.int (nI σ.1)), gG, gL, gD, gT, some (.int 1), some (.int (nI n)), some (.int (cB (σ.2 n 7))), l9, l10, l11, some (.int (nI p)), some (.int (bI (opn σ n p = true)))] [] H := by
  have hn := hW.1.1
  have hb := hW.1.bnd.2 n hc
  have z0 := CI_z hC
  have hw := hW.1
  cases q : σ.2 n 7 with
  | zero =>
    rw [bI_t (opn_0 q)]
    simp only [e130_539, e130_541, e130_543, e130_546, e130_547, e130_549, e130_550, e130_553, e130_555, e130_556, e130_557, e130_558, e130_559, e130_562, e130_563, e130_565, e130_566, e130_569, e130_571, e130_574, e130_575, e130_577, e130_579, e130_582, e130_585, e130_586, e130_589, e130_590, Option.bind_some, Option.toList_some, Option.toList_none, List.cons_append, List.nil_append, true_or, or_true, and_true, true_and, i10, Bool.false_eq_true, if_true, if_false, reduceIte, z0, show (cB 0 = -4) = True by decide]
  | succ a =>
    have hk := (hw.acy hc q).1
    have hba := hw.bnd.2 a hk
    have b3 : (cB (a + 1) = -4) = False := (cB_m4 (b := a + 1) (by omega)).trans (eq_false (by omega))
    have k2 := ca_cr2 (d := d + 1) hk hC hW
    have k4 := ca_cr4 (d := d + 1) hk hC hW
    have eg := gapb (σ.2 a 2) (by omega) p hp
    have b4 := cB_m4 (b := σ.2 a 7) (by omega)
    have op := lw_open (d := d) hk hp hC hW
    rw [hw.opn_s hc q]
    change ev (d + 1 + 20) _ 0 [some (.ref 0), some (.int (cB (a + 1))), _] [] H = _ at k2 k4
    change ev (d + 21) _ 0 [some (.ref 0), some (.int (cB (a + 1))), _, _, _] [] H = _ at op
    cases g : (σ.2 a 2).testBit p with
    | false =>
      rw [g] at eg
      rw [Bool.false_and, bI_f Bool.false_ne_true]
      simp only [e130_539, e130_541, e130_543, e130_546, e130_547, e130_549, e130_550, e130_553, e130_555, e130_556, e130_557, e130_558, e130_559, e130_562, e130_563, e130_565, e130_566, e130_569, e130_571, e130_574, e130_575, e130_577, e130_579, e130_582, e130_585, e130_586, e130_589, e130_590, Option.bind_some, Option.toList_some, Option.toList_none, List.cons_append, List.nil_append, true_or, or_true, and_true, true_and, i10, Bool.false_eq_true, if_true, if_false, reduceIte, z0, k2, b3, eg]
    | true =>
      rw [g] at eg
      rw [Bool.true_and]
      by_cases q2 : σ.2 a 7 = 0
      · rw [bI_t (opn_0 q2)]
        simp only [e130_539, e130_541, e130_543, e130_546, e130_547, e130_549, e130_550, e130_553, e130_555, e130_556, e130_557, e130_558, e130_559, e130_562, e130_563, e130_565, e130_566, e130_569, e130_571, e130_574, e130_575, e130_577, e130_579, e130_582, e130_585, e130_586, e130_589, e130_590, Option.bind_some, Option.toList_some, Option.toList_none, List.cons_append, List.nil_append, true_or, or_true, and_true, true_and, i10, Bool.false_eq_true, if_true, if_false, reduceIte, z0, k2, k4, b3, b4.trans (eq_true q2), eg]
      · cases q3 : opn σ a p with
        | true =>
          rw [q3, bI_t rfl] at op
          rw [bI_t rfl]
          simp only [e130_539, e130_541, e130_543, e130_546, e130_547, e130_549, e130_550, e130_553, e130_555, e130_556, e130_557, e130_558, e130_559, e130_562, e130_563, e130_565, e130_566, e130_569, e130_571, e130_574, e130_575, e130_577, e130_579, e130_582, e130_585, e130_586, e130_589, e130_590, Option.bind_some, Option.toList_some, Option.toList_none, List.cons_append, List.nil_append, true_or, or_true, and_true, true_and, i10, Bool.false_eq_true, if_true, if_false, reduceIte, z0, k2, k4, b3, b4.trans (eq_false q2), eg, op]
        | false =>
          rw [q3, bI_f Bool.false_ne_true] at op
          rw [bI_f Bool.false_ne_true]
          simp only [e130_539, e130_541, e130_543, e130_546, e130_547, e130_549, e130_550, e130_553, e130_555, e130_556, e130_557, e130_558, e130_559, e130_562, e130_563, e130_565, e130_566, e130_569, e130_571, e130_574, e130_575, e130_577, e130_579, e130_582, e130_585, e130_586, e130_589, e130_590, Option.bind_some, Option.toList_some, Option.toList_none, List.cons_append, List.nil_append, true_or, or_true, and_true, true_and, i10, Bool.false_eq_true, if_true, if_false, reduceIte, z0, k2, k4, b3, b4.trans (eq_false q2), eg, op]
theorem hd_seen (hc : n < σ.1) (hp : p < 4) (hC : CI H σ r e len k κ w m) (hW : WF σ e len k κ) {gG gL gD gT l9 l10 l11 : Option Value} : ∃ H1, CO H H1 ∧ CI H1 σ r e len k κ w m ∧ ev (d + 22) 130 592 [some (.ref 0), some (.int (nI σ.1)), gG, gL, gD, gT, some (.int 1), some (.int (nI n)), some (.int (cB (σ.2 n 7))), l9, l10, l11, some (.int (nI p)), some (.int (bI (opn σ n p = true)))] [] H = ev (d + 22) 130 689 [some (.ref 0), some (.int (nI σ.1)), gG, gL, gD, gT, some (.int 1), some (.int (nI n)), some (.int (cB (σ.2 n 7))), l9, l10, l11, some (.int (nI p)), some (.int (bI (opn σ n p = true)))] [] H1 := by
  have hn := hW.1.1
  have hb := hW.1.bnd.2 n hc
  have z0 := CI_z hC
  have hw := hW.1
  have f3 := ca_cr3 (d := d + 1) hc hC hW
  have fl := ca_letter (d := d + 1) hc hp hC hW
  obtain ⟨H1, s1, s2, s3⟩ := ca_seen (d := d + 1) hc hp hC hW
  have z1 := CI_z s3
  have fl1 := ca_letter (d := d + 1) hc hp s3 hW
  have hl := lts_14 (hw.2 n hc).2.2.2.1
  have hz := lts_z (hw.2 n hc).2.2.2.1 hp
  have h26 := hb.2.2.2.1 p hp
  have c1 : (nI p < nI (lts σ n)) = (p < lts σ n) := nI_ltp (by omega) (by omega)
  refine ⟨H1, s2, s3, ?_⟩
  unfold sgn at s1
  cases q : σ.2 n (3 + p) with
  | zero =>
    have q0 := hz.mp q
    have c2 : (nI p < nI (lts σ n)) = False := c1.trans (eq_false (by omega))
    rw [q] at fl fl1 s1
    rw [if_neg (Nat.lt_irrefl 0)] at s1
    change _ = some (some (Value.int (-4)), H) at fl
    change _ = some (some (Value.int (-4)), H1) at fl1
    by_cases g : opn σ n p = true
    · rw [if_pos g, show nI 27 = 27 from rfl] at s1
      simp only [e130_592, e130_594, e130_597, e130_598, e130_600, e130_602, e130_605, e130_607, e130_610, e130_611, e130_614, e130_615, e130_617, e130_618, e130_620, e130_621, e130_624, e130_627, e130_628, e130_631, e130_632, e130_635, e130_636, e130_638, e130_640, e130_643, e130_645, e130_648, e130_650, e130_653, e130_654, e130_656, e130_658, e130_661, e130_663, e130_666, e130_668, e130_671, e130_672, e130_674, e130_676, e130_679, e130_682, e130_683, e130_686, e130_687, Option.bind_some, Option.toList_some, Option.toList_none, List.cons_append, List.nil_append, true_or, or_true, and_true, true_and, i10, Bool.false_eq_true, if_true, if_false, reduceIte, z0, z1, f3, fl, fl1, s1, c2, bI_t g, eq_self]
    · rw [if_neg g, show nI 26 = 26 from rfl] at s1
      simp only [e130_592, e130_594, e130_597, e130_598, e130_600, e130_602, e130_605, e130_607, e130_610, e130_611, e130_614, e130_615, e130_617, e130_618, e130_620, e130_621, e130_624, e130_627, e130_628, e130_631, e130_632, e130_635, e130_636, e130_638, e130_640, e130_643, e130_645, e130_648, e130_650, e130_653, e130_654, e130_656, e130_658, e130_661, e130_663, e130_666, e130_668, e130_671, e130_672, e130_674, e130_676, e130_679, e130_682, e130_683, e130_686, e130_687, Option.bind_some, Option.toList_some, Option.toList_none, List.cons_append, List.nil_append, true_or, or_true, and_true, true_and, i10, Bool.false_eq_true, if_true, if_false, reduceIte, z0, z1, f3, fl, fl1, s1, c2, bI_f g, eq_self]
  | succ a =>
    have q0 : ¬ lts σ n ≤ p := fun z => by
      have := hz.mpr z
      omega
    have c2 : (nI p < nI (lts σ n)) = True := c1.trans (eq_true (by omega))
    rw [q] at fl fl1 s1
    rw [if_pos (Nat.succ_pos a)] at s1
    change _ = some (some (Value.int (nI a)), H) at fl
    change _ = some (some (Value.int (nI a)), H1) at fl1
    have c3 : (nI a = -4) = False := nI_m4 (by omega)
    by_cases g : opn σ n p = true
    · rw [if_pos g, Nat.add_sub_cancel] at s1
      simp only [e130_592, e130_594, e130_597, e130_598, e130_600, e130_602, e130_605, e130_607, e130_610, e130_611, e130_614, e130_615, e130_617, e130_618, e130_620, e130_621, e130_624, e130_627, e130_628, e130_631, e130_632, e130_635, e130_636, e130_638, e130_640, e130_643, e130_645, e130_648, e130_650, e130_653, e130_654, e130_656, e130_658, e130_661, e130_663, e130_666, e130_668, e130_671, e130_672, e130_674, e130_676, e130_679, e130_682, e130_683, e130_686, e130_687, Option.bind_some, Option.toList_some, Option.toList_none, List.cons_append, List.nil_append, true_or, or_true, and_true, true_and, i10, Bool.false_eq_true, if_true, if_false, reduceIte, z0, z1, f3, fl, fl1, s1, c2, c3, bI_t g, eq_self, show ((0 : Int32) = 0) = True by decide]
    · rw [if_neg g, show nI 26 = 26 from rfl] at s1
      simp only [e130_592, e130_594, e130_597, e130_598, e130_600, e130_602, e130_605, e130_607, e130_610, e130_611, e130_614, e130_615, e130_617, e130_618, e130_620, e130_621, e130_624, e130_627, e130_628, e130_631, e130_632, e130_635, e130_636, e130_638, e130_640, e130_643, e130_645, e130_648, e130_650, e130_653, e130_654, e130_656, e130_658, e130_661, e130_663, e130_666, e130_668, e130_671, e130_672, e130_674, e130_676, e130_679, e130_682, e130_683, e130_686, e130_687, Option.bind_some, Option.toList_some, Option.toList_none, List.cons_append, List.nil_append, true_or, or_true, and_true, true_and, i10, Bool.false_eq_true, if_true, if_false, reduceIte, z0, z1, f3, fl, fl1, s1, c2, c3, bI_f g, eq_self, show ((0 : Int32) = 0) = True by decide]
theorem hd_p (hc : n < σ.1) (hW : WF σ e len k κ) {gG gL gD gT l9 l10 l11 : Option Value} : ∀ (f p : Nat) (H : zH) (l13 : Option Value), p + f = 4 → CI H σ r e len k κ w m → ∃ H1 g13, CO H H1 ∧ CI H1 σ r e len k κ w m ∧ ev (d + 22) 130 533 [some (.ref 0), some (.int (nI σ.1)), gG, gL, gD, gT, some (.int 1), some (.int (nI n)), some (.int (cB (σ.2 n 7))), l9, l10, l11, some (.int (nI p)), l13] [] H = ev (d + 22) 130 695 [some (.ref 0), some (.int (nI σ.1)), gG, gL, gD, gT, some (.int 1), some (.int (nI n)), some (.int (cB (σ.2 n 7))), l9, l10, l11, some (.int (nI 4)), g13] [] H1 := by
  intro f
  induction f with
  | zero =>
    intro p  H  l13  hp  hC
    have : p = 4 := by omega
    subst this
    refine ⟨H, l13, CO_r, hC, ?_⟩
    rw [e130_533]
    simp only [e130_535, e130_536, show ((4 : Int32) ≤ nI 4) = True by decide, if_true]
  | succ f ih =>
    intro p  H  l13  hp  hC
    have e1 : ((4 : Int32) ≤ nI p) = False := (nI_lep (a := 4) (by omega) (by omega)).trans (eq_false (by omega))
    have s1 := hd_open (d := d) (p := p) hc (by omega) hC hW (gG := gG) (gL := gL) (gD := gD) (gT := gT) (l9 := l9) (l10 := l10) (l11 := l11) (l13 := l13)
    obtain ⟨H1, a1, a2, a3⟩ := hd_seen (d := d) (p := p) hc (by omega) hC hW (gG := gG) (gL := gL) (gD := gD) (gT := gT) (l9 := l9) (l10 := l10) (l11 := l11)
    obtain ⟨H2, g13, b1, b2, b3⟩ := ih (p + 1) H1 (some (.int (bI (opn σ n p = true)))) (by omega) a2
    refine ⟨H2, g13, CO_t a1 b1, b2, ?_⟩
    rw [← b3, e130_533]
    simp only [e130_535, e130_536, e1, if_false, s1, a3, e130_689, e130_692, nI_1]
theorem dmx_b (hw : wf σ) : ∀ q, q ≤ σ.1 → zfold (fun k s => if s < dpt σ k then dpt σ k else s) q 0 ≤ 12
  | 0, _ => Nat.zero_le _
  | q + 1, h => by
    have h1 := dmx_b hw q (by omega)
    have h2 := hw.dpt_lt (c := q) (by omega)
    have h3 := hw.1
    rw [zfold]
    split <;> omega
theorem hd_main (hW : WF σ e len k κ) : ∀ (f n : Nat) (H : zH) (l8 l9 l10 l11 l12 l13 : Option Value), n + f = σ.1 → CI H σ r e len k κ w m → ∃ H1, CO H H1 ∧ CI H1 σ r e len k κ w m ∧ ev (d + 22) 130 46 [some (.ref 0), some (.int (nI σ.1)), some (.int (nI (ct (fun c => decide (σ.2 c 7 = 0)) n))), some (.int (nI (ct (lse σ) n))), some (.int (nI (zfold (fun k s => if s < dpt σ k then dpt σ k else s) n 0))), some (.int (nI (sm (lts σ) n))), some (.int 1), some (.int (nI n)), l8, l9, l10, l11, l12, l13] [] H = some (some (.int 1), H1) := by
  intro f
  induction f with
  | zero =>
    intro n  H  l8  l9  l10  l11  l12  l13  hp  hC
    have hc : n = σ.1 := by omega
    subst hc
    have hw := hW.1
    have hn := hw.1
    have z0 := CI_z hC
    have f1 := ca_n1 (d := d + 1) hC hW
    have f2 := ca_n2 (d := d + 1) hC hW
    have f3 := ca_n3 (d := d + 1) hC hW
    have f7 := ca_n7 (d := d + 1) hC hW
    obtain ⟨H1, s1, s2, s3⟩ := ca_n10 (d := d + 1) hC hW
    have hl := hw.lgn_le
    have hc2 := ct_le (lse σ) σ.1
    have c1 : (nI (ct (lse σ) σ.1) < nI (lgn σ)) = False := (nI_ltp (by omega) (by omega)).trans (eq_false (by omega))
    unfold dmx at f3
    refine ⟨H1, s2, s3, ?_⟩
    rw [e130_46]
    simp only [e130_48, e130_49, e130_701, e130_703, e130_706, e130_707, e130_708, e130_709, e130_712, e130_715, e130_716, e130_717, e130_718, e130_721, e130_724, e130_726, e130_727, e130_728, e130_731, e130_734, e130_736, e130_737, e130_739, e130_742, e130_745, e130_746, e130_748, e130_751, e130_752, e130_755, e130_756, e130_759, e130_760 (Or.inr rfl), Option.bind_some, Option.toList_some, Option.toList_none, List.cons_append, List.nil_append, true_or, or_true, and_true, true_and, i10, Bool.false_eq_true, if_true, if_false, reduceIte, Int32.le_refl, z0, f1, f2, f3, f7, s1, c1, eq_self]
  | succ f ih =>
    intro n  H  l8  l9  l10  l11  l12  l13  hp  hC
    have hc : n < σ.1 := by omega
    have hw := hW.1
    have hn := hw.1
    have z0 := CI_z hC
    have e1 : (nI σ.1 ≤ nI n) = False := (nI_lep (by omega) (by omega)).trans (eq_false (by omega))
    have f4 := ca_cr4 (d := d + 1) hc hC hW
    have f1 := ca_cr1 (d := d + 1) hc hC hW
    have s1 := hd_k (d := d) hc hC hW (gG := some (.int (nI (ct (fun c => decide (σ.2 c 7 = 0)) n)))) (gL := some (.int (nI (ct (lse σ) n)))) (gD := some (.int (nI (zfold (fun k s => if s < dpt σ k then dpt σ k else s) n 0)))) (gT := some (.int (nI (sm (lts σ) n)))) (l13 := l13)
    have hdb := dmx_b hw n (by omega)
    have s2 := hd_sums (d := d) (g1 := ct (fun c => decide (σ.2 c 7 = 0)) n) (g2 := ct (lse σ) n) (g3 := zfold (fun k s => if s < dpt σ k then dpt σ k else s) n 0) (g4 := sm (lts σ) n) (by omega) hc hC hW (l13 := l13)
    have s3 := hd_is (d := d) hc hC hW (gG := some (.int (nI (ct (fun c => decide (σ.2 c 7 = 0)) (n + 1))))) (gL := some (.int (nI (ct (lse σ) (n + 1))))) (gD := some (.int (nI (zfold (fun k s => if s < dpt σ k then dpt σ k else s) (n + 1) 0)))) (gT := some (.int (nI (sm (lts σ) (n + 1))))) (l13 := l13)
    obtain ⟨H1, g13, a1, a2, a3⟩ := hd_p (d := d) hc hW (gG := some (.int (nI (ct (fun c => decide (σ.2 c 7 = 0)) (n + 1))))) (gL := some (.int (nI (ct (lse σ) (n + 1))))) (gD := some (.int (nI (zfold (fun k s => if s < dpt σ k then dpt σ k else s) (n + 1) 0)))) (gT := some (.int (nI (sm (lts σ) (n + 1))))) (l9 := some (.int (iI (lft σ n)))) (l10 := some (.int (nI (pil σ n)))) (l11 := some (.int (nI (abc σ n)))) 4 0 H l13 (by omega) hC
    obtain ⟨H2, b1, b2, b3⟩ := ih (n + 1) H1 (some (.int (cB (σ.2 n 7)))) (some (.int (iI (lft σ n)))) (some (.int (nI (pil σ n)))) (some (.int (nI (abc σ n)))) (some (.int (nI 4))) g13 (by omega) a2
    refine ⟨H2, CO_t a1 b1, b2, ?_⟩
    have u1 : ev (d + 22) 130 46 [some (.ref 0), some (.int (nI σ.1)), some (.int (nI (ct (fun c => decide (σ.2 c 7 = 0)) n))), some (.int (nI (ct (lse σ) n))), some (.int (nI (zfold (fun k s => if s < dpt σ k then dpt σ k else s) n 0))), some (.int (nI (sm (lts σ) n))), some (.int 1), some (.int (nI n)), l8, l9, l10, l11, l12, l13] [] H = ev (d + 22) 130 84 [some (.ref 0), some (.int (nI σ.1)), some (.int (nI (ct (fun c => decide (σ.2 c 7 = 0)) n))), some (.int (nI (ct (lse σ) n))), some (.int (nI (zfold (fun k s => if s < dpt σ k then dpt σ k else s) n 0))), some (.int (nI (sm (lts σ) n))), some (.int 1), some (.int (nI n)), some (.int (cB (σ.2 n 7))), some (.int (nI (σ.2 n 1))), some (.int (0)), some (.int (0)), some (.int (0)), l13] [] H := by
      rw [e130_46]
      simp only [e130_48, e130_49, e130_52, e130_54, e130_57, e130_58, e130_60, e130_61, e130_64, e130_66, e130_67, e130_69, e130_70, e130_73, e130_75, e130_76, e130_78, e130_79, e130_81, e130_82, Option.bind_some, Option.toList_some, Option.toList_none, List.cons_append, List.nil_append, true_or, or_true, and_true, true_and, i10, Bool.false_eq_true, if_true, if_false, reduceIte, e1, f4, f1, z0]
    have u2 : ev (d + 22) 130 530 [some (.ref 0), some (.int (nI σ.1)), some (.int (nI (ct (fun c => decide (σ.2 c 7 = 0)) (n + 1)))), some (.int (nI (ct (lse σ) (n + 1)))), some (.int (nI (zfold (fun k s => if s < dpt σ k then dpt σ k else s) (n + 1) 0))), some (.int (nI (sm (lts σ) (n + 1)))), some (.int 1), some (.int (nI n)), some (.int (cB (σ.2 n 7))), some (.int (iI (lft σ n))), some (.int (nI (pil σ n))), some (.int (nI (abc σ n))), some (.int (nI σ.1)), l13] [] H = ev (d + 22) 130 533 [some (.ref 0), some (.int (nI σ.1)), some (.int (nI (ct (fun c => decide (σ.2 c 7 = 0)) (n + 1)))), some (.int (nI (ct (lse σ) (n + 1)))), some (.int (nI (zfold (fun k s => if s < dpt σ k then dpt σ k else s) (n + 1) 0))), some (.int (nI (sm (lts σ) (n + 1)))), some (.int 1), some (.int (nI n)), some (.int (cB (σ.2 n 7))), some (.int (iI (lft σ n))), some (.int (nI (pil σ n))), some (.int (nI (abc σ n))), some (.int (nI 0)), l13] [] H := by
      simp only [e130_530, e130_531]
      rfl
    have u3 : ev (d + 22) 130 695 [some (.ref 0), some (.int (nI σ.1)), some (.int (nI (ct (fun c => decide (σ.2 c 7 = 0)) (n + 1)))), some (.int (nI (ct (lse σ) (n + 1)))), some (.int (nI (zfold (fun k s => if s < dpt σ k then dpt σ k else s) (n + 1) 0))), some (.int (nI (sm (lts σ) (n + 1)))), some (.int 1), some (.int (nI n)), some (.int (cB (σ.2 n 7))), some (.int (iI (lft σ n))), some (.int (nI (pil σ n))), some (.int (nI (abc σ n))), some (.int (nI 4)), g13] [] H1 = ev (d + 22) 130 46 [some (.ref 0), some (.int (nI σ.1)), some (.int (nI (ct (fun c => decide (σ.2 c 7 = 0)) (n + 1)))), some (.int (nI (ct (lse σ) (n + 1)))), some (.int (nI (zfold (fun k s => if s < dpt σ k then dpt σ k else s) (n + 1) 0))), some (.int (nI (sm (lts σ) (n + 1)))), some (.int 1), some (.int (nI (n + 1))), some (.int (cB (σ.2 n 7))), some (.int (iI (lft σ n))), some (.int (nI (pil σ n))), some (.int (nI (abc σ n))), some (.int (nI 4)), g13] [] H1 := by
      simp only [e130_695, e130_698, nI_1]
    exact u1.trans (s1.trans (s2.trans (s3.trans (u2.trans (a3.trans (u3.trans b3))))))
/-- holds answers 1 -/
theorem lw_holds (hC : CI H σ r e len k κ w m) (hW : WF σ e len k κ) : ∃ H1, ev (d + 22) 130 0 [some (.ref 0), none, none, none, none, none, none, none, none, none, none, none, none, none] [] H = some (some (.int 1), H1) ∧ CO H H1 ∧ CI H1 σ r e len k κ w m := by
  have hn := hW.1.1
  have z0 := CI_z hC
  have f0 := ca_n0 (d := d + 1) hC hW
  have q : zin (nI σ.1) σ.1 = false := by
    rw [zin_nI (by omega)]
    exact decide_eq_false (Nat.lt_irrefl _)
  have fN := ca_crN (d := d + 1) (y := 0) q hC hW
  have c1 : (nI σ.1 < 0) = False := eq_false (nI_pos (by omega))
  have c2 : (12 < nI σ.1) = False := (nI_ltp (a := 12) (by omega) (by omega)).trans (eq_false (by omega))
  obtain ⟨H1, a1, a2, a3⟩ := hd_main (d := d) (r := r) (w := w) (m := m) hW σ.1 0 H none none none none none none (by omega) hC
  refine ⟨H1, ?_, a1, a2⟩
  refine Eq.trans ?_ a3
  simp only [e130_0, e130_1, e130_2, e130_5, e130_6, e130_7, e130_8, e130_9, e130_10, e130_11, e130_13, e130_14, e130_16, e130_17, e130_20, e130_21, e130_23, e130_26, e130_27, e130_28, e130_29, e130_32, e130_33, e130_36, e130_37, e130_40, e130_41, e130_43, e130_44, Option.bind_some, Option.toList_some, Option.toList_none, List.cons_append, List.nil_append, true_or, or_true, and_true, true_and, i10, Bool.false_eq_true, if_true, if_false, reduceIte, f0, fN, z0, c1, c2, eq_self]
  rfl
end HOLDS
