/-! THE LAW'S WOULD -/
section WOULD
variable {d : Nat} {H H1 : zH} {σ σ' : mS} {r r' : Int32} {e e' : Nat → mS × Int32} {len len' : Nat} {k : Bool} {κ : mS × Int32} {w w' : Nat → Nat} {m m' : Nat} {x y : Int32} {c n p : Nat}

/-- what ifTurned answers -/
theorem wd_turned (hn : n ≤ σ.1) {u : Nat} (hu : u ≤ 1) (hC : CI H σ r e len k κ w m) (hW : WF σ e len k κ) : ∃ H1 v, ev (d + 21) 116 0 [some (.ref 0), some (.int (nI n)), some (.int (nI u))] [] H = some (some (.int v), H1) ∧ CO H H1 ∧ CI H1 σ r e len k κ w m ∧ (n = σ.1 → v = -1) ∧ (n < σ.1 → ∃ t, v = nI t ∧ t ≤ sm (lts σ) σ.1 + 12) := by
  have h12 := hW.1.1
  rcases Nat.lt_or_ge n σ.1 with q | q
  · obtain ⟨H1, a1, a2, a3⟩ := ca_ifT (d := d + 1) q hu hC hW
    refine ⟨H1, _, a1, a2, a3, fun z => absurd z (by omega), fun _ => ⟨_, rfl, ?_⟩⟩
    have h1 := ltn_le (σ := σ) (c := n)
    have h2 := ct_le (tld (trd σ n)) σ.1
    split <;> omega
  · have : n = σ.1 := by omega
    subst this
    exact ⟨H, -1, ca_ifT0 (d := d + 1) (by rw [zin_nI (by omega)]; exact decide_eq_false (Nat.lt_irrefl _)) hC hW, CO_r, hC, fun _ => rfl, fun z => absurd z (Nat.lt_irrefl _)⟩
theorem zin_many (hW : WF σ e len k κ) : zin (nI σ.1) σ.1 = false := by
  have := hW.1.1
  rw [zin_nI (by omega)]
  exact decide_eq_false (Nat.lt_irrefl _)
/-- what sign answers -/
theorem wd_sign (hn : n ≤ σ.1) {q : Nat} (hq : q < 300) (hC : CI H σ r e len k κ w m) (hW : WF σ e len k κ) : ∃ H1 v, ev (d + 21) 107 0 [some (.ref 0), some (.int (nI n)), some (.int (hI q))] [] H = some (some (.int v), H1) ∧ CO H H1 ∧ CI H1 σ r e len k κ w m ∧ (n = σ.1 → v = -1) ∧ (n < σ.1 → (q = 0 → v = -1) ∧ (q ≠ 0 → v = -4 ∨ ∃ t, 48 ≤ t ∧ t ≤ 115 ∧ v = nI t)) := by
  rcases Nat.lt_or_ge n σ.1 with z | z
  · cases q with
    | zero =>
      exact ⟨H, -1, ca_sign1 (d := d + 1) z (by decide) hC hW, CO_r, hC, fun z => absurd z (by omega), fun _ => ⟨fun _ => rfl, fun z => absurd rfl z⟩⟩
    | succ q =>
      rw [hI_s]
      obtain ⟨H1, a1, a2, a3⟩ := ca_sign (d := d + 1) (y := nI q) z (nI_pos (by omega)) hC hW
      exact ⟨H1, _, a1, a2, a3, fun z => absurd z (by omega), fun _ => ⟨fun z => absurd z (by omega), fun _ => hW.1.sgv_e z (by omega)⟩⟩
  · have : n = σ.1 := by omega
    subst this
    exact ⟨H, -1, ca_sign0 (d := d + 1) (zin_many hW) hC hW, CO_r, hC, fun _ => rfl, fun z => absurd z (Nat.lt_irrefl _)⟩
/-- what nest answers -/
theorem wd_nest {q : Nat} (hq : q < 300) (hC : CI H σ r e len k κ w m) (hW : WF σ e len k κ) : ∃ H1 v, ev (d + 21) 114 0 [some (.ref 0), some (.int (hI q))] [] H = some (some (.int v), H1) ∧ CO H H1 ∧ CI H1 σ r e len k κ w m ∧ (q = 0 → v = -1) ∧ (q ≠ 0 → (lgn σ < q → v = -4) ∧ (q ≤ lgn σ → ∃ t, t < σ.1 ∧ σ.2 t 7 = 0 ∧ v = nI t)) := by
  cases q with
  | zero =>
    exact ⟨H, -1, ca_nest0 (d := d + 1) (by decide) hC hW, CO_r, hC, fun _ => rfl, fun z => absurd rfl z⟩
  | succ q =>
    rw [hI_s]
    obtain ⟨H1, a1, a2, a3⟩ := ca_nest (d := d + 1) (x := nI q) (nI_pos (by omega)) hC hW
    refine ⟨H1, _, a1, a2, a3, fun z => absurd z (by omega), fun _ => ⟨fun z => ?_, fun z => ?_⟩⟩
    · unfold nsv
      rw [if_neg (by rw [zin_nI (by omega), decide_eq_true_eq]; omega)]
    · obtain ⟨t, t1, t2, t3⟩ := hW.1.nsv_e (v := q) (by omega)
      exact ⟨t, t1, t2, t3⟩
/-- what alike answers -/
theorem wd_alike {q1 q2 : Nat} (h1 : q1 < 30) (h2 : q2 < 29) (hC : CI H σ r e len k κ w m) (hW : WF σ e len k κ) : ∃ H1 v, ev (d + 21) 113 0 [some (.ref 0), some (.int (nI q1)), some (.int (nI q2)), some (.int 28), some (.int 28), none, none] [] H = some (some (.int v), H1) ∧ CO H H1 ∧ CI H1 σ r e len k κ w m ∧ (q1 = 29 → v = -1) ∧ (q1 ≠ 29 → ∃ t, t ≤ σ.1 ∧ v = nI t) := by
  have w0 : ∀ q, q < 29 → wnt (nI q) := fun q hq => ⟨nI_pos' (by omega), (nI_leI (b := 28) (by omega) (by omega)).mpr (by omega)⟩
  by_cases q : q1 = 29
  · subst q
    refine ⟨H, -1, ca_alike0 (d := d + 1) (fun z => ?_) hC hW, CO_r, hC, fun _ => rfl, fun z => absurd rfl z⟩
    exact absurd z.1.2 (by decide)
  · obtain ⟨H1, a1, a2, a3⟩ := ca_alike (d := d + 1) (x1 := nI q1) (x2 := nI q2) (x3 := 28) (x4 := 28) ⟨w0 q1 (by omega), w0 q2 h2, by unfold wnt; decide, by unfold wnt; decide⟩ hC hW
    exact ⟨H1, _, a1, a2, a3, fun z => absurd z q, fun _ => ⟨_, ct_le _ _, rfl⟩⟩
/-- what whyNot answers -/
theorem wd_why {u : Nat} (hn : n ≤ σ.1) (hu : u ≤ σ.1) (hC : CI H σ r e len k κ w m) (hW : WF σ e len k κ) : ev (d + 20) 111 0 [some (.ref 0), some (.int (nI n)), some (.int (nI u))] [] H = some (some (.int (if n = σ.1 ∨ u = σ.1 then -1 else nI (rpt σ n u))), H) := by
  by_cases q : n = σ.1 ∨ u = σ.1
  · rw [if_pos q]
    refine ca_why0 ?_ hC hW
    rcases q with z | z
    · rw [z]
      exact Or.inl (zin_many hW)
    · rw [z]
      exact Or.inr (zin_many hW)
  · rw [if_neg q]
    exact ca_why (by omega) (by omega) hC hW
theorem wd_fit (hn : n ≤ σ.1) (hC : CI H σ r e len k κ w m) (hW : WF σ e len k κ) : ev (d + 20) 108 0 [some (.ref 0), some (.int (nI n)), some (.int 13)] [] H = some (some (.int (if n = σ.1 then -1 else cB (bst σ n))), H) := by
  by_cases q : n = σ.1
  · rw [if_pos q, q]
    exact ca_crN (zin_many hW) hC hW
  · rw [if_neg q]
    exact ca_cr13 (by omega) hC hW
theorem wd_effort {s u : Nat} (hs : s < 62) (hu : u ≤ 1) (hC : CI H σ r e len k κ w m) (hW : WF σ e len k κ) : ev (d + 20) 112 0 [some (.ref 0), some (.int (nI s)), some (.int (nI u))] [] H = some (some (.int (if s = 0 ∨ s = 61 then -1 else iI (si (gz σ (nI s)) σ.1))), H) := by
  have e1 : ((1 : Int32) ≤ nI s) = (1 ≤ s) := nI_lep (a := 1) (by omega) (by omega)
  have e2 : (nI s ≤ 60) = (s ≤ 60) := nI_lep (b := 60) (by omega) (by omega)
  by_cases q : s = 0 ∨ s = 61
  · rw [if_pos q]
    exact ca_effort0 (by rw [e1, e2]; omega) hC hW
  · rw [if_neg q]
    exact ca_effort (by rw [e1, e2]; omega) hu hC hW
theorem wd_1 {u : Nat} (hn : n = lwv x (σ.1 + 1)) (hu : u = lwv (x >>> (4 &&& 31)) (σ.1 + 1)) (hC : CI H σ r e len k κ w m) (hW : WF σ e len k κ) : ev (d + 22) 132 0 [some (.ref 0), some (.int x), none, none, none, none, none, none, none, none, none, none, none, none, none, none, none] [] H = ev (d + 22) 132 43 [some (.ref 0), some (.int (x)), some (.int (nI σ.1)), some (.int (nI n)), some (.int (nI u)), some (.int (bI (n = σ.1 ∨ u = σ.1))), none, none, none, none, none, none, none, none, none, none, none] [] H := by
  have hw := hW.1
  have h12 := hw.1
  have z0 := CI_z hC
  have f0 := ca_n0 (d := d + 1) hC hW
  have l1 := lw_low (d := d + 21) (H := H) (x := x) (n := σ.1 + 1) (by omega) (by omega)
  have l2 := lw_low (d := d + 21) (H := H) (x := (x >>> (4 &&& 31))) (n := σ.1 + 1) (by omega) (by omega)
  rw [← hn] at l1
  rw [← hu] at l2
  have h1 : n < σ.1 + 1 := by rw [hn]; exact lwv_lt (by omega)
  have h2 : u < σ.1 + 1 := by rw [hu]; exact lwv_lt (by omega)
  have c1 : (nI n = nI σ.1) = (n = σ.1) := nI_eqp (by omega) (by omega)
  have c2 : (nI u = nI σ.1) = (u = σ.1) := nI_eqp (by omega) (by omega)
  have t1 : ev (d + 22) 132 0 [some (.ref 0), some (.int x), none, none, none, none, none, none, none, none, none, none, none, none, none, none, none] [] H = ev (d + 22) 132 25 [some (.ref 0), some (.int (x)), some (.int (nI σ.1)), some (.int (nI n)), some (.int (nI u)), none, none, none, none, none, none, none, none, none, none, none, none] [] H := by
    simp only [e132_0, e132_1, e132_2, e132_5, e132_6, e132_7, e132_8, e132_9, e132_10, e132_13, e132_14, e132_15, e132_16, e132_17, e132_18, e132_19, e132_20, e132_23, Option.bind_some, Option.toList_some, Option.toList_none, List.cons_append, List.nil_append, true_or, or_true, and_true, true_and, i10, Bool.false_eq_true, if_true, if_false, reduceIte, f0, z0, l1, l2, nI_1]
  refine t1.trans ?_
  by_cases q1 : n = σ.1
  · rw [bI_t (Or.inl q1)]
    simp only [e132_25, e132_26, e132_27, e132_30, e132_32, e132_33, e132_36, e132_37, e132_40, e132_41, Option.bind_some, Option.toList_some, Option.toList_none, List.cons_append, List.nil_append, true_or, or_true, and_true, true_and, i10, Bool.false_eq_true, if_true, if_false, reduceIte, c1.trans (eq_true q1)]
  · by_cases q2 : u = σ.1
    · rw [bI_t (Or.inr q2)]
      simp only [e132_25, e132_26, e132_27, e132_30, e132_32, e132_33, e132_36, e132_37, e132_40, e132_41, Option.bind_some, Option.toList_some, Option.toList_none, List.cons_append, List.nil_append, true_or, or_true, and_true, true_and, i10, Bool.false_eq_true, if_true, if_false, reduceIte, c1.trans (eq_false q1), c2.trans (eq_true q2)]
    · rw [bI_f (fun z => z.elim q1 q2)]
      simp only [e132_25, e132_26, e132_27, e132_30, e132_32, e132_33, e132_36, e132_37, e132_40, e132_41, Option.bind_some, Option.toList_some, Option.toList_none, List.cons_append, List.nil_append, true_or, or_true, and_true, true_and, i10, Bool.false_eq_true, if_true, if_false, reduceIte, c1.trans (eq_false q1), c2.trans (eq_false q2)]
theorem wd_2 {u s q b : Nat} (hn : n ≤ σ.1) (hu : u ≤ σ.1) (hs : s = lwv (x >>> (9 &&& 31)) 62) (hq : q = lwv (x >>> (5 &&& 31)) 200) (hb : b = lwv (x >>> (3 &&& 31)) 14) (hC : CI H σ r e len k κ w m) (hW : WF σ e len k κ) : ∃ H1 t7 t13 t14 t15, CO H H1 ∧ CI H1 σ r e len k κ w m ∧ ev (d + 22) 132 43 [some (.ref 0), some (.int (x)), some (.int (nI σ.1)), some (.int (nI n)), some (.int (nI u)), some (.int (bI (n = σ.1 ∨ u = σ.1))), none, none, none, none, none, none, none, none, none, none, none] [] H = ev (d + 22) 132 167 [some (.ref 0), some (.int (x)), some (.int (nI σ.1)), some (.int (nI n)), some (.int (nI u)), some (.int (bI (n = σ.1 ∨ u = σ.1))), some (.int (if n = σ.1 ∨ u = σ.1 then -1 else nI (rpt σ n u))), some (.int (t7)), some (.int (cB (btn σ))), some (.int (if n = σ.1 then -1 else cB (bst σ n))), some (.int (nI s)), some (.int (if s = 0 ∨ s = 61 then -1 else iI (si (gz σ (nI s)) σ.1))), some (.int (hI q)), some (.int (t13)), some (.int (t14)), some (.int (t15)), none] [] H1 ∧ ((n = σ.1 → t7 = -1) ∧ (n < σ.1 → ∃ t, t7 = nI t ∧ t ≤ sm (lts σ) σ.1 + 12)) ∧ ((n = σ.1 → t13 = -1) ∧ (n < σ.1 → (q = 0 → t13 = -1) ∧ (q ≠ 0 → t13 = -4 ∨ ∃ t, 48 ≤ t ∧ t ≤ 115 ∧ t13 = nI t))) ∧ ((b = 0 → t14 = -1) ∧ (b ≠ 0 → (lgn σ < b → t14 = -4) ∧ (b ≤ lgn σ → ∃ t, t < σ.1 ∧ σ.2 t 7 = 0 ∧ t14 = nI t))) ∧ (lwv (x >>> (2 &&& 31)) 30 = 29 → t15 = -1) ∧ (lwv (x >>> (2 &&& 31)) 30 ≠ 29 → ∃ t, t ≤ σ.1 ∧ t15 = nI t) := by
  have hw := hW.1
  have h12 := hw.1
  have z0 := CI_z hC
  have b8 : lwv (x >>> (8 &&& 31)) 2 ≤ 1 := Nat.le_of_lt_succ (lwv_lt (by decide))
  have b9 : s < 62 := by rw [hs]; exact lwv_lt (by decide)
  have b5 : q < 200 := by rw [hq]; exact lwv_lt (by decide)
  have b3 : b < 14 := by rw [hb]; exact lwv_lt (by decide)
  have g0 := wd_why (d := d + 1) hn hu hC hW
  obtain ⟨H1, t7, a1, a2, a3, a4⟩ := wd_turned (d := d) (u := lwv (x >>> (8 &&& 31)) 2) hn b8 hC hW
  have z1 := CI_z a3
  obtain ⟨H2, c1, c2, c3⟩ := ca_best (d := d + 1) a3 hW
  have z2 := CI_z c3
  have g1 := wd_fit (d := d + 1) hn c3 hW
  have g2 := wd_effort (d := d + 1) (s := s) (u := 0) b9 (by omega) c3 hW
  obtain ⟨H3, t13, e1, e2, e3, e4⟩ := wd_sign (d := d) (q := q) hn (by omega) c3 hW
  have z3 := CI_z e3
  obtain ⟨H4, t14, f1, f2, f3, f4⟩ := wd_nest (d := d) (q := b) (by omega) e3 hW
  have z4 := CI_z f3
  obtain ⟨H5, t15, i1, i2, i3, i4⟩ := wd_alike (d := d) (q1 := lwv (x >>> (2 &&& 31)) 30) (q2 := lwv (x >>> (6 &&& 31)) 29) (lwv_lt (by decide)) (lwv_lt (by decide)) f3 hW
  refine ⟨H5, t7, t13, t14, t15, CO_t a2 (CO_t c2 (CO_t e2 (CO_t f2 i2))), i3, ?_, a4, e4, f4, i4⟩
  have l8 := lw_low (d := d + 21) (H := H) (x := (x >>> (8 &&& 31))) (n := 2) (by omega) (by omega)
  have l9 := lw_low (d := d + 21) (H := H2) (x := (x >>> (9 &&& 31))) (n := 62) (by omega) (by omega)
  have l5 := lw_low (d := d + 21) (H := H2) (x := (x >>> (5 &&& 31))) (n := 200) (by omega) (by omega)
  have l3 := lw_low (d := d + 21) (H := H3) (x := (x >>> (3 &&& 31))) (n := 14) (by omega) (by omega)
  have l2 := lw_low (d := d + 21) (H := H4) (x := (x >>> (2 &&& 31))) (n := 30) (by omega) (by omega)
  have l6 := lw_low (d := d + 21) (H := H4) (x := (x >>> (6 &&& 31))) (n := 29) (by omega) (by omega)
  rw [← hs] at l9
  rw [← hq] at l5
  rw [← hb] at l3
  rw [show nI 2 = 2 from rfl] at l8
  rw [show nI 62 = 62 from rfl] at l9
  rw [show nI 200 = 200 from rfl] at l5
  rw [show nI 14 = 14 from rfl] at l3
  rw [show nI 30 = 30 from rfl] at l2
  rw [show nI 29 = 29 from rfl] at l6
  have hh : ∀ u, nI u - 1 = hI u := fun _ => rfl
  change ev _ _ _ [_, _, some (.int 0)] _ _ = _ at g2
  simp only [e132_43, e132_44, e132_45, e132_47, e132_50, e132_52, e132_53, e132_54, e132_55, e132_57, e132_58, e132_59, e132_62, e132_65, e132_67, e132_68, e132_71, e132_73, e132_74, e132_75, e132_77, e132_80, e132_82, e132_83, e132_85, e132_86, e132_88, e132_91, e132_93, e132_94, e132_96, e132_97, e132_100, e132_102, e132_103, e132_104, e132_105, e132_108, e132_111, e132_112, e132_113, e132_115, e132_116, e132_117, e132_119, e132_122, e132_124, e132_125, e132_126, e132_127, e132_128, e132_130, e132_133, e132_134, e132_135, e132_138, e132_140, e132_141, e132_142, e132_143, e132_144, e132_146, e132_149, e132_150, e132_152, e132_153, e132_155, e132_158, e132_160, e132_162, e132_165, Option.bind_some, Option.toList_some, Option.toList_none, List.cons_append, List.nil_append, true_or, or_true, and_true, true_and, i10, Bool.false_eq_true, if_true, if_false, reduceIte, g0, z0, z1, z2, z3, z4, l8, a1, c1, g1, l9, g2, l5, hh, e1, l3, f1, l2, l6, i1]
theorem wd_3 {u : Nat} (hC : CI H σ r e len k κ w m) (hW : WF σ e len k κ) {v7 v8 v9 v10 v11 v12 v13 v14 v15 v16 : Option Value} : ev (d + 22) 132 167 [some (.ref 0), some (.int (x)), some (.int (nI σ.1)), some (.int (nI n)), some (.int (nI u)), some (.int (bI (n = σ.1 ∨ u = σ.1))), some (.int (if n = σ.1 ∨ u = σ.1 then -1 else nI (rpt σ n u))), v7, v8, v9, v10, v11, v12, v13, v14, v15, v16] [] H = ev (d + 22) 132 192 [some (.ref 0), some (.int (x)), some (.int (nI σ.1)), some (.int (nI n)), some (.int (nI u)), some (.int (bI (n = σ.1 ∨ u = σ.1))), some (.int (if n = σ.1 ∨ u = σ.1 then -1 else nI (rpt σ n u))), v7, v8, v9, v10, v11, v12, v13, v14, v15, v16] [] H := by
  by_cases q : n = σ.1 ∨ u = σ.1
  · rw [bI_t q, if_pos q]
    simp only [e132_167, e132_169, e132_172, e132_174, e132_175, e132_178, e132_181, e132_183, e132_186, e132_188, e132_189, Option.bind_some, Option.toList_some, Option.toList_none, List.cons_append, List.nil_append, true_or, or_true, and_true, true_and, i10, Bool.false_eq_true, if_true, if_false, reduceIte, eq_self]
  · rw [bI_f q, if_neg q]
    have h := rpt_3 (σ := σ) (c := n) (u := u)
    have e1 : (nI (rpt σ n u) < 0) = False := eq_false (nI_pos (by omega))
    have e2 : (3 < nI (rpt σ n u)) = False := (nI_ltp (a := 3) (by omega) (by omega)).trans (eq_false (by omega))
    simp only [e132_167, e132_169, e132_172, e132_174, e132_175, e132_178, e132_181, e132_183, e132_186, e132_188, e132_189, Option.bind_some, Option.toList_some, Option.toList_none, List.cons_append, List.nil_append, true_or, or_true, and_true, true_and, i10, Bool.false_eq_true, if_true, if_false, reduceIte, eq_self, e1, e2]
theorem wd_4 {u q : Nat} {t7 t13 : Int32} (hn : n ≤ σ.1) (hq : q < 200) (h7 : (n = σ.1 → t7 = -1) ∧ (n < σ.1 → ∃ t, t7 = nI t ∧ t ≤ sm (lts σ) σ.1 + 12)) (h13 : (n = σ.1 → t13 = -1) ∧ (n < σ.1 → (q = 0 → t13 = -1) ∧ (q ≠ 0 → t13 = -4 ∨ ∃ t, 48 ≤ t ∧ t ≤ 115 ∧ t13 = nI t))) (hC : CI H σ r e len k κ w m) (hW : WF σ e len k κ) {v5 v6 v8 v10 v11 v14 v15 v16 : Option Value} : ev (d + 22) 132 192 [some (.ref 0), some (.int (x)), some (.int (nI σ.1)), some (.int (nI n)), some (.int (nI u)), v5, v6, some (.int (t7)), v8, some (.int (if n = σ.1 then -1 else cB (bst σ n))), v10, v11, some (.int (hI q)), some (.int (t13)), v14, v15, v16] [] H = ev (d + 22) 132 334 [some (.ref 0), some (.int (x)), some (.int (nI σ.1)), some (.int (nI n)), some (.int (nI u)), v5, v6, some (.int (t7)), v8, some (.int (if n = σ.1 then -1 else cB (bst σ n))), v10, v11, some (.int (hI q)), some (.int (t13)), v14, v15, some (.int (1))] [] H := by
  have hw := hW.1
  have h12 := hw.1
  have z0 := CI_z hC
  have c1 : (nI n = nI σ.1) = (n = σ.1) := nI_eqp (by omega) (by omega)
  rcases Nat.lt_or_ge n σ.1 with z | z
  · obtain ⟨t, rfl, t2⟩ := h7.2 z
    obtain ⟨g1, g2⟩ := h13.2 z
    have hb := hw.bnd.2 n z
    have hl := lts_sum hw.1
    have f7 := ca_n7 (d := d + 1) hC hW
    have f4 := ca_cr4 (d := d + 1) z hC hW
    have f0 := ca_cr0 (d := d + 1) z hC hW
    have e1 : (nI t < 0) = False := eq_false (nI_pos (by omega))
    have e2 : (nI (sm (lts σ) σ.1) + 12 < nI t) = False := by
      rw [show (12 : Int32) = nI 12 from rfl, nI_add]
      exact (nI_ltp (by omega) (by omega)).trans (eq_false (by omega))
    rw [if_neg (show ¬ n = σ.1 by omega)]
    have s1 : ∀ v9 : Option Value, ev (d + 22) 132 192 [some (.ref 0), some (.int (x)), some (.int (nI σ.1)), some (.int (nI n)), some (.int (nI u)), v5, v6, some (.int (nI t)), v8, v9, v10, v11, some (.int (hI q)), some (.int (t13)), v14, v15, v16] [] H = ev (d + 22) 132 286 [some (.ref 0), some (.int (x)), some (.int (nI σ.1)), some (.int (nI n)), some (.int (nI u)), v5, v6, some (.int (nI t)), v8, v9, v10, v11, some (.int (hI q)), some (.int (t13)), v14, v15, v16] [] H := by
      intro v9
      cases q with
      | zero =>
        have := g1 rfl
        subst this
        simp only [e132_192, e132_193, e132_194, e132_197, e132_199, e132_200, e132_203, e132_205, e132_206, e132_209, e132_211, e132_212, e132_215, e132_218, e132_220, e132_223, e132_225, e132_226, e132_228, e132_231, e132_233, e132_234, e132_237, e132_239, e132_242, e132_244, e132_245, e132_248, e132_251, e132_253, e132_255, e132_258, e132_260, e132_262, e132_265, e132_267, e132_269, e132_272, e132_274, e132_276, e132_279, e132_281, e132_283, Option.bind_some, Option.toList_some, Option.toList_none, List.cons_append, List.nil_append, true_or, or_true, and_true, true_and, i10, Bool.false_eq_true, if_true, if_false, reduceIte, c1.trans (eq_false (show ¬ n = σ.1 by omega)), e1, e2, f7, z0, hI_0, show ((0 : Int32) ≤ -1) = False by decide, eq_self]
      | succ q =>
        have p1 : ((0 : Int32) ≤ nI q) = True := eq_true (nI_pos' (by omega))
        rw [hI_s]
        rcases g2 (by omega) with rfl | ⟨v, v1, v2, rfl⟩
        · simp only [e132_192, e132_193, e132_194, e132_197, e132_199, e132_200, e132_203, e132_205, e132_206, e132_209, e132_211, e132_212, e132_215, e132_218, e132_220, e132_223, e132_225, e132_226, e132_228, e132_231, e132_233, e132_234, e132_237, e132_239, e132_242, e132_244, e132_245, e132_248, e132_251, e132_253, e132_255, e132_258, e132_260, e132_262, e132_265, e132_267, e132_269, e132_272, e132_274, e132_276, e132_279, e132_281, e132_283, Option.bind_some, Option.toList_some, Option.toList_none, List.cons_append, List.nil_append, true_or, or_true, and_true, true_and, i10, Bool.false_eq_true, if_true, if_false, reduceIte, c1.trans (eq_false (show ¬ n = σ.1 by omega)), e1, e2, f7, z0, p1, eq_self]
        · have p2 : (nI v < 48) = False := (nI_ltp (b := 48) (by omega) (by omega)).trans (eq_false (by omega))
          have p3 : (nI v ≤ 115) = True := (nI_lep (b := 115) (by omega) (by omega)).trans (eq_true (by omega))
          simp only [e132_192, e132_193, e132_194, e132_197, e132_199, e132_200, e132_203, e132_205, e132_206, e132_209, e132_211, e132_212, e132_215, e132_218, e132_220, e132_223, e132_225, e132_226, e132_228, e132_231, e132_233, e132_234, e132_237, e132_239, e132_242, e132_244, e132_245, e132_248, e132_251, e132_253, e132_255, e132_258, e132_260, e132_262, e132_265, e132_267, e132_269, e132_272, e132_274, e132_276, e132_279, e132_281, e132_283, Option.bind_some, Option.toList_some, Option.toList_none, List.cons_append, List.nil_append, true_or, or_true, and_true, true_and, i10, Bool.false_eq_true, if_true, if_false, reduceIte, c1.trans (eq_false (show ¬ n = σ.1 by omega)), e1, e2, f7, z0, p1, p2, p3, nI_m4 (show v < 2147483648 by omega)]
    refine (s1 (some (.int (cB (bst σ n))))).trans ?_
    rcases bst_e (σ := σ) (c := n) with b | ⟨a, b1, b2, b3, b4, b5⟩
    · rw [b]
      simp only [e132_286, e132_288, e132_290, e132_293, e132_295, e132_296, e132_299, e132_301, e132_302, e132_303, e132_304, e132_307, e132_310, e132_311, e132_313, e132_315, e132_318, e132_319, e132_320, e132_321, e132_324, e132_327, e132_328, e132_331, e132_332, Option.bind_some, Option.toList_some, Option.toList_none, List.cons_append, List.nil_append, true_or, or_true, and_true, true_and, i10, Bool.false_eq_true, if_true, if_false, reduceIte, show (cB 0 = -4) = True by decide]
    · rw [b2]
      have k8 := ca_cr8 (d := d + 1) b1 hC hW
      have hlb := lft_b hw.bnd b1
      have p1 : (nI a = nI n) = False := (nI_eqp (by omega) (by omega)).trans (eq_false (by omega))
      have p2 : (nI a = cB (σ.2 n 7)) = False := eq_false (fun z => b4 ((cB_eq (u := σ.2 n 7) (n := a) (by omega) (by omega)).mp z.symm))
      have p3 : (iI (lft σ a) < nI (σ.2 n 0)) = False := by
        rw [iI_nat]
        exact (iI_lt (by omega) (by omega)).trans (eq_false (by omega))
      show ev (d + 22) 132 286 [some (.ref 0), some (.int (x)), some (.int (nI σ.1)), some (.int (nI n)), some (.int (nI u)), v5, v6, some (.int (nI t)), v8, some (.int (nI a)), v10, v11, some (.int (hI q)), some (.int (t13)), v14, v15, v16] [] H = ev (d + 22) 132 334 [some (.ref 0), some (.int (x)), some (.int (nI σ.1)), some (.int (nI n)), some (.int (nI u)), v5, v6, some (.int (nI t)), v8, some (.int (nI a)), v10, v11, some (.int (hI q)), some (.int (t13)), v14, v15, some (.int (1))] [] H
      simp only [e132_286, e132_288, e132_290, e132_293, e132_295, e132_296, e132_299, e132_301, e132_302, e132_303, e132_304, e132_307, e132_310, e132_311, e132_313, e132_315, e132_318, e132_319, e132_320, e132_321, e132_324, e132_327, e132_328, e132_331, e132_332, Option.bind_some, Option.toList_some, Option.toList_none, List.cons_append, List.nil_append, true_or, or_true, and_true, true_and, i10, Bool.false_eq_true, if_true, if_false, reduceIte, nI_m4 (show a < 2147483648 by omega), p1, p2, p3, k8, f4, f0, z0]
  · have hz : n = σ.1 := by omega
    have g1 := h7.1 hz
    have g2 := h13.1 hz
    subst g1 g2
    rw [if_pos hz]
    simp only [e132_192, e132_193, e132_194, e132_197, e132_199, e132_200, e132_203, e132_205, e132_206, e132_209, e132_211, e132_212, e132_215, e132_327, e132_328, e132_331, e132_332, Option.bind_some, Option.toList_some, Option.toList_none, List.cons_append, List.nil_append, true_or, or_true, and_true, true_and, i10, Bool.false_eq_true, if_true, if_false, reduceIte, c1.trans (eq_true hz), eq_self]
theorem wd_5 {s : Nat} (hs : s < 62) (hC : CI H σ r e len k κ w m) (hW : WF σ e len k κ) {v3 v4 : Option Value} {v5 v6 v7 v9 v12 v13 v14 v15 : Option Value} : ev (d + 22) 132 334 [some (.ref 0), some (.int (x)), some (.int (nI σ.1)), v3, v4, v5, v6, v7, some (.int (cB (btn σ))), v9, some (.int (nI s)), some (.int (if s = 0 ∨ s = 61 then -1 else iI (si (gz σ (nI s)) σ.1))), v12, v13, v14, v15, some (.int (1))] [] H = ev (d + 22) 132 413 [some (.ref 0), some (.int (x)), some (.int (nI σ.1)), v3, v4, v5, v6, v7, some (.int (cB (btn σ))), v9, some (.int (nI s)), some (.int (if s = 0 ∨ s = 61 then -1 else iI (si (gz σ (nI s)) σ.1))), v12, v13, v14, v15, some (.int (1))] [] H := by
  have hw := hW.1
  have hn := hw.1
  have z0 := CI_z hC
  have hg := hw.gz_le (z := nI s)
  have f11 := ca_n11 (d := d + 1) hC hW
  obtain ⟨b1, b2⟩ := btn_e (σ := σ)
  have c1 : (nI σ.1 = 0) = (σ.1 = 0) := nI_eqp (b := 0) (by omega) (by omega)
  have t1 : ∀ v11 : Option Value, ev (d + 22) 132 334 [some (.ref 0), some (.int (x)), some (.int (nI σ.1)), v3, v4, v5, v6, v7, some (.int (cB (btn σ))), v9, some (.int (nI s)), v11, v12, v13, v14, v15, some (.int (1))] [] H = ev (d + 22) 132 364 [some (.ref 0), some (.int (x)), some (.int (nI σ.1)), v3, v4, v5, v6, v7, some (.int (cB (btn σ))), v9, some (.int (nI s)), v11, v12, v13, v14, v15, some (.int (1))] [] H := by
    intro v11
    by_cases q : σ.1 = 0
    · have : btn σ = 0 := by omega
      rw [this]
      simp only [e132_334, e132_336, e132_339, e132_340, e132_343, e132_345, e132_347, e132_350, e132_353, e132_355, e132_358, e132_360, e132_361, Option.bind_some, Option.toList_some, Option.toList_none, List.cons_append, List.nil_append, true_or, or_true, and_true, true_and, i10, Bool.false_eq_true, if_true, if_false, reduceIte, c1.trans (eq_true q), show (cB 0 = -4) = True by decide]
    · obtain ⟨a, ha⟩ : ∃ a, btn σ = a + 1 := ⟨btn σ - 1, by omega⟩
      rw [ha]
      have p1 : (nI a < 0) = False := eq_false (nI_pos (by omega))
      have p2 : (nI σ.1 ≤ nI a) = False := (nI_lep (by omega) (by omega)).trans (eq_false (by omega))
      show ev (d + 22) 132 334 [some (.ref 0), some (.int (x)), some (.int (nI σ.1)), v3, v4, v5, v6, v7, some (.int (nI a)), v9, some (.int (nI s)), v11, v12, v13, v14, v15, some (.int (1))] [] H = ev (d + 22) 132 364 [some (.ref 0), some (.int (x)), some (.int (nI σ.1)), v3, v4, v5, v6, v7, some (.int (nI a)), v9, some (.int (nI s)), v11, v12, v13, v14, v15, some (.int (1))] [] H
      simp only [e132_334, e132_336, e132_339, e132_340, e132_343, e132_345, e132_347, e132_350, e132_353, e132_355, e132_358, e132_360, e132_361, Option.bind_some, Option.toList_some, Option.toList_none, List.cons_append, List.nil_append, true_or, or_true, and_true, true_and, i10, Bool.false_eq_true, if_true, if_false, reduceIte, c1.trans (eq_false q), p1, p2]
  refine (t1 _).trans ?_
  have c2 : (nI s = 0) = (s = 0) := nI_eqp (b := 0) (by omega) (by omega)
  have c3 : (nI s = 61) = (s = 61) := nI_eqp (b := 61) (by omega) (by omega)
  by_cases q : s = 0 ∨ s = 61
  · rw [if_pos q]
    by_cases q1 : s = 0
    · simp only [e132_364, e132_366, e132_369, e132_371, e132_373, e132_376, e132_378, e132_379, e132_382, e132_385, e132_387, e132_390, e132_392, e132_393, e132_395, e132_398, e132_401, e132_403, e132_404, e132_406, e132_407, e132_410, Option.bind_some, Option.toList_some, Option.toList_none, List.cons_append, List.nil_append, true_or, or_true, and_true, true_and, i10, Bool.false_eq_true, if_true, if_false, reduceIte, c2.trans (eq_true q1), eq_self]
    · simp only [e132_364, e132_366, e132_369, e132_371, e132_373, e132_376, e132_378, e132_379, e132_382, e132_385, e132_387, e132_390, e132_392, e132_393, e132_395, e132_398, e132_401, e132_403, e132_404, e132_406, e132_407, e132_410, Option.bind_some, Option.toList_some, Option.toList_none, List.cons_append, List.nil_append, true_or, or_true, and_true, true_and, i10, Bool.false_eq_true, if_true, if_false, reduceIte, c2.trans (eq_false q1), c3.trans (eq_true (q.resolve_left q1)), eq_self]
  · have g2 := wd_effort (d := d + 1) (s := s) (u := 1) hs (by omega) hC hW
    rw [if_neg q] at g2
    rw [if_neg q]
    change ev _ _ _ [_, _, some (.int 1)] _ _ = _ at g2
    have p1 : (iI (si (gz σ (nI s)) σ.1) < 0) = False := (iI_lt (b := 0) (by omega) (by omega)).trans (eq_false (by omega))
    have p2 : (iI (si (eft σ) σ.1) < iI (si (gz σ (nI s)) σ.1)) = False := (iI_lt (by omega) (by omega)).trans (eq_false (by omega))
    simp only [e132_364, e132_366, e132_369, e132_371, e132_373, e132_376, e132_378, e132_379, e132_382, e132_385, e132_387, e132_390, e132_392, e132_393, e132_395, e132_398, e132_401, e132_403, e132_404, e132_406, e132_407, e132_410, Option.bind_some, Option.toList_some, Option.toList_none, List.cons_append, List.nil_append, true_or, or_true, and_true, true_and, i10, Bool.false_eq_true, if_true, if_false, reduceIte, c2.trans (eq_false (fun z => q (Or.inl z))), c3.trans (eq_false (fun z => q (Or.inr z))), p1, p2, f11, g2, z0, eq_self]
theorem wd_6 {b : Nat} {t14 : Int32} (hb : b = lwv (x >>> (3 &&& 31)) 14) (h14 : (b = 0 → t14 = -1) ∧ (b ≠ 0 → (lgn σ < b → t14 = -4) ∧ (b ≤ lgn σ → ∃ t, t < σ.1 ∧ σ.2 t 7 = 0 ∧ t14 = nI t))) (hC : CI H σ r e len k κ w m) (hW : WF σ e len k κ) {v3 v4 : Option Value} {v5 v6 v7 v8 v9 v10 v11 v12 v13 v15 v16 : Option Value} : ∃ H1, CO H H1 ∧ CI H1 σ r e len k κ w m ∧ ev (d + 22) 132 413 [some (.ref 0), some (.int (x)), some (.int (nI σ.1)), v3, v4, v5, v6, v7, v8, v9, v10, v11, v12, v13, some (.int (t14)), v15, v16] [] H = ev (d + 22) 132 477 [some (.ref 0), some (.int (x)), some (.int (nI σ.1)), v3, v4, v5, v6, v7, v8, v9, v10, v11, v12, v13, some (.int (t14)), v15, v16] [] H1 := by
  have hw := hW.1
  have hn := hw.1
  have z0 := CI_z hC
  have b3 : b < 14 := by rw [hb]; exact lwv_lt (by decide)
  have l3 := lw_low (d := d + 21) (H := H) (x := (x >>> (3 &&& 31))) (n := 14) (by omega) (by omega)
  rw [← hb, show nI 14 = 14 from rfl] at l3
  have c1 : (nI b = 0) = (b = 0) := nI_eqp (b := 0) (by omega) (by omega)
  by_cases q : b = 0
  · have := h14.1 q
    subst this
    refine ⟨H, CO_r, hC, ?_⟩
    simp only [e132_413, e132_414, e132_415, e132_416, e132_418, e132_421, e132_424, e132_426, e132_427, e132_430, e132_433, e132_434, e132_435, e132_436, e132_438, e132_441, e132_442, e132_444, e132_447, e132_450, e132_452, e132_454, e132_457, e132_460, e132_462, e132_465, e132_466, e132_468, e132_469, e132_472, e132_474, Option.bind_some, Option.toList_some, Option.toList_none, List.cons_append, List.nil_append, true_or, or_true, and_true, true_and, i10, Bool.false_eq_true, if_true, if_false, reduceIte, l3, c1.trans (eq_true q), eq_self]
  · obtain ⟨g1, g2⟩ := h14.2 q
    obtain ⟨H1, a1, a2, a3⟩ := ca_n10 (d := d + 1) hC hW
    have hlg := hw.lgn_le
    have hct := ct_le (lse σ) σ.1
    have c2 : (nI b ≤ nI (lgn σ)) = (b ≤ lgn σ) := nI_lep (by omega) (by omega)
    have z1 := CI_z a3
    refine ⟨H1, a2, a3, ?_⟩
    by_cases q2 : b ≤ lgn σ
    · obtain ⟨t, t1, t2, rfl⟩ := g2 q2
      have f4 := ca_cr4 (d := d + 1) t1 a3 hW
      rw [t2] at f4
      change _ = some (some (Value.int (-4)), H1) at f4
      simp only [e132_413, e132_414, e132_415, e132_416, e132_418, e132_421, e132_424, e132_426, e132_427, e132_430, e132_433, e132_434, e132_435, e132_436, e132_438, e132_441, e132_442, e132_444, e132_447, e132_450, e132_452, e132_454, e132_457, e132_460, e132_462, e132_465, e132_466, e132_468, e132_469, e132_472, e132_474, Option.bind_some, Option.toList_some, Option.toList_none, List.cons_append, List.nil_append, true_or, or_true, and_true, true_and, i10, Bool.false_eq_true, if_true, if_false, reduceIte, l3, c1.trans (eq_false q), a1, c2.trans (eq_true q2), eq_false (nI_pos (show t < 2147483648 by omega)), f4, z0, z1, eq_self]
    · have := g1 (by omega)
      subst this
      simp only [e132_413, e132_414, e132_415, e132_416, e132_418, e132_421, e132_424, e132_426, e132_427, e132_430, e132_433, e132_434, e132_435, e132_436, e132_438, e132_441, e132_442, e132_444, e132_447, e132_450, e132_452, e132_454, e132_457, e132_460, e132_462, e132_465, e132_466, e132_468, e132_469, e132_472, e132_474, Option.bind_some, Option.toList_some, Option.toList_none, List.cons_append, List.nil_append, true_or, or_true, and_true, true_and, i10, Bool.false_eq_true, if_true, if_false, reduceIte, l3, c1.trans (eq_false q), a1, c2.trans (eq_false q2), z0, z1, eq_self]
theorem wd_7 {t15 : Int32} (h15 : (lwv (x >>> (2 &&& 31)) 30 = 29 → t15 = -1) ∧ (lwv (x >>> (2 &&& 31)) 30 ≠ 29 → ∃ t, t ≤ σ.1 ∧ t15 = nI t)) (hC : CI H σ r e len k κ w m) (hW : WF σ e len k κ) {v3 v4 : Option Value} {v5 v6 v7 v8 v9 v10 v11 v12 v13 v14 v16 : Option Value} : ev (d + 22) 132 477 [some (.ref 0), some (.int (x)), some (.int (nI σ.1)), v3, v4, v5, v6, v7, v8, v9, v10, v11, v12, v13, v14, some (.int (t15)), v16] [] H = some (some (.int 1), H) := by
  have hw := hW.1
  have hn := hw.1
  have z0 := CI_z hC
  have l2 := lw_low (d := d + 21) (H := H) (x := (x >>> (2 &&& 31))) (n := 30) (by omega) (by omega)
  rw [show nI 30 = 30 from rfl] at l2
  have hb : lwv (x >>> (2 &&& 31)) 30 < 30 := lwv_lt (by decide)
  have c1 : (nI (lwv (x >>> (2 &&& 31)) 30) = 29) = (lwv (x >>> (2 &&& 31)) 30 = 29) := nI_eqp (b := 29) (by omega) (by omega)
  by_cases q : lwv (x >>> (2 &&& 31)) 30 = 29
  · have := h15.1 q
    subst this
    simp only [e132_477, e132_478, e132_479, e132_480, e132_482, e132_485, e132_487, e132_490, e132_492, e132_493, e132_496, e132_499, e132_501, e132_504, e132_506, e132_507, e132_510, e132_511, e132_514, e132_515 (Or.inr rfl), Option.bind_some, Option.toList_some, Option.toList_none, List.cons_append, List.nil_append, true_or, or_true, and_true, true_and, i10, Bool.false_eq_true, if_true, if_false, reduceIte, l2, c1.trans (eq_true q), eq_self]
  · obtain ⟨t, t1, rfl⟩ := h15.2 q
    have p1 : (nI t < 0) = False := eq_false (nI_pos (by omega))
    have p2 : (nI σ.1 < nI t) = False := (nI_ltp (by omega) (by omega)).trans (eq_false (by omega))
    simp only [e132_477, e132_478, e132_479, e132_480, e132_482, e132_485, e132_487, e132_490, e132_492, e132_493, e132_496, e132_499, e132_501, e132_504, e132_506, e132_507, e132_510, e132_511, e132_514, e132_515 (Or.inr rfl), Option.bind_some, Option.toList_some, Option.toList_none, List.cons_append, List.nil_append, true_or, or_true, and_true, true_and, i10, Bool.false_eq_true, if_true, if_false, reduceIte, l2, c1.trans (eq_false q), p1, p2]
/-- would answers 1 -/
theorem lw_would (hC : CI H σ r e len k κ w m) (hW : WF σ e len k κ) : ∃ H1, ev (d + 22) 132 0 [some (.ref 0), some (.int x), none, none, none, none, none, none, none, none, none, none, none, none, none, none, none] [] H = some (some (.int 1), H1) ∧ CO H H1 ∧ CI H1 σ r e len k κ w m := by
  have hn : lwv x (σ.1 + 1) ≤ σ.1 := Nat.le_of_lt_succ (lwv_lt (by omega))
  have hu : lwv (x >>> (4 &&& 31)) (σ.1 + 1) ≤ σ.1 := Nat.le_of_lt_succ (lwv_lt (by omega))
  have s1 := wd_1 (d := d) (x := x) rfl rfl hC hW
  obtain ⟨H1, t7, t13, t14, t15, a1, a2, a3, g7, g13, g14, g15⟩ := wd_2 (d := d) (x := x) hn hu rfl rfl rfl hC hW
  have s3 := wd_3 (d := d) (x := x) (n := lwv x (σ.1 + 1)) (u := lwv (x >>> (4 &&& 31)) (σ.1 + 1)) a2 hW (v7 := some (.int (t7))) (v8 := some (.int (cB (btn σ)))) (v9 := some (.int (if lwv x (σ.1 + 1) = σ.1 then -1 else cB (bst σ (lwv x (σ.1 + 1)))))) (v10 := some (.int (nI (lwv (x >>> (9 &&& 31)) 62)))) (v11 := some (.int (if lwv (x >>> (9 &&& 31)) 62 = 0 ∨ lwv (x >>> (9 &&& 31)) 62 = 61 then -1 else iI (si (gz σ (nI (lwv (x >>> (9 &&& 31)) 62))) σ.1)))) (v12 := some (.int (hI (lwv (x >>> (5 &&& 31)) 200)))) (v13 := some (.int (t13))) (v14 := some (.int (t14))) (v15 := some (.int (t15))) (v16 := none)
  have s4 := fun v5 v6 v8 v10 v11 v14 v15 v16 => wd_4 (d := d) (x := x) (u := lwv (x >>> (4 &&& 31)) (σ.1 + 1)) hn (lwv_lt (by decide)) g7 g13 a2 hW (v5 := v5) (v6 := v6) (v8 := v8) (v10 := v10) (v11 := v11) (v14 := v14) (v15 := v15) (v16 := v16)
  have s5 := fun v3 v4 v5 v6 v7 v9 v12 v13 v14 v15 => wd_5 (d := d) (x := x) (s := lwv (x >>> (9 &&& 31)) 62) (lwv_lt (by decide)) a2 hW (v3 := v3) (v4 := v4) (v5 := v5) (v6 := v6) (v7 := v7) (v9 := v9) (v12 := v12) (v13 := v13) (v14 := v14) (v15 := v15)
  obtain ⟨H2, b1, b2, b3⟩ := wd_6 (d := d) (x := x) rfl g14 a2 hW (v3 := some (.int (nI (lwv x (σ.1 + 1))))) (v4 := some (.int (nI (lwv (x >>> (4 &&& 31)) (σ.1 + 1))))) (v5 := some (.int (bI (lwv x (σ.1 + 1) = σ.1 ∨ lwv (x >>> (4 &&& 31)) (σ.1 + 1) = σ.1)))) (v6 := some (.int (if lwv x (σ.1 + 1) = σ.1 ∨ lwv (x >>> (4 &&& 31)) (σ.1 + 1) = σ.1 then -1 else nI (rpt σ (lwv x (σ.1 + 1)) (lwv (x >>> (4 &&& 31)) (σ.1 + 1)))))) (v7 := some (.int (t7))) (v8 := some (.int (cB (btn σ)))) (v9 := some (.int (if lwv x (σ.1 + 1) = σ.1 then -1 else cB (bst σ (lwv x (σ.1 + 1)))))) (v10 := some (.int (nI (lwv (x >>> (9 &&& 31)) 62)))) (v11 := some (.int (if lwv (x >>> (9 &&& 31)) 62 = 0 ∨ lwv (x >>> (9 &&& 31)) 62 = 61 then -1 else iI (si (gz σ (nI (lwv (x >>> (9 &&& 31)) 62))) σ.1)))) (v12 := some (.int (hI (lwv (x >>> (5 &&& 31)) 200)))) (v13 := some (.int (t13))) (v15 := some (.int (t15))) (v16 := some (.int (1)))
  have s7 := fun v3 v4 v5 v6 v7 v8 v9 v10 v11 v12 v13 v14 v16 => wd_7 (d := d) (x := x) g15 b2 hW (v3 := v3) (v4 := v4) (v5 := v5) (v6 := v6) (v7 := v7) (v8 := v8) (v9 := v9) (v10 := v10) (v11 := v11) (v12 := v12) (v13 := v13) (v14 := v14) (v16 := v16)
  refine ⟨H2, ?_, CO_t a1 b1, b2⟩
  rw [s1, a3, s3, s4, s5, b3, s7]
end WOULD
