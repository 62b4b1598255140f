/-! THE LAW LOADS A TEXT -/
/-- a call changed nothing, or kept what was -/
def CH (σ : mS) (r : Int32) (e : Nat → mS × Int32) (len : Nat) (σ' : mS) (r' : Int32) (e' : Nat → mS × Int32) (len' : Nat) : Prop := (σ' = σ ∧ r' = r ∧ e' = e ∧ len' = len) ∨ (e' = he e len (σ, r) ∧ len' = hl len)
theorem lg_self (a : Int64) : lg_cmp a a = 0 := by simp [lg_cmp]
section LOADS
variable {d : Nat} {H H1 : zH} {σ σ' : mS} {r r' : Int32} {e e' : Nat → mS × Int32} {len len' : Nat} {k : Bool} {κ : mS × Int32} {w w' : Nat → Nat} {m m' : Nat} {x y : Int32} {c n p : Nat}
/-- behind the fault: told -2 or -3, nothing changed -/
theorem ld_no {F t : Int32} (hF : F = -4 ∨ ∃ q, q ≤ m ∧ F = nI q) (ht : (t = -2) ∨ (F = -4 ∧ t = -3 ∧ 12 < σ.1 + lwv x 5)) {w1 : Nat → Nat} (hm : m ≤ 80) (hC : CI H σ r e len k κ w1 0) (hW : WF σ e len k κ) : ∃ H1, ev (d + 23) 135 60 [some (.ref 0), some (.int (x)), some (.long (lkv σ r)), none, some (.int (nI (lwv x 5))), some (.int (nI len)), some (.int (nI σ.1)), some (.int (1)), some (.int (nI m)), some (.int (F)), some (.int (t)), some (.int (nI m)), none] [] H = some (some (.int 1), H1) ∧ CO H H1 ∧ CI H1 σ r e len k κ w1 0 := by
  have z0 := CI_z hC
  have hn := hW.1.1
  have b5 : lwv x 5 < 5 := lwv_lt (by decide)
  obtain ⟨H1, a1, a2, a3⟩ := lw_look (d := d + 1) hC hW
  have z1 := CI_z a3
  have f14 := ca_n14 (d := d + 2) a3 hW
  have c12 : (nI σ.1 + nI (lwv x 5) ≤ 12) = (σ.1 + lwv x 5 ≤ 12) := by
    rw [nI_add]
    exact nI_lep (b := 12) (by omega) (by omega)
  refine ⟨H1, ?_, a2, a3⟩
  have t2 : ev (d + 23) 135 105 [some (.ref 0), some (.int (x)), some (.long (lkv σ r)), none, some (.int (nI (lwv x 5))), some (.int (nI len)), some (.int (nI σ.1)), some (.int (1)), some (.int (nI m)), some (.int (F)), some (.int (t)), some (.int (nI m)), some (.int (1))] [] H = some (some (.int 1), H1) := by
    rcases ht with rfl | ⟨-, rfl, q⟩
    · simp only [e135_105, e135_107, e135_110, e135_112, e135_115, e135_117, e135_119, e135_122, e135_124, e135_126, e135_129, e135_131, e135_133, e135_134, e135_136, e135_139, e135_141, e135_143, e135_146, e135_147, e135_150, e135_151, e135_152, e135_155, e135_156, e135_158, e135_161, e135_163, e135_166, e135_169, e135_171, e135_173, e135_175, e135_176, e135_179, e135_180, e135_181, e135_184, e135_186, e135_189, e135_191, e135_194, e135_195, e135_197, e135_200, e135_202, e135_203, e135_206, e135_208, e135_209, e135_210, e135_213, e135_214, e135_217, e135_218, e135_221, e135_222 (Or.inr rfl), Option.bind_some, Option.toList_some, Option.toList_none, List.cons_append, List.nil_append, true_or, or_true, and_true, true_and, i10, Bool.false_eq_true, if_true, if_false, reduceIte, show ((0 : Int32) ≤ -2) = False by decide, z0, z1, a1, lg_self, f14, eq_self]
    · simp only [e135_105, e135_107, e135_110, e135_112, e135_115, e135_117, e135_119, e135_122, e135_124, e135_126, e135_129, e135_131, e135_133, e135_134, e135_136, e135_139, e135_141, e135_143, e135_146, e135_147, e135_150, e135_151, e135_152, e135_155, e135_156, e135_158, e135_161, e135_163, e135_166, e135_169, e135_171, e135_173, e135_175, e135_176, e135_179, e135_180, e135_181, e135_184, e135_186, e135_189, e135_191, e135_194, e135_195, e135_197, e135_200, e135_202, e135_203, e135_206, e135_208, e135_209, e135_210, e135_213, e135_214, e135_217, e135_218, e135_221, e135_222 (Or.inr rfl), Option.bind_some, Option.toList_some, Option.toList_none, List.cons_append, List.nil_append, true_or, or_true, and_true, true_and, i10, Bool.false_eq_true, if_true, if_false, reduceIte, show ((0 : Int32) ≤ -3) = False by decide, show ((-3 : Int32) = -2) = False by decide, c12.trans (eq_false (show ¬ σ.1 + lwv x 5 ≤ 12 by omega)), z0, z1, a1, lg_self, f14, eq_self]
  refine Eq.trans ?_ t2
  rcases hF with rfl | ⟨q, hq, rfl⟩
  · simp only [e135_60, e135_62, e135_65, e135_67, e135_69, e135_72, e135_74, e135_76, e135_79, e135_81, e135_83, e135_86, e135_88, e135_91, e135_93, e135_95, e135_98, e135_99, e135_102, e135_103, Option.bind_some, Option.toList_some, Option.toList_none, List.cons_append, List.nil_append, true_or, or_true, and_true, true_and, i10, Bool.false_eq_true, if_true, if_false, reduceIte, eq_self]
  · have ht2 : t = -2 := by
      rcases ht with z | ⟨z, -⟩
      · exact z
      · rw [nI_m4 (by omega)] at z
        exact z.elim
    subst ht2
    have p1 : (nI q < 0) = False := eq_false (nI_pos (by omega))
    have p2 : (nI m < nI q) = False := (nI_ltp (by omega) (by omega)).trans (eq_false (by omega))
    simp only [e135_60, e135_62, e135_65, e135_67, e135_69, e135_72, e135_74, e135_76, e135_79, e135_81, e135_83, e135_86, e135_88, e135_91, e135_93, e135_95, e135_98, e135_99, e135_102, e135_103, Option.bind_some, Option.toList_some, Option.toList_none, List.cons_append, List.nil_append, true_or, or_true, and_true, true_and, i10, Bool.false_eq_true, if_true, if_false, reduceIte, nI_m4 (show q < 2147483648 by omega), p1, p2, eq_self]
/-- loads answers 1 -/
theorem lw_loads (hC : CI H σ r e len k κ w m) (hW : WF σ e len k κ) : ∃ H1 σ' r' e' len' w', ev (d + 23) 135 0 [some (.ref 0), some (.int x), none, none, none, none, none, none, none, none, none, none, none] [] H = some (some (.int 1), H1) ∧ CO H H1 ∧ CI H1 σ' r' e' len' k κ w' 0 ∧ WF σ' e' len' k κ ∧ CH σ r e len σ' r' e' len' := by
  have hn := hW.1.1
  have hl4 := hW.2.1
  have b5 : lwv x 5 < 5 := lwv_lt (by decide)
  obtain ⟨H1, a1, a2, a3⟩ := lw_look (d := d + 1) hC hW
  have z0 := CI_z hC
  have z1 := CI_z a3
  have l5 := lw_low (d := d + 22) (H := H1) (x := x) (n := 5) (by omega) (by omega)
  rw [show nI 5 = 5 from rfl] at l5
  have f14 := ca_n14 (d := d + 2) a3 hW
  have f0 := ca_n0 (d := d + 2) a3 hW
  obtain ⟨H2, w2, m2, b1, b2, b3, b4⟩ := lw_types (d := d) (x := x) a3 hW
  have hm := CI_m b3
  have z2 := CI_z b3
  have f13 := ca_n13 (d := d + 2) b3 hW
  obtain ⟨H3, c1, c2, c3⟩ := ca_fault (d := d + 2) b3 hW
  have z3 := CI_z c3
  have o3 : CO H H3 := CO_t a2 (CO_t b2 c2)
  have no : ∀ (t : Int32) (H4 : zH), ev (d + 2 + 20) 106 0 [some (.ref 0)] [] H3 = some (some (.int t), H4) → CO H3 H4 → CI H4 σ r e len k κ w2 m2 → (rdv m2 (rnn w2 m2 0 s00) = -4 ∨ ∃ q, q ≤ m2 ∧ rdv m2 (rnn w2 m2 0 s00) = nI q) → ((t = -2) ∨ (rdv m2 (rnn w2 m2 0 s00) = -4 ∧ t = -3 ∧ 12 < σ.1 + lwv x 5)) → ∃ H1 σ' r' e' len' w', ev (d + 23) 135 0 [some (.ref 0), some (.int x), none, none, none, none, none, none, none, none, none, none, none] [] H = some (some (.int 1), H1) ∧ CO H H1 ∧ CI H1 σ' r' e' len' k κ w' 0 ∧ WF σ' e' len' k κ ∧ CH σ r e len σ' r' e' len' := by
    intro t H4 g1 g2 g3 g4 g5
    have z4 := CI_z g3
    obtain ⟨H5, i1, i2, i3⟩ := ct_clear (d := d + 2) g3 hW
    obtain ⟨H6, j1, j2, j3⟩ := ld_no (d := d) (x := x) (r := r) (e := e) (len := len) g4 g5 hm i3 hW
    refine ⟨H6, σ, r, e, len, w2, ?_, CO_t o3 (CO_t g2 (CO_t i2 j2)), j3, hW, Or.inl ⟨rfl, rfl, rfl, rfl⟩⟩
    rw [← j1]
    simp only [e135_0, e135_1, e135_4, e135_5, e135_6, e135_7, e135_10, e135_12, e135_13, e135_15, e135_18, e135_20, e135_21, e135_22, e135_25, e135_27, e135_28, e135_29, e135_32, e135_34, e135_35, e135_37, e135_40, e135_42, e135_43, e135_46, e135_48, e135_49, e135_52, e135_54, e135_55, e135_58, Option.bind_some, Option.toList_some, Option.toList_none, List.cons_append, List.nil_append, true_or, or_true, and_true, true_and, i10, Bool.false_eq_true, if_true, if_false, reduceIte, z0, z1, z2, z3, z4, a1, l5, f14, f0, b1, f13, c1, g1, i1]
  rcases rdv_e (w := w2) hm with ⟨s', q1, q2, q3, q4, q5⟩ | ⟨q, q1, q2⟩
  · cases hs : sou s'.2.2.2.2.2 with
    | false =>
      obtain ⟨H4, g1, g2, g3⟩ := ct_loadU (d := d + 2) q1 q2 hs c3 hW
      exact no (-2) H4 g1 g2 g3 (Or.inl q1) (Or.inl rfl)
    | true =>
      by_cases h12 : σ.1 + s'.2.2.2.2.2.1 ≤ 12
      · obtain ⟨H4, g1, g2, g3⟩ := ct_load (d := d + 2) q1 q2 q3 hs h12 c3 hW
        have z4 := CI_z g3
        have hwf := read_wf hm q2 q4 q3 hs
        have hW' := WF_ch (r := r) hW (jnd_wf hW.1 hwf h12)
        obtain ⟨H5, i1, i2, i3⟩ := ct_clear (d := d + 2) g3 hW'
        have z5 := CI_z i3
        have k0 := ca_n0 (d := d + 2) i3 hW'
        have k14 := ca_n14 (d := d + 2) i3 hW'
        refine ⟨H5, _, _, _, _, _, ?_, CO_t o3 (CO_t g2 i2), i3, hW', Or.inr ⟨rfl, rfl⟩⟩
        have e1 : s'.2.2.2.2.2.1 = lwv x 5 := q5.trans b4
        rw [e1] at g1 h12
        have k0' : ev (d + 2 + 20) 115 0 [some (.ref 0), some (.int 0)] [] H5 = some (some (.int (nI (σ.1 + lwv x 5))), H5) := by
          rw [← e1]
          exact k0
        rw [q1] at c1
        have p1 : ((0 : Int32) ≤ nI (σ.1 + lwv x 5)) = True := eq_true (nI_pos' (by omega))
        have p2 : nI σ.1 + nI (lwv x 5) = nI (σ.1 + lwv x 5) := nI_add _ _
        have p3 : ((4 : Int32) ≤ nI len) = (4 ≤ len) := nI_lep (a := 4) (by omega) (by omega)
        have i1' : ev (d + 2 + 20) 104 0 [some (.ref 0), none] [] H4 = some (some (.int 0), H5) := i1
        unfold hl at k14
        by_cases q : 4 ≤ len
        · rw [if_neg (by omega), show nI 4 = 4 from rfl] at k14
          simp only [e135_0, e135_1, e135_4, e135_5, e135_6, e135_7, e135_10, e135_12, e135_13, e135_15, e135_18, e135_20, e135_21, e135_22, e135_25, e135_27, e135_28, e135_29, e135_32, e135_34, e135_35, e135_37, e135_40, e135_42, e135_43, e135_46, e135_48, e135_49, e135_52, e135_54, e135_55, e135_58, e135_60, e135_62, e135_65, e135_67, e135_69, e135_72, e135_74, e135_76, e135_79, e135_81, e135_83, e135_86, e135_88, e135_91, e135_93, e135_95, e135_98, e135_99, e135_102, e135_103, e135_105, e135_107, e135_110, e135_112, e135_115, e135_117, e135_119, e135_122, e135_124, e135_126, e135_129, e135_131, e135_133, e135_134, e135_136, e135_139, e135_141, e135_143, e135_146, e135_147, e135_150, e135_151, e135_152, e135_155, e135_156, e135_158, e135_161, e135_163, e135_166, e135_169, e135_171, e135_173, e135_175, e135_176, e135_179, e135_180, e135_181, e135_184, e135_186, e135_189, e135_191, e135_194, e135_195, e135_197, e135_200, e135_202, e135_203, e135_206, e135_208, e135_209, e135_210, e135_213, e135_214, e135_217, e135_218, e135_221, e135_222 (Or.inr rfl), Option.bind_some, Option.toList_some, Option.toList_none, List.cons_append, List.nil_append, true_or, or_true, and_true, true_and, i10, Bool.false_eq_true, if_true, if_false, reduceIte, z0, z1, z2, z3, z4, z5, a1, l5, f14, f0, b1, f13, c1, g1, i1', p1, p2, p3.trans (eq_true q), k0', k14, eq_self]
        · rw [if_pos (by omega)] at k14
          simp only [e135_0, e135_1, e135_4, e135_5, e135_6, e135_7, e135_10, e135_12, e135_13, e135_15, e135_18, e135_20, e135_21, e135_22, e135_25, e135_27, e135_28, e135_29, e135_32, e135_34, e135_35, e135_37, e135_40, e135_42, e135_43, e135_46, e135_48, e135_49, e135_52, e135_54, e135_55, e135_58, e135_60, e135_62, e135_65, e135_67, e135_69, e135_72, e135_74, e135_76, e135_79, e135_81, e135_83, e135_86, e135_88, e135_91, e135_93, e135_95, e135_98, e135_99, e135_102, e135_103, e135_105, e135_107, e135_110, e135_112, e135_115, e135_117, e135_119, e135_122, e135_124, e135_126, e135_129, e135_131, e135_133, e135_134, e135_136, e135_139, e135_141, e135_143, e135_146, e135_147, e135_150, e135_151, e135_152, e135_155, e135_156, e135_158, e135_161, e135_163, e135_166, e135_169, e135_171, e135_173, e135_175, e135_176, e135_179, e135_180, e135_181, e135_184, e135_186, e135_189, e135_191, e135_194, e135_195, e135_197, e135_200, e135_202, e135_203, e135_206, e135_208, e135_209, e135_210, e135_213, e135_214, e135_217, e135_218, e135_221, e135_222 (Or.inr rfl), Option.bind_some, Option.toList_some, Option.toList_none, List.cons_append, List.nil_append, true_or, or_true, and_true, true_and, i10, Bool.false_eq_true, if_true, if_false, reduceIte, z0, z1, z2, z3, z4, z5, a1, l5, f14, f0, b1, f13, c1, g1, i1', p1, p2, p3.trans (eq_false q), k0', k14, nI_1, eq_self]
      · obtain ⟨H4, g1, g2, g3⟩ := ct_loadF (d := d + 2) q1 q2 hs h12 c3 hW
        exact no (-3) H4 g1 g2 g3 (Or.inl q1) (Or.inr ⟨q1, rfl, by omega⟩)
  · obtain ⟨H4, g1, g2, g3⟩ := ct_loadX (d := d + 2) (by rw [q2, nI_m4 (by omega)]; exact id) c3 hW
    exact no (-2) H4 g1 g2 g3 (Or.inr ⟨q, q1, q2⟩) (Or.inl rfl)
end LOADS
