/-! THE LAW TYPES A TEXT -/
section TYPES
variable {d : Nat} {H H1 : zH} {σ σ' : mS} {r r' : Int32} {e e' : Nat → mS × Int32} {len len' : Nat} {k : Bool} {κ : mS × Int32} {w w' : Nat → Nat} {m m' : Nat} {x y : Int32} {c n p : Nat}
theorem c65 (a : Nat) : (65 : Int32) + nI a = nI (65 + a) := nI_add 65 a
theorem cn_n {w : Nat → Nat} {m u : Nat} (h : u ≠ 115) : cn (wap w m u) (m + 1) = cn w m := by
  rw [cn_wap, if_neg h, Nat.add_zero]
theorem ty_size {n a b : Nat} {v7 : Option Value} : ∃ z, z ≤ 62 ∧ ev (d + 22) 134 41 [some (.ref 0), some (.int (x)), some (.int (nI n)), some (.int (nI a)), some (.int (1)), some (.int (nI b)), some (.int (y)), v7] [] H = ev (d + 22) 134 86 [some (.ref 0), some (.int (x)), some (.int (nI n)), some (.int (nI a)), some (.int (1)), some (.int (nI b)), some (.int (y)), some (.int (nI z))] [] H := by
  have l22 := lw_low (d := d + 21) (H := H) (x := (x >>> (22 &&& 31))) (n := 7) (by omega) (by omega)
  rw [show nI 7 = 7 from rfl] at l22
  have l63 := lw_low (d := d + 21) (H := H) (x := y) (n := 63) (by omega) (by omega)
  rw [show nI 63 = 63 from rfl] at l63
  have l50 := lw_low (d := d + 21) (H := H) (x := y) (n := 50) (by omega) (by omega)
  rw [show nI 50 = 50 from rfl] at l50
  have c1 : (nI (lwv (x >>> (22 &&& 31)) 7) = 0) = (lwv (x >>> (22 &&& 31)) 7 = 0) := nI_eqp (b := 0) (by have := lwv_lt (v := (x >>> (22 &&& 31))) (n := 7) (by decide); omega) (by omega)
  have b63 : lwv y 63 < 63 := lwv_lt (by decide)
  have b50 : lwv y 50 < 50 := lwv_lt (by decide)
  by_cases q : lwv (x >>> (22 &&& 31)) 7 = 0
  · refine ⟨lwv y 63, by omega, ?_⟩
    simp only [e134_41, e134_43, e134_44, e134_46, e134_47, e134_49, e134_52, e134_55, e134_57, e134_60, e134_62, e134_65, e134_66, e134_68, e134_69, e134_71, e134_74, e134_77, e134_78, e134_81, e134_83, e134_84, Option.bind_some, Option.toList_some, Option.toList_none, List.cons_append, List.nil_append, true_or, or_true, and_true, true_and, i10, Bool.false_eq_true, if_true, if_false, reduceIte, l22, l63, c1.trans (eq_true q), Int32.add_zero]
  · refine ⟨lwv y 50 + 10, by omega, ?_⟩
    have e1 : nI (lwv y 50) + 10 = nI (lwv y 50 + 10) := nI_add _ 10
    simp only [e134_41, e134_43, e134_44, e134_46, e134_47, e134_49, e134_52, e134_55, e134_57, e134_60, e134_62, e134_65, e134_66, e134_68, e134_69, e134_71, e134_74, e134_77, e134_78, e134_81, e134_83, e134_84, Option.bind_some, Option.toList_some, Option.toList_none, List.cons_append, List.nil_append, true_or, or_true, and_true, true_and, i10, Bool.false_eq_true, if_true, if_false, reduceIte, l22, l50, c1.trans (eq_false q), e1]
theorem ty_letter {n a b z : Nat} (hm : m < 80) (hC : CI H σ r e len k κ w m) (hW : WF σ e len k κ) : ∃ H1 w' m', CO H H1 ∧ CI H1 σ r e len k κ w' m' ∧ m' ≤ m + 1 ∧ cn w' m' = cn w m + 0 ∧ ev (d + 22) 134 86 [some (.ref 0), some (.int (x)), some (.int (nI n)), some (.int (nI a)), some (.int (1)), some (.int (nI b)), some (.int (y)), some (.int (nI z))] [] H = ev (d + 22) 134 125 [some (.ref 0), some (.int (x)), some (.int (nI n)), some (.int (nI a)), some (.int (1)), some (.int (nI b)), some (.int (y)), some (.int (nI z))] [] H1 := by
  have z0 := CI_z hC
  have l23 := lw_low (d := d + 21) (H := H) (x := (x >>> (23 &&& 31))) (n := 9) (by omega) (by omega)
  rw [show nI 9 = 9 from rfl] at l23
  have l33 := lw_low (d := d + 21) (H := H) (x := y) (n := 33) (by omega) (by omega)
  rw [show nI 33 = 33 from rfl] at l33
  have l26 := lw_low (d := d + 21) (H := H) (x := y) (n := 26) (by omega) (by omega)
  rw [show nI 26 = 26 from rfl] at l26
  have c1 : (nI (lwv (x >>> (23 &&& 31)) 9) = 0) = (lwv (x >>> (23 &&& 31)) 9 = 0) := nI_eqp (b := 0) (by have := lwv_lt (v := (x >>> (23 &&& 31))) (n := 9) (by decide); omega) (by omega)
  have b33 : lwv y 33 < 33 := lwv_lt (by decide)
  have b26 : lwv y 26 < 26 := lwv_lt (by decide)
  have c2 : (nI (m + 1) ≤ 0) = False := (nI_lep (b := 0) (by omega) (by omega)).trans (eq_false (by omega))
  by_cases q : lwv (x >>> (23 &&& 31)) 9 = 0
  · obtain ⟨H1, a1, a2, a3⟩ := ct_append (d := d + 1) (u := 65 + lwv y 33) (by omega) (by omega) hm hC hW
    refine ⟨H1, _, _, a2, a3, Nat.le_refl _, cn_n (by omega), ?_⟩
    simp only [e134_86, e134_88, e134_91, e134_92, e134_94, e134_96, e134_97, e134_99, e134_100, e134_102, e134_105, e134_108, e134_110, e134_113, e134_115, e134_118, e134_119, e134_122, Option.bind_some, Option.toList_some, Option.toList_none, List.cons_append, List.nil_append, true_or, or_true, and_true, true_and, i10, Bool.false_eq_true, if_true, if_false, reduceIte, z0, l23, l33, c1.trans (eq_true q), c65, a1, c2]
  · obtain ⟨H1, a1, a2, a3⟩ := ct_append (d := d + 1) (u := 65 + lwv y 26) (by omega) (by omega) hm hC hW
    refine ⟨H1, _, _, a2, a3, Nat.le_refl _, cn_n (by omega), ?_⟩
    simp only [e134_86, e134_88, e134_91, e134_92, e134_94, e134_96, e134_97, e134_99, e134_100, e134_102, e134_105, e134_108, e134_110, e134_113, e134_115, e134_118, e134_119, e134_122, Option.bind_some, Option.toList_some, Option.toList_none, List.cons_append, List.nil_append, true_or, or_true, and_true, true_and, i10, Bool.false_eq_true, if_true, if_false, reduceIte, z0, l23, l26, c1.trans (eq_false q), c65, a1, c2]
theorem ty_second {n a b z : Nat} (hm : m < 80) (hC : CI H σ r e len k κ w m) (hW : WF σ e len k κ) : ∃ H1 w' m', CO H H1 ∧ CI H1 σ r e len k κ w' m' ∧ m' ≤ m + 1 ∧ cn w' m' = cn w m + 0 ∧ ev (d + 22) 134 125 [some (.ref 0), some (.int (x)), some (.int (nI n)), some (.int (nI a)), some (.int (1)), some (.int (nI b)), some (.int (y)), some (.int (nI z))] [] H = ev (d + 22) 134 154 [some (.ref 0), some (.int (x)), some (.int (nI n)), some (.int (nI a)), some (.int (1)), some (.int (nI b)), some (.int (y)), some (.int (nI z))] [] H1 := by
  have z0 := CI_z hC
  have l2 := lw_low (d := d + 21) (H := H) (x := (y >>> (2 &&& 31))) (n := 2) (by omega) (by omega)
  rw [show nI 2 = 2 from rfl] at l2
  have l3 := lw_low (d := d + 21) (H := H) (x := (y >>> (3 &&& 31))) (n := 5) (by omega) (by omega)
  rw [show nI 5 = 5 from rfl] at l3
  have c1 : (nI (lwv (y >>> (2 &&& 31)) 2) = 0) = (lwv (y >>> (2 &&& 31)) 2 = 0) := nI_eqp (b := 0) (by have := lwv_lt (v := (y >>> (2 &&& 31))) (n := 2) (by decide); omega) (by omega)
  have b5 : lwv (y >>> (3 &&& 31)) 5 < 5 := lwv_lt (by decide)
  have c2 : (nI (m + 1) ≤ 0) = False := (nI_lep (b := 0) (by omega) (by omega)).trans (eq_false (by omega))
  by_cases q : lwv (y >>> (2 &&& 31)) 2 = 0
  · refine ⟨H, w, m, CO_r, hC, by omega, rfl, ?_⟩
    simp only [e134_125, e134_127, e134_128, e134_129, e134_130, e134_133, e134_136, e134_137, e134_139, e134_141, e134_142, e134_143, e134_144, e134_147, e134_148, e134_151, Option.bind_some, Option.toList_some, Option.toList_none, List.cons_append, List.nil_append, true_or, or_true, and_true, true_and, i10, Bool.false_eq_true, if_true, if_false, reduceIte, l2, c1.trans (eq_true q)]
  · obtain ⟨H1, a1, a2, a3⟩ := ct_append (d := d + 1) (u := 65 + lwv (y >>> (3 &&& 31)) 5) (by omega) (by omega) hm hC hW
    refine ⟨H1, _, _, a2, a3, Nat.le_refl _, cn_n (by omega), ?_⟩
    simp only [e134_125, e134_127, e134_128, e134_129, e134_130, e134_133, e134_136, e134_137, e134_139, e134_141, e134_142, e134_143, e134_144, e134_147, e134_148, e134_151, Option.bind_some, Option.toList_some, Option.toList_none, List.cons_append, List.nil_append, true_or, or_true, and_true, true_and, i10, Bool.false_eq_true, if_true, if_false, reduceIte, z0, l2, l3, c1.trans (eq_false q), c65, a1, c2]
theorem ty_s {n a b z : Nat} (hz : z ≤ 62) (ha : a < 100) (hm : m + 3 ≤ 80) (hC : CI H σ r e len k κ w m) (hW : WF σ e len k κ) : ∃ H1 w' m', CO H H1 ∧ CI H1 σ r e len k κ w' m' ∧ m' ≤ m + 3 ∧ cn w' m' = cn w m + 1 ∧ ev (d + 22) 134 154 [some (.ref 0), some (.int (x)), some (.int (nI n)), some (.int (nI a)), some (.int (1)), some (.int (nI b)), some (.int (y)), some (.int (nI z))] [] H = ev (d + 22) 134 181 [some (.ref 0), some (.int (x)), some (.int (nI n)), some (.int (nI a)), some (.int (1)), some (.int (nI b)), some (.int (y)), some (.int (nI z))] [] H1 := by
  have z0 := CI_z hC
  have l9 := lw_low (d := d + 21) (H := H) (x := y) (n := 9) (by omega) (by omega)
  rw [show nI 9 = 9 from rfl] at l9
  have b9 : lwv y 9 < 9 := lwv_lt (by decide)
  have c1 : (nI a ≤ 0) = (a ≤ 0) := nI_lep (b := 0) (by omega) (by omega)
  have e1 : (1 : Int32) + nI (lwv y 9) = nI (1 + lwv y 9) := nI_add 1 _
  by_cases q : a ≤ 0
  · obtain ⟨H1, w', m', a1, a2, a3, a4, a5⟩ := lw_number (d := d) (u := 115) (v := z) (by omega) (by omega) (by omega) hm hC hW
    refine ⟨H1, w', m', a2, a3, a4, by rw [a5, if_pos rfl], ?_⟩
    change ev _ _ _ [_, some (.int 115), _] _ _ = _ at a1
    simp only [e134_154, e134_155, e134_157, e134_158, e134_161, e134_162, e134_164, e134_166, e134_169, e134_170, e134_173, e134_175, e134_178, Option.bind_some, Option.toList_some, Option.toList_none, List.cons_append, List.nil_append, true_or, or_true, and_true, true_and, i10, Bool.false_eq_true, if_true, if_false, reduceIte, c1.trans (eq_true q), a1]
  · obtain ⟨H1, w', m', a1, a2, a3, a4, a5⟩ := lw_number (d := d) (u := 115) (v := 1 + lwv y 9) (by omega) (by omega) (by omega) hm hC hW
    refine ⟨H1, w', m', a2, a3, a4, by rw [a5, if_pos rfl], ?_⟩
    change ev _ _ _ [_, some (.int 115), _] _ _ = _ at a1
    simp only [e134_154, e134_155, e134_157, e134_158, e134_161, e134_162, e134_164, e134_166, e134_169, e134_170, e134_173, e134_175, e134_178, Option.bind_some, Option.toList_some, Option.toList_none, List.cons_append, List.nil_append, true_or, or_true, and_true, true_and, i10, Bool.false_eq_true, if_true, if_false, reduceIte, c1.trans (eq_false q), l9, e1, a1]
theorem ty_r {n a b z : Nat} (ha : a < 100) (hm : m + 3 ≤ 80) (hC : CI H σ r e len k κ w m) (hW : WF σ e len k κ) : ∃ H1 w' m', CO H H1 ∧ CI H1 σ r e len k κ w' m' ∧ m' ≤ m + 3 ∧ cn w' m' = cn w m + 0 ∧ ev (d + 22) 134 181 [some (.ref 0), some (.int (x)), some (.int (nI n)), some (.int (nI a)), some (.int (1)), some (.int (nI b)), some (.int (y)), some (.int (nI z))] [] H = ev (d + 22) 134 207 [some (.ref 0), some (.int (x)), some (.int (nI n)), some (.int (nI a)), some (.int (1)), some (.int (nI b)), some (.int (y)), some (.int (nI z))] [] H1 := by
  have z0 := CI_z hC
  have l2 := lw_low (d := d + 21) (H := H) (x := (y >>> (4 &&& 31))) (n := 2) (by omega) (by omega)
  rw [show nI 2 = 2 from rfl] at l2
  have l10 := lw_low (d := d + 21) (H := H) (x := (y >>> (4 &&& 31))) (n := 10) (by omega) (by omega)
  rw [show nI 10 = 10 from rfl] at l10
  have b2 : lwv (y >>> (4 &&& 31)) 2 < 2 := lwv_lt (by decide)
  have b10 : lwv (y >>> (4 &&& 31)) 10 < 10 := lwv_lt (by decide)
  have c1 : (nI a ≤ 0) = (a ≤ 0) := nI_lep (b := 0) (by omega) (by omega)
  by_cases q : a ≤ 0
  · obtain ⟨H1, w', m', a1, a2, a3, a4, a5⟩ := lw_number (d := d) (u := 114) (v := lwv (y >>> (4 &&& 31)) 10) (by omega) (by omega) (by omega) hm hC hW
    refine ⟨H1, w', m', a2, a3, a4, by rw [a5, if_neg (by omega)], ?_⟩
    change ev _ _ _ [_, some (.int 114), _] _ _ = _ at a1
    simp only [e134_181, e134_182, e134_184, e134_186, e134_187, e134_188, e134_189, e134_192, e134_193, e134_196, e134_198, e134_201, e134_204, Option.bind_some, Option.toList_some, Option.toList_none, List.cons_append, List.nil_append, true_or, or_true, and_true, true_and, i10, Bool.false_eq_true, if_true, if_false, reduceIte, c1.trans (eq_true q), l10, a1]
  · obtain ⟨H1, w', m', a1, a2, a3, a4, a5⟩ := lw_number (d := d) (u := 114) (v := lwv (y >>> (4 &&& 31)) 2) (by omega) (by omega) (by omega) hm hC hW
    refine ⟨H1, w', m', a2, a3, a4, by rw [a5, if_neg (by omega)], ?_⟩
    change ev _ _ _ [_, some (.int 114), _] _ _ = _ at a1
    simp only [e134_181, e134_182, e134_184, e134_186, e134_187, e134_188, e134_189, e134_192, e134_193, e134_196, e134_198, e134_201, e134_204, Option.bind_some, Option.toList_some, Option.toList_none, List.cons_append, List.nil_append, true_or, or_true, and_true, true_and, i10, Bool.false_eq_true, if_true, if_false, reduceIte, c1.trans (eq_false q), l2, a1]
theorem ty_g {n a b z : Nat} (hm : m + 3 ≤ 80) (hC : CI H σ r e len k κ w m) (hW : WF σ e len k κ) : ∃ H1 w' m', CO H H1 ∧ CI H1 σ r e len k κ w' m' ∧ m' ≤ m + 3 ∧ cn w' m' = cn w m + 0 ∧ ev (d + 22) 134 207 [some (.ref 0), some (.int (x)), some (.int (nI n)), some (.int (nI a)), some (.int (1)), some (.int (nI b)), some (.int (y)), some (.int (nI z))] [] H = ev (d + 22) 134 250 [some (.ref 0), some (.int (x)), some (.int (nI n)), some (.int (nI a)), some (.int (1)), some (.int (nI b)), some (.int (y)), some (.int (nI z))] [] H1 := by
  have z0 := CI_z hC
  have l24 := lw_low (d := d + 21) (H := H) (x := (x >>> (24 &&& 31))) (n := 7) (by omega) (by omega)
  rw [show nI 7 = 7 from rfl] at l24
  have l17 := lw_low (d := d + 21) (H := H) (x := (y >>> (6 &&& 31))) (n := 17) (by omega) (by omega)
  rw [show nI 17 = 17 from rfl] at l17
  have l16 := lw_low (d := d + 21) (H := H) (x := (y >>> (6 &&& 31))) (n := 16) (by omega) (by omega)
  rw [show nI 16 = 16 from rfl] at l16
  have b17 : lwv (y >>> (6 &&& 31)) 17 < 17 := lwv_lt (by decide)
  have b16 : lwv (y >>> (6 &&& 31)) 16 < 16 := lwv_lt (by decide)
  have c1 : (nI (lwv (x >>> (24 &&& 31)) 7) = 0) = (lwv (x >>> (24 &&& 31)) 7 = 0) := nI_eqp (b := 0) (by have := lwv_lt (v := (x >>> (24 &&& 31))) (n := 7) (by decide); omega) (by omega)
  by_cases q : lwv (x >>> (24 &&& 31)) 7 = 0
  · obtain ⟨H1, w', m', a1, a2, a3, a4, a5⟩ := lw_number (d := d) (u := 103) (v := lwv (y >>> (6 &&& 31)) 17) (by omega) (by omega) (by omega) hm hC hW
    refine ⟨H1, w', m', a2, a3, a4, by rw [a5, if_neg (by omega)], ?_⟩
    change ev _ _ _ [_, some (.int 103), _] _ _ = _ at a1
    simp only [e134_207, e134_208, e134_210, e134_212, e134_214, e134_215, e134_216, e134_218, e134_219, e134_221, e134_224, e134_227, e134_229, e134_232, e134_234, e134_237, e134_240, e134_243, e134_244, e134_247, e134_248, Option.bind_some, Option.toList_some, Option.toList_none, List.cons_append, List.nil_append, true_or, or_true, and_true, true_and, i10, Bool.false_eq_true, if_true, if_false, reduceIte, l24, l17, c1.trans (eq_true q), a1]
  · obtain ⟨H1, w', m', a1, a2, a3, a4, a5⟩ := lw_number (d := d) (u := 103) (v := lwv (y >>> (6 &&& 31)) 16) (by omega) (by omega) (by omega) hm hC hW
    refine ⟨H1, w', m', a2, a3, a4, by rw [a5, if_neg (by omega)], ?_⟩
    change ev _ _ _ [_, some (.int 103), _] _ _ = _ at a1
    simp only [e134_207, e134_208, e134_210, e134_212, e134_214, e134_215, e134_216, e134_218, e134_219, e134_221, e134_224, e134_227, e134_229, e134_232, e134_234, e134_237, e134_240, e134_243, e134_244, e134_247, e134_248, Option.bind_some, Option.toList_some, Option.toList_none, List.cons_append, List.nil_append, true_or, or_true, and_true, true_and, i10, Bool.false_eq_true, if_true, if_false, reduceIte, l24, l16, c1.trans (eq_false q), a1]
theorem ty_bracket {n a b z : Nat} (hn : n < 100) (hb : b < 100) (ha : a < 100) (hm : m < 80) (hC : CI H σ r e len k κ w m) (hW : WF σ e len k κ) : ∃ H1 w' m' a', CO H H1 ∧ CI H1 σ r e len k κ w' m' ∧ m' ≤ m + 1 ∧ cn w' m' = cn w m ∧ a' ≤ a + 1 ∧ ev (d + 22) 134 250 [some (.ref 0), some (.int (x)), some (.int (nI n)), some (.int (nI a)), some (.int (1)), some (.int (nI b)), some (.int (y)), some (.int (nI z))] [] H = ev (d + 22) 134 336 [some (.ref 0), some (.int (x)), some (.int (nI n)), some (.int (nI a')), some (.int (1)), some (.int (nI b)), some (.int (y)), some (.int (nI z))] [] H1 := by
  have z0 := CI_z hC
  have l5 := lw_low (d := d + 21) (H := H) (x := (y >>> (5 &&& 31))) (n := 2) (by omega) (by omega)
  rw [show nI 2 = 2 from rfl] at l5
  have l7 := lw_low (d := d + 21) (H := H) (x := (y >>> (7 &&& 31))) (n := 2) (by omega) (by omega)
  rw [show nI 2 = 2 from rfl] at l7
  have c1 : (nI (lwv (y >>> (5 &&& 31)) 2) = 0) = (lwv (y >>> (5 &&& 31)) 2 = 0) := nI_eqp (b := 0) (by have := lwv_lt (v := (y >>> (5 &&& 31))) (n := 2) (by decide); omega) (by omega)
  have c2 : (nI (lwv (y >>> (7 &&& 31)) 2) = 0) = (lwv (y >>> (7 &&& 31)) 2 = 0) := nI_eqp (b := 0) (by have := lwv_lt (v := (y >>> (7 &&& 31))) (n := 2) (by decide); omega) (by omega)
  have c3 : (nI n ≤ nI (b + 1)) = (n ≤ b + 1) := nI_lep (by omega) (by omega)
  have c4 : (nI a ≤ 0) = (a ≤ 0) := nI_lep (b := 0) (by omega) (by omega)
  have c5 : (nI (m + 1) ≤ 0) = False := (nI_lep (b := 0) (by omega) (by omega)).trans (eq_false (by omega))
  have done : ev (d + 22) 134 296 [some (.ref 0), some (.int (x)), some (.int (nI n)), some (.int (nI a)), some (.int (1)), some (.int (nI b)), some (.int (y)), some (.int (nI z))] [] H = ev (d + 22) 134 336 [some (.ref 0), some (.int (x)), some (.int (nI n)), some (.int (nI a)), some (.int (1)), some (.int (nI b)), some (.int (y)), some (.int (nI z))] [] H ∨ ev (d + 22) 134 296 [some (.ref 0), some (.int (x)), some (.int (nI n)), some (.int (nI a)), some (.int (1)), some (.int (nI b)), some (.int (y)), some (.int (nI z))] [] H = ev (d + 22) 134 312 [some (.ref 0), some (.int (x)), some (.int (nI n)), some (.int (nI a)), some (.int (1)), some (.int (nI b)), some (.int (y)), some (.int (nI z))] [] H ∧ 0 < a := by
    by_cases q3 : a ≤ 0
    · left
      simp only [e134_296, e134_297, e134_300, e134_302, e134_304, e134_305, e134_306, e134_309, Option.bind_some, Option.toList_some, Option.toList_none, List.cons_append, List.nil_append, true_or, or_true, and_true, true_and, i10, Bool.false_eq_true, if_true, if_false, reduceIte, c4.trans (eq_true q3)]
    · by_cases q4 : lwv (y >>> (7 &&& 31)) 2 = 0
      · right
        refine ⟨?_, by omega⟩
        simp only [e134_296, e134_297, e134_300, e134_302, e134_304, e134_305, e134_306, e134_309, Option.bind_some, Option.toList_some, Option.toList_none, List.cons_append, List.nil_append, true_or, or_true, and_true, true_and, i10, Bool.false_eq_true, if_true, if_false, reduceIte, c4.trans (eq_false q3), l7, c2.trans (eq_true q4)]
      · left
        simp only [e134_296, e134_297, e134_300, e134_302, e134_304, e134_305, e134_306, e134_309, Option.bind_some, Option.toList_some, Option.toList_none, List.cons_append, List.nil_append, true_or, or_true, and_true, true_and, i10, Bool.false_eq_true, if_true, if_false, reduceIte, c4.trans (eq_false q3), l7, c2.trans (eq_false q4)]
  have tail : ∃ H1 w' m' a', CO H H1 ∧ CI H1 σ r e len k κ w' m' ∧ m' ≤ m + 1 ∧ cn w' m' = cn w m ∧ a' ≤ a + 1 ∧ ev (d + 22) 134 296 [some (.ref 0), some (.int (x)), some (.int (nI n)), some (.int (nI a)), some (.int (1)), some (.int (nI b)), some (.int (y)), some (.int (nI z))] [] H = ev (d + 22) 134 336 [some (.ref 0), some (.int (x)), some (.int (nI n)), some (.int (nI a')), some (.int (1)), some (.int (nI b)), some (.int (y)), some (.int (nI z))] [] H1 := by
    rcases done with h | ⟨h, q⟩
    · exact ⟨H, w, m, a, CO_r, hC, by omega, rfl, by omega, h⟩
    · obtain ⟨H1, a1, a2, a3⟩ := ct_append (d := d + 1) (u := 93) (by omega) (by omega) hm hC hW
      obtain ⟨g, rfl⟩ : ∃ g, a = g + 1 := ⟨a - 1, by omega⟩
      refine ⟨H1, _, _, g, a2, a3, Nat.le_refl _, cn_n (by omega), by omega, h.trans ?_⟩
      change ev _ _ _ [_, some (.int 93)] _ _ = _ at a1
      have e1 : nI (g + 1) + (-1) = nI g := (Int32.sub_eq_add_neg (nI (g + 1)) 1).symm.trans (nI_pred g)
      simp only [e134_312, e134_314, e134_317, e134_318, e134_320, e134_323, e134_326, e134_327, e134_330, e134_331, e134_333, Option.bind_some, Option.toList_some, Option.toList_none, List.cons_append, List.nil_append, true_or, or_true, and_true, true_and, i10, Bool.false_eq_true, if_true, if_false, reduceIte, z0, a1, c5, e1]
  by_cases q1 : n ≤ b + 1
  · obtain ⟨H1, w', m', a', g1, g2, g3, g4, g5, g6⟩ := tail
    refine ⟨H1, w', m', a', g1, g2, g3, g4, g5, Eq.trans ?_ g6⟩
    simp only [e134_250, e134_252, e134_253, e134_254, e134_255, e134_258, e134_260, e134_261, e134_262, e134_263, e134_266, Option.bind_some, Option.toList_some, Option.toList_none, List.cons_append, List.nil_append, true_or, or_true, and_true, true_and, i10, Bool.false_eq_true, if_true, if_false, reduceIte, nI_1, c3.trans (eq_true q1)]
  · by_cases q2 : lwv (y >>> (5 &&& 31)) 2 = 0
    · obtain ⟨H1, a1, a2, a3⟩ := ct_append (d := d + 1) (u := 91) (by omega) (by omega) hm hC hW
      refine ⟨H1, _, _, a + 1, a2, a3, Nat.le_refl _, cn_n (by omega), Nat.le_refl _, ?_⟩
      change ev _ _ _ [_, some (.int 91)] _ _ = _ at a1
      simp only [e134_250, e134_252, e134_253, e134_254, e134_255, e134_258, e134_260, e134_261, e134_262, e134_263, e134_266, e134_269, e134_271, e134_274, e134_275, e134_277, e134_280, e134_283, e134_284, e134_287, e134_288, e134_290, e134_293, Option.bind_some, Option.toList_some, Option.toList_none, List.cons_append, List.nil_append, true_or, or_true, and_true, true_and, i10, Bool.false_eq_true, if_true, if_false, reduceIte, nI_1, c3.trans (eq_false q1), l5, c1.trans (eq_true q2), z0, a1, c5]
    · obtain ⟨H1, w', m', a', g1, g2, g3, g4, g5, g6⟩ := tail
      refine ⟨H1, w', m', a', g1, g2, g3, g4, g5, Eq.trans ?_ g6⟩
      simp only [e134_250, e134_252, e134_253, e134_254, e134_255, e134_258, e134_260, e134_261, e134_262, e134_263, e134_266, Option.bind_some, Option.toList_some, Option.toList_none, List.cons_append, List.nil_append, true_or, or_true, and_true, true_and, i10, Bool.false_eq_true, if_true, if_false, reduceIte, nI_1, c3.trans (eq_false q1), l5, c1.trans (eq_false q2)]
/-- all crates typed -/
theorem ty_all {n : Nat} (hn : n ≤ 4) (hW : WF σ e len k κ) : ∀ (f b a : Nat) (H : zH) (w : Nat → Nat) (m : Nat) (v6 v7 : Option Value), b + f = n → a ≤ b → m ≤ 12 * b → cn w m = b → CI H σ r e len k κ w m → ∃ H1 w' m' a' v6' v7', CO H H1 ∧ CI H1 σ r e len k κ w' m' ∧ m' ≤ 48 ∧ cn w' m' = n ∧ a' ≤ 4 ∧ ev (d + 22) 134 25 [some (.ref 0), some (.int (x)), some (.int (nI n)), some (.int (nI a)), some (.int (1)), some (.int (nI b)), v6, v7] [] H = ev (d + 22) 134 342 [some (.ref 0), some (.int (x)), some (.int (nI n)), some (.int (nI a')), some (.int (1)), some (.int (nI n)), v6', v7'] [] H1 := by
  intro f
  induction f with
  | zero =>
    intro b a H w m v6 v7 hb ha hm hc hC
    have : b = n := by omega
    subst this
    refine ⟨H, w, m, a, v6, v7, CO_r, hC, by omega, hc, by omega, ?_⟩
    rw [e134_25]
    simp only [e134_27, e134_28, Int32.le_refl, if_true]
  | succ f ih =>
    intro b a H w m v6 v7 hb ha hm hc hC
    have e1 : (nI n ≤ nI b) = False := (nI_lep (by omega) (by omega)).trans (eq_false (by omega))
    have u1 : ev (d + 22) 134 25 [some (.ref 0), some (.int (x)), some (.int (nI n)), some (.int (nI a)), some (.int (1)), some (.int (nI b)), v6, v7] [] H = ev (d + 22) 134 41 [some (.ref 0), some (.int (x)), some (.int (nI n)), some (.int (nI a)), some (.int (1)), some (.int (nI b)), some (.int (x >>> ((2 + 4 * nI b) &&& 31))), v7] [] H := by
      rw [e134_25]
      simp only [e134_27, e134_28, e134_31, e134_32, e134_33, e134_34, e134_36, e134_37, e134_38, e134_39, Option.bind_some, Option.toList_some, Option.toList_none, List.cons_append, List.nil_append, true_or, or_true, and_true, true_and, i10, Bool.false_eq_true, if_true, if_false, reduceIte, e1]
    obtain ⟨z, hz, u2⟩ := ty_size (d := d) (H := H) (x := x) (y := x >>> ((2 + 4 * nI b) &&& 31)) (n := n) (a := a) (b := b) (v7 := v7)
    obtain ⟨H1, w1, m1, i1, i2, i3, i4, u3⟩ := ty_letter (d := d) (x := x) (y := x >>> ((2 + 4 * nI b) &&& 31)) (n := n) (a := a) (b := b) (z := z) (by omega) hC hW
    obtain ⟨H2, w2, m2, j1, j2, j3, j4, u4⟩ := ty_second (d := d) (x := x) (y := x >>> ((2 + 4 * nI b) &&& 31)) (n := n) (a := a) (b := b) (z := z) (by omega) i2 hW
    obtain ⟨H3, w3, m3, k1, k2, k3, k4, u5⟩ := ty_s (d := d) (x := x) (y := x >>> ((2 + 4 * nI b) &&& 31)) (n := n) (a := a) (b := b) hz (by omega) (by omega) j2 hW
    obtain ⟨H4, w4, m4, l1, l2, l3, l4, u6⟩ := ty_r (d := d) (x := x) (y := x >>> ((2 + 4 * nI b) &&& 31)) (n := n) (a := a) (b := b) (z := z) (by omega) (by omega) k2 hW
    obtain ⟨H5, w5, m5, n1, n2, n3, n4, u7⟩ := ty_g (d := d) (x := x) (y := x >>> ((2 + 4 * nI b) &&& 31)) (n := n) (a := a) (b := b) (z := z) (by omega) l2 hW
    obtain ⟨H6, w6, m6, a', o1, o2, o3, o4, o5, u8⟩ := ty_bracket (d := d) (x := x) (y := x >>> ((2 + 4 * nI b) &&& 31)) (n := n) (a := a) (b := b) (z := z) (by omega) (by omega) (by omega) (by omega) n2 hW
    obtain ⟨H7, w7, m7, a'', v6', v7', p1, p2, p3, p4, p5, u9⟩ := ih (b + 1) a' H6 w6 m6 (some (.int (x >>> ((2 + 4 * nI b) &&& 31)))) (some (.int (nI z))) (by omega) (by omega) (by omega) (by omega) o2
    refine ⟨H7, w7, m7, a'', v6', v7', CO_t i1 (CO_t j1 (CO_t k1 (CO_t l1 (CO_t n1 (CO_t o1 p1))))), p2, p3, p4, p5, ?_⟩
    refine u1.trans (u2.trans (u3.trans (u4.trans (u5.trans (u6.trans (u7.trans (u8.trans (Eq.trans ?_ u9))))))))
    simp only [e134_336, e134_339, nI_1]
theorem ty_close {n a : Nat} (ha : a ≤ 4) (hW : WF σ e len k κ) {v6 v7 : Option Value} : ∀ (f b : Nat) (H : zH) (w : Nat → Nat) (m : Nat), a ≤ b + f → b ≤ 5 → m + f ≤ 70 → CI H σ r e len k κ w m → ∃ H1 w' m', CO H H1 ∧ CI H1 σ r e len k κ w' m' ∧ cn w' m' = cn w m ∧ ev (d + 22) 134 361 [some (.ref 0), some (.int (x)), some (.int (nI n)), some (.int (nI a)), some (.int (1)), some (.int (nI b)), v6, v7] [] H = some (some (.int 1), H1) := by
  intro f
  induction f with
  | zero =>
    intro b H w m hb h5 hm hC
    have e1 : (nI a ≤ nI b) = True := (nI_lep (by omega) (by omega)).trans (eq_true (by omega))
    refine ⟨H, w, m, CO_r, hC, rfl, ?_⟩
    rw [e134_361]
    simp only [e134_363, e134_364, e134_394, e134_396 (Or.inr rfl), e1, if_true]
  | succ f ih =>
    intro b H w m hb h5 hm hC
    have z0 := CI_z hC
    by_cases q : a ≤ b
    · have e1 : (nI a ≤ nI b) = True := (nI_lep (by omega) (by omega)).trans (eq_true q)
      refine ⟨H, w, m, CO_r, hC, rfl, ?_⟩
      rw [e134_361]
      simp only [e134_363, e134_364, e134_394, e134_396 (Or.inr rfl), e1, if_true]
    · have e1 : (nI a ≤ nI b) = False := (nI_lep (by omega) (by omega)).trans (eq_false q)
      have c5 : (nI (m + 1) ≤ 0) = False := (nI_lep (b := 0) (by omega) (by omega)).trans (eq_false (by omega))
      obtain ⟨H1, a1, a2, a3⟩ := ct_append (d := d + 1) (u := 93) (by omega) (by omega) (show m < 80 by omega) hC hW
      obtain ⟨H2, w2, m2, b1, b2, b3, b4⟩ := ih (b + 1) H1 _ _ (by omega) (by omega) (by omega) a3
      refine ⟨H2, w2, m2, CO_t a2 b1, b2, b3.trans (cn_n (by omega)), ?_⟩
      change ev _ _ _ [_, some (.int 93)] _ _ = _ at a1
      rw [← b4, e134_361]
      simp only [e134_363, e134_364, e134_367, e134_369, e134_372, e134_373, e134_375, e134_378, e134_381, e134_382, e134_385, e134_386, e134_388, e134_391, Option.bind_some, Option.toList_some, Option.toList_none, List.cons_append, List.nil_append, true_or, or_true, and_true, true_and, i10, Bool.false_eq_true, if_true, if_false, reduceIte, e1, z0, a1, c5, nI_1]
/-- types answers 1; the text has as many s-signs as crates were typed -/
theorem lw_types (hC : CI H σ r e len k κ w m) (hW : WF σ e len k κ) : ∃ H1 w' m', ev (d + 22) 134 0 [some (.ref 0), some (.int x), none, none, none, none, none, none] [] H = some (some (.int 1), H1) ∧ CO H H1 ∧ CI H1 σ r e len k κ w' m' ∧ cn w' m' = lwv x 5 := by
  have z0 := CI_z hC
  have l5 := lw_low (d := d + 21) (H := H) (x := x) (n := 5) (by omega) (by omega)
  rw [show nI 5 = 5 from rfl] at l5
  have b5 : lwv x 5 < 5 := lwv_lt (by decide)
  have hm := CI_m hC
  obtain ⟨H1, a1, a2, a3⟩ := ct_clear (d := d + 1) hC hW
  have c1 : (nI m < 0) = False := eq_false (nI_pos (by omega))
  obtain ⟨H2, w2, m2, a', v6', v7', b1, b2, b3, b4, b5', b6⟩ := ty_all (d := d) (x := x) (r := r) (n := lwv x 5) (by omega) hW (lwv x 5) 0 0 H1 w 0 none none (by omega) (by omega) (by omega) rfl a3
  have l26 := lw_low (d := d + 21) (H := H2) (x := (x >>> (26 &&& 31))) (n := 7) (by omega) (by omega)
  rw [show nI 7 = 7 from rfl] at l26
  have c2 : (nI (lwv (x >>> (26 &&& 31)) 7) = 0) = (lwv (x >>> (26 &&& 31)) 7 = 0) := nI_eqp (b := 0) (by have := lwv_lt (v := (x >>> (26 &&& 31))) (n := 7) (by decide); omega) (by omega)
  have t1 : ev (d + 22) 134 0 [some (.ref 0), some (.int x), none, none, none, none, none, none] [] H = ev (d + 22) 134 25 [some (.ref 0), some (.int (x)), some (.int (nI (lwv x 5))), some (.int (nI 0)), some (.int (1)), some (.int (nI 0)), none, none] [] H1 := by
    simp only [e134_0, e134_1, e134_2, e134_5, e134_6, e134_7, e134_8, e134_9, e134_12, e134_15, e134_16, e134_19, e134_20, e134_22, e134_23, Option.bind_some, Option.toList_some, Option.toList_none, List.cons_append, List.nil_append, true_or, or_true, and_true, true_and, i10, Bool.false_eq_true, if_true, if_false, reduceIte, l5, z0, a1, c1]
    rfl
  by_cases q : lwv (x >>> (26 &&& 31)) 7 = 0
  · obtain ⟨H3, w3, m3, f1, f2, f3, f4⟩ := ty_close (d := d) (x := x) (r := r) (n := lwv x 5) (a := a') b5' hW (v6 := v6') (v7 := v7') 5 1 H2 w2 m2 (by omega) (by omega) (by omega) b2
    refine ⟨H3, w3, m3, ?_, CO_t a2 (CO_t b1 f1), f2, f3.trans b4⟩
    change ev (d + 22) 134 361 [some (.ref 0), some (.int (x)), some (.int (nI (lwv x 5))), some (.int (nI a')), some (.int (1)), some (.int (1)), v6', v7'] [] H2 = _ at f4
    rw [t1, b6, ← f4]
    simp only [e134_342, e134_343, e134_345, e134_346, e134_348, e134_351, e134_354, e134_355, e134_358, e134_359, Option.bind_some, Option.toList_some, Option.toList_none, List.cons_append, List.nil_append, true_or, or_true, and_true, true_and, i10, Bool.false_eq_true, if_true, if_false, reduceIte, l26, c2.trans (eq_true q)]
  · obtain ⟨H3, w3, m3, f1, f2, f3, f4⟩ := ty_close (d := d) (x := x) (r := r) (n := lwv x 5) (a := a') b5' hW (v6 := v6') (v7 := v7') 5 0 H2 w2 m2 (by omega) (by omega) (by omega) b2
    refine ⟨H3, w3, m3, ?_, CO_t a2 (CO_t b1 f1), f2, f3.trans b4⟩
    change ev (d + 22) 134 361 [some (.ref 0), some (.int (x)), some (.int (nI (lwv x 5))), some (.int (nI a')), some (.int (1)), some (.int (0)), v6', v7'] [] H2 = _ at f4
    rw [t1, b6, ← f4]
    simp only [e134_342, e134_343, e134_345, e134_346, e134_348, e134_351, e134_354, e134_355, e134_358, e134_359, Option.bind_some, Option.toList_some, Option.toList_none, List.cons_append, List.nil_append, true_or, or_true, and_true, true_and, i10, Bool.false_eq_true, if_true, if_false, reduceIte, l26, c2.trans (eq_false q)]
end TYPES
