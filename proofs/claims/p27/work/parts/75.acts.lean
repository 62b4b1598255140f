/-! THE LAW ACTS -/
section ACTS
variable {d : Nat} {H H1 : zH} {σ σ' : mS} {r r' : Int32} {e e' : Nat → mS × Int32} {len len' : Nat} {k : Bool} {κ : mS × Int32} {w w' : Nat → Nat} {m m' : Nat} {x y : Int32} {n p : Nat}
theorem lb4 : ∀ a, a < 4 → ∀ b, b < 4 → ∀ c, c < 4 → lbk (nI (a + 27 * b + 729 * c)) = (decide (0 < a) && (decide (0 < b) || decide (c = 0))) := by decide +kernel
theorem ac_room {s : Nat} (hs : s = lwv y 62) : ∃ t : Int, -1 ≤ t ∧ t ≤ 61 ∧ ev (d + 24) 137 28 [some (.ref 0), some (.int (x)), some (.int (y)), some (.int (nI (lwv x 24))), some (.int (nI σ.1)), some (.int (nI s)), none, none, none, none, none, none, none] [] H = ev (d + 24) 137 83 [some (.ref 0), some (.int (x)), some (.int (y)), some (.int (nI (lwv x 24))), some (.int (nI σ.1)), some (.int (nI s)), some (.int (iI t)), none, none, none, none, none, none] [] H := by
  have b62 : s < 62 := by rw [hs]; exact lwv_lt (by decide)
  have l20 := lw_low (d := d + 23) (H := H) (x := (y >>> (20 &&& 31))) (n := 5) (by omega) (by omega)
  rw [show nI 5 = 5 from rfl] at l20
  have l21 := lw_low (d := d + 23) (H := H) (x := (y >>> (21 &&& 31))) (n := 9) (by omega) (by omega)
  rw [show nI 9 = 9 from rfl] at l21
  have c1 : (nI (lwv (y >>> (20 &&& 31)) 5) = 0) = (lwv (y >>> (20 &&& 31)) 5 = 0) := nI_eqp (b := 0) (by have := lwv_lt (v := (y >>> (20 &&& 31))) (n := 5) (by decide); omega) (by omega)
  have c2 : (nI (lwv (y >>> (21 &&& 31)) 9) = 0) = (lwv (y >>> (21 &&& 31)) 9 = 0) := nI_eqp (b := 0) (by have := lwv_lt (v := (y >>> (21 &&& 31))) (n := 9) (by decide); omega) (by omega)
  have c3 : ((2 : Int32) ≤ nI s) = (2 ≤ s) := nI_lep (a := 2) (by omega) (by omega)
  have st : ∃ n, n < 62 ∧ ev (d + 24) 137 28 [some (.ref 0), some (.int (x)), some (.int (y)), some (.int (nI (lwv x 24))), some (.int (nI σ.1)), some (.int (nI s)), none, none, none, none, none, none, none] [] H = ev (d + 24) 137 63 [some (.ref 0), some (.int (x)), some (.int (y)), some (.int (nI (lwv x 24))), some (.int (nI σ.1)), some (.int (nI s)), none, none, none, none, none, none, none] [.int (nI n)] H := by
    by_cases q : lwv (y >>> (20 &&& 31)) 5 = 0
    · have l6 := lw_low (d := d + 23) (H := H) (x := (y >>> (6 &&& 31))) (n := 62) (by omega) (by omega)
      rw [show nI 62 = 62 from rfl] at l6
      refine ⟨lwv (y >>> (6 &&& 31)) 62, lwv_lt (by decide), ?_⟩
      simp only [e137_28, e137_29, e137_31, e137_32, e137_33, e137_35, e137_36, e137_37, e137_40, e137_43, e137_45, e137_48, e137_50, e137_51, e137_54, e137_55, e137_58, e137_60, Option.bind_some, Option.toList_some, Option.toList_none, List.cons_append, List.nil_append, true_or, or_true, and_true, true_and, i10, Bool.false_eq_true, if_true, if_false, reduceIte, l20, c1.trans (eq_true q), l6]
    · by_cases q2 : 2 ≤ s
      · have l6 := lw_low (d := d + 23) (H := H) (x := (y >>> (6 &&& 31))) (n := s) (by omega) (by omega)
        refine ⟨lwv (y >>> (6 &&& 31)) s, Nat.lt_trans (lwv_lt (by omega)) b62, ?_⟩
        simp only [e137_28, e137_29, e137_31, e137_32, e137_33, e137_35, e137_36, e137_37, e137_40, e137_43, e137_45, e137_48, e137_50, e137_51, e137_54, e137_55, e137_58, e137_60, Option.bind_some, Option.toList_some, Option.toList_none, List.cons_append, List.nil_append, true_or, or_true, and_true, true_and, i10, Bool.false_eq_true, if_true, if_false, reduceIte, l20, c1.trans (eq_false q), c3.trans (eq_true q2), l6]
      · have l6 := lw_low (d := d + 23) (H := H) (x := (y >>> (6 &&& 31))) (n := 1) (by omega) (by omega)
        rw [show nI 1 = 1 from rfl] at l6
        refine ⟨lwv (y >>> (6 &&& 31)) 1, Nat.lt_trans (lwv_lt (by decide)) (by decide), ?_⟩
        simp only [e137_28, e137_29, e137_31, e137_32, e137_33, e137_35, e137_36, e137_37, e137_40, e137_43, e137_45, e137_48, e137_50, e137_51, e137_54, e137_55, e137_58, e137_60, Option.bind_some, Option.toList_some, Option.toList_none, List.cons_append, List.nil_append, true_or, or_true, and_true, true_and, i10, Bool.false_eq_true, if_true, if_false, reduceIte, l20, c1.trans (eq_false q), c3.trans (eq_false q2), l6]
  obtain ⟨n, hn, e1⟩ := st
  rw [e1]
  by_cases q : lwv (y >>> (21 &&& 31)) 9 = 0
  · refine ⟨(n : Int) - 1, by omega, by omega, ?_⟩
    have e2 : nI n - 1 = iI ((n : Int) - 1) := by
      rw [iI_nat, show (1 : Int32) = iI 1 from rfl, iI_sub]
    simp only [e137_63, e137_64, e137_66, e137_67, e137_69, e137_72, e137_75, e137_76, e137_79, e137_80, e137_81, Option.bind_some, Option.toList_some, Option.toList_none, List.cons_append, List.nil_append, true_or, or_true, and_true, true_and, i10, Bool.false_eq_true, if_true, if_false, reduceIte, l21, c2.trans (eq_true q), e2]
  · refine ⟨(n : Int), by omega, by omega, ?_⟩
    have e2 : nI n - 0 = iI (n : Int) := by
      rw [iI_nat, show (0 : Int32) = iI 0 from rfl, iI_sub, Int.sub_zero]
    simp only [e137_63, e137_64, e137_66, e137_67, e137_69, e137_72, e137_75, e137_76, e137_79, e137_80, e137_81, Option.bind_some, Option.toList_some, Option.toList_none, List.cons_append, List.nil_append, true_or, or_true, and_true, true_and, i10, Bool.false_eq_true, if_true, if_false, reduceIte, l21, c2.trans (eq_false q), e2]
theorem ac_nums {s : Nat} {t : Int} : ∃ g a b c, g ≤ 16 ∧ a < 4 ∧ b < 4 ∧ c < 4 ∧ ev (d + 24) 137 83 [some (.ref 0), some (.int (x)), some (.int (y)), some (.int (nI (lwv x 24))), some (.int (nI σ.1)), some (.int (nI s)), some (.int (iI t)), none, none, none, none, none, none] [] H = ev (d + 24) 137 140 [some (.ref 0), some (.int (x)), some (.int (y)), some (.int (nI (lwv x 24))), some (.int (nI σ.1)), some (.int (nI s)), some (.int (iI t)), some (.int (nI g)), some (.int (nI a)), some (.int (nI b)), some (.int (nI c)), none, none] [] H := by
  have l22 := lw_low (d := d + 23) (H := H) (x := (y >>> (22 &&& 31))) (n := 9) (by omega) (by omega)
  rw [show nI 9 = 9 from rfl] at l22
  have l17 := lw_low (d := d + 23) (H := H) (x := (y >>> (3 &&& 31))) (n := 17) (by omega) (by omega)
  rw [show nI 17 = 17 from rfl] at l17
  have l16 := lw_low (d := d + 23) (H := H) (x := (y >>> (3 &&& 31))) (n := 16) (by omega) (by omega)
  rw [show nI 16 = 16 from rfl] at l16
  have l8 := lw_low (d := d + 23) (H := H) (x := (y >>> (8 &&& 31))) (n := 4) (by omega) (by omega)
  rw [show nI 4 = 4 from rfl] at l8
  have l10 := lw_low (d := d + 23) (H := H) (x := (y >>> (10 &&& 31))) (n := 4) (by omega) (by omega)
  rw [show nI 4 = 4 from rfl] at l10
  have l13 := lw_low (d := d + 23) (H := H) (x := (y >>> (13 &&& 31))) (n := 4) (by omega) (by omega)
  rw [show nI 4 = 4 from rfl] at l13
  have c1 : (nI (lwv (y >>> (22 &&& 31)) 9) = 0) = (lwv (y >>> (22 &&& 31)) 9 = 0) := nI_eqp (b := 0) (by have := lwv_lt (v := (y >>> (22 &&& 31))) (n := 9) (by decide); omega) (by omega)
  by_cases q : lwv (y >>> (22 &&& 31)) 9 = 0
  · refine ⟨lwv (y >>> (3 &&& 31)) 17, lwv (y >>> (8 &&& 31)) 4, lwv (y >>> (10 &&& 31)) 4, lwv (y >>> (13 &&& 31)) 4, Nat.le_of_lt_succ (lwv_lt (by decide)), lwv_lt (by decide), lwv_lt (by decide), lwv_lt (by decide), ?_⟩
    simp only [e137_83, e137_84, e137_85, e137_86, e137_87, e137_89, e137_90, e137_92, e137_95, e137_98, e137_100, e137_103, e137_105, e137_108, e137_110, e137_111, e137_113, e137_114, e137_115, e137_118, e137_120, e137_121, e137_123, e137_124, e137_125, e137_128, e137_130, e137_131, e137_133, e137_134, e137_135, e137_138, Option.bind_some, Option.toList_some, Option.toList_none, List.cons_append, List.nil_append, true_or, or_true, and_true, true_and, i10, Bool.false_eq_true, if_true, if_false, reduceIte, l22, l17, l8, l10, l13, c1.trans (eq_true q)]
  · refine ⟨lwv (y >>> (3 &&& 31)) 16, lwv (y >>> (8 &&& 31)) 4, lwv (y >>> (10 &&& 31)) 4, lwv (y >>> (13 &&& 31)) 4, Nat.le_of_lt (lwv_lt (by decide)), lwv_lt (by decide), lwv_lt (by decide), lwv_lt (by decide), ?_⟩
    simp only [e137_83, e137_84, e137_85, e137_86, e137_87, e137_89, e137_90, e137_92, e137_95, e137_98, e137_100, e137_103, e137_105, e137_108, e137_110, e137_111, e137_113, e137_114, e137_115, e137_118, e137_120, e137_121, e137_123, e137_124, e137_125, e137_128, e137_130, e137_131, e137_133, e137_134, e137_135, e137_138, Option.bind_some, Option.toList_some, Option.toList_none, List.cons_append, List.nil_append, true_or, or_true, and_true, true_and, i10, Bool.false_eq_true, if_true, if_false, reduceIte, l22, l16, l8, l10, l13, c1.trans (eq_false q)]
theorem ac_bad {s g a b c : Nat} {t : Int} (hs : s < 62) (ht : -1 ≤ t ∧ t ≤ 61) (hg : g ≤ 16) (ha : a < 4) (hb : b < 4) (hc : c < 4) : ev (d + 24) 137 140 [some (.ref 0), some (.int (x)), some (.int (y)), some (.int (nI (lwv x 24))), some (.int (nI σ.1)), some (.int (nI s)), some (.int (iI t)), some (.int (nI g)), some (.int (nI a)), some (.int (nI b)), some (.int (nI c)), none, none] [] H = ev (d + 24) 137 193 [some (.ref 0), some (.int (x)), some (.int (y)), some (.int (nI (lwv x 24))), some (.int (nI σ.1)), some (.int (nI s)), some (.int (iI t)), some (.int (nI g)), some (.int (nI a)), some (.int (nI b)), some (.int (nI c)), some (.int (bI (s = 0 ∨ s = 61 ∨ t < 0 ∨ (s : Int) ≤ t ∨ g = 16 ∨ a = 0 ∨ (b = 0 ∧ 0 < c)))), none] [] H := by
  have c1 : (nI s = 0) = (s = 0) := nI_eqp (b := 0) (by omega) (by omega)
  have c2 : (nI s = 61) = (s = 61) := nI_eqp (b := 61) (by omega) (by omega)
  have c3 : (iI t < 0) = (t < 0) := iI_lt (b := 0) (by omega) (by omega)
  have c4 : (nI s ≤ iI t) = ((s : Int) ≤ t) := by
    rw [iI_nat]
    exact iI_le (by omega) (by omega)
  have c5 : (nI g = 16) = (g = 16) := nI_eqp (b := 16) (by omega) (by omega)
  have c6 : (nI a = 0) = (a = 0) := nI_eqp (b := 0) (by omega) (by omega)
  have c7 : (nI b = 0) = (b = 0) := nI_eqp (b := 0) (by omega) (by omega)
  have c8 : (nI c ≤ 0) = (c ≤ 0) := nI_lep (b := 0) (by omega) (by omega)
  by_cases q0 : s = 0
  · rw [bI_t (p := (s = 0 ∨ s = 61 ∨ t < 0 ∨ (s : Int) ≤ t ∨ g = 16 ∨ a = 0 ∨ (b = 0 ∧ 0 < c))) (Or.inl q0)]
    simp only [e137_140, e137_142, e137_145, e137_147, e137_149, e137_152, e137_154, e137_157, e137_159, e137_161, e137_164, e137_166, e137_168, e137_171, e137_173, e137_176, e137_178, e137_181, e137_183, e137_186, e137_187, e137_190, e137_191, Option.bind_some, Option.toList_some, Option.toList_none, List.cons_append, List.nil_append, true_or, or_true, and_true, true_and, i10, Bool.false_eq_true, if_true, if_false, reduceIte, c1.trans (eq_true q0)]
  · skip
    by_cases q1 : s = 61
    · rw [bI_t (p := (s = 0 ∨ s = 61 ∨ t < 0 ∨ (s : Int) ≤ t ∨ g = 16 ∨ a = 0 ∨ (b = 0 ∧ 0 < c))) (Or.inr (Or.inl q1))]
      simp only [e137_140, e137_142, e137_145, e137_147, e137_149, e137_152, e137_154, e137_157, e137_159, e137_161, e137_164, e137_166, e137_168, e137_171, e137_173, e137_176, e137_178, e137_181, e137_183, e137_186, e137_187, e137_190, e137_191, Option.bind_some, Option.toList_some, Option.toList_none, List.cons_append, List.nil_append, true_or, or_true, and_true, true_and, i10, Bool.false_eq_true, if_true, if_false, reduceIte, c1.trans (eq_false q0), c2.trans (eq_true q1)]
    · skip
      by_cases q2 : t < 0
      · rw [bI_t (p := (s = 0 ∨ s = 61 ∨ t < 0 ∨ (s : Int) ≤ t ∨ g = 16 ∨ a = 0 ∨ (b = 0 ∧ 0 < c))) (Or.inr (Or.inr (Or.inl q2)))]
        simp only [e137_140, e137_142, e137_145, e137_147, e137_149, e137_152, e137_154, e137_157, e137_159, e137_161, e137_164, e137_166, e137_168, e137_171, e137_173, e137_176, e137_178, e137_181, e137_183, e137_186, e137_187, e137_190, e137_191, Option.bind_some, Option.toList_some, Option.toList_none, List.cons_append, List.nil_append, true_or, or_true, and_true, true_and, i10, Bool.false_eq_true, if_true, if_false, reduceIte, c1.trans (eq_false q0), c2.trans (eq_false q1), c3.trans (eq_true q2)]
      · skip
        by_cases q3 : (s : Int) ≤ t
        · rw [bI_t (p := (s = 0 ∨ s = 61 ∨ t < 0 ∨ (s : Int) ≤ t ∨ g = 16 ∨ a = 0 ∨ (b = 0 ∧ 0 < c))) (Or.inr (Or.inr (Or.inr (Or.inl q3))))]
          simp only [e137_140, e137_142, e137_145, e137_147, e137_149, e137_152, e137_154, e137_157, e137_159, e137_161, e137_164, e137_166, e137_168, e137_171, e137_173, e137_176, e137_178, e137_181, e137_183, e137_186, e137_187, e137_190, e137_191, Option.bind_some, Option.toList_some, Option.toList_none, List.cons_append, List.nil_append, true_or, or_true, and_true, true_and, i10, Bool.false_eq_true, if_true, if_false, reduceIte, c1.trans (eq_false q0), c2.trans (eq_false q1), c3.trans (eq_false q2), c4.trans (eq_true q3)]
        · skip
          by_cases q4 : g = 16
          · rw [bI_t (p := (s = 0 ∨ s = 61 ∨ t < 0 ∨ (s : Int) ≤ t ∨ g = 16 ∨ a = 0 ∨ (b = 0 ∧ 0 < c))) (Or.inr (Or.inr (Or.inr (Or.inr (Or.inl q4)))))]
            simp only [e137_140, e137_142, e137_145, e137_147, e137_149, e137_152, e137_154, e137_157, e137_159, e137_161, e137_164, e137_166, e137_168, e137_171, e137_173, e137_176, e137_178, e137_181, e137_183, e137_186, e137_187, e137_190, e137_191, Option.bind_some, Option.toList_some, Option.toList_none, List.cons_append, List.nil_append, true_or, or_true, and_true, true_and, i10, Bool.false_eq_true, if_true, if_false, reduceIte, c1.trans (eq_false q0), c2.trans (eq_false q1), c3.trans (eq_false q2), c4.trans (eq_false q3), c5.trans (eq_true q4)]
          · skip
            by_cases q5 : a = 0
            · rw [bI_t (p := (s = 0 ∨ s = 61 ∨ t < 0 ∨ (s : Int) ≤ t ∨ g = 16 ∨ a = 0 ∨ (b = 0 ∧ 0 < c))) (Or.inr (Or.inr (Or.inr (Or.inr (Or.inr (Or.inl q5))))))]
              simp only [e137_140, e137_142, e137_145, e137_147, e137_149, e137_152, e137_154, e137_157, e137_159, e137_161, e137_164, e137_166, e137_168, e137_171, e137_173, e137_176, e137_178, e137_181, e137_183, e137_186, e137_187, e137_190, e137_191, Option.bind_some, Option.toList_some, Option.toList_none, List.cons_append, List.nil_append, true_or, or_true, and_true, true_and, i10, Bool.false_eq_true, if_true, if_false, reduceIte, c1.trans (eq_false q0), c2.trans (eq_false q1), c3.trans (eq_false q2), c4.trans (eq_false q3), c5.trans (eq_false q4), c6.trans (eq_true q5)]
            · skip
              by_cases q6 : b = 0
              · by_cases q7 : c ≤ 0
                · rw [bI_f (p := (s = 0 ∨ s = 61 ∨ t < 0 ∨ (s : Int) ≤ t ∨ g = 16 ∨ a = 0 ∨ (b = 0 ∧ 0 < c))) (by omega)]
                  simp only [e137_140, e137_142, e137_145, e137_147, e137_149, e137_152, e137_154, e137_157, e137_159, e137_161, e137_164, e137_166, e137_168, e137_171, e137_173, e137_176, e137_178, e137_181, e137_183, e137_186, e137_187, e137_190, e137_191, Option.bind_some, Option.toList_some, Option.toList_none, List.cons_append, List.nil_append, true_or, or_true, and_true, true_and, i10, Bool.false_eq_true, if_true, if_false, reduceIte, c1.trans (eq_false q0), c2.trans (eq_false q1), c3.trans (eq_false q2), c4.trans (eq_false q3), c5.trans (eq_false q4), c6.trans (eq_false q5), c7.trans (eq_true q6), c8.trans (eq_true q7)]
                · rw [bI_t (p := (s = 0 ∨ s = 61 ∨ t < 0 ∨ (s : Int) ≤ t ∨ g = 16 ∨ a = 0 ∨ (b = 0 ∧ 0 < c))) (by omega)]
                  simp only [e137_140, e137_142, e137_145, e137_147, e137_149, e137_152, e137_154, e137_157, e137_159, e137_161, e137_164, e137_166, e137_168, e137_171, e137_173, e137_176, e137_178, e137_181, e137_183, e137_186, e137_187, e137_190, e137_191, Option.bind_some, Option.toList_some, Option.toList_none, List.cons_append, List.nil_append, true_or, or_true, and_true, true_and, i10, Bool.false_eq_true, if_true, if_false, reduceIte, c1.trans (eq_false q0), c2.trans (eq_false q1), c3.trans (eq_false q2), c4.trans (eq_false q3), c5.trans (eq_false q4), c6.trans (eq_false q5), c7.trans (eq_true q6), c8.trans (eq_false q7)]
              · rw [bI_f (p := (s = 0 ∨ s = 61 ∨ t < 0 ∨ (s : Int) ≤ t ∨ g = 16 ∨ a = 0 ∨ (b = 0 ∧ 0 < c))) (by omega)]
                simp only [e137_140, e137_142, e137_145, e137_147, e137_149, e137_152, e137_154, e137_157, e137_159, e137_161, e137_164, e137_166, e137_168, e137_171, e137_173, e137_176, e137_178, e137_181, e137_183, e137_186, e137_187, e137_190, e137_191, Option.bind_some, Option.toList_some, Option.toList_none, List.cons_append, List.nil_append, true_or, or_true, and_true, true_and, i10, Bool.false_eq_true, if_true, if_false, reduceIte, c1.trans (eq_false q0), c2.trans (eq_false q1), c3.trans (eq_false q2), c4.trans (eq_false q3), c5.trans (eq_false q4), c6.trans (eq_false q5), c7.trans (eq_false q6)]
theorem ac_make {s g a b c : Nat} {t : Int} (hs : s < 62) (ht : -1 ≤ t ∧ t ≤ 61) (hg : g ≤ 16) (ha : a < 4) (hb : b < 4) (hc : c < 4) (hC : CI H σ r e len k κ w m) (hW : WF σ e len k κ) : ∃ H1 σ' r' e' len' w' m', ev (d + 24) 137 193 [some (.ref 0), some (.int (x)), some (.int (y)), some (.int (nI (lwv x 24))), some (.int (nI σ.1)), some (.int (nI s)), some (.int (iI t)), some (.int (nI g)), some (.int (nI a)), some (.int (nI b)), some (.int (nI c)), some (.int (bI (s = 0 ∨ s = 61 ∨ t < 0 ∨ (s : Int) ≤ t ∨ g = 16 ∨ a = 0 ∨ (b = 0 ∧ 0 < c)))), none] [] H = some (some (.int 1), H1) ∧ CO H H1 ∧ CI H1 σ' r' e' len' k κ w' m' ∧ WF σ' e' len' k κ ∧ CH σ r e len σ' r' e' len' := by
  have hn := hW.1.1
  have z0 := CI_z hC
  have el : nI a + 27 * nI b + 729 * nI c = nI (a + 27 * b + 729 * c) := by
    rw [show (27 : Int32) = nI 27 from rfl, show (729 : Int32) = nI 729 from rfl, pk_mul, pk_mul, nI_add, nI_add]
  have lb := lb4 a ha b hb c hc
  have f0 := ca_n0 (d := d + 3) hC hW
  by_cases q : (s = 0 ∨ s = 61 ∨ t < 0 ∨ (s : Int) ≤ t ∨ g = 16 ∨ a = 0 ∨ (b = 0 ∧ 0 < c))
  · have nk : ¬ okm (nI s) (iI t) (nI g) (nI (a + 27 * b + 729 * c)) := by
      rintro ⟨⟨⟨k1, k2⟩, k3, k4⟩, ⟨k5, k6⟩, k7⟩
      have k1 : 1 ≤ s := (nI_lep (a := 1) (by omega) (by omega)).mp k1
      have k2 : s ≤ 60 := (nI_lep (b := 60) (by omega) (by omega)).mp k2
      have k3 : (0 : Int) ≤ t := (iI_le (a := 0) (by omega) (by omega)).mp k3
      rw [iI_nat, show (1 : Int32) = iI 1 from rfl, iI_sub] at k4
      have k4 : t ≤ (s : Int) - 1 := (iI_le (by omega) (by omega)).mp k4
      have k6 : g ≤ 15 := (nI_lep (b := 15) (by omega) (by omega)).mp k6
      rw [lb] at k7
      simp only [Bool.and_eq_true, Bool.or_eq_true, decide_eq_true_eq] at k7
      omega
    have p0 := cd_make0 (d := d + 3) nk hC hW
    refine ⟨H, σ, r, e, len, w, m, ?_, CO_r, hC, hW, Or.inl ⟨rfl, rfl, rfl, rfl⟩⟩
    rw [bI_t q]
    simp only [e137_193, e137_194, e137_196, e137_198, e137_200, e137_202, e137_204, e137_206, e137_207, e137_208, e137_211, e137_213, e137_214, e137_215, e137_218, e137_220, e137_222, e137_224, e137_227, e137_228, e137_231, e137_233, e137_235, e137_238, e137_240, e137_243, e137_245, e137_248, e137_249, e137_250, e137_253, e137_255, e137_257, e137_260, e137_261, e137_264, e137_265, e137_266, e137_269, e137_271, e137_274, e137_275, e137_277, e137_278, e137_281, e137_283, e137_286, e137_287, e137_289, e137_290, e137_293, e137_295, e137_298, e137_299, e137_301, e137_302, e137_305, e137_307, e137_310, e137_311, e137_313, e137_314, e137_317, e137_319, e137_320, e137_321, e137_324, e137_325, e137_327, e137_328, e137_331, e137_332, e137_334, e137_337, e137_338, e137_341, e137_342, e137_343, e137_345, e137_348, e137_349, e137_352, e137_353, e137_354, e137_357, e137_358, e137_360, e137_361, e137_364, e137_366, e137_369, e137_370, e137_372, e137_374, e137_377, e137_380, e137_381, e137_384, e137_385 (Or.inr rfl), Option.bind_some, Option.toList_some, Option.toList_none, List.cons_append, List.nil_append, true_or, or_true, and_true, true_and, i10, Bool.false_eq_true, if_true, if_false, reduceIte, el, p0, f0, z0, show ((0 : Int32) ≤ -1) = False by decide, show ((-1 : Int32) < 0) = True by decide, Int32.add_zero, eq_self]
  · obtain ⟨u, rfl⟩ : ∃ u : Nat, t = (u : Int) := ⟨t.toNat, by omega⟩
    have h8 : lbk (nI (a + 27 * b + 729 * c)) = true := by
      rw [lb]
      simp only [Bool.and_eq_true, Bool.or_eq_true, decide_eq_true_eq]
      omega
    have h6 : a + 27 * b + 729 * c ≤ 531440 := by omega
    rw [bI_f q]
    by_cases q2 : σ.1 = 12
    · have p0 := cd_makeF (d := d + 3) (s := s) (t := u) (g := g) (l := a + 27 * b + 729 * c) (by omega) (by omega) (by omega) (by omega) h6 h8 q2 hC hW
      rw [iI_nat u] at p0
      have c12 : (nI σ.1 = 12) = True := (nI_eqp (b := 12) (by omega) (by omega)).trans (eq_true q2)
      refine ⟨H, σ, r, e, len, w, m, ?_, CO_r, hC, hW, Or.inl ⟨rfl, rfl, rfl, rfl⟩⟩
      simp only [e137_193, e137_194, e137_196, e137_198, e137_200, e137_202, e137_204, e137_206, e137_207, e137_208, e137_211, e137_213, e137_214, e137_215, e137_218, e137_220, e137_222, e137_224, e137_227, e137_228, e137_231, e137_233, e137_235, e137_238, e137_240, e137_243, e137_245, e137_248, e137_249, e137_250, e137_253, e137_255, e137_257, e137_260, e137_261, e137_264, e137_265, e137_266, e137_269, e137_271, e137_274, e137_275, e137_277, e137_278, e137_281, e137_283, e137_286, e137_287, e137_289, e137_290, e137_293, e137_295, e137_298, e137_299, e137_301, e137_302, e137_305, e137_307, e137_310, e137_311, e137_313, e137_314, e137_317, e137_319, e137_320, e137_321, e137_324, e137_325, e137_327, e137_328, e137_331, e137_332, e137_334, e137_337, e137_338, e137_341, e137_342, e137_343, e137_345, e137_348, e137_349, e137_352, e137_353, e137_354, e137_357, e137_358, e137_360, e137_361, e137_364, e137_366, e137_369, e137_370, e137_372, e137_374, e137_377, e137_380, e137_381, e137_384, e137_385 (Or.inr rfl), Option.bind_some, Option.toList_some, Option.toList_none, List.cons_append, List.nil_append, true_or, or_true, and_true, true_and, i10, Bool.false_eq_true, if_true, if_false, reduceIte, el, p0, f0, z0, c12, show ((0 : Int32) ≤ -3) = False by decide, show ((-3 : Int32) < 0) = True by decide, Int32.add_zero, eq_self]
    · have h12 : σ.1 < 12 := by omega
      have c12 : (nI σ.1 = 12) = False := (nI_eqp (b := 12) (by omega) (by omega)).trans (eq_false q2)
      obtain ⟨H1, a1, a2, a3⟩ := cd_make (d := d + 3) (s := s) (t := u) (g := g) (l := a + 27 * b + 729 * c) (by omega) (by omega) (by omega) (by omega) h6 h8 h12 hC hW
      rw [iI_nat u] at a1
      have hlo : lbo 4 (a + 27 * b + 729 * c) = true := by
        unfold lbk at h8
        rw [Bool.and_eq_true, nI_clamp (by omega)] at h8
        exact h8.2
      have hW' := WF_ch (r := r) hW (make_wf hW.1 h12 ⟨by omega, by omega⟩ (show u < s by omega) (show g ≤ 15 by omega) (show 1 ≤ a + 27 * b + 729 * c by omega) h6 hlo)
      have z1 := CI_z a3
      have hA : ∀ j, (addd σ (mkA s u g (a + 27 * b + 729 * c))).2 σ.1 j = mkA s u g (a + 27 * b + 729 * c) j := fun j => if_pos rfl
      have hi : σ.1 < (addd σ (mkA s u g (a + 27 * b + 729 * c))).1 := Nat.lt_succ_self _
      have k0 := ca_cr0 (d := d + 3) (σ := addd σ (mkA s u g (a + 27 * b + 729 * c))) hi a3 hW'
      have k1 := ca_cr1 (d := d + 3) (σ := addd σ (mkA s u g (a + 27 * b + 729 * c))) hi a3 hW'
      have k2 := ca_cr2 (d := d + 3) (σ := addd σ (mkA s u g (a + 27 * b + 729 * c))) hi a3 hW'
      have k3 := ca_cr3 (d := d + 3) (σ := addd σ (mkA s u g (a + 27 * b + 729 * c))) hi a3 hW'
      have k4 := ca_cr4 (d := d + 3) (σ := addd σ (mkA s u g (a + 27 * b + 729 * c))) hi a3 hW'
      have k6 := ca_cr6 (d := d + 3) (σ := addd σ (mkA s u g (a + 27 * b + 729 * c))) hi a3 hW'
      have kl := ca_letter (d := d + 3) (σ := addd σ (mkA s u g (a + 27 * b + 729 * c))) (p := 0) hi (by omega) a3 hW'
      have kn := ca_n0 (d := d + 3) a3 hW'
      rw [hA] at k0 k1 k2 k4 kl
      have m3 : mkA s u g (a + 27 * b + 729 * c) 3 = a := by show (a + 27 * b + 729 * c) % 27 = a; omega
      have m4 : mkA s u g (a + 27 * b + 729 * c) 4 = b := by show (a + 27 * b + 729 * c) / 27 % 27 = b; omega
      have m5 : mkA s u g (a + 27 * b + 729 * c) 5 = c := by show (a + 27 * b + 729 * c) / 27 / 27 % 27 = c; omega
      have m6 : mkA s u g (a + 27 * b + 729 * c) 6 = 0 := by show (a + 27 * b + 729 * c) / 27 / 27 / 27 % 27 = 0; omega
      change _ = some (some (Value.int (nI s)), H1) at k0
      change _ = some (some (Value.int (nI u)), H1) at k1
      change _ = some (some (Value.int (nI g)), H1) at k2
      change _ = some (some (Value.int (-4)), H1) at k4
      change _ = some (some (Value.int (nI (σ.1 + 1))), H1) at kn
      rw [show mkA s u g (a + 27 * b + 729 * c) (3 + 0) = a from m3] at kl
      have ek : cB a = nI a - 1 := by
        obtain ⟨v, rfl⟩ : ∃ v, a = v + 1 := ⟨a - 1, by omega⟩
        rw [nI_pred]
        rfl
      rw [ek, show nI 0 = 0 from rfl] at kl
      have ep : pil (addd σ (mkA s u g (a + 27 * b + 729 * c))) σ.1 = 0 := by
        refine ct_none (fun j hj => decide_eq_false (fun z => ?_))
        by_cases v : j = σ.1
        · rw [v, hA] at z
          cases z
        · have : (addd σ (mkA s u g (a + 27 * b + 729 * c))).2 j 7 = σ.2 j 7 := if_neg v
          rw [this] at z
          have hj : j < σ.1 + 1 := hj
          have := (hW.1.bnd.2 j (by omega)).2.2.2.2.1
          omega
      rw [ep, show nI 0 = 0 from rfl] at k6
      rw [lts_e, hA, hA, hA, hA, m3, m4, m5, m6, if_pos (show 0 < a by omega), if_neg (Nat.lt_irrefl 0), Nat.add_zero] at k3
      have p1 : ((0 : Int32) ≤ nI σ.1) = True := eq_true (nI_pos' (by omega))
      have p2 : (nI σ.1 < 0) = False := eq_false (nI_pos (by omega))
      rw [iI_nat u] at k1
      refine ⟨H1, _, _, _, _, _, _, ?_, a2, a3, hW', Or.inr ⟨rfl, rfl⟩⟩
      have c9 : (nI b ≤ 0) = (b ≤ 0) := nI_lep (b := 0) (by omega) (by omega)
      have c10 : (nI c ≤ 0) = (c ≤ 0) := nI_lep (b := 0) (by omega) (by omega)
      by_cases v1 : b ≤ 0
      · by_cases v2 : c ≤ 0
        · rw [if_neg (show ¬ 0 < b by omega), if_neg (show ¬ 0 < c by omega)] at k3
          change _ = some (some (Value.int (1 + 0 + 0)), H1) at k3
          simp only [e137_193, e137_194, e137_196, e137_198, e137_200, e137_202, e137_204, e137_206, e137_207, e137_208, e137_211, e137_213, e137_214, e137_215, e137_218, e137_220, e137_222, e137_224, e137_227, e137_228, e137_231, e137_233, e137_235, e137_238, e137_240, e137_243, e137_245, e137_248, e137_249, e137_250, e137_253, e137_255, e137_257, e137_260, e137_261, e137_264, e137_265, e137_266, e137_269, e137_271, e137_274, e137_275, e137_277, e137_278, e137_281, e137_283, e137_286, e137_287, e137_289, e137_290, e137_293, e137_295, e137_298, e137_299, e137_301, e137_302, e137_305, e137_307, e137_310, e137_311, e137_313, e137_314, e137_317, e137_319, e137_320, e137_321, e137_324, e137_325, e137_327, e137_328, e137_331, e137_332, e137_334, e137_337, e137_338, e137_341, e137_342, e137_343, e137_345, e137_348, e137_349, e137_352, e137_353, e137_354, e137_357, e137_358, e137_360, e137_361, e137_364, e137_366, e137_369, e137_370, e137_372, e137_374, e137_377, e137_380, e137_381, e137_384, e137_385 (Or.inr rfl), Option.bind_some, Option.toList_some, Option.toList_none, List.cons_append, List.nil_append, true_or, or_true, and_true, true_and, i10, Bool.false_eq_true, if_true, if_false, reduceIte, el, a1, kn, k0, k1, k2, k3, k4, k6, kl, z0, z1, c12, p1, p2, c9.trans (eq_true v1), c10.trans (eq_true v2), nI_1, eq_self]
        · exact absurd q (by omega)
      · by_cases v2 : c ≤ 0
        · rw [if_pos (show 0 < b by omega), if_neg (show ¬ 0 < c by omega)] at k3
          change _ = some (some (Value.int (1 + 1 + 0)), H1) at k3
          simp only [e137_193, e137_194, e137_196, e137_198, e137_200, e137_202, e137_204, e137_206, e137_207, e137_208, e137_211, e137_213, e137_214, e137_215, e137_218, e137_220, e137_222, e137_224, e137_227, e137_228, e137_231, e137_233, e137_235, e137_238, e137_240, e137_243, e137_245, e137_248, e137_249, e137_250, e137_253, e137_255, e137_257, e137_260, e137_261, e137_264, e137_265, e137_266, e137_269, e137_271, e137_274, e137_275, e137_277, e137_278, e137_281, e137_283, e137_286, e137_287, e137_289, e137_290, e137_293, e137_295, e137_298, e137_299, e137_301, e137_302, e137_305, e137_307, e137_310, e137_311, e137_313, e137_314, e137_317, e137_319, e137_320, e137_321, e137_324, e137_325, e137_327, e137_328, e137_331, e137_332, e137_334, e137_337, e137_338, e137_341, e137_342, e137_343, e137_345, e137_348, e137_349, e137_352, e137_353, e137_354, e137_357, e137_358, e137_360, e137_361, e137_364, e137_366, e137_369, e137_370, e137_372, e137_374, e137_377, e137_380, e137_381, e137_384, e137_385 (Or.inr rfl), Option.bind_some, Option.toList_some, Option.toList_none, List.cons_append, List.nil_append, true_or, or_true, and_true, true_and, i10, Bool.false_eq_true, if_true, if_false, reduceIte, el, a1, kn, k0, k1, k2, k3, k4, k6, kl, z0, z1, c12, p1, p2, c9.trans (eq_false v1), c10.trans (eq_true v2), nI_1, eq_self]
        · rw [if_pos (show 0 < b by omega), if_pos (show 0 < c by omega)] at k3
          change _ = some (some (Value.int (1 + 1 + 1)), H1) at k3
          simp only [e137_193, e137_194, e137_196, e137_198, e137_200, e137_202, e137_204, e137_206, e137_207, e137_208, e137_211, e137_213, e137_214, e137_215, e137_218, e137_220, e137_222, e137_224, e137_227, e137_228, e137_231, e137_233, e137_235, e137_238, e137_240, e137_243, e137_245, e137_248, e137_249, e137_250, e137_253, e137_255, e137_257, e137_260, e137_261, e137_264, e137_265, e137_266, e137_269, e137_271, e137_274, e137_275, e137_277, e137_278, e137_281, e137_283, e137_286, e137_287, e137_289, e137_290, e137_293, e137_295, e137_298, e137_299, e137_301, e137_302, e137_305, e137_307, e137_310, e137_311, e137_313, e137_314, e137_317, e137_319, e137_320, e137_321, e137_324, e137_325, e137_327, e137_328, e137_331, e137_332, e137_334, e137_337, e137_338, e137_341, e137_342, e137_343, e137_345, e137_348, e137_349, e137_352, e137_353, e137_354, e137_357, e137_358, e137_360, e137_361, e137_364, e137_366, e137_369, e137_370, e137_372, e137_374, e137_377, e137_380, e137_381, e137_384, e137_385 (Or.inr rfl), Option.bind_some, Option.toList_some, Option.toList_none, List.cons_append, List.nil_append, true_or, or_true, and_true, true_and, i10, Bool.false_eq_true, if_true, if_false, reduceIte, el, a1, kn, k0, k1, k2, k3, k4, k6, kl, z0, z1, c12, p1, p2, c9.trans (eq_false v1), c10.trans (eq_false v2), nI_1, eq_self]
/-- acts answers 1 -/
theorem lw_acts (hC : CI H σ r e len k κ w m) (hW : WF σ e len k κ) : ∃ H1 σ' r' e' len' w' m', ev (d + 24) 137 0 [some (.ref 0), some (.int x), some (.int y), none, none, none, none, none, none, none, none, none, none] [] H = some (some (.int 1), H1) ∧ CO H H1 ∧ CI H1 σ' r' e' len' k κ w' m' ∧ WF σ' e' len' k κ ∧ CH σ r e len σ' r' e' len' := by
  have hn := hW.1.1
  have z0 := CI_z hC
  have f0 := ca_n0 (d := d + 3) hC hW
  have l24 := lw_low (d := d + 23) (H := H) (x := x) (n := 24) (by omega) (by omega)
  rw [show nI 24 = 24 from rfl] at l24
  have b24 : lwv x 24 < 24 := lwv_lt (by decide)
  have c6 : ((6 : Int32) ≤ nI (lwv x 24)) = (6 ≤ lwv x 24) := nI_lep (a := 6) (by omega) (by omega)
  have c20 : ((20 : Int32) ≤ nI (lwv x 24)) = (20 ≤ lwv x 24) := nI_lep (a := 20) (by omega) (by omega)
  have c14 : ((14 : Int32) ≤ nI (lwv x 24)) = (14 ≤ lwv x 24) := nI_lep (a := 14) (by omega) (by omega)
  have c16 : ((16 : Int32) ≤ nI (lwv x 24)) = (16 ≤ lwv x 24) := nI_lep (a := 16) (by omega) (by omega)
  have c18 : ((18 : Int32) ≤ nI (lwv x 24)) = (18 ≤ lwv x 24) := nI_lep (a := 18) (by omega) (by omega)
  by_cases q : 6 ≤ lwv x 24
  · have t1 : ev (d + 24) 137 0 [some (.ref 0), some (.int x), some (.int y), none, none, none, none, none, none, none, none, none, none] [] H = ev (d + 24) 137 386 [some (.ref 0), some (.int (x)), some (.int (y)), some (.int (nI (lwv x 24))), some (.int (nI σ.1)), none, none, none, none, none, none, none, none] [] H := by
      simp only [e137_0, e137_1, e137_3, e137_6, e137_7, e137_8, e137_9, e137_12, e137_14, e137_15, e137_17, Option.bind_some, Option.toList_some, Option.toList_none, List.cons_append, List.nil_append, true_or, or_true, and_true, true_and, i10, Bool.false_eq_true, if_true, if_false, reduceIte, l24, f0, z0, c6.trans (eq_true q)]
    rw [t1]
    by_cases q2 : 20 ≤ lwv x 24
    · obtain ⟨H1, σ', r', e', len', w', a1, a2, a3, a4, a5⟩ := lw_loads (d := d) (x := y) hC hW
      refine ⟨H1, σ', r', e', len', w', 0, ?_, a2, a3, a4, a5⟩
      simp only [e137_386, e137_387, e137_389, e137_392, e137_393, e137_394, e137_396, e137_399, e137_400, e137_403, e137_404, e137_406, e137_409, e137_410, e137_413, e137_414, e137_416, e137_419, e137_420, e137_423, e137_424, e137_425, e137_428, e137_431, e137_432, e137_433, e137_436 (Or.inr rfl), Option.bind_some, Option.toList_some, Option.toList_none, List.cons_append, List.nil_append, true_or, or_true, and_true, true_and, i10, Bool.false_eq_true, if_true, if_false, reduceIte, c20.trans (eq_true q2), a1]
    · have go : ∀ hw, hw ≤ 3 → ev (d + 24) 137 386 [some (.ref 0), some (.int (x)), some (.int (y)), some (.int (nI (lwv x 24))), some (.int (nI σ.1)), none, none, none, none, none, none, none, none] [] H = ev (d + 24) 137 424 [some (.ref 0), some (.int (x)), some (.int (y)), some (.int (nI (lwv x 24))), some (.int (nI σ.1)), none, none, none, none, none, none, none, none] [.int (nI hw), .ref 0] H → ∃ H1 σ' r' e' len' w' m', ev (d + 24) 137 386 [some (.ref 0), some (.int (x)), some (.int (y)), some (.int (nI (lwv x 24))), some (.int (nI σ.1)), none, none, none, none, none, none, none, none] [] H = some (some (.int 1), H1) ∧ CO H H1 ∧ CI H1 σ' r' e' len' k κ w' m' ∧ WF σ' e' len' k κ ∧ CH σ r e len σ' r' e' len' := by
        intro hw hh e1
        obtain ⟨H1, σ', r', e', len', a1, a2, a3, a4, a5⟩ := lw_deeds (d := d + 2) (y := y) hh hC hW
        refine ⟨H1, σ', r', e', len', w, m, ?_, a2, a3, a4, a5⟩
        rw [e1]
        simp only [e137_424, e137_425, e137_428, e137_431, e137_432, e137_433, e137_436 (Or.inr rfl), Option.bind_some, Option.toList_some, Option.toList_none, List.cons_append, List.nil_append, true_or, or_true, and_true, true_and, i10, Bool.false_eq_true, if_true, if_false, reduceIte, a1]
      by_cases q3 : 14 ≤ lwv x 24
      · by_cases q4 : 16 ≤ lwv x 24
        · by_cases q5 : 18 ≤ lwv x 24
          · refine go 3 (by omega) ?_
            simp only [e137_386, e137_387, e137_389, e137_392, e137_393, e137_394, e137_396, e137_399, e137_400, e137_403, e137_404, e137_406, e137_409, e137_410, e137_413, e137_414, e137_416, e137_419, e137_420, e137_423, Option.bind_some, Option.toList_some, Option.toList_none, List.cons_append, List.nil_append, true_or, or_true, and_true, true_and, i10, Bool.false_eq_true, if_true, if_false, reduceIte, c20.trans (eq_false q2), c14.trans (eq_true q3), c16.trans (eq_true q4), c18.trans (eq_true q5)]
            rfl
          · refine go 2 (by omega) ?_
            simp only [e137_386, e137_387, e137_389, e137_392, e137_393, e137_394, e137_396, e137_399, e137_400, e137_403, e137_404, e137_406, e137_409, e137_410, e137_413, e137_414, e137_416, e137_419, e137_420, e137_423, Option.bind_some, Option.toList_some, Option.toList_none, List.cons_append, List.nil_append, true_or, or_true, and_true, true_and, i10, Bool.false_eq_true, if_true, if_false, reduceIte, c20.trans (eq_false q2), c14.trans (eq_true q3), c16.trans (eq_true q4), c18.trans (eq_false q5)]
            rfl
        · refine go 1 (by omega) ?_
          simp only [e137_386, e137_387, e137_389, e137_392, e137_393, e137_394, e137_396, e137_399, e137_400, e137_403, e137_404, e137_406, e137_409, e137_410, e137_413, e137_414, e137_416, e137_419, e137_420, e137_423, Option.bind_some, Option.toList_some, Option.toList_none, List.cons_append, List.nil_append, true_or, or_true, and_true, true_and, i10, Bool.false_eq_true, if_true, if_false, reduceIte, c20.trans (eq_false q2), c14.trans (eq_true q3), c16.trans (eq_false q4)]
          rfl
      · refine go 0 (by omega) ?_
        simp only [e137_386, e137_387, e137_389, e137_392, e137_393, e137_394, e137_396, e137_399, e137_400, e137_403, e137_404, e137_406, e137_409, e137_410, e137_413, e137_414, e137_416, e137_419, e137_420, e137_423, Option.bind_some, Option.toList_some, Option.toList_none, List.cons_append, List.nil_append, true_or, or_true, and_true, true_and, i10, Bool.false_eq_true, if_true, if_false, reduceIte, c20.trans (eq_false q2), c14.trans (eq_false q3)]
        rfl
  · have b62 : lwv y 62 < 62 := lwv_lt (by decide)
    have l62 := lw_low (d := d + 23) (H := H) (x := y) (n := 62) (by omega) (by omega)
    rw [show nI 62 = 62 from rfl] at l62
    have t1 : ev (d + 24) 137 0 [some (.ref 0), some (.int x), some (.int y), none, none, none, none, none, none, none, none, none, none] [] H = ev (d + 24) 137 28 [some (.ref 0), some (.int (x)), some (.int (y)), some (.int (nI (lwv x 24))), some (.int (nI σ.1)), some (.int (nI (lwv y 62))), none, none, none, none, none, none, none] [] H := by
      simp only [e137_0, e137_1, e137_3, e137_6, e137_7, e137_8, e137_9, e137_12, e137_14, e137_15, e137_17, e137_20, e137_21, e137_23, e137_26, Option.bind_some, Option.toList_some, Option.toList_none, List.cons_append, List.nil_append, true_or, or_true, and_true, true_and, i10, Bool.false_eq_true, if_true, if_false, reduceIte, l24, l62, f0, z0, c6.trans (eq_false q)]
    obtain ⟨t, h1, h2, e1⟩ := ac_room (d := d) (H := H) (σ := σ) (x := x) (y := y) (s := lwv y 62) rfl
    obtain ⟨g, a, b, c, g1, g2, g3, g4, e2⟩ := ac_nums (d := d) (H := H) (σ := σ) (x := x) (y := y) (s := lwv y 62) (t := t)
    rw [t1, e1, e2, ac_bad b62 ⟨h1, h2⟩ g1 g2 g3 g4]
    exact ac_make b62 ⟨h1, h2⟩ g1 g2 g3 g4 hC hW
end ACTS
