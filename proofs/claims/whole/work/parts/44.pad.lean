/-! SIGNS APPENDED -/
theorem cod {x : Int32} (h1 : 33 ≤ x) (h2 : x ≤ 126) : ∃ k, 33 ≤ k ∧ k ≤ 126 ∧ x = nI k := by
  rcases zin_cases (c := x) (n := 127) (by decide) with ⟨q, -⟩ | ⟨-, q, -⟩ | ⟨k, hk, rfl⟩
  · have := Int32.le_iff_toInt_le.mp h1
    have e := Int32.lt_iff_toInt_lt.mp q
    have e1 : Int32.toInt 33 = 33 := by decide
    have e2 : Int32.toInt 0 = 0 := by decide
    omega
  · have := Int32.le_iff_toInt_le.mp h2
    have e := Int32.le_iff_toInt_le.mp q
    have e1 : Int32.toInt 126 = 126 := by decide
    have e2 : (nI 127).toInt = 127 := by decide
    omega
  · have a1 : 33 ≤ k := (nI_leI (a := 33) (by omega) (by omega)).mp h1
    exact ⟨k, a1, by omega, rfl⟩
def wap (w : Nat → Nat) (m k : Nat) : Nat → Nat := fun x => if x = m then k else w x
section PAD
variable {d : Nat} {h : zH} {i u : Nat} {P M : oS} {w : Nat → Nat} {m k : Nat}
theorem p_add (hP : pdR P w m) (hm : m < 80) (hk : k < 128) : ∃ P', pdR P' (wap w m k) (m + 1) ∧ ev d 33 0 [some (.ref u), some (.int (nI k))] [] (hpd h u P) = some (none, hpd h u P') := by
  obtain ⟨k1, k2, k3⟩ := hP
  have e1 : (nI m < (80 : Int32)) = True := (nI_ltp (b := 80) (by omega) (by omega)).trans (eq_true hm)
  have e2 : ((80 : Int32) ≤ nI m) = False := (nI_lep (a := 80) (by omega) (by omega)).trans (eq_false (by omega))
  refine ⟨setI (setR P 0 (upd (P.1 0) m (nI k))) 0 (nI (m + 1)), ⟨rfl, by omega, fun x hx => ?_⟩, ?_⟩
  · by_cases q : x = m
    · subst q
      refine ⟨by simp [setI, setR, upd, wap], by simp [wap]; exact hk⟩
    · obtain ⟨a1, a2⟩ := k3 x (by omega)
      refine ⟨by simp [setI, setR, upd, wap, q, a1], by simp [wap, q]; exact a2⟩
  · simp only [e33_0, e33_1, e33_4, e33_6, e33_9, e33_10, e33_13, e33_14, e33_17, e33_18, e33_19, e33_20, e33_21, e33_22, e33_25, e33_26, e33_27, e33_30, pd_g0, pd_g1, pd_p1, pd_l0, pd_s0, pd_is, Option.bind_some, Option.toList_some, Option.toList_none, List.cons_append, List.nil_append, true_or, or_true, and_true, true_and, i10, Bool.false_eq_true, if_true, if_false, reduceIte, k1, e1, e2, i2c_ok k hk, narc k hk, zin_T (show m < 80 by omega) (by decide), nI_clamp (show m < 2 ^ 31 by omega), setR_2, nI_1]
theorem p_empty : ev d 34 0 [some (.ref u)] [] (hpd h u P) = some (none, hpd h u (setI P 0 0)) := by
  simp only [e34_0, e34_1, e34_2, e34_5, pd_g0, pd_g1, pd_p1, pd_l0, pd_s0, pd_is, Option.bind_some, Option.toList_some, Option.toList_none, List.cons_append, List.nil_append, true_or, or_true, and_true, true_and, i10, Bool.false_eq_true, if_true, if_false, reduceIte]
theorem m_append {x : Int32} (hP : pmR M w m) : ∃ M' w' m', pmR M' w' m' ∧ (∀ r, r ≠ 4 → M'.1 r = M.1 r) ∧ (∀ r, r ≠ 2 → M'.2 r = M.2 r) ∧ (w' = w ∧ m' = m ∧ ¬ ((33 ≤ x ∧ x ≤ 126) ∧ m ≠ 80) ∨ ∃ k, k < 128 ∧ x = nI k ∧ (33 ≤ x ∧ x ≤ 126) ∧ m < 80 ∧ w' = wap w m k ∧ m' = m + 1) ∧ ev (d + 1) 163 0 [some (.ref i), some (.int x)] [] (hmd h i M) = some (some (.int (if ¬ (33 ≤ x ∧ x ≤ 126) then -1 else if m = 80 then -3 else nI (m + 1))), hmd h i M') := by
  have hP0 := hP
  obtain ⟨k1, k2, k3⟩ := hP
  have e1 : (nI m = 80) = (m = 80) := nI_eqp (b := 80) (by omega) (by omega)
  by_cases q : 33 ≤ x ∧ x ≤ 126
  · rw [if_neg (not_not_intro q)]
    have eb : bI ((33 : Int32) ≤ x ∧ x ≤ 126) = 1 := bI_t q
    by_cases z : m = 80
    · refine ⟨M, w, m, hP0, fun _ _ => rfl, fun _ _ => rfl, Or.inl ⟨rfl, rfl, fun y => y.2 z⟩, ?_⟩
      rw [if_pos z]
      simp only [e163_0, e163_1, e163_3, e163_5, e163_8, e163_11, e163_12, e163_13, e163_14, e163_17, e163_19, e163_22, e163_24, e163_25, e163_26, e163_29, e163_30, e163_33, e163_34, e163_35, e163_36, e163_37, e163_40, e163_41, e163_42, e163_45, e163_46, e163_49, md_g0, md_g1, md_g2, md_g3, md_g4, md_g5, md_g6, md_g7, md_g8, md_g9, md_g10, md_g11, md_g12, md_g13, md_g14, md_g15, md_g16, md_g17, md_g18, md_p3, md_p5, md_p7, md_p8, md_p9, md_p11, md_p13, md_p15, md_l0, md_l1, md_l2, md_l3, md_l4, md_l5, md_l6, md_l7, md_l8, md_l9, md_l10, md_s0, md_s1, md_s2, md_s3, md_s4, md_s5, md_s6, md_s7, md_s8, md_s9, md_s10, md_is, Option.bind_some, Option.toList_some, Option.toList_none, List.cons_append, List.nil_append, true_or, or_true, and_true, true_and, i10, Bool.false_eq_true, if_true, if_false, reduceIte, m_in, eb, k1, e1, eq_true z]
    · obtain ⟨k, a1, a2, rfl⟩ := cod q.1 q.2
      have hm : m < 80 := by omega
      refine ⟨setI (setR M 4 (upd (M.1 4) m (nI k))) 2 (nI (m + 1)), wap w m k, m + 1, ⟨rfl, by omega, fun y hy => ?_⟩, fun r hr => ?_, fun r hr => ?_, Or.inr ⟨k, by omega, rfl, q, hm, rfl, rfl⟩, ?_⟩
      · by_cases t : y = m
        · subst t
          refine ⟨by simp [setI, setR, upd, wap], ?_⟩
          simp only [wap, if_true]
          omega
        · have := k3 y (by omega)
          simp only [setI_1, setR_1, if_true, upd, wap, t, if_false]
          exact this
      · rw [setI_1, setR_1, if_neg hr]
      · rw [setI_2, if_neg hr, setR_2]
      · rw [if_neg z]
        have g1 : (setR M 4 (upd (M.1 4) m (nI k))).2 2 = nI m := k1
        have g2 : ∀ y, (setI (setR M 4 (upd (M.1 4) m (nI k))) 2 y).2 2 = y := fun _ => rfl
        simp only [e163_0, e163_1, e163_3, e163_5, e163_8, e163_11, e163_12, e163_13, e163_14, e163_17, e163_19, e163_22, e163_24, e163_25, e163_26, e163_29, e163_30, e163_33, e163_34, e163_35, e163_36, e163_37, e163_40, e163_41, e163_42, e163_45, e163_46, e163_49, md_g0, md_g1, md_g2, md_g3, md_g4, md_g5, md_g6, md_g7, md_g8, md_g9, md_g10, md_g11, md_g12, md_g13, md_g14, md_g15, md_g16, md_g17, md_g18, md_p3, md_p5, md_p7, md_p8, md_p9, md_p11, md_p13, md_p15, md_l0, md_l1, md_l2, md_l3, md_l4, md_l5, md_l6, md_l7, md_l8, md_l9, md_l10, md_s0, md_s1, md_s2, md_s3, md_s4, md_s5, md_s6, md_s7, md_s8, md_s9, md_s10, md_is, Option.bind_some, Option.toList_some, Option.toList_none, List.cons_append, List.nil_append, true_or, or_true, and_true, true_and, i10, Bool.false_eq_true, if_true, if_false, reduceIte, m_in, eb, k1, e1, eq_false z, zin_T (show m < 80 by omega) (by decide), nI_clamp (show m < 2 ^ 31 by omega), g1, g2, nI_1]
  · refine ⟨M, w, m, hP0, fun _ _ => rfl, fun _ _ => rfl, Or.inl ⟨rfl, rfl, fun y => q y.1⟩, ?_⟩
    rw [if_pos q]
    have eb : bI ((33 : Int32) ≤ x ∧ x ≤ 126) = 0 := bI_f q
    simp only [e163_0, e163_1, e163_3, e163_5, e163_8, e163_11, e163_12, e163_13, e163_14, e163_17, e163_19, e163_22, e163_24, e163_25, e163_26, e163_29, e163_30, e163_33, e163_34, e163_35, e163_36, e163_37, e163_40, e163_41, e163_42, e163_45, e163_46, e163_49, md_g0, md_g1, md_g2, md_g3, md_g4, md_g5, md_g6, md_g7, md_g8, md_g9, md_g10, md_g11, md_g12, md_g13, md_g14, md_g15, md_g16, md_g17, md_g18, md_p3, md_p5, md_p7, md_p8, md_p9, md_p11, md_p13, md_p15, md_l0, md_l1, md_l2, md_l3, md_l4, md_l5, md_l6, md_l7, md_l8, md_l9, md_l10, md_s0, md_s1, md_s2, md_s3, md_s4, md_s5, md_s6, md_s7, md_s8, md_s9, md_s10, md_is, Option.bind_some, Option.toList_some, Option.toList_none, List.cons_append, List.nil_append, true_or, or_true, and_true, true_and, i10, Bool.false_eq_true, if_true, if_false, reduceIte, m_in, eb]
theorem m_clear (hP : pmR M w m) : ev d 164 0 [some (.ref i), none] [] (hmd h i M) = some (some (.int (nI m)), hmd h i (setI M 2 0)) := by
  simp only [e164_0, e164_1, e164_4, e164_5, e164_6, e164_7, e164_10, e164_11, md_g0, md_g1, md_g2, md_g3, md_g4, md_g5, md_g6, md_g7, md_g8, md_g9, md_g10, md_g11, md_g12, md_g13, md_g14, md_g15, md_g16, md_g17, md_g18, md_p3, md_p5, md_p7, md_p8, md_p9, md_p11, md_p13, md_p15, md_l0, md_l1, md_l2, md_l3, md_l4, md_l5, md_l6, md_l7, md_l8, md_l9, md_l10, md_s0, md_s1, md_s2, md_s3, md_s4, md_s5, md_s6, md_s7, md_s8, md_s9, md_s10, md_is, Option.bind_some, Option.toList_some, Option.toList_none, List.cons_append, List.nil_append, true_or, or_true, and_true, true_and, i10, Bool.false_eq_true, if_true, if_false, reduceIte, hP.1]
end PAD
