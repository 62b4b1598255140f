/-! SIGNS APPENDED -/
theorem cod {x : Int32} (h1 : 33 ≤ x) (h2 : x ≤ 126) : ∃ k, 33 ≤ k ∧ k ≤ 126 ∧ x = nI k := by
  rcases zin_cases (c := x) (n := 127) (by decide) with ⟨q, -⟩ | ⟨-, q, -⟩ | ⟨k, hk, rfl⟩
  · have := Int32.le_iff_toInt_le.mp h1
    have e := Int32.lt_iff_toInt_lt.mp q
    have e1 : Int32.toInt 33 = 33 := by decide
    have e2 : Int32.toInt 0 = 0 := by decide
    omega
  · have := Int32.le_iff_toInt_le.mp h2
    have e := Int32.le_iff_toInt_le.mp q
    have e1 : Int32.toInt 126 = 126 := by decide
    have e2 : (nI 127).toInt = 127 := by decide
    omega
  · have a1 : 33 ≤ k := (nI_leI (a := 33) (by omega) (by omega)).mp h1
    exact ⟨k, a1, by omega, rfl⟩
def wap (w : Nat → Nat) (m k : Nat) : Nat → Nat := fun x => if x = m then k else w x
section PAD
variable {d : Nat} {h : zH} {i u : Nat} {P M : oS} {w : Nat → Nat} {m k : Nat}
theorem p_add (hP : pdR P w m) (hm : m < 80) (hk : k < 128) : ∃ P', pdR P' (wap w m k) (m + 1) ∧ ev d 33 0 [some (.ref u), some (.int (nI k))] [] (hpd h u P) = some (none, hpd h u P') := by
  obtain ⟨k1, k2, k3⟩ := hP
  have e1 : (nI m < (80 : Int32)) = True := (nI_ltp (b := 80) (by omega) (by omega)).trans (eq_true hm)
  have e2 : ((80 : Int32) ≤ nI m) = False := (nI_lep (a := 80) (by omega) (by omega)).trans (eq_false (by omega))
  refine ⟨setI (setR P 0 (upd (P.1 0) m (nI k))) 0 (nI (m + 1)), ⟨rfl, by omega, fun x hx => ?_⟩, ?_⟩
  · by_cases q : x = m
    · subst q
      refine ⟨by simp [setI, setR, upd, wap], by simp [wap]; exact hk⟩
    · obtain ⟨a1, a2⟩ := k3 x (by omega)
      refine ⟨by simp [setI, setR, upd, wap, q, a1], by simp [wap, q]; exact a2⟩
  · simp only [e33_0, e33_1, e33_4, e33_6, e33_9, e33_10, e33_13, e33_14, e33_17, e33_18, e33_19, e33_20, e33_21, e33_22, e33_25, e33_26, e33_27, e33_30, pd_g0, pd_g1, pd_p1, pd_l0, pd_s0, pd_is, Option.bind_some, Option.toList_some, Option.toList_none, List.cons_append, List.nil_append, true_or, or_true, and_true, true_and, i10, Bool.false_eq_true, if_true, if_false, reduceIte, k1, e1, e2, i2c_ok k hk, narc k hk, zin_T (show m < 80 by omega) (by decide), nI_clamp (show m < 2 ^ 31 by omega), setR_2, nI_1]
theorem p_empty : ev d 34 0 [some (.ref u)] [] (hpd h u P) = some (none, hpd h u (setI P 0 0)) := by
  simp only [e34_0, e34_1, e34_2, e34_5, pd_g0, pd_g1, pd_p1, pd_l0, pd_s0, pd_is, Option.bind_some, Option.toList_some, Option.toList_none, List.cons_append, List.nil_append, true_or, or_true, and_true, true_and, i10, Bool.false_eq_true, if_true, if_false, reduceIte]
end PAD
