/-! WHETHER A NUMBER IS A LABEL -/
def lbo : Nat → Nat → Bool
  | 0, _ => true
  | f + 1, r => (decide (0 < r % 27) || decide (r = 0)) && lbo f (r / 27)
theorem lbo_0 : ∀ f, lbo f 0 = true
  | 0 => rfl
  | f + 1 => by
    rw [lbo]
    simpa using lbo_0 f
def lbk (x : Int32) : Bool := decide ((1 : Int32) ≤ x ∧ x ≤ 531440) && lbo 4 x.toNatClampNeg
theorem labn {x : Int32} (h1 : 1 ≤ x) (h2 : x ≤ 531440) : ∃ k, 1 ≤ k ∧ k ≤ 531440 ∧ x = nI k := by
  rcases zin_cases (c := x) (n := 531441) (by decide) with ⟨q, -⟩ | ⟨-, q, -⟩ | ⟨k, hk, rfl⟩
  · have := Int32.le_iff_toInt_le.mp h1
    have e := Int32.lt_iff_toInt_lt.mp q
    have e1 : Int32.toInt 1 = 1 := by decide
    have e2 : Int32.toInt 0 = 0 := by decide
    omega
  · have := Int32.le_iff_toInt_le.mp h2
    have e := Int32.le_iff_toInt_le.mp q
    have e1 : Int32.toInt 531440 = 531440 := by decide
    have e2 : (nI 531441).toInt = 531441 := by decide
    omega
  · have a1 : 1 ≤ k := (nI_leI (a := 1) (by omega) (by omega)).mp h1
    exact ⟨k, a1, by omega, rfl⟩
section LABEL
variable {d : Nat} {h : zH}
theorem c_isLabel {x : Int32} : ev d 126 0 [some (.int x), none, none] [] h = some (some (.int (bI (lbk x = true))), h) := by
  have h27 : ¬ ((27 : Int32) = 0) := by decide
  by_cases q : (1 : Int32) ≤ x ∧ x ≤ 531440
  · obtain ⟨k, k1, k2, rfl⟩ := labn q.1 q.2
    have main : ∀ (f p r : Nat), p + f = 4 → r ≤ 531440 → ev d 126 18 [some (.int (nI k)), some (.int (nI r)), some (.int (nI p))] [] h = some (some (.int (bI (lbo f r = true))), h) := by
      intro f
      induction f with
      | zero =>
        intro p r hp hr
        have hp : p = 4 := by omega
        subst hp
        rw [e126_18, bI_t (show lbo 0 r = true from rfl)]
        simp only [e126_0, e126_1, e126_2, e126_5, e126_6, e126_9, e126_12, e126_13, e126_14, e126_15, e126_16, e126_17, e126_19, e126_20, e126_23, e126_24, e126_27, e126_28, e126_31, e126_34, e126_35, e126_36, e126_37, e126_40, e126_41, e126_44, e126_47, e126_48, Option.bind_some, Option.toList_some, Option.toList_none, List.cons_append, List.nil_append, true_or, or_true, and_true, true_and, i10, Bool.false_eq_true, if_true, if_false, reduceIte, show ((4 : Int32) ≤ nI 4) = True by decide]
      | succ f ih =>
        intro p r hp hr
        have e1 : ((4 : Int32) ≤ nI p) = False := (nI_lep (a := 4) (by omega) (by omega)).trans (eq_false (by omega))
        have e2 : (nI r ≤ 0) = (r ≤ 0) := nI_lep (b := 0) (by omega) (by omega)
        have e3 : (nI (r % 27) = 0) = (r % 27 = 0) := nI_eqp (b := 0) (by omega) (by omega)
        rw [e126_18, lbo]
        by_cases z : r = 0
        · subst z
          rw [bI_t (by simpa using lbo_0 f)]
          simp only [e126_0, e126_1, e126_2, e126_5, e126_6, e126_9, e126_12, e126_13, e126_14, e126_15, e126_16, e126_17, e126_19, e126_20, e126_23, e126_24, e126_27, e126_28, e126_31, e126_34, e126_35, e126_36, e126_37, e126_40, e126_41, e126_44, e126_47, e126_48, Option.bind_some, Option.toList_some, Option.toList_none, List.cons_append, List.nil_append, true_or, or_true, and_true, true_and, i10, Bool.false_eq_true, if_true, if_false, reduceIte, e1, e2, Nat.le_refl]
        · have hi := ih (p + 1) (r / 27) (by omega) (by omega)
          by_cases y : r % 27 = 0
          · rw [bI_f (by simp [z, y])]
            simp only [e126_0, e126_1, e126_2, e126_5, e126_6, e126_9, e126_12, e126_13, e126_14, e126_15, e126_16, e126_17, e126_19, e126_20, e126_23, e126_24, e126_27, e126_28, e126_31, e126_34, e126_35, e126_36, e126_37, e126_40, e126_41, e126_44, e126_47, e126_48, e126_30 h27, Option.bind_some, Option.toList_some, Option.toList_none, List.cons_append, List.nil_append, true_or, or_true, and_true, true_and, i10, Bool.false_eq_true, if_true, if_false, reduceIte, e1, e2, eq_false (show ¬ r ≤ 0 by omega), nI_div27 (show r < 2 ^ 31 by omega), nI_rem27 (show r < 2 ^ 31 by omega), e3, eq_true y]
          · have hy : 0 < r % 27 := by omega
            simp only [e126_0, e126_1, e126_2, e126_5, e126_6, e126_9, e126_12, e126_13, e126_14, e126_15, e126_16, e126_17, e126_19, e126_20, e126_23, e126_24, e126_27, e126_28, e126_31, e126_34, e126_35, e126_36, e126_37, e126_40, e126_41, e126_44, e126_47, e126_48, e126_30 h27, e126_39 h27, Option.bind_some, Option.toList_some, Option.toList_none, List.cons_append, List.nil_append, true_or, or_true, and_true, true_and, i10, Bool.false_eq_true, if_true, if_false, reduceIte, e1, e2, eq_false (show ¬ r ≤ 0 by omega), nI_div27 (show r < 2 ^ 31 by omega), nI_rem27 (show r < 2 ^ 31 by omega), e3, eq_false y, nI_1, hi]
            simp [hy]
    have e5 : (nI k < 1) = False := eq_false (Int32.not_lt.mpr q.1)
    have e6 : (nI k ≤ 531440) = True := eq_true q.2
    have e7 : ((531440 : Int32) < nI k) = False := eq_false (Int32.not_lt.mpr q.2)
    have hl : lbk (nI k) = lbo 4 k := by
      unfold lbk
      rw [decide_eq_true q, nI_clamp (by omega), Bool.true_and]
    rw [hl]
    simp only [e126_0, e126_1, e126_2, e126_5, e126_6, e126_9, e126_12, e126_13, e126_14, e126_15, e126_16, e126_17, e126_19, e126_20, e126_23, e126_24, e126_27, e126_28, e126_31, e126_34, e126_35, e126_36, e126_37, e126_40, e126_41, e126_44, e126_47, e126_48, Option.bind_some, Option.toList_some, Option.toList_none, List.cons_append, List.nil_append, true_or, or_true, and_true, true_and, i10, Bool.false_eq_true, if_true, if_false, reduceIte, e5, e6, e7]
    exact main 4 0 k (by omega) k2
  · have hl : lbk x = false := by
      unfold lbk
      rw [decide_eq_false q, Bool.false_and]
    rw [hl, bI_f Bool.false_ne_true]
    by_cases z : x < 1
    · simp only [e126_0, e126_1, e126_2, e126_5, e126_6, e126_9, e126_12, e126_13, e126_14, e126_15, e126_16, e126_17, e126_19, e126_20, e126_23, e126_24, e126_27, e126_28, e126_31, e126_34, e126_35, e126_36, e126_37, e126_40, e126_41, e126_44, e126_47, e126_48, Option.bind_some, Option.toList_some, Option.toList_none, List.cons_append, List.nil_append, true_or, or_true, and_true, true_and, i10, Bool.false_eq_true, if_true, if_false, reduceIte, eq_true z]
    · have z2 : ¬ x ≤ 531440 := fun y => q ⟨Int32.not_lt.mp z, y⟩
      have z3 : (531440 : Int32) < x := Int32.not_le.mp z2
      simp only [e126_0, e126_1, e126_2, e126_5, e126_6, e126_9, e126_12, e126_13, e126_14, e126_15, e126_16, e126_17, e126_19, e126_20, e126_23, e126_24, e126_27, e126_28, e126_31, e126_34, e126_35, e126_36, e126_37, e126_40, e126_41, e126_44, e126_47, e126_48, Option.bind_some, Option.toList_some, Option.toList_none, List.cons_append, List.nil_append, true_or, or_true, and_true, true_and, i10, Bool.false_eq_true, if_true, if_false, reduceIte, eq_false z, eq_false z2, eq_true z3]
end LABEL
