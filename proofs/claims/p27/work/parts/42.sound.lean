/-! WHETHER ALL THAT WAS READ FITS -/
def sou (τ : mS) : Bool := alb (fun c => decide (τ.2 c 1 < τ.2 c 0) && decide (0 ≤ lft τ c)) τ.1
/-- what the reference has read: row 5, crates of nine -/
def rwR (M : oS) (τ : mS) : Prop := M.2 5 = nI τ.1 ∧ ∀ c, c < τ.1 → ∀ j, j < 9 → M.1 5 (9 * c + j) = nI (τ.2 c j)
section SOUND
variable {d : Nat} {h : zH} {i : Nat} {S M : oS} {σ τ : mS}
theorem s_isSound (hR : stR S σ) (hb : bnd σ) : ev (d + 3) 67 0 [some (.ref i), none] [] (hst h i S) = some (some (.int (bI (sou σ = true))), hst h i S) := by
  have hn := hb.1
  have h0 := hR.1
  simp only [e67_0, e67_1, e67_3, e67_4, e67_7, e67_10, e67_11, e67_14, e67_15, e67_16, e67_17, e67_20, e67_21, e67_22, e67_25, e67_26, e67_27, e67_30, e67_33, e67_34, e67_35, e67_38, e67_41, e67_42, st_g0, st_g1, st_g2, st_g3, st_g4, st_g5, st_g6, st_g7, st_p6, st_p7, st_l0, st_l1, st_l2, st_l3, st_l4, st_l5, st_s0, st_s1, st_s2, st_s3, st_s4, st_s5, st_is, Option.bind_some, Option.toList_some, Option.toList_none, List.cons_append, List.nil_append, true_or, or_true, and_true, true_and, i10, Bool.false_eq_true, if_true, if_false, reduceIte]
  have main := z_first (fun k => ev (d + 3) 67 2 [some (.ref i), some (.int (nI k))] [] (hst h i S)) (fun _ => some (some (.int 0), hst h i S)) (fun k => (decide (σ.2 k 1 < σ.2 k 0) && decide (0 ≤ lft σ k)) = false) (n := σ.1) (fun k hk => by
    have hlt : (σ.1 ≤ k) = False := eq_false (by omega)
    obtain ⟨g0, g1, -, -, -, -⟩ := hR.2 k hk
    have b0 := (hb.2 k hk).1
    have b1 := (hb.2 k hk).2.1
    have hl := lft_b hb hk
    have e1 : (0 ≤ iI (lft σ k)) = (0 ≤ lft σ k) := iI_le (a := 0) (by omega) (by omega)
    have e2 : (iI (lft σ k) < 0) = (lft σ k < 0) := iI_lt (b := 0) (by omega) (by omega)
    rw [e67_2]
    simp only [e67_0, e67_1, e67_3, e67_4, e67_7, e67_10, e67_11, e67_14, e67_15, e67_16, e67_17, e67_20, e67_21, e67_22, e67_25, e67_26, e67_27, e67_30, e67_33, e67_34, e67_35, e67_38, e67_41, e67_42, st_g0, st_g1, st_g2, st_g3, st_g4, st_g5, st_g6, st_g7, st_p6, st_p7, st_l0, st_l1, st_l2, st_l3, st_l4, st_l5, st_s0, st_s1, st_s2, st_s3, st_s4, st_s5, st_is, Option.bind_some, Option.toList_some, Option.toList_none, List.cons_append, List.nil_append, true_or, or_true, and_true, true_and, i10, Bool.false_eq_true, if_true, if_false, reduceIte, h0, nI_lep (show σ.1 < 2147483648 by omega) (show k < 2147483648 by omega), hlt, nI_1, zrd_nI (show k < 12 by omega) (show 12 < 2147483648 by omega), g0, g1, nI_lep (show σ.2 k 0 < 2147483648 by omega) (show σ.2 k 1 < 2147483648 by omega), s_roomLeftIn hR hb hk, e1, e2]
    by_cases q1 : σ.2 k 0 ≤ σ.2 k 1
    · have q1' : ¬ σ.2 k 1 < σ.2 k 0 := by omega
      simp [q1, q1']
    · have q1' : σ.2 k 1 < σ.2 k 0 := by omega
      by_cases q2 : 0 ≤ lft σ k
      · have q2' : ¬ lft σ k < 0 := by omega
        simp [q1, q1', q2, q2']
      · have q2' : lft σ k < 0 := by omega
        simp [q1, q1', q2, q2'])
  rcases main with ⟨k, k1, k2, -, k4⟩ | ⟨k1, k2⟩
  · have : sou σ ≠ true := fun z => by
      have := alb_iff.mp z k k1
      rw [k2] at this
      cases this
    rw [bI_f this]
    exact k4
  · have : sou σ = true := alb_iff.mpr (fun k hk => by
      cases q : (decide (σ.2 k 1 < σ.2 k 0) && decide (0 ≤ lft σ k)) with
      | true => rfl
      | false => exact absurd q (k1 k hk))
    rw [bI_t this]
    refine k2.trans ?_
    show ev (d + 3) 67 2 _ _ _ = _
    rw [e67_2]
    simp only [e67_0, e67_1, e67_3, e67_4, e67_7, e67_10, e67_11, e67_14, e67_15, e67_16, e67_17, e67_20, e67_21, e67_22, e67_25, e67_26, e67_27, e67_30, e67_33, e67_34, e67_35, e67_38, e67_41, e67_42, st_g0, st_g1, st_g2, st_g3, st_g4, st_g5, st_g6, st_g7, st_p6, st_p7, st_l0, st_l1, st_l2, st_l3, st_l4, st_l5, st_s0, st_s1, st_s2, st_s3, st_s4, st_s5, st_is, Option.bind_some, Option.toList_some, Option.toList_none, List.cons_append, List.nil_append, true_or, or_true, and_true, true_and, i10, Bool.false_eq_true, if_true, if_false, reduceIte, h0, Int32.le_refl]
theorem r9 (c j : Nat) : (9 : Int32) * nI c + nI j = nI (9 * c + j) := by
  rw [show (9 : Int32) = nI 9 from rfl, pk_mul, nI_add]
end SOUND
