/-! THE LOOKS, SIDE BY SIDE -/
/-- what a call of the class leaves alone -/
def CO (H H1 : zH) : Prop := sme H H1 ∧ ∀ j, 71 ≤ j → zg H1 j = zg H j
theorem CO_r {H : zH} : CO H H := ⟨sme_r H, fun _ _ => rfl⟩
theorem CO_t {H H1 H2 : zH} (a : CO H H1) (b : CO H1 H2) : CO H H2 := ⟨sme_t a.1 b.1, fun j hj => (b.2 j hj).trans (a.2 j hj)⟩
theorem CO_h {H : zH} {i : Nat} {l : List zC} (hl : i + l.length ≤ 71) : CO H (hrg H i l) := ⟨sme_hrg, fun j hj => hrg_out (Or.inr (by omega))⟩
def mfL (M M' : oS) : Prop := M'.1 0 = M.1 0 ∧ M'.1 2 = M.1 2 ∧ M'.1 3 = M.1 3 ∧ M'.1 4 = M.1 4 ∧ M'.2 0 = M.2 0 ∧ M'.2 1 = M.2 1 ∧ M'.2 2 = M.2 2
theorem mfL_r {M : oS} : mfL M M := ⟨rfl, rfl, rfl, rfl, rfl, rfl, rfl⟩
theorem mfL_10 {M : oS} {f : Nat → Int32} : mfL M (setR M 10 f) := ⟨rfl, rfl, rfl, rfl, rfl, rfl, rfl⟩
theorem mfL_c {M M' : oS} (h : mfC M M') : mfL M M' := ⟨h.1 0 (by decide) (by decide), h.1 2 (by decide) (by decide), h.1 3 (by decide) (by decide), h.1 4 (by decide) (by decide), h.2 0 (by decide) (by decide) (by decide) (by decide), h.2 1 (by decide) (by decide) (by decide) (by decide), h.2 2 (by decide) (by decide) (by decide) (by decide)⟩
theorem mfL_9 {M M' : oS} (h : mf9 0 M M') : mfL M M' := ⟨h.1 0 (by decide) (by decide) (by decide), h.1 2 (by decide) (by decide) (by decide), h.1 3 (by decide) (by decide) (by decide), h.1 4 (by decide) (by decide) (by decide), h.2.1 0 (by decide), h.2.1 1 (by decide), h.2.1 2 (by decide)⟩
section LOOKS
variable {d : Nat} {H H1 : zH} {σ : mS} {r : Int32} {e : Nat → mS × Int32} {len : Nat} {k : Bool} {κ : mS × Int32} {w : Nat → Nat} {m : Nat} {x y : Int32} {M M' : oS}
theorem c_isPl : ev d 124 0 [some (.int x)] [] H = some (some (.int (bI (zin x 4 = true))), H) := by
  rcases zin_cases (c := x) (n := 4) (by decide) with ⟨h1, h2⟩ | ⟨h1, h2, h3⟩ | ⟨q, hq, rfl⟩
  · rw [bI_f (by rw [h2]; decide)]
    simp only [e124_0, e124_1, e124_4, e124_5, e124_6, e124_9, e124_10, e124_13, e124_14, Option.bind_some, Option.toList_some, Option.toList_none, List.cons_append, List.nil_append, true_or, or_true, and_true, true_and, i10, Bool.false_eq_true, if_true, if_false, reduceIte, eq_true h1]
  · have h2' : (4 : Int32) ≤ x := h2
    rw [bI_f (by rw [h3]; decide)]
    simp only [e124_0, e124_1, e124_4, e124_5, e124_6, e124_9, e124_10, e124_13, e124_14, Option.bind_some, Option.toList_some, Option.toList_none, List.cons_append, List.nil_append, true_or, or_true, and_true, true_and, i10, Bool.false_eq_true, if_true, if_false, reduceIte, eq_false h1, eq_true h2']
  · rw [bI_t (zin_T hq (by decide)), x_isPlace hq]
theorem c_isW : ev d 125 0 [some (.int x)] [] H = some (some (.int (bI (0 ≤ x ∧ x ≤ 28))), H) := by
  by_cases h1 : x < 0
  · rw [bI_f (fun z => absurd z.1 (Int32.not_le.mpr h1))]
    simp only [e125_0, e125_1, e125_4, e125_5, e125_7, e125_10, e125_11, e125_14, e125_15, Option.bind_some, Option.toList_some, Option.toList_none, List.cons_append, List.nil_append, true_or, or_true, and_true, true_and, i10, Bool.false_eq_true, if_true, if_false, reduceIte, eq_true h1]
  · by_cases h2 : 28 < x
    · rw [bI_f (fun z => absurd z.2 (Int32.not_le.mpr h2))]
      simp only [e125_0, e125_1, e125_4, e125_5, e125_7, e125_10, e125_11, e125_14, e125_15, Option.bind_some, Option.toList_some, Option.toList_none, List.cons_append, List.nil_append, true_or, or_true, and_true, true_and, i10, Bool.false_eq_true, if_true, if_false, reduceIte, eq_false h1, eq_true h2]
    · rw [bI_t ⟨Int32.not_lt.mp h1, Int32.not_lt.mp h2⟩]
      simp only [e125_0, e125_1, e125_4, e125_5, e125_7, e125_10, e125_11, e125_14, e125_15, Option.bind_some, Option.toList_some, Option.toList_none, List.cons_append, List.nil_append, true_or, or_true, and_true, true_and, i10, Bool.false_eq_true, if_true, if_false, reduceIte, eq_false h1, eq_false h2]
/-- a look at the stock that is -/
theorem c_view {X S V : oS} (x1 : at_ H 0 (sxL 0 X)) (s1 : at_ H 1 (stL 1 S)) (v1 : at_ H 64 (vwL 64 V)) (hR : stR S σ) (hb : bnd σ) : ∃ V', vwR V' σ ∧ ev (d + 6) 122 0 [some (.ref 0)] [] H = some (some (.ref 64), hvw H 64 V') := by
  obtain ⟨V', a1, a2⟩ := v_look (d := d + 1) (h := H) (v := 64) (i := 1) (V := V) (S := S) hR hb (Or.inr (by omega))
  have e1 : hst (hvw H 64 V') 1 S = hvw H 64 V' := at_st (at_out s1 (Or.inl (Nat.le_of_ble_eq_true rfl)))
  rw [at_vw v1, at_st s1, e1] at a2
  have g8 : zgetf (hvw H 64 V') 0 7 8 = some (.ref 64) := cx_8 (at_out x1 (Or.inl (Nat.le_of_ble_eq_true rfl)))
  refine ⟨V', a1, ?_⟩
  simp only [e122_0, e122_1, e122_4, e122_5, e122_8, e122_11, e122_12, e122_15, Option.bind_some, Option.toList_some, Option.toList_none, List.cons_append, List.nil_append, true_or, or_true, and_true, true_and, i10, Bool.false_eq_true, if_true, if_false, reduceIte, cx_8 x1, cx_0 x1, cz_vw v1, a2, g8]
theorem CI_view (hC : CI H σ r e len k κ w m) (V' : oS) : CI (hvw H 64 V') σ r e len k κ w m := CI_vw hC (fun j _ a => hrg_out (by rw [vw_len]; omega)) ⟨V', at_new⟩
theorem CO_vw (V' : oS) : CO H (hvw H 64 V') := CO_h (Nat.le_of_ble_eq_true rfl)
end LOOKS
