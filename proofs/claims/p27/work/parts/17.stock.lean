/-! THE STOCK -/
theorem i10 : ((1 : Int32) = 0) = False := by decide
def bI (p : Prop) [Decidable p] : Int32 := if p then 1 else 0
theorem bI_01 (p : Prop) [Decidable p] : bI p = 0 ∨ bI p = 1 := by
  unfold bI
  by_cases h : p
  · rw [if_pos h]; exact Or.inr rfl
  · rw [if_neg h]; exact Or.inl rfl
theorem bI_t {p : Prop} [Decidable p] (h : p) : bI p = 1 := if_pos h
theorem bI_f {p : Prop} [Decidable p] (h : ¬ p) : bI p = 0 := if_neg h
theorem bI_0 {p : Prop} [Decidable p] : (bI p = 0) = ¬ p := by
  unfold bI
  by_cases h : p <;> simp [h]
theorem zin_cases {c : Int32} {n : Nat} (hn : n < 2 ^ 31) : (c < 0 ∧ zin c n = false) ∨ (¬ c < 0 ∧ nI n ≤ c ∧ zin c n = false) ∨ ∃ k, k < n ∧ c = nI k := by
  rcases pk_ix c hn with h | h | h
  · exact Or.inl ⟨h, by simp [zin, h]⟩
  · by_cases h0 : c < 0
    · exact Or.inl ⟨h0, by simp [zin, h0]⟩
    · refine Or.inr (Or.inl ⟨h0, h, ?_⟩)
      cases hz : zin c n with
      | false => rfl
      | true =>
        obtain ⟨k, hk, rfl⟩ := zin_some hn hz
        exact absurd h (nI_ge hk hn)
  · exact Or.inr (Or.inr h)
section STOCK
variable {d : Nat} {h : zH} {i : Nat} {S : oS} {n : Nat} {c : Int32}
theorem s_crates : ev d 38 0 [some (.ref i)] [] (hst h i S) = some (some (.int (S.2 0)), hst h i S) := by
  simp only [e38_0, e38_1, e38_4, st_g0, st_g1, st_g2, st_g3, st_g4, st_g5, st_g6, st_g7, st_p6, st_p7, st_l0, st_l1, st_l2, st_l3, st_l4, st_l5, st_s0, st_s1, st_s2, st_s3, st_s4, st_s5, st_is, Option.bind_some, Option.toList_some, Option.toList_none, List.cons_append, List.nil_append, true_or, or_true, and_true, true_and, i10, Bool.false_eq_true, if_true, if_false, reduceIte]
theorem s_refused : ev d 39 0 [some (.ref i)] [] (hst h i S) = some (some (.int (S.2 1)), hst h i S) := by
  simp only [e39_0, e39_1, e39_4, st_g0, st_g1, st_g2, st_g3, st_g4, st_g5, st_g6, st_g7, st_p6, st_p7, st_l0, st_l1, st_l2, st_l3, st_l4, st_l5, st_s0, st_s1, st_s2, st_s3, st_s4, st_s5, st_is, Option.bind_some, Option.toList_some, Option.toList_none, List.cons_append, List.nil_append, true_or, or_true, and_true, true_and, i10, Bool.false_eq_true, if_true, if_false, reduceIte]
theorem s_isCrate (hn : S.2 0 = nI n) (hn2 : n < 2 ^ 31) : ev d 37 0 [some (.ref i), some (.int c)] [] (hst h i S) = some (some (.int (bI (zin c n = true))), hst h i S) := by
  simp only [e37_0, e37_1, e37_4, e37_5, e37_6, e37_9, e37_12, e37_13, e37_16, e37_17, st_g0, st_g1, st_g2, st_g3, st_g4, st_g5, st_g6, st_g7, st_p6, st_p7, st_l0, st_l1, st_l2, st_l3, st_l4, st_l5, st_s0, st_s1, st_s2, st_s3, st_s4, st_s5, st_is, Option.bind_some, Option.toList_some, Option.toList_none, List.cons_append, List.nil_append, true_or, or_true, and_true, true_and, i10, Bool.false_eq_true, if_true, if_false, reduceIte, hn]
  rcases zin_cases (c := c) hn2 with ⟨h1, h2⟩ | ⟨h1, h2, h3⟩ | ⟨k, hk, rfl⟩
  · simp only [h1, h2, bI, Option.bind_some, Option.toList_some, Option.toList_none, List.cons_append, List.nil_append, true_or, or_true, and_true, true_and, i10, Bool.false_eq_true, if_true, if_false, reduceIte]
  · simp only [h1, h2, h3, bI, Option.bind_some, Option.toList_some, Option.toList_none, List.cons_append, List.nil_append, true_or, or_true, and_true, true_and, i10, Bool.false_eq_true, if_true, if_false, reduceIte]
  · rw [if_neg (nI_pos (by omega)), if_neg (nI_ge hk hn2), zin_nI (by omega), decide_eq_true hk]
    rfl
end STOCK
