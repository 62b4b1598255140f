section STOCK
variable {d : Nat} {h : zH} {i : Nat} {S : oS} {σ : mS} {c : Nat}
theorem s_zi {n : Nat} (hc : c < n) (hn : n < 2 ^ 31) : bI (zin (nI c) n = true) = 1 := bI_t (by rw [zin_nI (by omega)]; exact decide_eq_true hc)
theorem s_sizeOf (hR : stR S σ) (hb : bnd σ) (hc : c < σ.1) : ev (d + 1) 40 0 [some (.ref i), some (.int (nI c))] [] (hst h i S) = some (some (.int (nI (σ.2 c 0))), hst h i S) := by
  have hn := hb.1
  obtain ⟨h0, h1⟩ := hR
  obtain ⟨a0, a1, a2, a3, a4, a5⟩ := h1 c hc
  have hz := s_zi hc (show σ.1 < 2 ^ 31 by omega)
  simp only [e40_0, e40_1, e40_2, e40_5, e40_8, e40_9, e40_12, e40_13, e40_14, e40_17, e40_18, st_g0, st_g1, st_g2, st_g3, st_g4, st_g5, st_g6, st_g7, st_p6, st_p7, st_l0, st_l1, st_l2, st_l3, st_l4, st_l5, st_s0, st_s1, st_s2, st_s3, st_s4, st_s5, st_is, Option.bind_some, Option.toList_some, Option.toList_none, List.cons_append, List.nil_append, true_or, or_true, and_true, true_and, i10, Bool.false_eq_true, if_true, if_false, reduceIte, s_isCrate h0 (show σ.1 < 2 ^ 31 by omega), hz, zrd_nI (show c < 12 by omega) (by decide), a0]
theorem s_roomOf (hR : stR S σ) (hb : bnd σ) (hc : c < σ.1) : ev (d + 1) 41 0 [some (.ref i), some (.int (nI c))] [] (hst h i S) = some (some (.int (nI (σ.2 c 1))), hst h i S) := by
  have hn := hb.1
  obtain ⟨h0, h1⟩ := hR
  obtain ⟨a0, a1, a2, a3, a4, a5⟩ := h1 c hc
  have hz := s_zi hc (show σ.1 < 2 ^ 31 by omega)
  simp only [e41_0, e41_1, e41_2, e41_5, e41_8, e41_9, e41_12, e41_13, e41_14, e41_17, e41_18, st_g0, st_g1, st_g2, st_g3, st_g4, st_g5, st_g6, st_g7, st_p6, st_p7, st_l0, st_l1, st_l2, st_l3, st_l4, st_l5, st_s0, st_s1, st_s2, st_s3, st_s4, st_s5, st_is, Option.bind_some, Option.toList_some, Option.toList_none, List.cons_append, List.nil_append, true_or, or_true, and_true, true_and, i10, Bool.false_eq_true, if_true, if_false, reduceIte, s_isCrate h0 (show σ.1 < 2 ^ 31 by omega), hz, zrd_nI (show c < 12 by omega) (by decide), a1]
theorem s_gapsOf (hR : stR S σ) (hb : bnd σ) (hc : c < σ.1) : ev (d + 1) 42 0 [some (.ref i), some (.int (nI c))] [] (hst h i S) = some (some (.int (nI (σ.2 c 2))), hst h i S) := by
  have hn := hb.1
  obtain ⟨h0, h1⟩ := hR
  obtain ⟨a0, a1, a2, a3, a4, a5⟩ := h1 c hc
  have hz := s_zi hc (show σ.1 < 2 ^ 31 by omega)
  simp only [e42_0, e42_1, e42_2, e42_5, e42_8, e42_9, e42_12, e42_13, e42_14, e42_17, e42_18, st_g0, st_g1, st_g2, st_g3, st_g4, st_g5, st_g6, st_g7, st_p6, st_p7, st_l0, st_l1, st_l2, st_l3, st_l4, st_l5, st_s0, st_s1, st_s2, st_s3, st_s4, st_s5, st_is, Option.bind_some, Option.toList_some, Option.toList_none, List.cons_append, List.nil_append, true_or, or_true, and_true, true_and, i10, Bool.false_eq_true, if_true, if_false, reduceIte, s_isCrate h0 (show σ.1 < 2 ^ 31 by omega), hz, zrd_nI (show c < 12 by omega) (by decide), a2]
theorem s_holderOf (hR : stR S σ) (hb : bnd σ) (hc : c < σ.1) : ev (d + 1) 43 0 [some (.ref i), some (.int (nI c))] [] (hst h i S) = some (some (.int (hI (σ.2 c 7))), hst h i S) := by
  have hn := hb.1
  obtain ⟨h0, h1⟩ := hR
  obtain ⟨a0, a1, a2, a3, a4, a5⟩ := h1 c hc
  have hz := s_zi hc (show σ.1 < 2 ^ 31 by omega)
  simp only [e43_0, e43_1, e43_2, e43_5, e43_8, e43_9, e43_12, e43_13, e43_14, e43_17, e43_18, st_g0, st_g1, st_g2, st_g3, st_g4, st_g5, st_g6, st_g7, st_p6, st_p7, st_l0, st_l1, st_l2, st_l3, st_l4, st_l5, st_s0, st_s1, st_s2, st_s3, st_s4, st_s5, st_is, Option.bind_some, Option.toList_some, Option.toList_none, List.cons_append, List.nil_append, true_or, or_true, and_true, true_and, i10, Bool.false_eq_true, if_true, if_false, reduceIte, s_isCrate h0 (show σ.1 < 2 ^ 31 by omega), hz, zrd_nI (show c < 12 by omega) (by decide), a4]
theorem s_placeOf (hR : stR S σ) (hb : bnd σ) (hc : c < σ.1) : ev (d + 1) 44 0 [some (.ref i), some (.int (nI c))] [] (hst h i S) = some (some (.int (nI (σ.2 c 8))), hst h i S) := by
  have hn := hb.1
  obtain ⟨h0, h1⟩ := hR
  obtain ⟨a0, a1, a2, a3, a4, a5⟩ := h1 c hc
  have hz := s_zi hc (show σ.1 < 2 ^ 31 by omega)
  simp only [e44_0, e44_1, e44_2, e44_5, e44_8, e44_9, e44_12, e44_13, e44_14, e44_17, e44_18, st_g0, st_g1, st_g2, st_g3, st_g4, st_g5, st_g6, st_g7, st_p6, st_p7, st_l0, st_l1, st_l2, st_l3, st_l4, st_l5, st_s0, st_s1, st_s2, st_s3, st_s4, st_s5, st_is, Option.bind_some, Option.toList_some, Option.toList_none, List.cons_append, List.nil_append, true_or, or_true, and_true, true_and, i10, Bool.false_eq_true, if_true, if_false, reduceIte, s_isCrate h0 (show σ.1 < 2 ^ 31 by omega), hz, zrd_nI (show c < 12 by omega) (by decide), a5]
theorem s_isOnGround (hR : stR S σ) (hb : bnd σ) (hc : c < σ.1) : ev (d + 2) 47 0 [some (.ref i), some (.int (nI c))] [] (hst h i S) = some (some (.int (bI (σ.2 c 7 = 0))), hst h i S) := by
  have hn := hb.1
  have h7 := (hb.2 c hc).2.2.2.2.1
  simp only [e47_0, e47_1, e47_2, e47_5, e47_6, e47_9, e47_10, e47_13, e47_14, st_g0, st_g1, st_g2, st_g3, st_g4, st_g5, st_g6, st_g7, st_p6, st_p7, st_l0, st_l1, st_l2, st_l3, st_l4, st_l5, st_s0, st_s1, st_s2, st_s3, st_s4, st_s5, st_is, Option.bind_some, Option.toList_some, Option.toList_none, List.cons_append, List.nil_append, true_or, or_true, and_true, true_and, i10, Bool.false_eq_true, if_true, if_false, reduceIte, s_holderOf hR hb hc, hI_m1 (show σ.2 c 7 < 2147483648 by omega)]
  by_cases q : σ.2 c 7 = 0 <;> simp only [q, bI, Option.bind_some, Option.toList_some, Option.toList_none, List.cons_append, List.nil_append, true_or, or_true, and_true, true_and, i10, Bool.false_eq_true, if_true, if_false, reduceIte]
theorem s_pileOf (hR : stR S σ) (hb : bnd σ) (hc : c < σ.1) : ev d 50 0 [some (.ref i), some (.int (nI c)), none, none] [] (hst h i S) = some (some (.int (nI (pil σ c))), hst h i S) := by
  have hn := hb.1
  obtain ⟨h0, h1⟩ := hR
  have step : ∀ (k s : Nat), k < σ.1 → ev d 50 4 [some (.ref i), some (.int (nI c)), some (.int (nI s)), some (.int (nI k))] [] (hst h i S) = ev d 50 4 [some (.ref i), some (.int (nI c)), some (.int (nI (s + if decide (σ.2 k 7 = c + 1) then 1 else 0))), some (.int (nI (k + 1)))] [] (hst h i S) := by
    intro k s hk
    obtain ⟨a0, a1, a2, a3, a4, a5⟩ := h1 k hk
    have h7 := (hb.2 k hk).2.2.2.2.1
    have hm : ¬ nI c = -1 := by
      intro e
      have := congrArg Int32.toInt e
      rw [nI_toInt (by omega)] at this
      have e1 : Int32.toInt (-1) = -1 := by decide
      omega
    rw [e50_4]
    simp only [e50_0, e50_1, e50_2, e50_3, e50_5, e50_6, e50_9, e50_12, e50_13, e50_14, e50_17, e50_18, e50_21, e50_22, e50_23, e50_24, e50_27, e50_30, e50_33, e50_36, e50_37, st_g0, st_g1, st_g2, st_g3, st_g4, st_g5, st_g6, st_g7, st_p6, st_p7, st_l0, st_l1, st_l2, st_l3, st_l4, st_l5, st_s0, st_s1, st_s2, st_s3, st_s4, st_s5, st_is, Option.bind_some, Option.toList_some, Option.toList_none, List.cons_append, List.nil_append, true_or, or_true, and_true, true_and, i10, Bool.false_eq_true, if_true, if_false, reduceIte, h0, nI_lep (show σ.1 < 2147483648 by omega) (show k < 2147483648 by omega), hm, zrd_nI (show k < 12 by omega) (by decide), a4, hI_eq (show σ.2 k 7 < 2147483648 by omega) (show c < 2147483648 by omega), nI_1]
    rw [if_neg (by omega)]
    by_cases q : σ.2 k 7 = c + 1
    · simp [q]
    · simp [q]
  have fin : ∀ s : Nat, ev d 50 4 [some (.ref i), some (.int (nI c)), some (.int (nI s)), some (.int (nI σ.1))] [] (hst h i S) = some (some (.int (nI s)), hst h i S) := by
    intro s
    rw [e50_4]
    simp only [e50_0, e50_1, e50_2, e50_3, e50_5, e50_6, e50_9, e50_12, e50_13, e50_14, e50_17, e50_18, e50_21, e50_22, e50_23, e50_24, e50_27, e50_30, e50_33, e50_36, e50_37, st_g0, st_g1, st_g2, st_g3, st_g4, st_g5, st_g6, st_g7, st_p6, st_p7, st_l0, st_l1, st_l2, st_l3, st_l4, st_l5, st_s0, st_s1, st_s2, st_s3, st_s4, st_s5, st_is, Option.bind_some, Option.toList_some, Option.toList_none, List.cons_append, List.nil_append, true_or, or_true, and_true, true_and, i10, Bool.false_eq_true, if_true, if_false, reduceIte, h0]
    rw [if_pos (Int32.le_refl _)]
  simp only [e50_0, e50_1, e50_2, e50_3, e50_5, e50_6, e50_9, e50_12, e50_13, e50_14, e50_17, e50_18, e50_21, e50_22, e50_23, e50_24, e50_27, e50_30, e50_33, e50_36, e50_37, st_g0, st_g1, st_g2, st_g3, st_g4, st_g5, st_g6, st_g7, st_p6, st_p7, st_l0, st_l1, st_l2, st_l3, st_l4, st_l5, st_s0, st_s1, st_s2, st_s3, st_s4, st_s5, st_is, Option.bind_some, Option.toList_some, Option.toList_none, List.cons_append, List.nil_append, true_or, or_true, and_true, true_and, i10, Bool.false_eq_true, if_true, if_false, reduceIte]
  have main := z_for (fun k s => ev d 50 4 [some (.ref i), some (.int (nI c)), some (.int (nI s)), some (.int (nI k))] [] (hst h i S)) (fun k s => s + if decide (σ.2 k 7 = c + 1) then 1 else 0) (n := σ.1) (s := 0) (fun k s hk => step k s hk)
  rw [zfold_ct, fin, Nat.zero_add] at main
  exact main
end STOCK
