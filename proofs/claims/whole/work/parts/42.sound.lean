/-! WHETHER ALL THAT WAS READ FITS -/
def sou (τ : mS) : Bool := alb (fun c => decide (τ.2 c 1 < τ.2 c 0) && decide (0 ≤ lft τ c)) τ.1
/-- what the reference has read: row 5, crates of nine -/
def rwR (M : oS) (τ : mS) : Prop := M.2 5 = nI τ.1 ∧ ∀ c, c < τ.1 → ∀ j, j < 9 → M.1 5 (9 * c + j) = nI (τ.2 c j)
section SOUND
variable {d : Nat} {h : zH} {i : Nat} {S M : oS} {σ τ : mS}
theorem s_isSound (hR : stR S σ) (hb : bnd σ) : ev (d + 3) 67 0 [some (.ref i), none] [] (hst h i S) = some (some (.int (bI (sou σ = true))), hst h i S) := by
  have hn := hb.1
  have h0 := hR.1
  simp only [e67_0, e67_1, e67_3, e67_4, e67_7, e67_10, e67_11, e67_14, e67_15, e67_16, e67_17, e67_20, e67_21, e67_22, e67_25, e67_26, e67_27, e67_30, e67_33, e67_34, e67_35, e67_38, e67_41, e67_42, st_g0, st_g1, st_g2, st_g3, st_g4, st_g5, st_g6, st_g7, st_p6, st_p7, st_l0, st_l1, st_l2, st_l3, st_l4, st_l5, st_s0, st_s1, st_s2, st_s3, st_s4, st_s5, st_is, Option.bind_some, Option.toList_some, Option.toList_none, List.cons_append, List.nil_append, true_or, or_true, and_true, true_and, i10, Bool.false_eq_true, if_true, if_false, reduceIte]
  have main := z_first (fun k => ev (d + 3) 67 2 [some (.ref i), some (.int (nI k))] [] (hst h i S)) (fun _ => some (some (.int 0), hst h i S)) (fun k => (decide (σ.2 k 1 < σ.2 k 0) && decide (0 ≤ lft σ k)) = false) (n := σ.1) (fun k hk => by
    have hlt : (σ.1 ≤ k) = False := eq_false (by omega)
    obtain ⟨g0, g1, -, -, -, -⟩ := hR.2 k hk
    have b0 := (hb.2 k hk).1
    have b1 := (hb.2 k hk).2.1
    have hl := lft_b hb hk
    have e1 : (0 ≤ iI (lft σ k)) = (0 ≤ lft σ k) := iI_le (a := 0) (by omega) (by omega)
    have e2 : (iI (lft σ k) < 0) = (lft σ k < 0) := iI_lt (b := 0) (by omega) (by omega)
    rw [e67_2]
    simp only [e67_0, e67_1, e67_3, e67_4, e67_7, e67_10, e67_11, e67_14, e67_15, e67_16, e67_17, e67_20, e67_21, e67_22, e67_25, e67_26, e67_27, e67_30, e67_33, e67_34, e67_35, e67_38, e67_41, e67_42, st_g0, st_g1, st_g2, st_g3, st_g4, st_g5, st_g6, st_g7, st_p6, st_p7, st_l0, st_l1, st_l2, st_l3, st_l4, st_l5, st_s0, st_s1, st_s2, st_s3, st_s4, st_s5, st_is, Option.bind_some, Option.toList_some, Option.toList_none, List.cons_append, List.nil_append, true_or, or_true, and_true, true_and, i10, Bool.false_eq_true, if_true, if_false, reduceIte, h0, nI_lep (show σ.1 < 2147483648 by omega) (show k < 2147483648 by omega), hlt, nI_1, zrd_nI (show k < 12 by omega) (show 12 < 2147483648 by omega), g0, g1, nI_lep (show σ.2 k 0 < 2147483648 by omega) (show σ.2 k 1 < 2147483648 by omega), s_roomLeftIn hR hb hk, e1, e2]
    by_cases q1 : σ.2 k 0 ≤ σ.2 k 1
    · have q1' : ¬ σ.2 k 1 < σ.2 k 0 := by omega
      simp [q1, q1']
    · have q1' : σ.2 k 1 < σ.2 k 0 := by omega
      by_cases q2 : 0 ≤ lft σ k
      · have q2' : ¬ lft σ k < 0 := by omega
        simp [q1, q1', q2, q2']
      · have q2' : lft σ k < 0 := by omega
        simp [q1, q1', q2, q2'])
  rcases main with ⟨k, k1, k2, -, k4⟩ | ⟨k1, k2⟩
  · have : sou σ ≠ true := fun z => by
      have := alb_iff.mp z k k1
      rw [k2] at this
      cases this
    rw [bI_f this]
    exact k4
  · have : sou σ = true := alb_iff.mpr (fun k hk => by
      cases q : (decide (σ.2 k 1 < σ.2 k 0) && decide (0 ≤ lft σ k)) with
      | true => rfl
      | false => exact absurd q (k1 k hk))
    rw [bI_t this]
    refine k2.trans ?_
    show ev (d + 3) 67 2 _ _ _ = _
    rw [e67_2]
    simp only [e67_0, e67_1, e67_3, e67_4, e67_7, e67_10, e67_11, e67_14, e67_15, e67_16, e67_17, e67_20, e67_21, e67_22, e67_25, e67_26, e67_27, e67_30, e67_33, e67_34, e67_35, e67_38, e67_41, e67_42, st_g0, st_g1, st_g2, st_g3, st_g4, st_g5, st_g6, st_g7, st_p6, st_p7, st_l0, st_l1, st_l2, st_l3, st_l4, st_l5, st_s0, st_s1, st_s2, st_s3, st_s4, st_s5, st_is, Option.bind_some, Option.toList_some, Option.toList_none, List.cons_append, List.nil_append, true_or, or_true, and_true, true_and, i10, Bool.false_eq_true, if_true, if_false, reduceIte, h0, Int32.le_refl]
theorem r9 (c j : Nat) : (9 : Int32) * nI c + nI j = nI (9 * c + j) := by
  rw [show (9 : Int32) = nI 9 from rfl, pk_mul, nI_add]
theorem m_doFit (hR : rwR M τ) (hb : bnd τ) : ev d 172 0 [some (.ref i), none, none, none, none] [] (hmd h i M) = some (some (.int (bI (sou τ = true))), hmd h i M) := by
  have hn := hb.1
  have h0 := hR.1
  have rr : ∀ c j, c < τ.1 → j < 9 → zrd 126 (M.1 5) (9 * nI c + nI j) = some (nI (τ.2 c j)) := fun c j hc hj => by
    rw [r9, zrd_nI (by omega) (by decide), hR.2 c hc j hj]
  have r0 : ∀ c, c < τ.1 → zrd 126 (M.1 5) (9 * nI c + 0) = some (nI (τ.2 c 0)) := fun c hc => rr c 0 hc (by decide)
  have r1 : ∀ c, c < τ.1 → zrd 126 (M.1 5) (9 * nI c + 1) = some (nI (τ.2 c 1)) := fun c hc => rr c 1 hc (by decide)
  have r7 : ∀ c, c < τ.1 → zrd 126 (M.1 5) (9 * nI c + 7) = some (nI (τ.2 c 7)) := fun c hc => rr c 7 hc (by decide)
  have inner : ∀ (b : Bool) (c : Nat), c < τ.1 → ev d 172 52 [some (.ref i), some (.int (bI (b = true))), some (.int (nI c)), some (.int (nI (τ.2 c 1))), some (.int 0)] [] (hmd h i M) = ev d 172 52 [some (.ref i), some (.int (bI (b = true))), some (.int (nI c)), some (.int (iI (lft τ c))), some (.int (nI τ.1))] [] (hmd h i M) := by
    intro b c hc
    have main := z_for (fun (k s : Nat) => ev d 172 52 [some (.ref i), some (.int (bI (b = true))), some (.int (nI c)), some (.int (iI ((τ.2 c 1 : Int) - (s : Nat)))), some (.int (nI k))] [] (hmd h i M)) (fun k s => s + if τ.2 k 7 = c + 1 then τ.2 k 0 else 0) (n := τ.1) (s := 0) (fun k s hk => by
      have hlt : (τ.1 ≤ k) = False := eq_false (by omega)
      have h7 := (hb.2 k hk).2.2.2.2.1
      show ev d 172 52 _ _ _ = ev d 172 52 _ _ _
      rw [e172_52]
      simp only [e172_0, e172_1, e172_2, e172_3, e172_5, e172_6, e172_9, e172_12, e172_13, e172_16, e172_18, e172_19, e172_20, e172_21, e172_22, e172_23, e172_24, e172_25, e172_28, e172_29, e172_30, e172_33, e172_35, e172_36, e172_37, e172_38, e172_39, e172_40, e172_43, e172_44, e172_47, e172_48, e172_49, e172_50, e172_54, e172_55, e172_58, e172_61, e172_62, e172_63, e172_66, e172_68, e172_70, e172_71, e172_73, e172_74, e172_75, e172_76, e172_77, e172_78, e172_81, e172_82, e172_85, e172_87, e172_89, e172_90, e172_91, e172_92, e172_93, e172_96, e172_97, e172_98, e172_99, e172_102, e172_105, e172_106, e172_109, e172_110, e172_113, e172_114, e172_117, e172_118, e172_119, e172_122, e172_125, e172_126, md_g0, md_g1, md_g2, md_g3, md_g4, md_g5, md_g6, md_g7, md_g8, md_g9, md_g10, md_g11, md_g12, md_g13, md_g14, md_g15, md_g16, md_g17, md_g18, md_p3, md_p5, md_p7, md_p8, md_p9, md_p11, md_p13, md_p15, md_l0, md_l1, md_l2, md_l3, md_l4, md_l5, md_l6, md_l7, md_l8, md_l9, md_l10, md_s0, md_s1, md_s2, md_s3, md_s4, md_s5, md_s6, md_s7, md_s8, md_s9, md_s10, md_is, Option.bind_some, Option.toList_some, Option.toList_none, List.cons_append, List.nil_append, true_or, or_true, and_true, true_and, i10, Bool.false_eq_true, if_true, if_false, reduceIte, h0, nI_lep (show τ.1 < 2147483648 by omega) (show k < 2147483648 by omega), hlt, nI_1, r7 k hk, r0 k hk, nI_eqp (show τ.2 k 7 < 2147483648 by omega) (show c + 1 < 2147483648 by omega)]
      by_cases q : τ.2 k 7 = c + 1
      · simp only [q, iI_nat, iI_sub, Option.bind_some, Option.toList_some, Option.toList_none, List.cons_append, List.nil_append, true_or, or_true, and_true, true_and, i10, Bool.false_eq_true, if_true, if_false, reduceIte, Int.natCast_add, Int.sub_sub]
      · simp only [q, Option.bind_some, Option.toList_some, Option.toList_none, List.cons_append, List.nil_append, true_or, or_true, and_true, true_and, i10, Bool.false_eq_true, if_true, if_false, reduceIte, Nat.add_zero, show (0 : Int32) = iI 0 from rfl, iI_sub, Int.sub_zero])
    rw [zfold_sm, Nat.zero_add] at main
    have e0 : ((τ.2 c 1 : Int) - ((0 : Nat) : Int)) = (τ.2 c 1 : Int) := by omega
    rw [e0, ← iI_nat] at main
    exact main
  have step : ∀ (k : Nat) (b : Bool) (x : Option Value × Option Value), k < τ.1 → ∃ y : Option Value × Option Value, ev d 172 4 [some (.ref i), some (.int (bI (b = true))), some (.int (nI k)), x.1, x.2] [] (hmd h i M) = ev d 172 4 [some (.ref i), some (.int (bI ((b && (decide (τ.2 k 1 < τ.2 k 0) && decide (0 ≤ lft τ k))) = true))), some (.int (nI (k + 1))), y.1, y.2] [] (hmd h i M) := by
    intro k b x hk
    have hlt : (τ.1 ≤ k) = False := eq_false (by omega)
    have b0 := (hb.2 k hk).1
    have b1 := (hb.2 k hk).2.1
    have hl := lft_b hb hk
    have e1 : (0 ≤ iI (lft τ k)) = (0 ≤ lft τ k) := iI_le (a := 0) (by omega) (by omega)
    have e2 : (iI (lft τ k) < 0) = (lft τ k < 0) := iI_lt (b := 0) (by omega) (by omega)
    have i1 := inner (b && decide (τ.2 k 1 < τ.2 k 0)) k hk
    refine ⟨(some (.int (iI (lft τ k))), some (.int (nI τ.1))), ?_⟩
    rw [e172_4]
    simp only [e172_0, e172_1, e172_2, e172_3, e172_5, e172_6, e172_9, e172_12, e172_13, e172_16, e172_18, e172_19, e172_20, e172_21, e172_22, e172_23, e172_24, e172_25, e172_28, e172_29, e172_30, e172_33, e172_35, e172_36, e172_37, e172_38, e172_39, e172_40, e172_43, e172_44, e172_47, e172_48, e172_49, e172_50, e172_54, e172_55, e172_58, e172_61, e172_62, e172_63, e172_66, e172_68, e172_70, e172_71, e172_73, e172_74, e172_75, e172_76, e172_77, e172_78, e172_81, e172_82, e172_85, e172_87, e172_89, e172_90, e172_91, e172_92, e172_93, e172_96, e172_97, e172_98, e172_99, e172_102, e172_105, e172_106, e172_109, e172_110, e172_113, e172_114, e172_117, e172_118, e172_119, e172_122, e172_125, e172_126, md_g0, md_g1, md_g2, md_g3, md_g4, md_g5, md_g6, md_g7, md_g8, md_g9, md_g10, md_g11, md_g12, md_g13, md_g14, md_g15, md_g16, md_g17, md_g18, md_p3, md_p5, md_p7, md_p8, md_p9, md_p11, md_p13, md_p15, md_l0, md_l1, md_l2, md_l3, md_l4, md_l5, md_l6, md_l7, md_l8, md_l9, md_l10, md_s0, md_s1, md_s2, md_s3, md_s4, md_s5, md_s6, md_s7, md_s8, md_s9, md_s10, md_is, Option.bind_some, Option.toList_some, Option.toList_none, List.cons_append, List.nil_append, true_or, or_true, and_true, true_and, i10, Bool.false_eq_true, if_true, if_false, reduceIte, h0, nI_lep (show τ.1 < 2147483648 by omega) (show k < 2147483648 by omega), hlt, r1 k hk, r0 k hk, nI_lep (show τ.2 k 0 < 2147483648 by omega) (show τ.2 k 1 < 2147483648 by omega), bI_0]
    have fin2 : ∀ B : Bool, ev d 172 52 [some (.ref i), some (.int (bI (B = true))), some (.int (nI k)), some (.int (iI (lft τ k))), some (.int (nI τ.1))] [] (hmd h i M) = ev d 172 4 [some (.ref i), some (.int (bI ((B && decide (0 ≤ lft τ k)) = true))), some (.int (nI (k + 1))), some (.int (iI (lft τ k))), some (.int (nI τ.1))] [] (hmd h i M) := by
      intro B
      rw [e172_52]
      simp only [e172_0, e172_1, e172_2, e172_3, e172_5, e172_6, e172_9, e172_12, e172_13, e172_16, e172_18, e172_19, e172_20, e172_21, e172_22, e172_23, e172_24, e172_25, e172_28, e172_29, e172_30, e172_33, e172_35, e172_36, e172_37, e172_38, e172_39, e172_40, e172_43, e172_44, e172_47, e172_48, e172_49, e172_50, e172_54, e172_55, e172_58, e172_61, e172_62, e172_63, e172_66, e172_68, e172_70, e172_71, e172_73, e172_74, e172_75, e172_76, e172_77, e172_78, e172_81, e172_82, e172_85, e172_87, e172_89, e172_90, e172_91, e172_92, e172_93, e172_96, e172_97, e172_98, e172_99, e172_102, e172_105, e172_106, e172_109, e172_110, e172_113, e172_114, e172_117, e172_118, e172_119, e172_122, e172_125, e172_126, md_g0, md_g1, md_g2, md_g3, md_g4, md_g5, md_g6, md_g7, md_g8, md_g9, md_g10, md_g11, md_g12, md_g13, md_g14, md_g15, md_g16, md_g17, md_g18, md_p3, md_p5, md_p7, md_p8, md_p9, md_p11, md_p13, md_p15, md_l0, md_l1, md_l2, md_l3, md_l4, md_l5, md_l6, md_l7, md_l8, md_l9, md_l10, md_s0, md_s1, md_s2, md_s3, md_s4, md_s5, md_s6, md_s7, md_s8, md_s9, md_s10, md_is, Option.bind_some, Option.toList_some, Option.toList_none, List.cons_append, List.nil_append, true_or, or_true, and_true, true_and, i10, Bool.false_eq_true, if_true, if_false, reduceIte, h0, Int32.le_refl, bI_0, e1, e2, nI_1]
      cases B with
      | false => simp [bI]
      | true =>
        by_cases q2 : 0 ≤ lft τ k
        · have q2' : ¬ lft τ k < 0 := by omega
          simp [q2, q2', bI]
        · have q2' : lft τ k < 0 := by omega
          simp [q2, q2', bI]
    rw [fin2] at i1
    cases b with
    | false =>
      simp only [Bool.false_and, bI_f Bool.false_ne_true] at i1 ⊢
      simp
      exact i1
    | true =>
      by_cases q1 : τ.2 k 0 ≤ τ.2 k 1
      · have q1' : ¬ τ.2 k 1 < τ.2 k 0 := by omega
        simp only [q1', Bool.true_and, decide_false, Bool.false_and, bI_f Bool.false_ne_true] at i1 ⊢
        simp [q1]
        exact i1
      · have q1' : τ.2 k 1 < τ.2 k 0 := by omega
        simp only [q1', Bool.true_and, decide_true, bI_t trivial] at i1 ⊢
        simp [q1]
        simpa [bI] using i1
  have fin : ∀ (b : Bool) (x : Option Value × Option Value), ev d 172 4 [some (.ref i), some (.int (bI (b = true))), some (.int (nI τ.1)), x.1, x.2] [] (hmd h i M) = some (some (.int (bI (b = true))), hmd h i M) := by
    intro b x
    rw [e172_4]
    simp only [e172_0, e172_1, e172_2, e172_3, e172_5, e172_6, e172_9, e172_12, e172_13, e172_16, e172_18, e172_19, e172_20, e172_21, e172_22, e172_23, e172_24, e172_25, e172_28, e172_29, e172_30, e172_33, e172_35, e172_36, e172_37, e172_38, e172_39, e172_40, e172_43, e172_44, e172_47, e172_48, e172_49, e172_50, e172_54, e172_55, e172_58, e172_61, e172_62, e172_63, e172_66, e172_68, e172_70, e172_71, e172_73, e172_74, e172_75, e172_76, e172_77, e172_78, e172_81, e172_82, e172_85, e172_87, e172_89, e172_90, e172_91, e172_92, e172_93, e172_96, e172_97, e172_98, e172_99, e172_102, e172_105, e172_106, e172_109, e172_110, e172_113, e172_114, e172_117, e172_118, e172_119, e172_122, e172_125, e172_126 (bI_01 _), md_g0, md_g1, md_g2, md_g3, md_g4, md_g5, md_g6, md_g7, md_g8, md_g9, md_g10, md_g11, md_g12, md_g13, md_g14, md_g15, md_g16, md_g17, md_g18, md_p3, md_p5, md_p7, md_p8, md_p9, md_p11, md_p13, md_p15, md_l0, md_l1, md_l2, md_l3, md_l4, md_l5, md_l6, md_l7, md_l8, md_l9, md_l10, md_s0, md_s1, md_s2, md_s3, md_s4, md_s5, md_s6, md_s7, md_s8, md_s9, md_s10, md_is, Option.bind_some, Option.toList_some, Option.toList_none, List.cons_append, List.nil_append, true_or, or_true, and_true, true_and, i10, Bool.false_eq_true, if_true, if_false, reduceIte, h0, Int32.le_refl]
  have main := z_forJ (fun (k : Nat) (b : Bool) (x : Option Value × Option Value) => ev d 172 4 [some (.ref i), some (.int (bI (b = true))), some (.int (nI k)), x.1, x.2] [] (hmd h i M)) (fun k b => b && (decide (τ.2 k 1 < τ.2 k 0) && decide (0 ≤ lft τ k))) _ step fin true (none, none)
  rw [zfold_alb, Bool.true_and] at main
  simp only [e172_0, e172_1, e172_2, e172_3, e172_5, e172_6, e172_9, e172_12, e172_13, e172_16, e172_18, e172_19, e172_20, e172_21, e172_22, e172_23, e172_24, e172_25, e172_28, e172_29, e172_30, e172_33, e172_35, e172_36, e172_37, e172_38, e172_39, e172_40, e172_43, e172_44, e172_47, e172_48, e172_49, e172_50, e172_54, e172_55, e172_58, e172_61, e172_62, e172_63, e172_66, e172_68, e172_70, e172_71, e172_73, e172_74, e172_75, e172_76, e172_77, e172_78, e172_81, e172_82, e172_85, e172_87, e172_89, e172_90, e172_91, e172_92, e172_93, e172_96, e172_97, e172_98, e172_99, e172_102, e172_105, e172_106, e172_109, e172_110, e172_113, e172_114, e172_117, e172_118, e172_119, e172_122, e172_125, e172_126, Option.bind_some, Option.toList_some, Option.toList_none, List.cons_append, List.nil_append, true_or, or_true, and_true, true_and, i10, Bool.false_eq_true, if_true, if_false, reduceIte]
  exact main
end SOUND
