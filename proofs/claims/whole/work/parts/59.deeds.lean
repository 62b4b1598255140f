/-! THE DEEDS, SIDE BY SIDE -/
section DEEDS
variable {d : Nat} {H H1 : zH} {σ σ' : mS} {r r' : Int32} {e e' : Nat → mS × Int32} {len len' : Nat} {k : Bool} {κ : mS × Int32} {w : Nat → Nat} {m : Nat} {x y : Int32} {M M' : oS}
theorem hl_4 : hl len ≤ 4 := by
  unfold hl
  split <;> omega
theorem WF_ch (hW : WF σ e len k κ) (h' : wf σ') : WF σ' (he e len (σ, r)) (hl len) k κ := by
  obtain ⟨w1, w2, w3, w4⟩ := hW
  refine ⟨h', hl_4, fun j hj => ?_, w4⟩
  unfold he
  unfold hl at hj
  by_cases q : len < 4
  · rw [if_pos q] at hj ⊢
    by_cases z : j = len
    · rw [if_pos z]
      exact w1
    · rw [if_neg z]
      exact w3 j (by omega)
  · rw [if_neg q] at hj ⊢
    by_cases z : j = 3
    · rw [if_pos z]
      exact w1
    · rw [if_neg z]
      exact w3 (j + 1) (by omega)
theorem MF_K (h : MF M σ r e len k κ w m) (hS : mSt M' σ' r' e' len') (hK : mfK M M') : MF M' σ' r' e' len' k κ w m := by
  obtain ⟨h1, h2, h3, h4, h5⟩ := h
  obtain ⟨a3, a4, b1, b2⟩ := hK
  refine ⟨hS.1, hS.2, by rw [b1]; exact h3, by rw [a3]; exact h4, ?_⟩
  unfold pmR
  rw [b2, a4]
  exact h5
theorem c_keep (hC : CI H σ r e len k κ w m) (hn : σ.1 ≤ 12) : ∃ H', CI H' σ r (he e len (σ, r)) (hl len) k κ w m ∧ CO H H' ∧ (∀ j, j < 22 ∨ 52 ≤ j → zg H' j = zg H j) ∧ ev (d + 1) 2 0 [some (.ref 22), some (.ref 1)] [] H = some (none, H') := by
  have hC0 := hC
  obtain ⟨-, ⟨S, s1, s2, s3⟩, -, -, hh, -⟩ := hC
  obtain ⟨H', a1, a2, a3, a4⟩ := x_keep (d := d) hh (by decide) s1 s2 s3 hn
  exact ⟨H', CI_hs hC0 (fun j _ b => a2 j b.2) a1, ⟨a3, fun j hj => a2 j (Or.inr (by omega))⟩, a2, a4⟩
theorem zh_is (hh : hsI H e len) : zis H 22 0 = true := by
  obtain ⟨-, Q, qq, hq, -⟩ := hh
  exact hs_is hq
theorem at_1 {S : oS} (s1 : at_ H 1 (stL 1 S)) (hf : ∀ j, j < 22 ∨ 52 ≤ j → zg H1 j = zg H j) : at_ H1 1 (stL 1 S) := at_fr s1 (fun j a b => hf j (by rw [st_len] at b; omega))
theorem at_0 {X : oS} (x1 : at_ H 0 (sxL 0 X)) (hf : ∀ j, j < 22 ∨ 52 ≤ j → zg H1 j = zg H j) : at_ H1 0 (sxL 0 X) := at_fr x1 (fun j a b => hf j (by rw [sx_len] at b; omega))
theorem CI_1 {S' : oS} (hC : CI H σ r e len k κ w m) (hS : stR S' σ') (h1 : S'.2 1 = r') : CI (hst H 1 S') σ' r' e len k κ w m := CI_s1 hC (fun j _ a => hrg_out (by rw [st_len]; omega)) ⟨S', at_new, hS, h1⟩
theorem CO_1 {S' : oS} : CO H (hst H 1 S') := CO_h (Nat.le_of_ble_eq_true rfl)
/-- a refusal -/
theorem c_refuse (hC : CI H σ r e len k κ w m) (hn : σ.1 ≤ 12) {v : Int32} : ∃ H', CI H' σ (r + 1) (he e len (σ, r)) (hl len) k κ w m ∧ CO H H' ∧ ev (d + 2) 122 0 [some (.ref 0), some (.int v)] [] H = some (some (.int v), H') := by
  obtain ⟨H', a1, a2, a3, a4⟩ := c_keep (d := d) hC hn
  obtain ⟨⟨X, x1, x2⟩, ⟨S, s1, s2, s3⟩, -, -, hh, -⟩ := hC
  have s1' := at_1 s1 a3
  have x1' := at_0 x1 a3
  have cr := s_countRefusal (d := d + 1) (h := H') (i := 1) (S := S)
  rw [at_st s1'] at cr
  refine ⟨_, CI_1 (S' := setI S 1 (S.2 1 + 1)) a1 ⟨s2.1, s2.2⟩ (by show S.2 1 + 1 = r + 1; rw [s3]), CO_t a2 CO_1, ?_⟩
  simp only [e122_0, e122_1, e122_4, e122_5, e122_8, e122_11, e122_12, e122_15, e122_18, e122_19, Option.bind_some, Option.toList_some, Option.toList_none, List.cons_append, List.nil_append, true_or, or_true, and_true, true_and, i10, Bool.false_eq_true, if_true, if_false, reduceIte, cx_4 x1, cx_0 x1, zh_is hh, a4, cx_0 x1', cz_st s1', cr]
theorem st_put (hC : CI H σ r e len k κ w m) (hM : MI H σ r e len k κ w m) (hW : WF σ e len k κ) : PR d H 99 158 [some (.int x), some (.int y), none] [some (.int x), some (.int y), none] := by
  have hC0 := hC
  obtain ⟨⟨X, x1, x2⟩, ⟨S, s1, s2, s3⟩, ⟨T, t1⟩, ⟨K, k1, k2⟩, hh, ⟨P, p1, p2⟩, ⟨R, r1⟩, ⟨F, f1⟩, ⟨Y, y1⟩, ⟨V, v1⟩, ⟨N, n1⟩⟩ := hC
  obtain ⟨M, m0, hF⟩ := hM
  have hF0 := hF
  obtain ⟨m1, m2, m3, m4, m5⟩ := hF
  have hW0 := hW
  obtain ⟨w1, w2, w3, w4⟩ := hW
  have hS := at_st s1
  have hb := w1.bnd
  have hn := hb.1
  have hR := mrw_R m1
  have g0 := cx_0 x1
  have z1 := cz_st s1
  have z0 := cz_sx x1
  have hen : ∀ j, j < len → (e j).1.1 ≤ 12 := fun j hj => (w3 j hj).1
  have hMS : mSt M σ r e len := ⟨m1, m2⟩
  cases q : zin x σ.1 with
  | false =>
    refine PR_mk (v := -1) hC0 CO_r m0 hF0 hW0 ?_ (m_put0 (d := d + 14) hR hn (Or.inl q))
    simp only [e99_0, e99_1, e99_4, e99_5, e99_8, e99_11, e99_12, e99_15, e99_16, e99_19, e99_22, e99_23, e99_24, e99_25, e99_28, e99_29, e99_30, e99_33, e99_34, e99_35, e99_38, e99_39, e99_40, e99_43, e99_44, e99_45, e99_48, e99_49, e99_52, e99_55, e99_56, e99_59, e99_60, e99_61, e99_64, e99_66, e99_67, e99_70, e99_71, e99_74, e99_75, Option.bind_some, Option.toList_some, Option.toList_none, List.cons_append, List.nil_append, true_or, or_true, and_true, true_and, i10, Bool.false_eq_true, if_true, if_false, reduceIte, g0, z1, S_isC0 hS s2 hn q]
  | true =>
    obtain ⟨c, hc, rfl⟩ := zin_some (by omega) q
    cases q2 : zin y σ.1 with
    | false =>
      refine PR_mk (v := -1) hC0 CO_r m0 hF0 hW0 ?_ (m_put0 (d := d + 14) hR hn (Or.inr q2))
      simp only [e99_0, e99_1, e99_4, e99_5, e99_8, e99_11, e99_12, e99_15, e99_16, e99_19, e99_22, e99_23, e99_24, e99_25, e99_28, e99_29, e99_30, e99_33, e99_34, e99_35, e99_38, e99_39, e99_40, e99_43, e99_44, e99_45, e99_48, e99_49, e99_52, e99_55, e99_56, e99_59, e99_60, e99_61, e99_64, e99_66, e99_67, e99_70, e99_71, e99_74, e99_75, Option.bind_some, Option.toList_some, Option.toList_none, List.cons_append, List.nil_append, true_or, or_true, and_true, true_and, i10, Bool.false_eq_true, if_true, if_false, reduceIte, g0, z1, S_isCrate_k hS s2 hb hc, S_isC0 hS s2 hn q2]
    | true =>
      obtain ⟨u, hu, rfl⟩ := zin_some (by omega) q2
      have rr := S_reasonNotToPut (d := d + 15) hS s2 w1 hc hu
      have e0 : (nI (rpt σ c u) = 0) = (rpt σ c u = 0) := nI_eqp (b := 0) (by have := rpt_5 (σ := σ) (c := c) (u := u); omega) (by omega)
      by_cases q3 : rpt σ c u = 0
      · obtain ⟨H', a1, a2, a3, a4⟩ := c_keep (d := d + 18) hC0 hn
        have s1' := at_1 s1 a3
        have x1' := at_0 x1 a3
        obtain ⟨S', b1, b2, b3⟩ := s_lay (d := d + 17) (h := H') (i := 1) (S := S) s2 hb hc hu
        rw [at_st s1'] at b3
        have wl := put_wf w1 hc hu q3
        have x1b : at_ (hst H' 1 S') 0 (sxL 0 X) := at_out x1' (Or.inl (Nat.le_of_ble_eq_true rfl))
        have s1b : at_ (hst H' 1 S') 1 (stL 1 S') := at_new
        have dp := S_depthOf (d := d + 17) (at_st s1b) b1 wl.bnd (c := c) hc
        have e10 : (10 : Int32) + nI (dpt (laid σ c u) c) = nI (10 + dpt (laid σ c u) c) := nI_add 10 _
        obtain ⟨M', c1, c2, c3⟩ := m_put (d := d + 14) (h := hst H' 1 S') (i := 71) (M := M) w2 hMS w1 hen hc hu
        rw [if_pos q3, if_pos q3] at c2
        rw [if_pos q3] at c3
        refine PR_mk (H1 := hst H' 1 S') (v := nI (10 + dpt (laid σ c u) c)) (M' := M') (CI_1 a1 b1 (b2.trans s3)) (CO_t a2 CO_1) m0 (MF_K hF0 c2 c1) (WF_ch hW0 wl) ?_ c3
        simp only [e99_0, e99_1, e99_4, e99_5, e99_8, e99_11, e99_12, e99_15, e99_16, e99_19, e99_22, e99_23, e99_24, e99_25, e99_28, e99_29, e99_30, e99_33, e99_34, e99_35, e99_38, e99_39, e99_40, e99_43, e99_44, e99_45, e99_48, e99_49, e99_52, e99_55, e99_56, e99_59, e99_60, e99_61, e99_64, e99_66, e99_67, e99_70, e99_71, e99_74, e99_75, Option.bind_some, Option.toList_some, Option.toList_none, List.cons_append, List.nil_append, true_or, or_true, and_true, true_and, i10, Bool.false_eq_true, if_true, if_false, reduceIte, g0, z1, S_isCrate_k hS s2 hb hc, S_isCrate_k hS s2 hb hu, rr, e0, eq_true q3, cx_4 x1, zh_is hh, a4, cx_0 x1', cz_st s1', b3, cx_0 x1b, cz_st s1b, dp, e10]
      · obtain ⟨H', a1, a2, a4⟩ := c_refuse (d := d + 17) hC0 hn (v := nI (rpt σ c u))
        obtain ⟨M', c1, c2, c3⟩ := m_put (d := d + 14) (h := H') (i := 71) (M := M) w2 hMS w1 hen hc hu
        rw [if_neg q3, if_neg q3] at c2
        rw [if_neg q3] at c3
        refine PR_mk (H1 := H') (v := nI (rpt σ c u)) (M' := M') a1 a2 m0 (MF_K hF0 c2 c1) (WF_ch hW0 w1) ?_ c3
        simp only [e99_0, e99_1, e99_4, e99_5, e99_8, e99_11, e99_12, e99_15, e99_16, e99_19, e99_22, e99_23, e99_24, e99_25, e99_28, e99_29, e99_30, e99_33, e99_34, e99_35, e99_38, e99_39, e99_40, e99_43, e99_44, e99_45, e99_48, e99_49, e99_52, e99_55, e99_56, e99_59, e99_60, e99_61, e99_64, e99_66, e99_67, e99_70, e99_71, e99_74, e99_75, Option.bind_some, Option.toList_some, Option.toList_none, List.cons_append, List.nil_append, true_or, or_true, and_true, true_and, i10, Bool.false_eq_true, if_true, if_false, reduceIte, g0, z0, z1, S_isCrate_k hS s2 hb hc, S_isCrate_k hS s2 hb hu, rr, e0, eq_false q3, a4]
theorem st_ground (hC : CI H σ r e len k κ w m) (hM : MI H σ r e len k κ w m) (hW : WF σ e len k κ) : PR d H 100 159 [some (.int x), none] [some (.int x), none] := by
  have hC0 := hC
  obtain ⟨⟨X, x1, x2⟩, ⟨S, s1, s2, s3⟩, ⟨T, t1⟩, ⟨K, k1, k2⟩, hh, ⟨P, p1, p2⟩, ⟨R, r1⟩, ⟨F, f1⟩, ⟨Y, y1⟩, ⟨V, v1⟩, ⟨N, n1⟩⟩ := hC
  obtain ⟨M, m0, hF⟩ := hM
  have hF0 := hF
  obtain ⟨m1, m2, m3, m4, m5⟩ := hF
  have hW0 := hW
  obtain ⟨w1, w2, w3, w4⟩ := hW
  have hS := at_st s1
  have hb := w1.bnd
  have hn := hb.1
  have hR := mrw_R m1
  have g0 := cx_0 x1
  have z1 := cz_st s1
  have z0 := cz_sx x1
  have hen : ∀ j, j < len → (e j).1.1 ≤ 12 := fun j hj => (w3 j hj).1
  have hMS : mSt M σ r e len := ⟨m1, m2⟩
  cases q : zin x σ.1 with
  | false =>
    refine PR_mk (v := -1) hC0 CO_r m0 hF0 hW0 ?_ (m_ground0 (d := d + 14) hR hn q)
    simp only [e100_0, e100_1, e100_4, e100_5, e100_8, e100_11, e100_12, e100_13, e100_14, e100_17, e100_18, e100_21, e100_22, e100_23, e100_26, e100_27, e100_28, e100_31, e100_32, e100_33, e100_36, e100_37, e100_40, e100_43, e100_44, e100_47, e100_48, e100_51, e100_53, Option.bind_some, Option.toList_some, Option.toList_none, List.cons_append, List.nil_append, true_or, or_true, and_true, true_and, i10, Bool.false_eq_true, if_true, if_false, reduceIte, g0, z1, S_isC0 hS s2 hn q]
  | true =>
    obtain ⟨c, hc, rfl⟩ := zin_some (by omega) q
    have rr := S_reasonNotToGround (d := d + 15) hS s2 w1 hc
    have e0 : (nI (rgd σ c) = 0) = (rgd σ c = 0) := nI_eqp (b := 0) (by have := rgd_5 (σ := σ) (c := c); omega) (by omega)
    by_cases q3 : rgd σ c = 0
    · obtain ⟨H', a1, a2, a3, a4⟩ := c_keep (d := d + 18) hC0 hn
      have s1' := at_1 s1 a3
      have x1' := at_0 x1 a3
      have lf := s_lift (d := d + 18) (h := H') (i := 1) (S := S) s2 hb hc
      rw [at_st s1'] at lf
      have wl := gnd_wf w1 hc (rgd_0 q3)
      obtain ⟨M', c1, c2, c3⟩ := m_ground (d := d + 14) (h := hst H' 1 (setR (setR S 4 (upd (S.1 4) c (-1))) 5 (upd (S.1 5) c 0))) (i := 71) (M := M) w2 hMS w1 hen hc
      rw [if_pos q3, if_pos q3] at c2
      rw [if_pos q3] at c3
      refine PR_mk (H1 := hst H' 1 (setR (setR S 4 (upd (S.1 4) c (-1))) 5 (upd (S.1 5) c 0))) (v := 10) (M' := M') (CI_1 a1 (stR_lift s2 c) s3) (CO_t a2 CO_1) m0 (MF_K hF0 c2 c1) (WF_ch hW0 wl) ?_ c3
      simp only [e100_0, e100_1, e100_4, e100_5, e100_8, e100_11, e100_12, e100_13, e100_14, e100_17, e100_18, e100_21, e100_22, e100_23, e100_26, e100_27, e100_28, e100_31, e100_32, e100_33, e100_36, e100_37, e100_40, e100_43, e100_44, e100_47, e100_48, e100_51, e100_53, Option.bind_some, Option.toList_some, Option.toList_none, List.cons_append, List.nil_append, true_or, or_true, and_true, true_and, i10, Bool.false_eq_true, if_true, if_false, reduceIte, g0, z1, S_isCrate_k hS s2 hb hc, rr, e0, eq_true q3, cx_4 x1, zh_is hh, a4, cx_0 x1', cz_st s1', lf]
    · obtain ⟨H', a1, a2, a4⟩ := c_refuse (d := d + 17) hC0 hn (v := nI (rgd σ c))
      obtain ⟨M', c1, c2, c3⟩ := m_ground (d := d + 14) (h := H') (i := 71) (M := M) w2 hMS w1 hen hc
      rw [if_neg q3, if_neg q3] at c2
      rw [if_neg q3] at c3
      refine PR_mk (H1 := H') (v := nI (rgd σ c)) (M' := M') a1 a2 m0 (MF_K hF0 c2 c1) (WF_ch hW0 w1) ?_ c3
      simp only [e100_0, e100_1, e100_4, e100_5, e100_8, e100_11, e100_12, e100_13, e100_14, e100_17, e100_18, e100_21, e100_22, e100_23, e100_26, e100_27, e100_28, e100_31, e100_32, e100_33, e100_36, e100_37, e100_40, e100_43, e100_44, e100_47, e100_48, e100_51, e100_53, Option.bind_some, Option.toList_some, Option.toList_none, List.cons_append, List.nil_append, true_or, or_true, and_true, true_and, i10, Bool.false_eq_true, if_true, if_false, reduceIte, g0, z0, z1, S_isCrate_k hS s2 hb hc, rr, e0, eq_false q3, a4]
theorem st_turn (hC : CI H σ r e len k κ w m) (hM : MI H σ r e len k κ w m) (hW : WF σ e len k κ) : PR d H 101 161 [some (.int x)] [some (.int x)] := by
  have hC0 := hC
  obtain ⟨⟨X, x1, x2⟩, ⟨S, s1, s2, s3⟩, ⟨T, t1⟩, ⟨K, k1, k2⟩, hh, ⟨P, p1, p2⟩, ⟨R, r1⟩, ⟨F, f1⟩, ⟨Y, y1⟩, ⟨V, v1⟩, ⟨N, n1⟩⟩ := hC
  obtain ⟨M, m0, hF⟩ := hM
  have hF0 := hF
  obtain ⟨m1, m2, m3, m4, m5⟩ := hF
  have hW0 := hW
  obtain ⟨w1, w2, w3, w4⟩ := hW
  have hS := at_st s1
  have hb := w1.bnd
  have hn := hb.1
  have hR := mrw_R m1
  have g0 := cx_0 x1
  have z1 := cz_st s1
  have z0 := cz_sx x1
  have hen : ∀ j, j < len → (e j).1.1 ≤ 12 := fun j hj => (w3 j hj).1
  have hMS : mSt M σ r e len := ⟨m1, m2⟩
  cases q : zin x σ.1 with
  | false =>
    refine PR_mk (v := -1) hC0 CO_r m0 hF0 hW0 ?_ (m_turn0 (d := d + 14) hR hn q)
    simp only [e101_0, e101_1, e101_4, e101_5, e101_8, e101_11, e101_12, e101_13, e101_14, e101_17, e101_18, e101_21, e101_24, e101_25, e101_28, e101_29, e101_32, e101_33, e101_36, e101_37, e101_40, Option.bind_some, Option.toList_some, Option.toList_none, List.cons_append, List.nil_append, true_or, or_true, and_true, true_and, i10, Bool.false_eq_true, if_true, if_false, reduceIte, g0, z1, S_isC0 hS s2 hn q]
  | true =>
    obtain ⟨c, hc, rfl⟩ := zin_some (by omega) q
    obtain ⟨H', a1, a2, a3, a4⟩ := c_keep (d := d + 18) hC0 hn
    have s1' := at_1 s1 a3
    have x1' := at_0 x1 a3
    have ts := s_turnSlats (d := d + 18) (h := H') (i := 1) (S := S) s2 hb hc
    rw [at_st s1'] at ts
    have wl : wf (sa σ c 2 (tnd (σ.2 c 2))) := turn_wf w1 tnd_15
    have hRt : stR (setR S 2 (upd (S.1 2) c (nI (tnd (σ.2 c 2))))) (sa σ c 2 (tnd (σ.2 c 2))) := stR_g s2 c _
    have x1b : at_ (hst H' 1 (setR S 2 (upd (S.1 2) c (nI (tnd (σ.2 c 2)))))) 0 (sxL 0 X) := at_out x1' (Or.inl (Nat.le_of_ble_eq_true rfl))
    have s1b : at_ (hst H' 1 (setR S 2 (upd (S.1 2) c (nI (tnd (σ.2 c 2)))))) 1 (stL 1 (setR S 2 (upd (S.1 2) c (nI (tnd (σ.2 c 2)))))) := at_new
    have gp := S_gapsOf (d := d + 18) (at_st s1b) hRt wl.bnd (c := c) hc
    rw [sa_2, if_pos ⟨rfl, rfl⟩] at gp
    obtain ⟨M', c1, c2, c3⟩ := m_turn (d := d + 14) (h := hst H' 1 (setR S 2 (upd (S.1 2) c (nI (tnd (σ.2 c 2)))))) (i := 71) (M := M) w2 hMS w1 hen hc
    refine PR_mk (H1 := hst H' 1 (setR S 2 (upd (S.1 2) c (nI (tnd (σ.2 c 2)))))) (v := nI (tnd (σ.2 c 2))) (M' := M') (CI_1 a1 hRt s3) (CO_t a2 CO_1) m0 (MF_K hF0 c2 c1) (WF_ch hW0 wl) ?_ c3
    simp only [e101_0, e101_1, e101_4, e101_5, e101_8, e101_11, e101_12, e101_13, e101_14, e101_17, e101_18, e101_21, e101_24, e101_25, e101_28, e101_29, e101_32, e101_33, e101_36, e101_37, e101_40, Option.bind_some, Option.toList_some, Option.toList_none, List.cons_append, List.nil_append, true_or, or_true, and_true, true_and, i10, Bool.false_eq_true, if_true, if_false, reduceIte, g0, z1, S_isCrate_k hS s2 hb hc, cx_4 x1, zh_is hh, a4, cx_0 x1', cz_st s1', ts, cx_0 x1b, cz_st s1b, gp]
theorem st_breakUp (hC : CI H σ r e len k κ w m) (hM : MI H σ r e len k κ w m) (hW : WF σ e len k κ) : PR d H 102 162 [some (.int x), none] [some (.int x), none, none] := by
  have hC0 := hC
  obtain ⟨⟨X, x1, x2⟩, ⟨S, s1, s2, s3⟩, ⟨T, t1⟩, ⟨K, k1, k2⟩, hh, ⟨P, p1, p2⟩, ⟨R, r1⟩, ⟨F, f1⟩, ⟨Y, y1⟩, ⟨V, v1⟩, ⟨N, n1⟩⟩ := hC
  obtain ⟨M, m0, hF⟩ := hM
  have hF0 := hF
  obtain ⟨m1, m2, m3, m4, m5⟩ := hF
  have hW0 := hW
  obtain ⟨w1, w2, w3, w4⟩ := hW
  have hS := at_st s1
  have hb := w1.bnd
  have hn := hb.1
  have hR := mrw_R m1
  have g0 := cx_0 x1
  have z1 := cz_st s1
  have z0 := cz_sx x1
  have hen : ∀ j, j < len → (e j).1.1 ≤ 12 := fun j hj => (w3 j hj).1
  have hMS : mSt M σ r e len := ⟨m1, m2⟩
  cases q : zin x σ.1 with
  | false =>
    refine PR_mk (v := -1) hC0 CO_r m0 hF0 hW0 ?_ (m_break0 (d := d + 14) hR hn q)
    simp only [e102_0, e102_1, e102_4, e102_5, e102_8, e102_11, e102_12, e102_13, e102_14, e102_17, e102_18, e102_21, e102_22, e102_23, e102_26, e102_27, e102_28, e102_31, e102_32, e102_33, e102_36, e102_37, e102_40, e102_43, e102_44, e102_47, e102_48, e102_51, e102_53, e102_54, e102_57, e102_60, e102_61, Option.bind_some, Option.toList_some, Option.toList_none, List.cons_append, List.nil_append, true_or, or_true, and_true, true_and, i10, Bool.false_eq_true, if_true, if_false, reduceIte, g0, z1, S_isC0 hS s2 hn q]
  | true =>
    obtain ⟨c, hc, rfl⟩ := zin_some (by omega) q
    have rr := S_reasonNotToBreak (d := d + 15) hS s2 w1 hc
    have e0 : (nI (rbk σ c) = 0) = (rbk σ c = 0) := nI_eqp (b := 0) (by have := rbk_5 (σ := σ) (c := c); omega) (by omega)
    by_cases q3 : rbk σ c = 0
    · obtain ⟨H', a1, a2, a3, a4⟩ := c_keep (d := d + 18) hC0 hn
      have s1' := at_1 s1 a3
      have x1' := at_0 x1 a3
      obtain ⟨S', b1, b2, b3⟩ := s_remove (d := d + 18) (h := H') (i := 1) (S := S) s2 hb hc
      rw [at_st s1'] at b3
      have wl := lrm_wf w1 hc (rbk_0 q3).1 (rbk_0 q3).2
      have x1b : at_ (hst H' 1 S') 0 (sxL 0 X) := at_out x1' (Or.inl (Nat.le_of_ble_eq_true rfl))
      have s1b : at_ (hst H' 1 S') 1 (stL 1 S') := at_new
      have nc : ev (d + 19) 38 0 [some (.ref 1)] [] (hst H' 1 S') = some (some (.int (nI (σ.1 - 1))), hst H' 1 S') := S_crates (at_st s1b) b1
      have e10 : (10 : Int32) + nI (σ.1 - 1) = nI (10 + (σ.1 - 1)) := nI_add 10 _
      obtain ⟨M', c1, c2, c3⟩ := m_break (d := d + 14) (h := hst H' 1 S') (i := 71) (M := M) w2 hMS w1 hen hc
      rw [if_pos q3, if_pos q3] at c2
      rw [if_pos q3] at c3
      refine PR_mk (H1 := hst H' 1 S') (v := nI (10 + (σ.1 - 1))) (M' := M') (CI_1 a1 b1 (b2.trans s3)) (CO_t a2 CO_1) m0 (MF_K hF0 c2 c1) (WF_ch hW0 wl) ?_ c3
      simp only [e102_0, e102_1, e102_4, e102_5, e102_8, e102_11, e102_12, e102_13, e102_14, e102_17, e102_18, e102_21, e102_22, e102_23, e102_26, e102_27, e102_28, e102_31, e102_32, e102_33, e102_36, e102_37, e102_40, e102_43, e102_44, e102_47, e102_48, e102_51, e102_53, e102_54, e102_57, e102_60, e102_61, Option.bind_some, Option.toList_some, Option.toList_none, List.cons_append, List.nil_append, true_or, or_true, and_true, true_and, i10, Bool.false_eq_true, if_true, if_false, reduceIte, g0, z1, S_isCrate_k hS s2 hb hc, rr, e0, eq_true q3, cx_4 x1, zh_is hh, a4, cx_0 x1', cz_st s1', b3, cx_0 x1b, cz_st s1b, nc, e10]
    · obtain ⟨H', a1, a2, a4⟩ := c_refuse (d := d + 17) hC0 hn (v := nI (rbk σ c))
      obtain ⟨M', c1, c2, c3⟩ := m_break (d := d + 14) (h := H') (i := 71) (M := M) w2 hMS w1 hen hc
      rw [if_neg q3, if_neg q3] at c2
      rw [if_neg q3] at c3
      refine PR_mk (H1 := H') (v := nI (rbk σ c)) (M' := M') a1 a2 m0 (MF_K hF0 c2 c1) (WF_ch hW0 w1) ?_ c3
      simp only [e102_0, e102_1, e102_4, e102_5, e102_8, e102_11, e102_12, e102_13, e102_14, e102_17, e102_18, e102_21, e102_22, e102_23, e102_26, e102_27, e102_28, e102_31, e102_32, e102_33, e102_36, e102_37, e102_40, e102_43, e102_44, e102_47, e102_48, e102_51, e102_53, e102_54, e102_57, e102_60, e102_61, Option.bind_some, Option.toList_some, Option.toList_none, List.cons_append, List.nil_append, true_or, or_true, and_true, true_and, i10, Bool.false_eq_true, if_true, if_false, reduceIte, g0, z0, z1, S_isCrate_k hS s2 hb hc, rr, e0, eq_false q3, a4]
theorem CI_1h {S' : oS} (h : CI H σ r e len k κ w m) (hf : ∀ j, 0 ≤ j → j < 71 ∧ (j < 1 ∨ 8 ≤ j) ∧ (j < 22 ∨ 52 ≤ j) → zg H1 j = zg H j) (s1 : at_ H1 1 (stL 1 S')) (s2 : stR S' σ') (s3 : S'.2 1 = r') (n4 : hsI H1 e' len') : CI H1 σ' r' e' len' k κ w m := by
  obtain ⟨c0, c1, c2, c3, c4, c5, c6, c7, c8, c9, c10⟩ := h
  exact ⟨(let ⟨v_, a_, b_⟩ := c0; ⟨v_, at_fr a_ (fun j a b => hf j (by omega) (by rw [sx_len] at b; omega)), b_⟩), ⟨S', s1, s2, s3⟩, (let ⟨v_, a_⟩ := c2; ⟨v_, at_fr a_ (fun j a b => hf j (by omega) (by rw [st_len] at b; omega))⟩), (let ⟨v_, a_, b_⟩ := c3; ⟨v_, at_fr a_ (fun j a b => hf j (by omega) (by rw [st_len] at b; omega)), b_⟩), n4, (let ⟨v_, a_, b_⟩ := c5; ⟨v_, at_fr a_ (fun j a b => hf j (by omega) (by rw [pd_len] at b; omega)), b_⟩), (let ⟨v_, a_⟩ := c6; ⟨v_, at_fr a_ (fun j a b => hf j (by omega) (by rw [rd_len] at b; omega))⟩), (let ⟨v_, a_⟩ := c7; ⟨v_, at_fr a_ (fun j a b => hf j (by omega) (by rw [st_len] at b; omega))⟩), (let ⟨v_, a_⟩ := c8; ⟨v_, at_fr a_ (fun j a b => hf j (by omega) (by rw [nw_len] at b; omega))⟩), (let ⟨v_, a_⟩ := c9; ⟨v_, at_fr a_ (fun j a b => hf j (by omega) (by rw [vw_len] at b; omega))⟩), (let ⟨v_, a_⟩ := c10; ⟨v_, at_fr a_ (fun j a b => hf j (by omega) (by rw [ln_len] at b; omega))⟩)⟩
theorem st_undo (hC : CI H σ r e len k κ w m) (hM : MI H σ r e len k κ w m) (hW : WF σ e len k κ) : PR d H 119 200 [] [] := by
  have hC0 := hC
  obtain ⟨⟨X, x1, x2⟩, ⟨S, s1, s2, s3⟩, ⟨T, t1⟩, ⟨K, k1, k2⟩, hh, ⟨P, p1, p2⟩, ⟨R, r1⟩, ⟨F, f1⟩, ⟨Y, y1⟩, ⟨V, v1⟩, ⟨N, n1⟩⟩ := hC
  obtain ⟨M, m0, hF⟩ := hM
  have hF0 := hF
  obtain ⟨m1, m2, m3, m4, m5⟩ := hF
  have hW0 := hW
  obtain ⟨w1, w2, w3, w4⟩ := hW
  have hS := at_st s1
  have hb := w1.bnd
  have hn := hb.1
  have hR := mrw_R m1
  have g0 := cx_0 x1
  have z1 := cz_st s1
  have z0 := cz_sx x1
  have hen : ∀ j, j < len → (e j).1.1 ≤ 12 := fun j hj => (w3 j hj).1
  have hMS : mSt M σ r e len := ⟨m1, m2⟩
  cases len with
  | zero =>
    have hh0 := hh
    obtain ⟨-, Q, qq, hq, -⟩ := hh
    have xl := X_length (d := d + 19) hq
    refine PR_mk (v := -2) hC0 CO_r m0 hF0 hW0 ?_ (m_undo0 (d := d + 14) hMS)
    simp only [e119_0, e119_1, e119_4, e119_7, e119_10, e119_12, e119_13, e119_14, e119_17, e119_18, e119_21, e119_24, e119_25, e119_28, e119_31, Option.bind_some, Option.toList_some, Option.toList_none, List.cons_append, List.nil_append, true_or, or_true, and_true, true_and, i10, Bool.false_eq_true, if_true, if_false, reduceIte, cx_4 x1, zh_is hh0, xl, show (nI 0 ≤ 0) = True by decide, show (0 < nI 0) = False by decide]
  | succ len =>
    have hh0 := hh
    obtain ⟨H', S', a1, a2, a3, a4, a5, a6, a7⟩ := x_takeBack (d := d + 18) hh0 (by decide) s1
    obtain ⟨-, Q, qq, hq, -⟩ := hh
    have xl := X_length (d := d + 19) hq
    have hh1 := a1
    obtain ⟨-, Q1, qq1, hq1, -⟩ := a1
    have xl1 := X_length (d := d + 19) hq1
    have x1' : at_ H' 0 (sxL 0 X) := at_fr x1 (fun j a b => a5 j (by rw [sx_len] at b; omega))
    have e1 : (nI (len + 1) ≤ 0) = False := (nI_lep (b := 0) (by omega) (by omega)).trans (eq_false (by omega))
    have e2 : (0 < nI (len + 1)) = True := (nI_ltp (a := 0) (by omega) (by omega)).trans (eq_true (by omega))
    obtain ⟨M', c1, c2, c3⟩ := m_undo (d := d + 14) (h := H') (i := 71) (M := M) (by omega) hMS (hen len (by omega))
    refine PR_mk (H1 := H') (v := nI len) (M' := M') (CI_1h hC0 (fun j _ b => a5 j ⟨b.2.1, b.2.2⟩) a2 a3 a4 hh1) ⟨a6, fun j hj => a5 j ⟨Or.inr (by omega), Or.inr (by omega)⟩⟩ m0 (MF_K hF0 c2 c1) ⟨w3 len (by omega), by omega, fun j hj => w3 j (by omega), w4⟩ ?_ c3
    simp only [e119_0, e119_1, e119_4, e119_7, e119_10, e119_12, e119_13, e119_14, e119_17, e119_18, e119_21, e119_24, e119_25, e119_28, e119_31, Option.bind_some, Option.toList_some, Option.toList_none, List.cons_append, List.nil_append, true_or, or_true, and_true, true_and, i10, Bool.false_eq_true, if_true, if_false, reduceIte, cx_4 x1, cx_0 x1, zh_is hh0, xl, e1, e2, a7, cx_4 x1', zh_is hh1, xl1]
theorem st_save (hC : CI H σ r e len k κ w m) (hM : MI H σ r e len k κ w m) (hW : WF σ e len k κ) : PR d H 120 201 [] [] := by
  have hC0 := hC
  obtain ⟨⟨X, x1, x2⟩, ⟨S, s1, s2, s3⟩, ⟨T, t1⟩, ⟨K, k1, k2⟩, hh, ⟨P, p1, p2⟩, ⟨R, r1⟩, ⟨F, f1⟩, ⟨Y, y1⟩, ⟨V, v1⟩, ⟨N, n1⟩⟩ := hC
  obtain ⟨M, m0, hF⟩ := hM
  have hF0 := hF
  obtain ⟨m1, m2, m3, m4, m5⟩ := hF
  have hW0 := hW
  obtain ⟨w1, w2, w3, w4⟩ := hW
  have hS := at_st s1
  have hb := w1.bnd
  have hn := hb.1
  have hR := mrw_R m1
  have g0 := cx_0 x1
  have z1 := cz_st s1
  have z0 := cz_sx x1
  have hen : ∀ j, j < len → (e j).1.1 ≤ 12 := fun j hj => (w3 j hj).1
  have hMS : mSt M σ r e len := ⟨m1, m2⟩
  have cp := s_copyFrom (d := d + 19) (h := H) (v := 1) (i := 15) (V := S) (S := K) (by omega)
  rw [hS, at_st k1] at cp
  have x1' : at_ (hst H 15 (cpS K S)) 0 (sxL 0 X) := at_out x1 (Or.inl (Nat.le_of_ble_eq_true rfl))
  have hp : zputf (hst H 15 (cpS K S)) 0 7 3 (.int 1) = some (hsx (hst H 15 (cpS K S)) 0 (setI X 0 1)) := by
    have q : hsx (hst H 15 (cpS K S)) 0 X = hst H 15 (cpS K S) := at_self x1'
    have := sx_p3 (h := hst H 15 (cpS K S)) (i := 0) (S := X) (x := 1)
    rw [q] at this
    refine this.trans (congrArg some ?_)
    rw [← q]
  have s1' : at_ (hsx (hst H 15 (cpS K S)) 0 (setI X 0 1)) 1 (stL 1 S) := at_out (at_out s1 (Or.inl (Nat.le_of_ble_eq_true rfl))) (Or.inr (Nat.le_of_ble_eq_true rfl))
  have k1' : at_ (hsx (hst H 15 (cpS K S)) 0 (setI X 0 1)) 15 (stL 15 (cpS K S)) := at_out at_new (Or.inr (Nat.le_of_ble_eq_true rfl))
  have x1'' : at_ (hsx (hst H 15 (cpS K S)) 0 (setI X 0 1)) 0 (sxL 0 (setI X 0 1)) := at_new
  have nc := S_crates (d := d + 19) (at_st s1') s2
  obtain ⟨M', c1, c2, c3, c4, c5, c6⟩ := m_save (d := d + 14) (h := hsx (hst H 15 (cpS K S)) 0 (setI X 0 1)) (i := 71) (M := M) hMS hn
  have hF' : MF M' σ r e len true (σ, r) w m := ⟨c1.1, c1.2, c3, fun _ => c2, by
    unfold pmR
    rw [c5, c4]
    exact m5⟩
  have hCk : CI (hsx (hst H 15 (cpS K S)) 0 (setI X 0 1)) σ r e len true (σ, r) w m := CI_s15 hC0 (fun j _ a => (hrg_out (by rw [sx_len]; omega)).trans (hrg_out (by rw [st_len]; omega))) ⟨setI X 0 1, x1'', rfl⟩ ⟨cpS K S, k1', fun _ => ⟨stR_cp s2 hn, cpS_1.trans s3⟩⟩
  refine PR_mk (H1 := hsx (hst H 15 (cpS K S)) 0 (setI X 0 1)) (v := nI σ.1) (M' := M') hCk (CO_t (CO_h (Nat.le_of_ble_eq_true rfl)) (CO_h (Nat.le_of_ble_eq_true rfl))) m0 hF' ⟨w1, w2, w3, fun _ => w1⟩ ?_ c6
  simp only [e120_0, e120_1, e120_4, e120_5, e120_8, e120_11, e120_12, e120_13, e120_16, e120_17, e120_20, e120_23, Option.bind_some, Option.toList_some, Option.toList_none, List.cons_append, List.nil_append, true_or, or_true, and_true, true_and, i10, Bool.false_eq_true, if_true, if_false, reduceIte, cx_2 x1, cx_0 x1, cz_st k1, cp, hp, cx_0 x1'', cz_st s1', nc]
theorem st_restore (hC : CI H σ r e len k κ w m) (hM : MI H σ r e len k κ w m) (hW : WF σ e len k κ) : PR d H 121 202 [] [] := by
  have hC0 := hC
  obtain ⟨⟨X, x1, x2⟩, ⟨S, s1, s2, s3⟩, ⟨T, t1⟩, ⟨K, k1, k2⟩, hh, ⟨P, p1, p2⟩, ⟨R, r1⟩, ⟨F, f1⟩, ⟨Y, y1⟩, ⟨V, v1⟩, ⟨N, n1⟩⟩ := hC
  obtain ⟨M, m0, hF⟩ := hM
  have hF0 := hF
  obtain ⟨m1, m2, m3, m4, m5⟩ := hF
  have hW0 := hW
  obtain ⟨w1, w2, w3, w4⟩ := hW
  have hS := at_st s1
  have hb := w1.bnd
  have hn := hb.1
  have hR := mrw_R m1
  have g0 := cx_0 x1
  have z1 := cz_st s1
  have z0 := cz_sx x1
  have hen : ∀ j, j < len → (e j).1.1 ≤ 12 := fun j hj => (w3 j hj).1
  have hMS : mSt M σ r e len := ⟨m1, m2⟩
  cases k with
  | false =>
    have hk : X.2 0 = 0 := x2
    have mk0 : M.2 1 = 0 := m3
    have g3 := cx_3 x1
    rw [hk] at g3
    refine PR_mk (v := -2) hC0 CO_r m0 hF0 hW0 ?_ (m_restore0 (d := d + 14) mk0)
    simp only [e121_0, e121_1, e121_4, e121_7, e121_9, e121_10, e121_11, e121_14, e121_15, e121_18, e121_21, e121_22, e121_25, e121_26, e121_29, e121_32, e121_33, e121_36, e121_39, Option.bind_some, Option.toList_some, Option.toList_none, List.cons_append, List.nil_append, true_or, or_true, and_true, true_and, i10, Bool.false_eq_true, if_true, if_false, reduceIte, g3]
  | true =>
    have hk : X.2 0 = 1 := x2
    have mk1 : M.2 1 = 1 := m3
    have g3 := cx_3 x1
    rw [hk] at g3
    obtain ⟨k3, k4⟩ := k2 rfl
    have wk := w4 rfl
    obtain ⟨H', a1, a2, a3, a4⟩ := c_keep (d := d + 18) hC0 hn
    have s1' := at_1 s1 a3
    have x1' := at_0 x1 a3
    have k1' : at_ H' 15 (stL 15 K) := at_fr k1 (fun j a b => a3 j (by rw [st_len] at b; omega))
    have cp := s_copyFrom (d := d + 19) (h := H') (v := 15) (i := 1) (V := K) (S := S) (by omega)
    rw [at_st k1', at_st s1'] at cp
    have hRk : stR (cpS S K) κ.1 := stR_cp k3 wk.1
    have x1b : at_ (hst H' 1 (cpS S K)) 0 (sxL 0 X) := at_out x1' (Or.inl (Nat.le_of_ble_eq_true rfl))
    have s1b : at_ (hst H' 1 (cpS S K)) 1 (stL 1 (cpS S K)) := at_new
    have nc := S_crates (d := d + 19) (at_st s1b) hRk
    obtain ⟨M', c1, c2, c3⟩ := m_restore (d := d + 14) (h := hst H' 1 (cpS S K)) (i := 71) (M := M) w2 hMS hn hen mk1 (m4 rfl) wk.1
    refine PR_mk (H1 := hst H' 1 (cpS S K)) (v := nI κ.1.1) (M' := M') (CI_1 a1 hRk (cpS_1.trans k4)) (CO_t a2 CO_1) m0 (MF_K hF0 c2 c1) (WF_ch hW0 wk) ?_ c3
    simp only [e121_0, e121_1, e121_4, e121_7, e121_9, e121_10, e121_11, e121_14, e121_15, e121_18, e121_21, e121_22, e121_25, e121_26, e121_29, e121_32, e121_33, e121_36, e121_39, Option.bind_some, Option.toList_some, Option.toList_none, List.cons_append, List.nil_append, true_or, or_true, and_true, true_and, i10, Bool.false_eq_true, if_true, if_false, reduceIte, g3, cx_4 x1, cx_0 x1, zh_is hh, a4, cx_0 x1', cx_2 x1', cz_st s1', cp, cx_0 x1b, cz_st s1b, nc]
theorem lt_pred {x0 x1 : Int32} (h1 : 1 ≤ x0) (h2 : x0 ≤ 60) (h3 : x1 < x0) : x1 ≤ x0 - 1 := by
  obtain ⟨s, s1, s2, rfl⟩ := rng (a := 1) (b := 60) h1 h2 (by decide) (by decide)
  obtain ⟨u, rfl⟩ : ∃ u, s = u + 1 := ⟨s - 1, by omega⟩
  rw [nI_s1]
  have a := Int32.lt_iff_toInt_lt.mp h3
  rw [nI_toInt (by omega)] at a
  refine Int32.le_iff_toInt_le.mpr ?_
  rw [nI_toInt (by omega)]
  omega
theorem st_make {z1 : Int32} {z2 : Int32} (hC : CI H σ r e len k κ w m) (hM : MI H σ r e len k κ w m) (hW : WF σ e len k κ) : PR d H 98 157 [some (.int x), some (.int y), some (.int z1), some (.int z2)] [some (.int x), some (.int y), some (.int z1), some (.int z2), none, none] := by
  have hC0 := hC
  obtain ⟨⟨X, x1, x2⟩, ⟨S, s1, s2, s3⟩, ⟨T, t1⟩, ⟨K, k1, k2⟩, hh, ⟨P, p1, p2⟩, ⟨R, r1⟩, ⟨F, f1⟩, ⟨Y, y1⟩, ⟨V, v1⟩, ⟨N, n1⟩⟩ := hC
  obtain ⟨M, m0, hF⟩ := hM
  have hF0 := hF
  obtain ⟨m1, m2, m3, m4, m5⟩ := hF
  have hW0 := hW
  obtain ⟨w1, w2, w3, w4⟩ := hW
  have hS := at_st s1
  have hb := w1.bnd
  have hn := hb.1
  have hR := mrw_R m1
  have g0 := cx_0 x1
  have zz1 := cz_st s1
  have z0 := cz_sx x1
  have hen : ∀ j, j < len → (e j).1.1 ≤ 12 := fun j hj => (w3 j hj).1
  have hMS : mSt M σ r e len := ⟨m1, m2⟩
  by_cases q : okm x y z1 z2
  · have qk := q
    obtain ⟨s, t, g, l, h1, h2, h3, h4, h5, h6, h7, rfl, rfl, rfl, rfl⟩ := okm_n q
    have f1 : (nI s < 1) = False := (nI_ltp (b := 1) (by omega) (by omega)).trans (eq_false (by omega))
    have f2 : (60 < nI s) = False := (nI_ltp (a := 60) (by omega) (by omega)).trans (eq_false (by omega))
    have f2' : (nI s ≤ 60) = True := (nI_lep (b := 60) (by omega) (by omega)).trans (eq_true (by omega))
    have f3 : (nI t < 0) = False := (nI_ltp (b := 0) (by omega) (by omega)).trans (eq_false (by omega))
    have f4 : (nI t < nI s) = True := (nI_ltp (by omega) (by omega)).trans (eq_true (by omega))
    have f4' : (nI s ≤ nI t) = False := (nI_lep (by omega) (by omega)).trans (eq_false (by omega))
    have f5 : (nI g < 0) = False := (nI_ltp (b := 0) (by omega) (by omega)).trans (eq_false (by omega))
    have f6 : (15 < nI g) = False := (nI_ltp (a := 15) (by omega) (by omega)).trans (eq_false (by omega))
    have f6' : (nI g ≤ 15) = True := (nI_lep (b := 15) (by omega) (by omega)).trans (eq_true (by omega))
    have f7 := bI_t qk.2.2
    by_cases q2 : σ.1 = 12
    · refine PR_mk (v := -3) hC0 CO_r m0 hF0 hW0 ?_ (m_makeF (d := d + 14) hR qk q2)
      have nc := S_crates (d := d + 19) hS s2
      rw [q2] at nc
      simp only [e98_0, e98_1, e98_2, e98_5, e98_6, e98_8, e98_11, e98_12, e98_15, e98_16, e98_17, e98_20, e98_21, e98_22, e98_23, e98_26, e98_27, e98_29, e98_32, e98_34, e98_37, e98_40, e98_41, e98_42, e98_43, e98_46, e98_49, e98_51, e98_54, e98_56, e98_57, e98_58, e98_61, e98_62, e98_65, e98_68, e98_69, e98_72, e98_73, e98_74, e98_75, e98_77, e98_80, Option.bind_some, Option.toList_some, Option.toList_none, List.cons_append, List.nil_append, true_or, or_true, and_true, true_and, i10, Bool.false_eq_true, if_true, if_false, reduceIte, f1, f2, f2', f3, f4, f4', f5, f6, f6', c_isLabel, f7, g0, zz1, nc, show (nI 12 < 12) = False by decide, show ((12 : Int32) ≤ nI 12) = True by decide]
    · have h12 : σ.1 < 12 := by omega
      have f8 : (nI σ.1 < 12) = True := (nI_ltp (b := 12) (by omega) (by omega)).trans (eq_true h12)
      have f8' : (12 ≤ nI σ.1) = False := (nI_lep (a := 12) (by omega) (by omega)).trans (eq_false (by omega))
      obtain ⟨H', a1, a2, a3, a4⟩ := c_keep (d := d + 18) hC0 hn
      have s1' := at_1 s1 a3
      have x1' := at_0 x1 a3
      obtain ⟨S', b0, b1, b2, ⟨v0, v1', v2, v3, v4, v5⟩, b4⟩ := s_add (d := d + 17) (h := H') (i := 1) (S := S) s2 hb h12 (x0 := nI s) (x1 := nI t) (x2 := nI g) (x3 := nI l)
      rw [at_st s1'] at b4
      have hRa : stR S' (addd σ (mkA s t g l)) := stR_add s2 b1 b2 ⟨v0, v1', v2, by rw [v3, mkA_lbl h6], v4, v5⟩
      have wl := make_wf w1 h12 ⟨h1, h2⟩ h3 h4 h5 h6 h7
      obtain ⟨M', c1, c2, c3⟩ := m_make (d := d + 14) (h := hst H' 1 S') (i := 71) (M := M) w2 hMS w1 hen qk h12 h6
      refine PR_mk (H1 := hst H' 1 S') (v := nI σ.1) (M' := M') (CI_1 a1 hRa (b0.trans s3)) (CO_t a2 CO_1) m0 (MF_K hF0 c2 c1) (WF_ch hW0 wl) ?_ c3
      simp only [e98_0, e98_1, e98_2, e98_5, e98_6, e98_8, e98_11, e98_12, e98_15, e98_16, e98_17, e98_20, e98_21, e98_22, e98_23, e98_26, e98_27, e98_29, e98_32, e98_34, e98_37, e98_40, e98_41, e98_42, e98_43, e98_46, e98_49, e98_51, e98_54, e98_56, e98_57, e98_58, e98_61, e98_62, e98_65, e98_68, e98_69, e98_72, e98_73, e98_74, e98_75, e98_77, e98_80, Option.bind_some, Option.toList_some, Option.toList_none, List.cons_append, List.nil_append, true_or, or_true, and_true, true_and, i10, Bool.false_eq_true, if_true, if_false, reduceIte, f1, f2, f2', f3, f4, f4', f5, f6, f6', c_isLabel, f7, g0, zz1, S_crates hS s2, f8, f8', cx_4 x1, zh_is hh, a4, cx_0 x1', cz_st s1', b4]
  · refine PR_mk (v := -1) hC0 CO_r m0 hF0 hW0 ?_ (m_make0 (d := d + 14) q)
    by_cases q1 : x < 1
    · simp only [e98_0, e98_1, e98_2, e98_5, e98_6, e98_8, e98_11, e98_12, e98_15, e98_16, e98_17, e98_20, e98_21, e98_22, e98_23, e98_26, e98_27, e98_29, e98_32, e98_34, e98_37, e98_40, e98_41, e98_42, e98_43, e98_46, e98_49, e98_51, e98_54, e98_56, e98_57, e98_58, e98_61, e98_62, e98_65, e98_68, e98_69, e98_72, e98_73, e98_74, e98_75, e98_77, e98_80, Option.bind_some, Option.toList_some, Option.toList_none, List.cons_append, List.nil_append, true_or, or_true, and_true, true_and, i10, Bool.false_eq_true, if_true, if_false, reduceIte, eq_true q1]
    · by_cases q2 : x ≤ 60
      · have q2' : ¬ 60 < x := Int32.not_lt.mpr q2
        by_cases q3 : y < 0
        · simp only [e98_0, e98_1, e98_2, e98_5, e98_6, e98_8, e98_11, e98_12, e98_15, e98_16, e98_17, e98_20, e98_21, e98_22, e98_23, e98_26, e98_27, e98_29, e98_32, e98_34, e98_37, e98_40, e98_41, e98_42, e98_43, e98_46, e98_49, e98_51, e98_54, e98_56, e98_57, e98_58, e98_61, e98_62, e98_65, e98_68, e98_69, e98_72, e98_73, e98_74, e98_75, e98_77, e98_80, Option.bind_some, Option.toList_some, Option.toList_none, List.cons_append, List.nil_append, true_or, or_true, and_true, true_and, i10, Bool.false_eq_true, if_true, if_false, reduceIte, eq_false q1, eq_true q2, eq_false q2', eq_true q3]
        · by_cases q4 : y < x
          · have q4' : ¬ x ≤ y := Int32.not_le.mpr q4
            by_cases q5 : z1 < 0
            · simp only [e98_0, e98_1, e98_2, e98_5, e98_6, e98_8, e98_11, e98_12, e98_15, e98_16, e98_17, e98_20, e98_21, e98_22, e98_23, e98_26, e98_27, e98_29, e98_32, e98_34, e98_37, e98_40, e98_41, e98_42, e98_43, e98_46, e98_49, e98_51, e98_54, e98_56, e98_57, e98_58, e98_61, e98_62, e98_65, e98_68, e98_69, e98_72, e98_73, e98_74, e98_75, e98_77, e98_80, Option.bind_some, Option.toList_some, Option.toList_none, List.cons_append, List.nil_append, true_or, or_true, and_true, true_and, i10, Bool.false_eq_true, if_true, if_false, reduceIte, eq_false q1, eq_true q2, eq_false q2', eq_false q3, eq_true q4, eq_false q4', eq_true q5]
            · by_cases q6 : z1 ≤ 15
              · have q6' : ¬ 15 < z1 := Int32.not_lt.mpr q6
                have q7 : ¬ lbk z2 = true := fun z => q ⟨⟨⟨Int32.not_lt.mp q1, q2⟩, Int32.not_lt.mp q3, lt_pred (Int32.not_lt.mp q1) q2 q4⟩, ⟨Int32.not_lt.mp q5, q6⟩, z⟩
                simp only [e98_0, e98_1, e98_2, e98_5, e98_6, e98_8, e98_11, e98_12, e98_15, e98_16, e98_17, e98_20, e98_21, e98_22, e98_23, e98_26, e98_27, e98_29, e98_32, e98_34, e98_37, e98_40, e98_41, e98_42, e98_43, e98_46, e98_49, e98_51, e98_54, e98_56, e98_57, e98_58, e98_61, e98_62, e98_65, e98_68, e98_69, e98_72, e98_73, e98_74, e98_75, e98_77, e98_80, Option.bind_some, Option.toList_some, Option.toList_none, List.cons_append, List.nil_append, true_or, or_true, and_true, true_and, i10, Bool.false_eq_true, if_true, if_false, reduceIte, eq_false q1, eq_true q2, eq_false q2', eq_false q3, eq_true q4, eq_false q4', eq_false q5, eq_true q6, eq_false q6', c_isLabel, bI_f q7]
              · have q6' : 15 < z1 := Int32.not_le.mp q6
                simp only [e98_0, e98_1, e98_2, e98_5, e98_6, e98_8, e98_11, e98_12, e98_15, e98_16, e98_17, e98_20, e98_21, e98_22, e98_23, e98_26, e98_27, e98_29, e98_32, e98_34, e98_37, e98_40, e98_41, e98_42, e98_43, e98_46, e98_49, e98_51, e98_54, e98_56, e98_57, e98_58, e98_61, e98_62, e98_65, e98_68, e98_69, e98_72, e98_73, e98_74, e98_75, e98_77, e98_80, Option.bind_some, Option.toList_some, Option.toList_none, List.cons_append, List.nil_append, true_or, or_true, and_true, true_and, i10, Bool.false_eq_true, if_true, if_false, reduceIte, eq_false q1, eq_true q2, eq_false q2', eq_false q3, eq_true q4, eq_false q4', eq_false q5, eq_false q6, eq_true q6']
          · have q4' : x ≤ y := Int32.not_lt.mp q4
            simp only [e98_0, e98_1, e98_2, e98_5, e98_6, e98_8, e98_11, e98_12, e98_15, e98_16, e98_17, e98_20, e98_21, e98_22, e98_23, e98_26, e98_27, e98_29, e98_32, e98_34, e98_37, e98_40, e98_41, e98_42, e98_43, e98_46, e98_49, e98_51, e98_54, e98_56, e98_57, e98_58, e98_61, e98_62, e98_65, e98_68, e98_69, e98_72, e98_73, e98_74, e98_75, e98_77, e98_80, Option.bind_some, Option.toList_some, Option.toList_none, List.cons_append, List.nil_append, true_or, or_true, and_true, true_and, i10, Bool.false_eq_true, if_true, if_false, reduceIte, eq_false q1, eq_true q2, eq_false q2', eq_false q3, eq_false q4, eq_true q4']
      · have q2' : 60 < x := Int32.not_le.mp q2
        simp only [e98_0, e98_1, e98_2, e98_5, e98_6, e98_8, e98_11, e98_12, e98_15, e98_16, e98_17, e98_20, e98_21, e98_22, e98_23, e98_26, e98_27, e98_29, e98_32, e98_34, e98_37, e98_40, e98_41, e98_42, e98_43, e98_46, e98_49, e98_51, e98_54, e98_56, e98_57, e98_58, e98_61, e98_62, e98_65, e98_68, e98_69, e98_72, e98_73, e98_74, e98_75, e98_77, e98_80, Option.bind_some, Option.toList_some, Option.toList_none, List.cons_append, List.nil_append, true_or, or_true, and_true, true_and, i10, Bool.false_eq_true, if_true, if_false, reduceIte, eq_false q1, eq_false q2, eq_true q2']
end DEEDS
