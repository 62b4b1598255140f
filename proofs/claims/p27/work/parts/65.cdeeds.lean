/-! THE DEEDS OF THE CLASS ALONE -/
section CDEEDS
variable {d : Nat} {H H1 : zH} {σ σ' : mS} {r r' : Int32} {e e' : Nat → mS × Int32} {len len' : Nat} {k : Bool} {κ : mS × Int32} {w w' : Nat → Nat} {m m' : Nat} {x y : Int32} {c : Nat}
theorem cd_put0 (q : zin x σ.1 = false ∨ zin y σ.1 = false) (hC : CI H σ r e len k κ w m) (hW : WF σ e len k κ) : ev (d + 20) 99 0 [some (.ref 0), some (.int x), some (.int y), none] [] H = some (some (.int (-1)), H) := by
  have hC0 := hC
  obtain ⟨⟨X, x1, x2⟩, ⟨S, s1, s2, s3⟩, ⟨T, t1⟩, ⟨K, k1, k2⟩, hh, ⟨P, p1, p2⟩, ⟨R, r1⟩, ⟨F, f1⟩, ⟨Y, y1⟩, ⟨V, v1⟩, ⟨N, n1⟩⟩ := hC
  have hW0 := hW
  obtain ⟨w1, w2, w3, w4⟩ := hW
  have hS := at_st s1
  have hb := w1.bnd
  have hn := hb.1
  have g0 := cx_0 x1
  have z1 := cz_st s1
  have z0 := cz_sx x1
  cases q1 : zin x σ.1 with
  | false => simp only [e99_0, e99_1, e99_4, e99_5, e99_8, e99_11, e99_12, e99_15, e99_16, e99_19, e99_22, e99_23, e99_24, e99_25, e99_28, e99_29, e99_30, e99_33, e99_34, e99_35, e99_38, e99_39, e99_40, e99_43, e99_44, e99_45, e99_48, e99_49, e99_52, e99_55, e99_56, e99_59, e99_60, e99_61, e99_64, e99_66, e99_67, e99_70, e99_71, e99_74, e99_75, Option.bind_some, Option.toList_some, Option.toList_none, List.cons_append, List.nil_append, true_or, or_true, and_true, true_and, i10, Bool.false_eq_true, if_true, if_false, reduceIte, g0, z1, S_isC0 hS s2 hn q1]
  | true =>
    have q2 : zin y σ.1 = false := q.resolve_left (by rw [q1]; decide)
    obtain ⟨c, hc, rfl⟩ := zin_some (by omega) q1
    simp only [e99_0, e99_1, e99_4, e99_5, e99_8, e99_11, e99_12, e99_15, e99_16, e99_19, e99_22, e99_23, e99_24, e99_25, e99_28, e99_29, e99_30, e99_33, e99_34, e99_35, e99_38, e99_39, e99_40, e99_43, e99_44, e99_45, e99_48, e99_49, e99_52, e99_55, e99_56, e99_59, e99_60, e99_61, e99_64, e99_66, e99_67, e99_70, e99_71, e99_74, e99_75, Option.bind_some, Option.toList_some, Option.toList_none, List.cons_append, List.nil_append, true_or, or_true, and_true, true_and, i10, Bool.false_eq_true, if_true, if_false, reduceIte, g0, z1, S_isCrate_k hS s2 hb hc, S_isC0 hS s2 hn q2]
theorem cd_put {u : Nat} (hc : c < σ.1) (hu : u < σ.1) (q3 : rpt σ c u = 0) (hC : CI H σ r e len k κ w m) (hW : WF σ e len k κ) : PV d H 99 [some (.int (nI c)), some (.int (nI u)), none] (nI (10 + dpt (laid σ c u) c)) (laid σ c u) r (he e len (σ, r)) (hl len) k κ w m := by
  have hC0 := hC
  obtain ⟨⟨X, x1, x2⟩, ⟨S, s1, s2, s3⟩, ⟨T, t1⟩, ⟨K, k1, k2⟩, hh, ⟨P, p1, p2⟩, ⟨R, r1⟩, ⟨F, f1⟩, ⟨Y, y1⟩, ⟨V, v1⟩, ⟨N, n1⟩⟩ := hC
  have hW0 := hW
  obtain ⟨w1, w2, w3, w4⟩ := hW
  have hS := at_st s1
  have hb := w1.bnd
  have hn := hb.1
  have g0 := cx_0 x1
  have z1 := cz_st s1
  have z0 := cz_sx x1
  have rr := S_reasonNotToPut (d := d + 15) hS s2 w1 hc hu
  have e0 : (nI (rpt σ c u) = 0) = (rpt σ c u = 0) := nI_eqp (b := 0) (by have := rpt_5 (σ := σ) (c := c) (u := u); omega) (by omega)
  obtain ⟨H', a1, a2, a3, a4⟩ := c_keep (d := d + 18) hC0 hn
  have s1' := at_1 s1 a3
  have x1' := at_0 x1 a3
  obtain ⟨S', b1, b2, b3⟩ := s_lay (d := d + 17) (h := H') (i := 1) (S := S) s2 hb hc hu
  rw [at_st s1'] at b3
  have wl := put_wf w1 hc hu q3
  have x1b : at_ (hst H' 1 S') 0 (sxL 0 X) := at_out x1' (Or.inl (Nat.le_of_ble_eq_true rfl))
  have s1b : at_ (hst H' 1 S') 1 (stL 1 S') := at_new
  have dp := S_depthOf (d := d + 17) (at_st s1b) b1 wl.bnd (c := c) hc
  have e10 : (10 : Int32) + nI (dpt (laid σ c u) c) = nI (10 + dpt (laid σ c u) c) := nI_add 10 _
  refine PV_mk (H1 := hst H' 1 S') (CI_1 a1 b1 (b2.trans s3)) (CO_t a2 CO_1) ?_
  simp only [e99_0, e99_1, e99_4, e99_5, e99_8, e99_11, e99_12, e99_15, e99_16, e99_19, e99_22, e99_23, e99_24, e99_25, e99_28, e99_29, e99_30, e99_33, e99_34, e99_35, e99_38, e99_39, e99_40, e99_43, e99_44, e99_45, e99_48, e99_49, e99_52, e99_55, e99_56, e99_59, e99_60, e99_61, e99_64, e99_66, e99_67, e99_70, e99_71, e99_74, e99_75, Option.bind_some, Option.toList_some, Option.toList_none, List.cons_append, List.nil_append, true_or, or_true, and_true, true_and, i10, Bool.false_eq_true, if_true, if_false, reduceIte, g0, z1, S_isCrate_k hS s2 hb hc, S_isCrate_k hS s2 hb hu, rr, e0, eq_true q3, cx_4 x1, zh_is hh, a4, cx_0 x1', cz_st s1', b3, cx_0 x1b, cz_st s1b, dp, e10]
theorem cd_putR {u : Nat} (hc : c < σ.1) (hu : u < σ.1) (q3 : ¬ rpt σ c u = 0) (hC : CI H σ r e len k κ w m) (hW : WF σ e len k κ) : PV d H 99 [some (.int (nI c)), some (.int (nI u)), none] (nI (rpt σ c u)) σ (r + 1) (he e len (σ, r)) (hl len) k κ w m := by
  have hC0 := hC
  obtain ⟨⟨X, x1, x2⟩, ⟨S, s1, s2, s3⟩, ⟨T, t1⟩, ⟨K, k1, k2⟩, hh, ⟨P, p1, p2⟩, ⟨R, r1⟩, ⟨F, f1⟩, ⟨Y, y1⟩, ⟨V, v1⟩, ⟨N, n1⟩⟩ := hC
  have hW0 := hW
  obtain ⟨w1, w2, w3, w4⟩ := hW
  have hS := at_st s1
  have hb := w1.bnd
  have hn := hb.1
  have g0 := cx_0 x1
  have z1 := cz_st s1
  have z0 := cz_sx x1
  have rr := S_reasonNotToPut (d := d + 15) hS s2 w1 hc hu
  have e0 : (nI (rpt σ c u) = 0) = (rpt σ c u = 0) := nI_eqp (b := 0) (by have := rpt_5 (σ := σ) (c := c) (u := u); omega) (by omega)
  obtain ⟨H', a1, a2, a4⟩ := c_refuse (d := d + 17) hC0 hn (v := nI (rpt σ c u))
  refine PV_mk a1 a2 ?_
  simp only [e99_0, e99_1, e99_4, e99_5, e99_8, e99_11, e99_12, e99_15, e99_16, e99_19, e99_22, e99_23, e99_24, e99_25, e99_28, e99_29, e99_30, e99_33, e99_34, e99_35, e99_38, e99_39, e99_40, e99_43, e99_44, e99_45, e99_48, e99_49, e99_52, e99_55, e99_56, e99_59, e99_60, e99_61, e99_64, e99_66, e99_67, e99_70, e99_71, e99_74, e99_75, Option.bind_some, Option.toList_some, Option.toList_none, List.cons_append, List.nil_append, true_or, or_true, and_true, true_and, i10, Bool.false_eq_true, if_true, if_false, reduceIte, g0, z0, z1, S_isCrate_k hS s2 hb hc, S_isCrate_k hS s2 hb hu, rr, e0, eq_false q3, a4]
theorem cd_ground0 (q : zin x σ.1 = false) (hC : CI H σ r e len k κ w m) (hW : WF σ e len k κ) : ev (d + 20) 100 0 [some (.ref 0), some (.int x), none] [] H = some (some (.int (-1)), H) := by
  have hC0 := hC
  obtain ⟨⟨X, x1, x2⟩, ⟨S, s1, s2, s3⟩, ⟨T, t1⟩, ⟨K, k1, k2⟩, hh, ⟨P, p1, p2⟩, ⟨R, r1⟩, ⟨F, f1⟩, ⟨Y, y1⟩, ⟨V, v1⟩, ⟨N, n1⟩⟩ := hC
  have hW0 := hW
  obtain ⟨w1, w2, w3, w4⟩ := hW
  have hS := at_st s1
  have hb := w1.bnd
  have hn := hb.1
  have g0 := cx_0 x1
  have z1 := cz_st s1
  have z0 := cz_sx x1
  simp only [e100_0, e100_1, e100_4, e100_5, e100_8, e100_11, e100_12, e100_13, e100_14, e100_17, e100_18, e100_21, e100_22, e100_23, e100_26, e100_27, e100_28, e100_31, e100_32, e100_33, e100_36, e100_37, e100_40, e100_43, e100_44, e100_47, e100_48, e100_51, e100_53, Option.bind_some, Option.toList_some, Option.toList_none, List.cons_append, List.nil_append, true_or, or_true, and_true, true_and, i10, Bool.false_eq_true, if_true, if_false, reduceIte, g0, z1, S_isC0 hS s2 hn q]
theorem cd_ground (hc : c < σ.1) (q3 : rgd σ c = 0) (hC : CI H σ r e len k κ w m) (hW : WF σ e len k κ) : PV d H 100 [some (.int (nI c)), none] (10) (gnd σ c) r (he e len (σ, r)) (hl len) k κ w m := by
  have hC0 := hC
  obtain ⟨⟨X, x1, x2⟩, ⟨S, s1, s2, s3⟩, ⟨T, t1⟩, ⟨K, k1, k2⟩, hh, ⟨P, p1, p2⟩, ⟨R, r1⟩, ⟨F, f1⟩, ⟨Y, y1⟩, ⟨V, v1⟩, ⟨N, n1⟩⟩ := hC
  have hW0 := hW
  obtain ⟨w1, w2, w3, w4⟩ := hW
  have hS := at_st s1
  have hb := w1.bnd
  have hn := hb.1
  have g0 := cx_0 x1
  have z1 := cz_st s1
  have z0 := cz_sx x1
  have rr := S_reasonNotToGround (d := d + 15) hS s2 w1 hc
  have e0 : (nI (rgd σ c) = 0) = (rgd σ c = 0) := nI_eqp (b := 0) (by have := rgd_5 (σ := σ) (c := c); omega) (by omega)
  obtain ⟨H', a1, a2, a3, a4⟩ := c_keep (d := d + 18) hC0 hn
  have s1' := at_1 s1 a3
  have x1' := at_0 x1 a3
  have lf := s_lift (d := d + 18) (h := H') (i := 1) (S := S) s2 hb hc
  rw [at_st s1'] at lf
  refine PV_mk (H1 := hst H' 1 (setR (setR S 4 (upd (S.1 4) c (-1))) 5 (upd (S.1 5) c 0))) (CI_1 a1 (stR_lift s2 c) s3) (CO_t a2 CO_1) ?_
  simp only [e100_0, e100_1, e100_4, e100_5, e100_8, e100_11, e100_12, e100_13, e100_14, e100_17, e100_18, e100_21, e100_22, e100_23, e100_26, e100_27, e100_28, e100_31, e100_32, e100_33, e100_36, e100_37, e100_40, e100_43, e100_44, e100_47, e100_48, e100_51, e100_53, Option.bind_some, Option.toList_some, Option.toList_none, List.cons_append, List.nil_append, true_or, or_true, and_true, true_and, i10, Bool.false_eq_true, if_true, if_false, reduceIte, g0, z1, S_isCrate_k hS s2 hb hc, rr, e0, eq_true q3, cx_4 x1, zh_is hh, a4, cx_0 x1', cz_st s1', lf]
theorem cd_groundR (hc : c < σ.1) (q3 : ¬ rgd σ c = 0) (hC : CI H σ r e len k κ w m) (hW : WF σ e len k κ) : PV d H 100 [some (.int (nI c)), none] (nI (rgd σ c)) σ (r + 1) (he e len (σ, r)) (hl len) k κ w m := by
  have hC0 := hC
  obtain ⟨⟨X, x1, x2⟩, ⟨S, s1, s2, s3⟩, ⟨T, t1⟩, ⟨K, k1, k2⟩, hh, ⟨P, p1, p2⟩, ⟨R, r1⟩, ⟨F, f1⟩, ⟨Y, y1⟩, ⟨V, v1⟩, ⟨N, n1⟩⟩ := hC
  have hW0 := hW
  obtain ⟨w1, w2, w3, w4⟩ := hW
  have hS := at_st s1
  have hb := w1.bnd
  have hn := hb.1
  have g0 := cx_0 x1
  have z1 := cz_st s1
  have z0 := cz_sx x1
  have rr := S_reasonNotToGround (d := d + 15) hS s2 w1 hc
  have e0 : (nI (rgd σ c) = 0) = (rgd σ c = 0) := nI_eqp (b := 0) (by have := rgd_5 (σ := σ) (c := c); omega) (by omega)
  obtain ⟨H', a1, a2, a4⟩ := c_refuse (d := d + 17) hC0 hn (v := nI (rgd σ c))
  refine PV_mk a1 a2 ?_
  simp only [e100_0, e100_1, e100_4, e100_5, e100_8, e100_11, e100_12, e100_13, e100_14, e100_17, e100_18, e100_21, e100_22, e100_23, e100_26, e100_27, e100_28, e100_31, e100_32, e100_33, e100_36, e100_37, e100_40, e100_43, e100_44, e100_47, e100_48, e100_51, e100_53, Option.bind_some, Option.toList_some, Option.toList_none, List.cons_append, List.nil_append, true_or, or_true, and_true, true_and, i10, Bool.false_eq_true, if_true, if_false, reduceIte, g0, z0, z1, S_isCrate_k hS s2 hb hc, rr, e0, eq_false q3, a4]
theorem cd_turn0 (q : zin x σ.1 = false) (hC : CI H σ r e len k κ w m) (hW : WF σ e len k κ) : ev (d + 20) 101 0 [some (.ref 0), some (.int x)] [] H = some (some (.int (-1)), H) := by
  have hC0 := hC
  obtain ⟨⟨X, x1, x2⟩, ⟨S, s1, s2, s3⟩, ⟨T, t1⟩, ⟨K, k1, k2⟩, hh, ⟨P, p1, p2⟩, ⟨R, r1⟩, ⟨F, f1⟩, ⟨Y, y1⟩, ⟨V, v1⟩, ⟨N, n1⟩⟩ := hC
  have hW0 := hW
  obtain ⟨w1, w2, w3, w4⟩ := hW
  have hS := at_st s1
  have hb := w1.bnd
  have hn := hb.1
  have g0 := cx_0 x1
  have z1 := cz_st s1
  have z0 := cz_sx x1
  simp only [e101_0, e101_1, e101_4, e101_5, e101_8, e101_11, e101_12, e101_13, e101_14, e101_17, e101_18, e101_21, e101_24, e101_25, e101_28, e101_29, e101_32, e101_33, e101_36, e101_37, e101_40, Option.bind_some, Option.toList_some, Option.toList_none, List.cons_append, List.nil_append, true_or, or_true, and_true, true_and, i10, Bool.false_eq_true, if_true, if_false, reduceIte, g0, z1, S_isC0 hS s2 hn q]
theorem cd_turn (hc : c < σ.1) (hC : CI H σ r e len k κ w m) (hW : WF σ e len k κ) : PV d H 101 [some (.int (nI c))] (nI (tnd (σ.2 c 2))) (trd σ c) r (he e len (σ, r)) (hl len) k κ w m := by
  have hC0 := hC
  obtain ⟨⟨X, x1, x2⟩, ⟨S, s1, s2, s3⟩, ⟨T, t1⟩, ⟨K, k1, k2⟩, hh, ⟨P, p1, p2⟩, ⟨R, r1⟩, ⟨F, f1⟩, ⟨Y, y1⟩, ⟨V, v1⟩, ⟨N, n1⟩⟩ := hC
  have hW0 := hW
  obtain ⟨w1, w2, w3, w4⟩ := hW
  have hS := at_st s1
  have hb := w1.bnd
  have hn := hb.1
  have g0 := cx_0 x1
  have z1 := cz_st s1
  have z0 := cz_sx x1
  obtain ⟨H', a1, a2, a3, a4⟩ := c_keep (d := d + 18) hC0 hn
  have s1' := at_1 s1 a3
  have x1' := at_0 x1 a3
  have ts := s_turnSlats (d := d + 18) (h := H') (i := 1) (S := S) s2 hb hc
  rw [at_st s1'] at ts
  have wl : wf (sa σ c 2 (tnd (σ.2 c 2))) := turn_wf w1 tnd_15
  have hRt : stR (setR S 2 (upd (S.1 2) c (nI (tnd (σ.2 c 2))))) (sa σ c 2 (tnd (σ.2 c 2))) := stR_g s2 c _
  have x1b : at_ (hst H' 1 (setR S 2 (upd (S.1 2) c (nI (tnd (σ.2 c 2)))))) 0 (sxL 0 X) := at_out x1' (Or.inl (Nat.le_of_ble_eq_true rfl))
  have s1b : at_ (hst H' 1 (setR S 2 (upd (S.1 2) c (nI (tnd (σ.2 c 2)))))) 1 (stL 1 (setR S 2 (upd (S.1 2) c (nI (tnd (σ.2 c 2)))))) := at_new
  have gp := S_gapsOf (d := d + 18) (at_st s1b) hRt wl.bnd (c := c) hc
  rw [sa_2, if_pos ⟨rfl, rfl⟩] at gp
  refine PV_mk (H1 := hst H' 1 (setR S 2 (upd (S.1 2) c (nI (tnd (σ.2 c 2)))))) (CI_1 a1 hRt s3) (CO_t a2 CO_1) ?_
  simp only [e101_0, e101_1, e101_4, e101_5, e101_8, e101_11, e101_12, e101_13, e101_14, e101_17, e101_18, e101_21, e101_24, e101_25, e101_28, e101_29, e101_32, e101_33, e101_36, e101_37, e101_40, Option.bind_some, Option.toList_some, Option.toList_none, List.cons_append, List.nil_append, true_or, or_true, and_true, true_and, i10, Bool.false_eq_true, if_true, if_false, reduceIte, g0, z1, S_isCrate_k hS s2 hb hc, cx_4 x1, zh_is hh, a4, cx_0 x1', cz_st s1', ts, cx_0 x1b, cz_st s1b, gp]
theorem cd_break0 (q : zin x σ.1 = false) (hC : CI H σ r e len k κ w m) (hW : WF σ e len k κ) : ev (d + 20) 102 0 [some (.ref 0), some (.int x), none] [] H = some (some (.int (-1)), H) := by
  have hC0 := hC
  obtain ⟨⟨X, x1, x2⟩, ⟨S, s1, s2, s3⟩, ⟨T, t1⟩, ⟨K, k1, k2⟩, hh, ⟨P, p1, p2⟩, ⟨R, r1⟩, ⟨F, f1⟩, ⟨Y, y1⟩, ⟨V, v1⟩, ⟨N, n1⟩⟩ := hC
  have hW0 := hW
  obtain ⟨w1, w2, w3, w4⟩ := hW
  have hS := at_st s1
  have hb := w1.bnd
  have hn := hb.1
  have g0 := cx_0 x1
  have z1 := cz_st s1
  have z0 := cz_sx x1
  simp only [e102_0, e102_1, e102_4, e102_5, e102_8, e102_11, e102_12, e102_13, e102_14, e102_17, e102_18, e102_21, e102_22, e102_23, e102_26, e102_27, e102_28, e102_31, e102_32, e102_33, e102_36, e102_37, e102_40, e102_43, e102_44, e102_47, e102_48, e102_51, e102_53, e102_54, e102_57, e102_60, e102_61, Option.bind_some, Option.toList_some, Option.toList_none, List.cons_append, List.nil_append, true_or, or_true, and_true, true_and, i10, Bool.false_eq_true, if_true, if_false, reduceIte, g0, z1, S_isC0 hS s2 hn q]
theorem cd_break (hc : c < σ.1) (q3 : rbk σ c = 0) (hC : CI H σ r e len k κ w m) (hW : WF σ e len k κ) : PV d H 102 [some (.int (nI c)), none] (nI (10 + (σ.1 - 1))) (lrm σ c) r (he e len (σ, r)) (hl len) k κ w m := by
  have hC0 := hC
  obtain ⟨⟨X, x1, x2⟩, ⟨S, s1, s2, s3⟩, ⟨T, t1⟩, ⟨K, k1, k2⟩, hh, ⟨P, p1, p2⟩, ⟨R, r1⟩, ⟨F, f1⟩, ⟨Y, y1⟩, ⟨V, v1⟩, ⟨N, n1⟩⟩ := hC
  have hW0 := hW
  obtain ⟨w1, w2, w3, w4⟩ := hW
  have hS := at_st s1
  have hb := w1.bnd
  have hn := hb.1
  have g0 := cx_0 x1
  have z1 := cz_st s1
  have z0 := cz_sx x1
  have rr := S_reasonNotToBreak (d := d + 15) hS s2 w1 hc
  have e0 : (nI (rbk σ c) = 0) = (rbk σ c = 0) := nI_eqp (b := 0) (by have := rbk_5 (σ := σ) (c := c); omega) (by omega)
  obtain ⟨H', a1, a2, a3, a4⟩ := c_keep (d := d + 18) hC0 hn
  have s1' := at_1 s1 a3
  have x1' := at_0 x1 a3
  obtain ⟨S', b1, b2, b3⟩ := s_remove (d := d + 18) (h := H') (i := 1) (S := S) s2 hb hc
  rw [at_st s1'] at b3
  have x1b : at_ (hst H' 1 S') 0 (sxL 0 X) := at_out x1' (Or.inl (Nat.le_of_ble_eq_true rfl))
  have s1b : at_ (hst H' 1 S') 1 (stL 1 S') := at_new
  have nc : ev (d + 19) 38 0 [some (.ref 1)] [] (hst H' 1 S') = some (some (.int (nI (σ.1 - 1))), hst H' 1 S') := S_crates (at_st s1b) b1
  have e10 : (10 : Int32) + nI (σ.1 - 1) = nI (10 + (σ.1 - 1)) := nI_add 10 _
  refine PV_mk (H1 := hst H' 1 S') (CI_1 a1 b1 (b2.trans s3)) (CO_t a2 CO_1) ?_
  simp only [e102_0, e102_1, e102_4, e102_5, e102_8, e102_11, e102_12, e102_13, e102_14, e102_17, e102_18, e102_21, e102_22, e102_23, e102_26, e102_27, e102_28, e102_31, e102_32, e102_33, e102_36, e102_37, e102_40, e102_43, e102_44, e102_47, e102_48, e102_51, e102_53, e102_54, e102_57, e102_60, e102_61, Option.bind_some, Option.toList_some, Option.toList_none, List.cons_append, List.nil_append, true_or, or_true, and_true, true_and, i10, Bool.false_eq_true, if_true, if_false, reduceIte, g0, z1, S_isCrate_k hS s2 hb hc, rr, e0, eq_true q3, cx_4 x1, zh_is hh, a4, cx_0 x1', cz_st s1', b3, cx_0 x1b, cz_st s1b, nc, e10]
theorem cd_breakR (hc : c < σ.1) (q3 : ¬ rbk σ c = 0) (hC : CI H σ r e len k κ w m) (hW : WF σ e len k κ) : PV d H 102 [some (.int (nI c)), none] (nI (rbk σ c)) σ (r + 1) (he e len (σ, r)) (hl len) k κ w m := by
  have hC0 := hC
  obtain ⟨⟨X, x1, x2⟩, ⟨S, s1, s2, s3⟩, ⟨T, t1⟩, ⟨K, k1, k2⟩, hh, ⟨P, p1, p2⟩, ⟨R, r1⟩, ⟨F, f1⟩, ⟨Y, y1⟩, ⟨V, v1⟩, ⟨N, n1⟩⟩ := hC
  have hW0 := hW
  obtain ⟨w1, w2, w3, w4⟩ := hW
  have hS := at_st s1
  have hb := w1.bnd
  have hn := hb.1
  have g0 := cx_0 x1
  have z1 := cz_st s1
  have z0 := cz_sx x1
  have rr := S_reasonNotToBreak (d := d + 15) hS s2 w1 hc
  have e0 : (nI (rbk σ c) = 0) = (rbk σ c = 0) := nI_eqp (b := 0) (by have := rbk_5 (σ := σ) (c := c); omega) (by omega)
  obtain ⟨H', a1, a2, a4⟩ := c_refuse (d := d + 17) hC0 hn (v := nI (rbk σ c))
  refine PV_mk a1 a2 ?_
  simp only [e102_0, e102_1, e102_4, e102_5, e102_8, e102_11, e102_12, e102_13, e102_14, e102_17, e102_18, e102_21, e102_22, e102_23, e102_26, e102_27, e102_28, e102_31, e102_32, e102_33, e102_36, e102_37, e102_40, e102_43, e102_44, e102_47, e102_48, e102_51, e102_53, e102_54, e102_57, e102_60, e102_61, Option.bind_some, Option.toList_some, Option.toList_none, List.cons_append, List.nil_append, true_or, or_true, and_true, true_and, i10, Bool.false_eq_true, if_true, if_false, reduceIte, g0, z0, z1, S_isCrate_k hS s2 hb hc, rr, e0, eq_false q3, a4]
theorem cd_undo0 (hC : CI H σ r e 0 k κ w m) : ev (d + 20) 118 0 [some (.ref 0)] [] H = some (some (.int (-2)), H) := by
  have hC0 := hC
  obtain ⟨⟨X, x1, x2⟩, ⟨S, s1, s2, s3⟩, ⟨T, t1⟩, ⟨K, k1, k2⟩, hh, -⟩ := hC
  have hh0 := hh
  obtain ⟨-, Q, qq, hq, -⟩ := hh
  have xl := X_length (d := d + 19) hq
  simp only [e118_0, e118_1, e118_4, e118_7, e118_10, e118_12, e118_13, e118_14, e118_17, e118_18, e118_21, e118_24, e118_25, e118_28, e118_31, Option.bind_some, Option.toList_some, Option.toList_none, List.cons_append, List.nil_append, true_or, or_true, and_true, true_and, i10, Bool.false_eq_true, if_true, if_false, reduceIte, cx_4 x1, zh_is hh0, xl, show (nI 0 ≤ 0) = True by decide, show (0 < nI 0) = False by decide]
theorem cd_undo (hC : CI H σ r e (len + 1) k κ w m) (hl4 : len + 1 ≤ 4) : PV d H 118 [] (nI len) (e len).1 (e len).2 e len k κ w m := by
  have hC0 := hC
  obtain ⟨⟨X, x1, x2⟩, ⟨S, s1, s2, s3⟩, ⟨T, t1⟩, ⟨K, k1, k2⟩, hh, -⟩ := hC
  have hh0 := hh
  obtain ⟨H', S', a1, a2, a3, a4, a5, a6, a7⟩ := x_takeBack (d := d + 18) hh0 (by decide) s1
  obtain ⟨-, Q, qq, hq, -⟩ := hh
  have xl := X_length (d := d + 19) hq
  have hh1 := a1
  obtain ⟨-, Q1, qq1, hq1, -⟩ := a1
  have xl1 := X_length (d := d + 19) hq1
  have x1' : at_ H' 0 (sxL 0 X) := at_fr x1 (fun j a b => a5 j (by rw [sx_len] at b; omega))
  have e1 : (nI (len + 1) ≤ 0) = False := (nI_lep (b := 0) (by omega) (by omega)).trans (eq_false (by omega))
  have e2 : (0 < nI (len + 1)) = True := (nI_ltp (a := 0) (by omega) (by omega)).trans (eq_true (by omega))
  refine PV_mk (H1 := H') (CI_1h hC0 (fun j _ b => a5 j ⟨b.2.1, b.2.2⟩) a2 a3 a4 hh1) ⟨a6, fun j hj => a5 j ⟨Or.inr (by omega), Or.inr (by omega)⟩⟩ ?_
  simp only [e118_0, e118_1, e118_4, e118_7, e118_10, e118_12, e118_13, e118_14, e118_17, e118_18, e118_21, e118_24, e118_25, e118_28, e118_31, Option.bind_some, Option.toList_some, Option.toList_none, List.cons_append, List.nil_append, true_or, or_true, and_true, true_and, i10, Bool.false_eq_true, if_true, if_false, reduceIte, cx_4 x1, cx_0 x1, zh_is hh0, xl, e1, e2, a7, cx_4 x1', zh_is hh1, xl1]
theorem cd_save (hC : CI H σ r e len k κ w m) (hW : WF σ e len k κ) : PV d H 119 [] (nI σ.1) σ r e len true (σ, r) w m := by
  have hC0 := hC
  obtain ⟨⟨X, x1, x2⟩, ⟨S, s1, s2, s3⟩, ⟨T, t1⟩, ⟨K, k1, k2⟩, hh, ⟨P, p1, p2⟩, ⟨R, r1⟩, ⟨F, f1⟩, ⟨Y, y1⟩, ⟨V, v1⟩, ⟨N, n1⟩⟩ := hC
  have hW0 := hW
  obtain ⟨w1, w2, w3, w4⟩ := hW
  have hS := at_st s1
  have hb := w1.bnd
  have hn := hb.1
  have g0 := cx_0 x1
  have z1 := cz_st s1
  have z0 := cz_sx x1
  have cp := s_copyFrom (d := d + 19) (h := H) (v := 1) (i := 15) (V := S) (S := K) (by omega)
  rw [hS, at_st k1] at cp
  have x1' : at_ (hst H 15 (cpS K S)) 0 (sxL 0 X) := at_out x1 (Or.inl (Nat.le_of_ble_eq_true rfl))
  have hp : zputf (hst H 15 (cpS K S)) 0 7 3 (.int 1) = some (hsx (hst H 15 (cpS K S)) 0 (setI X 0 1)) := by
    have q : hsx (hst H 15 (cpS K S)) 0 X = hst H 15 (cpS K S) := at_self x1'
    have := sx_p3 (h := hst H 15 (cpS K S)) (i := 0) (S := X) (x := 1)
    rw [q] at this
    refine this.trans (congrArg some ?_)
    rw [← q]
  have s1' : at_ (hsx (hst H 15 (cpS K S)) 0 (setI X 0 1)) 1 (stL 1 S) := at_out (at_out s1 (Or.inl (Nat.le_of_ble_eq_true rfl))) (Or.inr (Nat.le_of_ble_eq_true rfl))
  have k1' : at_ (hsx (hst H 15 (cpS K S)) 0 (setI X 0 1)) 15 (stL 15 (cpS K S)) := at_out at_new (Or.inr (Nat.le_of_ble_eq_true rfl))
  have x1'' : at_ (hsx (hst H 15 (cpS K S)) 0 (setI X 0 1)) 0 (sxL 0 (setI X 0 1)) := at_new
  have nc := S_crates (d := d + 19) (at_st s1') s2
  have hCk : CI (hsx (hst H 15 (cpS K S)) 0 (setI X 0 1)) σ r e len true (σ, r) w m := CI_s15 hC0 (fun j _ a => (hrg_out (by rw [sx_len]; omega)).trans (hrg_out (by rw [st_len]; omega))) ⟨setI X 0 1, x1'', rfl⟩ ⟨cpS K S, k1', fun _ => ⟨stR_cp s2 hn, cpS_1.trans s3⟩⟩
  refine PV_k (H1 := hsx (hst H 15 (cpS K S)) 0 (setI X 0 1)) hCk (CO_t (CO_h (Nat.le_of_ble_eq_true rfl)) (CO_h (Nat.le_of_ble_eq_true rfl))) ?_
  simp only [e119_0, e119_1, e119_4, e119_5, e119_8, e119_11, e119_12, e119_13, e119_16, e119_17, e119_20, e119_23, Option.bind_some, Option.toList_some, Option.toList_none, List.cons_append, List.nil_append, true_or, or_true, and_true, true_and, i10, Bool.false_eq_true, if_true, if_false, reduceIte, cx_2 x1, cx_0 x1, cz_st k1, cp, hp, cx_0 x1'', cz_st s1', nc]
theorem cd_restore0 (hC : CI H σ r e len false κ w m) : ev (d + 20) 120 0 [some (.ref 0)] [] H = some (some (.int (-2)), H) := by
  have hC0 := hC
  obtain ⟨⟨X, x1, x2⟩, -⟩ := hC
  have hk : X.2 0 = 0 := x2
  have g3 := cx_3 x1
  rw [hk] at g3
  simp only [e120_0, e120_1, e120_4, e120_7, e120_9, e120_10, e120_11, e120_14, e120_15, e120_18, e120_21, e120_22, e120_25, e120_26, e120_29, e120_32, e120_33, e120_36, e120_39, Option.bind_some, Option.toList_some, Option.toList_none, List.cons_append, List.nil_append, true_or, or_true, and_true, true_and, i10, Bool.false_eq_true, if_true, if_false, reduceIte, g3]
theorem cd_restore (hC : CI H σ r e len true κ w m) (hW : WF σ e len true κ) : PV d H 120 [] (nI κ.1.1) κ.1 κ.2 (he e len (σ, r)) (hl len) true κ w m := by
  have hC0 := hC
  obtain ⟨⟨X, x1, x2⟩, ⟨S, s1, s2, s3⟩, ⟨T, t1⟩, ⟨K, k1, k2⟩, hh, ⟨P, p1, p2⟩, ⟨R, r1⟩, ⟨F, f1⟩, ⟨Y, y1⟩, ⟨V, v1⟩, ⟨N, n1⟩⟩ := hC
  have hW0 := hW
  obtain ⟨w1, w2, w3, w4⟩ := hW
  have hS := at_st s1
  have hb := w1.bnd
  have hn := hb.1
  have g0 := cx_0 x1
  have z1 := cz_st s1
  have z0 := cz_sx x1
  have hk : X.2 0 = 1 := x2
  have g3 := cx_3 x1
  rw [hk] at g3
  obtain ⟨k3, k4⟩ := k2 rfl
  have wk := w4 rfl
  obtain ⟨H', a1, a2, a3, a4⟩ := c_keep (d := d + 18) hC0 hn
  have s1' := at_1 s1 a3
  have x1' := at_0 x1 a3
  have k1' : at_ H' 15 (stL 15 K) := at_fr k1 (fun j a b => a3 j (by rw [st_len] at b; omega))
  have cp := s_copyFrom (d := d + 19) (h := H') (v := 15) (i := 1) (V := K) (S := S) (by omega)
  rw [at_st k1', at_st s1'] at cp
  have hRk : stR (cpS S K) κ.1 := stR_cp k3 wk.1
  have x1b : at_ (hst H' 1 (cpS S K)) 0 (sxL 0 X) := at_out x1' (Or.inl (Nat.le_of_ble_eq_true rfl))
  have s1b : at_ (hst H' 1 (cpS S K)) 1 (stL 1 (cpS S K)) := at_new
  have nc := S_crates (d := d + 19) (at_st s1b) hRk
  refine PV_mk (H1 := hst H' 1 (cpS S K)) (CI_1 a1 hRk (cpS_1.trans k4)) (CO_t a2 CO_1) ?_
  simp only [e120_0, e120_1, e120_4, e120_7, e120_9, e120_10, e120_11, e120_14, e120_15, e120_18, e120_21, e120_22, e120_25, e120_26, e120_29, e120_32, e120_33, e120_36, e120_39, Option.bind_some, Option.toList_some, Option.toList_none, List.cons_append, List.nil_append, true_or, or_true, and_true, true_and, i10, Bool.false_eq_true, if_true, if_false, reduceIte, g3, cx_4 x1, cx_0 x1, zh_is hh, a4, cx_0 x1', cx_2 x1', cz_st s1', cp, cx_0 x1b, cz_st s1b, nc]
theorem cd_makeF {s t g l : Nat} (h1 : 1 ≤ s) (h2 : s ≤ 60) (h3 : t < s) (h4 : g ≤ 15) (h6 : l ≤ 531440) (h8 : lbk (nI l) = true) (q2 : σ.1 = 12) (hC : CI H σ r e len k κ w m) (hW : WF σ e len k κ) : ev (d + 20) 98 0 [some (.ref 0), some (.int (nI s)), some (.int (nI t)), some (.int (nI g)), some (.int (nI l))] [] H = some (some (.int (-3)), H) := by
  have hC0 := hC
  obtain ⟨⟨X, x1, x2⟩, ⟨S, s1, s2, s3⟩, ⟨T, t1⟩, ⟨K, k1, k2⟩, hh, ⟨P, p1, p2⟩, ⟨R, r1⟩, ⟨F, f1⟩, ⟨Y, y1⟩, ⟨V, v1⟩, ⟨N, n1⟩⟩ := hC
  have hW0 := hW
  obtain ⟨w1, w2, w3, w4⟩ := hW
  have hS := at_st s1
  have hb := w1.bnd
  have hn := hb.1
  have g0 := cx_0 x1
  have zz1 := cz_st s1
  have z0 := cz_sx x1
  have f1 : (nI s < 1) = False := (nI_ltp (b := 1) (by omega) (by omega)).trans (eq_false (by omega))
  have f2 : (60 < nI s) = False := (nI_ltp (a := 60) (by omega) (by omega)).trans (eq_false (by omega))
  have f2' : (nI s ≤ 60) = True := (nI_lep (b := 60) (by omega) (by omega)).trans (eq_true (by omega))
  have f3 : (nI t < 0) = False := (nI_ltp (b := 0) (by omega) (by omega)).trans (eq_false (by omega))
  have f4 : (nI t < nI s) = True := (nI_ltp (by omega) (by omega)).trans (eq_true (by omega))
  have f4' : (nI s ≤ nI t) = False := (nI_lep (by omega) (by omega)).trans (eq_false (by omega))
  have f5 : (nI g < 0) = False := (nI_ltp (b := 0) (by omega) (by omega)).trans (eq_false (by omega))
  have f6 : (15 < nI g) = False := (nI_ltp (a := 15) (by omega) (by omega)).trans (eq_false (by omega))
  have f6' : (nI g ≤ 15) = True := (nI_lep (b := 15) (by omega) (by omega)).trans (eq_true (by omega))
  have f7 := bI_t h8
  have nc := S_crates (d := d + 19) hS s2
  rw [q2] at nc
  simp only [e98_0, e98_1, e98_2, e98_5, e98_6, e98_8, e98_11, e98_12, e98_15, e98_16, e98_17, e98_20, e98_21, e98_22, e98_23, e98_26, e98_27, e98_29, e98_32, e98_34, e98_37, e98_40, e98_41, e98_42, e98_43, e98_46, e98_49, e98_51, e98_54, e98_56, e98_57, e98_58, e98_61, e98_62, e98_65, e98_68, e98_69, e98_72, e98_73, e98_74, e98_75, e98_77, e98_80, Option.bind_some, Option.toList_some, Option.toList_none, List.cons_append, List.nil_append, true_or, or_true, and_true, true_and, i10, Bool.false_eq_true, if_true, if_false, reduceIte, f1, f2, f2', f3, f4, f4', f5, f6, f6', c_isLabel, f7, g0, zz1, nc, show (nI 12 < 12) = False by decide, show ((12 : Int32) ≤ nI 12) = True by decide]
theorem cd_make {s t g l : Nat} (h1 : 1 ≤ s) (h2 : s ≤ 60) (h3 : t < s) (h4 : g ≤ 15) (h6 : l ≤ 531440) (h8 : lbk (nI l) = true) (h12 : σ.1 < 12) (hC : CI H σ r e len k κ w m) (hW : WF σ e len k κ) : PV d H 98 [some (.int (nI s)), some (.int (nI t)), some (.int (nI g)), some (.int (nI l))] (nI σ.1) (addd σ (mkA s t g l)) r (he e len (σ, r)) (hl len) k κ w m := by
  have hC0 := hC
  obtain ⟨⟨X, x1, x2⟩, ⟨S, s1, s2, s3⟩, ⟨T, t1⟩, ⟨K, k1, k2⟩, hh, ⟨P, p1, p2⟩, ⟨R, r1⟩, ⟨F, f1⟩, ⟨Y, y1⟩, ⟨V, v1⟩, ⟨N, n1⟩⟩ := hC
  have hW0 := hW
  obtain ⟨w1, w2, w3, w4⟩ := hW
  have hS := at_st s1
  have hb := w1.bnd
  have hn := hb.1
  have g0 := cx_0 x1
  have zz1 := cz_st s1
  have z0 := cz_sx x1
  have f1 : (nI s < 1) = False := (nI_ltp (b := 1) (by omega) (by omega)).trans (eq_false (by omega))
  have f2 : (60 < nI s) = False := (nI_ltp (a := 60) (by omega) (by omega)).trans (eq_false (by omega))
  have f2' : (nI s ≤ 60) = True := (nI_lep (b := 60) (by omega) (by omega)).trans (eq_true (by omega))
  have f3 : (nI t < 0) = False := (nI_ltp (b := 0) (by omega) (by omega)).trans (eq_false (by omega))
  have f4 : (nI t < nI s) = True := (nI_ltp (by omega) (by omega)).trans (eq_true (by omega))
  have f4' : (nI s ≤ nI t) = False := (nI_lep (by omega) (by omega)).trans (eq_false (by omega))
  have f5 : (nI g < 0) = False := (nI_ltp (b := 0) (by omega) (by omega)).trans (eq_false (by omega))
  have f6 : (15 < nI g) = False := (nI_ltp (a := 15) (by omega) (by omega)).trans (eq_false (by omega))
  have f6' : (nI g ≤ 15) = True := (nI_lep (b := 15) (by omega) (by omega)).trans (eq_true (by omega))
  have f7 := bI_t h8
  have f8 : (nI σ.1 < 12) = True := (nI_ltp (b := 12) (by omega) (by omega)).trans (eq_true h12)
  have f8' : (12 ≤ nI σ.1) = False := (nI_lep (a := 12) (by omega) (by omega)).trans (eq_false (by omega))
  obtain ⟨H', a1, a2, a3, a4⟩ := c_keep (d := d + 18) hC0 hn
  have s1' := at_1 s1 a3
  have x1' := at_0 x1 a3
  obtain ⟨S', b0, b1, b2, ⟨v0, v1', v2, v3, v4, v5⟩, b4⟩ := s_add (d := d + 17) (h := H') (i := 1) (S := S) s2 hb h12 (x0 := nI s) (x1 := nI t) (x2 := nI g) (x3 := nI l)
  rw [at_st s1'] at b4
  have hRa : stR S' (addd σ (mkA s t g l)) := stR_add s2 b1 b2 ⟨v0, v1', v2, by rw [v3, mkA_lbl h6], v4, v5⟩
  refine PV_mk (H1 := hst H' 1 S') (CI_1 a1 hRa (b0.trans s3)) (CO_t a2 CO_1) ?_
  simp only [e98_0, e98_1, e98_2, e98_5, e98_6, e98_8, e98_11, e98_12, e98_15, e98_16, e98_17, e98_20, e98_21, e98_22, e98_23, e98_26, e98_27, e98_29, e98_32, e98_34, e98_37, e98_40, e98_41, e98_42, e98_43, e98_46, e98_49, e98_51, e98_54, e98_56, e98_57, e98_58, e98_61, e98_62, e98_65, e98_68, e98_69, e98_72, e98_73, e98_74, e98_75, e98_77, e98_80, Option.bind_some, Option.toList_some, Option.toList_none, List.cons_append, List.nil_append, true_or, or_true, and_true, true_and, i10, Bool.false_eq_true, if_true, if_false, reduceIte, f1, f2, f2', f3, f4, f4', f5, f6, f6', c_isLabel, f7, g0, zz1, S_crates hS s2, f8, f8', cx_4 x1, zh_is hh, a4, cx_0 x1', cz_st s1', b4]
theorem cd_make0 {z1 z2 : Int32} (q : ¬ okm x y z1 z2) (hC : CI H σ r e len k κ w m) (hW : WF σ e len k κ) : ev (d + 20) 98 0 [some (.ref 0), some (.int x), some (.int y), some (.int z1), some (.int z2)] [] H = some (some (.int (-1)), H) := by
  have hC0 := hC
  obtain ⟨⟨X, x1, x2⟩, ⟨S, s1, s2, s3⟩, ⟨T, t1⟩, ⟨K, k1, k2⟩, hh, ⟨P, p1, p2⟩, ⟨R, r1⟩, ⟨F, f1⟩, ⟨Y, y1⟩, ⟨V, v1⟩, ⟨N, n1⟩⟩ := hC
  have hW0 := hW
  obtain ⟨w1, w2, w3, w4⟩ := hW
  have hS := at_st s1
  have hb := w1.bnd
  have hn := hb.1
  have g0 := cx_0 x1
  have zz1 := cz_st s1
  have z0 := cz_sx x1
  by_cases q1 : x < 1
  · simp only [e98_0, e98_1, e98_2, e98_5, e98_6, e98_8, e98_11, e98_12, e98_15, e98_16, e98_17, e98_20, e98_21, e98_22, e98_23, e98_26, e98_27, e98_29, e98_32, e98_34, e98_37, e98_40, e98_41, e98_42, e98_43, e98_46, e98_49, e98_51, e98_54, e98_56, e98_57, e98_58, e98_61, e98_62, e98_65, e98_68, e98_69, e98_72, e98_73, e98_74, e98_75, e98_77, e98_80, Option.bind_some, Option.toList_some, Option.toList_none, List.cons_append, List.nil_append, true_or, or_true, and_true, true_and, i10, Bool.false_eq_true, if_true, if_false, reduceIte, eq_true q1]
  · by_cases q2 : x ≤ 60
    · have q2' : ¬ 60 < x := Int32.not_lt.mpr q2
      by_cases q3 : y < 0
      · simp only [e98_0, e98_1, e98_2, e98_5, e98_6, e98_8, e98_11, e98_12, e98_15, e98_16, e98_17, e98_20, e98_21, e98_22, e98_23, e98_26, e98_27, e98_29, e98_32, e98_34, e98_37, e98_40, e98_41, e98_42, e98_43, e98_46, e98_49, e98_51, e98_54, e98_56, e98_57, e98_58, e98_61, e98_62, e98_65, e98_68, e98_69, e98_72, e98_73, e98_74, e98_75, e98_77, e98_80, Option.bind_some, Option.toList_some, Option.toList_none, List.cons_append, List.nil_append, true_or, or_true, and_true, true_and, i10, Bool.false_eq_true, if_true, if_false, reduceIte, eq_false q1, eq_true q2, eq_false q2', eq_true q3]
      · by_cases q4 : y < x
        · have q4' : ¬ x ≤ y := Int32.not_le.mpr q4
          by_cases q5 : z1 < 0
          · simp only [e98_0, e98_1, e98_2, e98_5, e98_6, e98_8, e98_11, e98_12, e98_15, e98_16, e98_17, e98_20, e98_21, e98_22, e98_23, e98_26, e98_27, e98_29, e98_32, e98_34, e98_37, e98_40, e98_41, e98_42, e98_43, e98_46, e98_49, e98_51, e98_54, e98_56, e98_57, e98_58, e98_61, e98_62, e98_65, e98_68, e98_69, e98_72, e98_73, e98_74, e98_75, e98_77, e98_80, Option.bind_some, Option.toList_some, Option.toList_none, List.cons_append, List.nil_append, true_or, or_true, and_true, true_and, i10, Bool.false_eq_true, if_true, if_false, reduceIte, eq_false q1, eq_true q2, eq_false q2', eq_false q3, eq_true q4, eq_false q4', eq_true q5]
          · by_cases q6 : z1 ≤ 15
            · have q6' : ¬ 15 < z1 := Int32.not_lt.mpr q6
              have q7 : ¬ lbk z2 = true := fun z => q ⟨⟨⟨Int32.not_lt.mp q1, q2⟩, Int32.not_lt.mp q3, lt_pred (Int32.not_lt.mp q1) q2 q4⟩, ⟨Int32.not_lt.mp q5, q6⟩, z⟩
              simp only [e98_0, e98_1, e98_2, e98_5, e98_6, e98_8, e98_11, e98_12, e98_15, e98_16, e98_17, e98_20, e98_21, e98_22, e98_23, e98_26, e98_27, e98_29, e98_32, e98_34, e98_37, e98_40, e98_41, e98_42, e98_43, e98_46, e98_49, e98_51, e98_54, e98_56, e98_57, e98_58, e98_61, e98_62, e98_65, e98_68, e98_69, e98_72, e98_73, e98_74, e98_75, e98_77, e98_80, Option.bind_some, Option.toList_some, Option.toList_none, List.cons_append, List.nil_append, true_or, or_true, and_true, true_and, i10, Bool.false_eq_true, if_true, if_false, reduceIte, eq_false q1, eq_true q2, eq_false q2', eq_false q3, eq_true q4, eq_false q4', eq_false q5, eq_true q6, eq_false q6', c_isLabel, bI_f q7]
            · have q6' : 15 < z1 := Int32.not_le.mp q6
              simp only [e98_0, e98_1, e98_2, e98_5, e98_6, e98_8, e98_11, e98_12, e98_15, e98_16, e98_17, e98_20, e98_21, e98_22, e98_23, e98_26, e98_27, e98_29, e98_32, e98_34, e98_37, e98_40, e98_41, e98_42, e98_43, e98_46, e98_49, e98_51, e98_54, e98_56, e98_57, e98_58, e98_61, e98_62, e98_65, e98_68, e98_69, e98_72, e98_73, e98_74, e98_75, e98_77, e98_80, Option.bind_some, Option.toList_some, Option.toList_none, List.cons_append, List.nil_append, true_or, or_true, and_true, true_and, i10, Bool.false_eq_true, if_true, if_false, reduceIte, eq_false q1, eq_true q2, eq_false q2', eq_false q3, eq_true q4, eq_false q4', eq_false q5, eq_false q6, eq_true q6']
        · have q4' : x ≤ y := Int32.not_lt.mp q4
          simp only [e98_0, e98_1, e98_2, e98_5, e98_6, e98_8, e98_11, e98_12, e98_15, e98_16, e98_17, e98_20, e98_21, e98_22, e98_23, e98_26, e98_27, e98_29, e98_32, e98_34, e98_37, e98_40, e98_41, e98_42, e98_43, e98_46, e98_49, e98_51, e98_54, e98_56, e98_57, e98_58, e98_61, e98_62, e98_65, e98_68, e98_69, e98_72, e98_73, e98_74, e98_75, e98_77, e98_80, Option.bind_some, Option.toList_some, Option.toList_none, List.cons_append, List.nil_append, true_or, or_true, and_true, true_and, i10, Bool.false_eq_true, if_true, if_false, reduceIte, eq_false q1, eq_true q2, eq_false q2', eq_false q3, eq_false q4, eq_true q4']
    · have q2' : 60 < x := Int32.not_le.mp q2
      simp only [e98_0, e98_1, e98_2, e98_5, e98_6, e98_8, e98_11, e98_12, e98_15, e98_16, e98_17, e98_20, e98_21, e98_22, e98_23, e98_26, e98_27, e98_29, e98_32, e98_34, e98_37, e98_40, e98_41, e98_42, e98_43, e98_46, e98_49, e98_51, e98_54, e98_56, e98_57, e98_58, e98_61, e98_62, e98_65, e98_68, e98_69, e98_72, e98_73, e98_74, e98_75, e98_77, e98_80, Option.bind_some, Option.toList_some, Option.toList_none, List.cons_append, List.nil_append, true_or, or_true, and_true, true_and, i10, Bool.false_eq_true, if_true, if_false, reduceIte, eq_false q1, eq_false q2, eq_true q2']
end CDEEDS
