/-! THE TEXTS OF THE CLASS ALONE -/
section CTEXTS
variable {d : Nat} {H H1 : zH} {σ σ' : mS} {r r' : Int32} {e e' : Nat → mS × Int32} {len len' : Nat} {k : Bool} {κ : mS × Int32} {w w' : Nat → Nat} {m m' : Nat} {x y : Int32} {c : Nat}
theorem ct_append {u : Nat} (hu1 : 33 ≤ u) (hu2 : u ≤ 126) (hm : m < 80) (hC : CI H σ r e len k κ w m) (hW : WF σ e len k κ) : PV d H 103 [some (.int (nI u))] (nI (m + 1)) σ r e len k κ (wap w m u) (m + 1) := by
  have hC0 := hC
  obtain ⟨⟨X, x1, x2⟩, ⟨S, s1, s2, s3⟩, ⟨T, t1⟩, ⟨K, k1, k2⟩, hh, ⟨P, p1, p2⟩, ⟨R, r1⟩, ⟨F, f1⟩, ⟨Y, y1⟩, ⟨V, v1⟩, ⟨N, n1⟩⟩ := hC
  have hW0 := hW
  obtain ⟨w1, w2, w3, w4⟩ := hW
  have hS := at_st s1
  have hb := w1.bnd
  have hn := hb.1
  have g0 := cx_0 x1
  have z1 := cz_st s1
  have z0 := cz_sx x1
  have zp := cz_pd p1
  have pl := P_length (d := d + 19) p1 p2
  have q1 : (nI u < 33) = False := (nI_ltp (b := 33) (by omega) (by omega)).trans (eq_false (by omega))
  have q2 : (nI u ≤ 126) = True := (nI_lep (b := 126) (by omega) (by omega)).trans (eq_true (by omega))
  have q3 : (126 < nI u) = False := (nI_ltp (a := 126) (by omega) (by omega)).trans (eq_false (by omega))
  have e1 : (nI m < 80) = True := (nI_ltp (b := 80) (by omega) (by omega)).trans (eq_true hm)
  have e2 : ((80 : Int32) ≤ nI m) = False := (nI_lep (a := 80) (by omega) (by omega)).trans (eq_false (by omega))
  obtain ⟨P', c1, c2⟩ := p_add (d := d + 19) (h := H) (u := 52) (P := P) p2 hm (show u < 128 by omega)
  rw [at_pd p1] at c2
  have p1' : at_ (hpd H 52 P') 52 (pdL 52 P') := at_new
  have x1' : at_ (hpd H 52 P') 0 (sxL 0 X) := at_out x1 (Or.inl (Nat.le_of_ble_eq_true rfl))
  have pl' := P_length (d := d + 19) p1' c1
  refine PV_mk (H1 := hpd H 52 P') (CI_52 hC0 c1) CO_52 ?_
  simp only [e103_0, e103_1, e103_3, e103_6, e103_7, e103_9, e103_12, e103_13, e103_14, e103_15, e103_18, e103_21, e103_23, e103_26, e103_28, e103_29, e103_30, e103_33, e103_34, e103_37, e103_38, e103_41, e103_44, Option.bind_some, Option.toList_some, Option.toList_none, List.cons_append, List.nil_append, true_or, or_true, and_true, true_and, i10, Bool.false_eq_true, if_true, if_false, reduceIte, q1, q2, q3, cx_5 x1, zp, pl, e1, e2, c2, cx_5 x1', cz_pd p1', pl']
theorem ct_clear (hC : CI H σ r e len k κ w m) (hW : WF σ e len k κ) : PV d H 104 [none] (nI m) σ r e len k κ w 0 := by
  have hC0 := hC
  obtain ⟨⟨X, x1, x2⟩, ⟨S, s1, s2, s3⟩, ⟨T, t1⟩, ⟨K, k1, k2⟩, hh, ⟨P, p1, p2⟩, ⟨R, r1⟩, ⟨F, f1⟩, ⟨Y, y1⟩, ⟨V, v1⟩, ⟨N, n1⟩⟩ := hC
  have hW0 := hW
  obtain ⟨w1, w2, w3, w4⟩ := hW
  have hS := at_st s1
  have hb := w1.bnd
  have hn := hb.1
  have g0 := cx_0 x1
  have z1 := cz_st s1
  have z0 := cz_sx x1
  have zp := cz_pd p1
  have pl := P_length (d := d + 19) p1 p2
  have pe := P_empty (d := d + 19) p1
  refine PV_mk (H1 := hpd H 52 (setI P 0 0)) (CI_52 hC0 (w' := w) pdR_0) CO_52 ?_
  simp only [e104_0, e104_1, e104_4, e104_7, e104_8, e104_9, e104_12, e104_15, e104_16, Option.bind_some, Option.toList_some, Option.toList_none, List.cons_append, List.nil_append, true_or, or_true, and_true, true_and, i10, Bool.false_eq_true, if_true, if_false, reduceIte, cx_5 x1, zp, pl, pe]
theorem ct_loadX (q : ¬ rdv m (rnn w m 0 s00) = -4) (hC : CI H σ r e len k κ w m) (hW : WF σ e len k κ) : PV d H 106 [] (-2) σ r e len k κ w m := by
  have hC0 := hC
  obtain ⟨⟨X, x1, x2⟩, ⟨S, s1, s2, s3⟩, ⟨T, t1⟩, ⟨K, k1, k2⟩, hh, ⟨P, p1, p2⟩, ⟨R, r1⟩, ⟨F, f1⟩, ⟨Y, y1⟩, ⟨V, v1⟩, ⟨N, n1⟩⟩ := hC
  have hW0 := hW
  obtain ⟨w1, w2, w3, w4⟩ := hW
  have hS := at_st s1
  have hb := w1.bnd
  have hn := hb.1
  have g0 := cx_0 x1
  have z1 := cz_st s1
  have z0 := cz_sx x1
  obtain ⟨R', F', a1, a2⟩ := c_read (d := d + 13) x1 p1 p2 r1 f1
  have xr : at_ (hst (hrd H 54 R') 55 F') 0 (sxL 0 X) := at_out (at_out x1 (Or.inl (Nat.le_of_ble_eq_true rfl))) (Or.inl (Nat.le_of_ble_eq_true rfl))
  have sr : at_ (hst (hrd H 54 R') 55 F') 1 (stL 1 S) := at_out (at_out s1 (Or.inl (Nat.le_of_ble_eq_true rfl))) (Or.inl (Nat.le_of_ble_eq_true rfl))
  have rr : at_ (hst (hrd H 54 R') 55 F') 54 (rdL 54 R') := at_out at_new (Or.inl (Nat.le_of_ble_eq_true rfl))
  have fr : at_ (hst (hrd H 54 R') 55 F') 55 (stL 55 F') := at_new
  have pr : at_ (hst (hrd H 54 R') 55 F') 52 (pdL 52 P) := at_out (at_out p1 (Or.inl (Nat.le_of_ble_eq_true rfl))) (Or.inl (Nat.le_of_ble_eq_true rfl))
  have hCr := CI_rdr hC0 R' F'
  have hOr := CO_rdr (H := H) R' F'
  have n4 : ((-4 : Int32) = -4) = True := by decide
  have zr := cz_rd r1
  have g6 := cx_6 x1
  have g5 := cx_5 x1
  have g6' := cx_6 xr
  have zr' := cz_rd rr
  have zf' := cz_st fr
  have fo : ∀ d, ev d 12 0 [some (.ref 54)] [] (hst (hrd H 54 R') 55 F') = some (some (.ref 55), hst (hrd H 54 R') 55 F') := fun d => c_found rr
  refine PV_mk (H1 := hst (hrd H 54 R') 55 F') hCr hOr ?_
  simp only [e106_0, e106_1, e106_4, e106_5, e106_8, e106_11, e106_13, e106_16, e106_17, e106_20, e106_23, e106_26, e106_29, e106_31, e106_32, e106_33, e106_36, e106_39, e106_40, e106_43, e106_46, e106_49, e106_50, e106_52, e106_55, e106_57, e106_58, e106_59, e106_62, e106_63, e106_66, e106_69, e106_70, e106_73, e106_74, e106_77, e106_80, e106_83, e106_84, e106_87, e106_90, e106_91, e106_94, e106_97, Option.bind_some, Option.toList_some, Option.toList_none, List.cons_append, List.nil_append, true_or, or_true, and_true, true_and, i10, Bool.false_eq_true, if_true, if_false, reduceIte, g6, g5, zr, a2, eq_false q]
theorem ct_loadU {s' : pS} (q : rdv m (rnn w m 0 s00) = -4) (hr : rnn w m 0 s00 = (m, some s')) (hs : sou s'.2.2.2.2.2 = false) (hC : CI H σ r e len k κ w m) (hW : WF σ e len k κ) : PV d H 106 [] (-2) σ r e len k κ w m := by
  have hC0 := hC
  obtain ⟨⟨X, x1, x2⟩, ⟨S, s1, s2, s3⟩, ⟨T, t1⟩, ⟨K, k1, k2⟩, hh, ⟨P, p1, p2⟩, ⟨R, r1⟩, ⟨F, f1⟩, ⟨Y, y1⟩, ⟨V, v1⟩, ⟨N, n1⟩⟩ := hC
  have hW0 := hW
  obtain ⟨w1, w2, w3, w4⟩ := hW
  have hS := at_st s1
  have hb := w1.bnd
  have hn := hb.1
  have g0 := cx_0 x1
  have z1 := cz_st s1
  have z0 := cz_sx x1
  obtain ⟨R', F', a1, a2⟩ := c_read (d := d + 13) x1 p1 p2 r1 f1
  have xr : at_ (hst (hrd H 54 R') 55 F') 0 (sxL 0 X) := at_out (at_out x1 (Or.inl (Nat.le_of_ble_eq_true rfl))) (Or.inl (Nat.le_of_ble_eq_true rfl))
  have sr : at_ (hst (hrd H 54 R') 55 F') 1 (stL 1 S) := at_out (at_out s1 (Or.inl (Nat.le_of_ble_eq_true rfl))) (Or.inl (Nat.le_of_ble_eq_true rfl))
  have rr : at_ (hst (hrd H 54 R') 55 F') 54 (rdL 54 R') := at_out at_new (Or.inl (Nat.le_of_ble_eq_true rfl))
  have fr : at_ (hst (hrd H 54 R') 55 F') 55 (stL 55 F') := at_new
  have pr : at_ (hst (hrd H 54 R') 55 F') 52 (pdL 52 P) := at_out (at_out p1 (Or.inl (Nat.le_of_ble_eq_true rfl))) (Or.inl (Nat.le_of_ble_eq_true rfl))
  have hCr := CI_rdr hC0 R' F'
  have hOr := CO_rdr (H := H) R' F'
  have n4 : ((-4 : Int32) = -4) = True := by decide
  have zr := cz_rd r1
  have g6 := cx_6 x1
  have g5 := cx_5 x1
  have g6' := cx_6 xr
  have zr' := cz_rd rr
  have zf' := cz_st fr
  have fo : ∀ d, ev d 12 0 [some (.ref 54)] [] (hst (hrd H 54 R') 55 F') = some (some (.ref 55), hst (hrd H 54 R') 55 F') := fun d => c_found rr
  obtain ⟨c1, c2⟩ := a1 m s' hr
  have hFr := c1.2.2.2.2.2
  have hbt := c2.1.1
  have so := S_isSound (d := d + 16) (at_st fr) hFr hbt
  rw [q] at a2
  rw [bI_f (by rw [hs]; decide)] at so
  refine PV_mk (H1 := hst (hrd H 54 R') 55 F') hCr hOr ?_
  simp only [e106_0, e106_1, e106_4, e106_5, e106_8, e106_11, e106_13, e106_16, e106_17, e106_20, e106_23, e106_26, e106_29, e106_31, e106_32, e106_33, e106_36, e106_39, e106_40, e106_43, e106_46, e106_49, e106_50, e106_52, e106_55, e106_57, e106_58, e106_59, e106_62, e106_63, e106_66, e106_69, e106_70, e106_73, e106_74, e106_77, e106_80, e106_83, e106_84, e106_87, e106_90, e106_91, e106_94, e106_97, Option.bind_some, Option.toList_some, Option.toList_none, List.cons_append, List.nil_append, true_or, or_true, and_true, true_and, i10, Bool.false_eq_true, if_true, if_false, reduceIte, g6, g5, zr, a2, n4, g6', zr', fo, zf', so]
theorem ct_loadF {s' : pS} (q : rdv m (rnn w m 0 s00) = -4) (hr : rnn w m 0 s00 = (m, some s')) (hs : sou s'.2.2.2.2.2 = true) (h12 : ¬ σ.1 + s'.2.2.2.2.2.1 ≤ 12) (hC : CI H σ r e len k κ w m) (hW : WF σ e len k κ) : PV d H 106 [] (-3) σ r e len k κ w m := by
  have hC0 := hC
  obtain ⟨⟨X, x1, x2⟩, ⟨S, s1, s2, s3⟩, ⟨T, t1⟩, ⟨K, k1, k2⟩, hh, ⟨P, p1, p2⟩, ⟨R, r1⟩, ⟨F, f1⟩, ⟨Y, y1⟩, ⟨V, v1⟩, ⟨N, n1⟩⟩ := hC
  have hW0 := hW
  obtain ⟨w1, w2, w3, w4⟩ := hW
  have hS := at_st s1
  have hb := w1.bnd
  have hn := hb.1
  have g0 := cx_0 x1
  have z1 := cz_st s1
  have z0 := cz_sx x1
  obtain ⟨R', F', a1, a2⟩ := c_read (d := d + 13) x1 p1 p2 r1 f1
  have xr : at_ (hst (hrd H 54 R') 55 F') 0 (sxL 0 X) := at_out (at_out x1 (Or.inl (Nat.le_of_ble_eq_true rfl))) (Or.inl (Nat.le_of_ble_eq_true rfl))
  have sr : at_ (hst (hrd H 54 R') 55 F') 1 (stL 1 S) := at_out (at_out s1 (Or.inl (Nat.le_of_ble_eq_true rfl))) (Or.inl (Nat.le_of_ble_eq_true rfl))
  have rr : at_ (hst (hrd H 54 R') 55 F') 54 (rdL 54 R') := at_out at_new (Or.inl (Nat.le_of_ble_eq_true rfl))
  have fr : at_ (hst (hrd H 54 R') 55 F') 55 (stL 55 F') := at_new
  have pr : at_ (hst (hrd H 54 R') 55 F') 52 (pdL 52 P) := at_out (at_out p1 (Or.inl (Nat.le_of_ble_eq_true rfl))) (Or.inl (Nat.le_of_ble_eq_true rfl))
  have hCr := CI_rdr hC0 R' F'
  have hOr := CO_rdr (H := H) R' F'
  have n4 : ((-4 : Int32) = -4) = True := by decide
  have zr := cz_rd r1
  have g6 := cx_6 x1
  have g5 := cx_5 x1
  have g6' := cx_6 xr
  have zr' := cz_rd rr
  have zf' := cz_st fr
  have fo : ∀ d, ev d 12 0 [some (.ref 54)] [] (hst (hrd H 54 R') 55 F') = some (some (.ref 55), hst (hrd H 54 R') 55 F') := fun d => c_found rr
  obtain ⟨c1, c2⟩ := a1 m s' hr
  have hFr := c1.2.2.2.2.2
  have hbt := c2.1.1
  have so := S_isSound (d := d + 16) (at_st fr) hFr hbt
  rw [q] at a2
  rw [bI_t hs] at so
  have hSr := at_st sr
  have nc : ∀ d, ev d 38 0 [some (.ref 1)] [] (hst (hrd H 54 R') 55 F') = some (some (.int (nI σ.1)), hst (hrd H 54 R') 55 F') := fun d => S_crates hSr s2
  have nf : ∀ d, ev d 38 0 [some (.ref 55)] [] (hst (hrd H 54 R') 55 F') = some (some (.int (nI s'.2.2.2.2.2.1)), hst (hrd H 54 R') 55 F') := fun d => S_crates (at_st fr) hFr
  have hnt := hbt.1
  have ea : nI σ.1 + nI s'.2.2.2.2.2.1 = nI (σ.1 + s'.2.2.2.2.2.1) := nI_add _ _
  have e1 : (nI (σ.1 + s'.2.2.2.2.2.1) ≤ 12) = (σ.1 + s'.2.2.2.2.2.1 ≤ 12) := nI_lep (b := 12) (by omega) (by omega)
  have e2 : (12 < nI (σ.1 + s'.2.2.2.2.2.1)) = (12 < σ.1 + s'.2.2.2.2.2.1) := nI_ltp (a := 12) (by omega) (by omega)
  have g0' := cx_0 xr
  have zs' := cz_st sr
  refine PV_mk (H1 := hst (hrd H 54 R') 55 F') hCr hOr ?_
  simp only [e106_0, e106_1, e106_4, e106_5, e106_8, e106_11, e106_13, e106_16, e106_17, e106_20, e106_23, e106_26, e106_29, e106_31, e106_32, e106_33, e106_36, e106_39, e106_40, e106_43, e106_46, e106_49, e106_50, e106_52, e106_55, e106_57, e106_58, e106_59, e106_62, e106_63, e106_66, e106_69, e106_70, e106_73, e106_74, e106_77, e106_80, e106_83, e106_84, e106_87, e106_90, e106_91, e106_94, e106_97, Option.bind_some, Option.toList_some, Option.toList_none, List.cons_append, List.nil_append, true_or, or_true, and_true, true_and, i10, Bool.false_eq_true, if_true, if_false, reduceIte, g6, g5, zr, a2, n4, g6', zr', fo, zf', so, g0', zs', nc, nf, ea, e1, e2, eq_false h12, eq_true (show 12 < σ.1 + s'.2.2.2.2.2.1 by omega)]
theorem ct_load {s' : pS} (q : rdv m (rnn w m 0 s00) = -4) (hr : rnn w m 0 s00 = (m, some s')) (hcm : cmp s' = true) (hs : sou s'.2.2.2.2.2 = true) (h12 : σ.1 + s'.2.2.2.2.2.1 ≤ 12) (hC : CI H σ r e len k κ w m) (hW : WF σ e len k κ) : PV d H 106 [] (nI (σ.1 + s'.2.2.2.2.2.1)) (jnd σ s'.2.2.2.2.2) r (he e len (σ, r)) (hl len) k κ w 0 := by
  have hC0 := hC
  obtain ⟨⟨X, x1, x2⟩, ⟨S, s1, s2, s3⟩, ⟨T, t1⟩, ⟨K, k1, k2⟩, hh, ⟨P, p1, p2⟩, ⟨R, r1⟩, ⟨F, f1⟩, ⟨Y, y1⟩, ⟨V, v1⟩, ⟨N, n1⟩⟩ := hC
  have hW0 := hW
  obtain ⟨w1, w2, w3, w4⟩ := hW
  have hS := at_st s1
  have hb := w1.bnd
  have hn := hb.1
  have g0 := cx_0 x1
  have z1 := cz_st s1
  have z0 := cz_sx x1
  obtain ⟨R', F', a1, a2⟩ := c_read (d := d + 13) x1 p1 p2 r1 f1
  have xr : at_ (hst (hrd H 54 R') 55 F') 0 (sxL 0 X) := at_out (at_out x1 (Or.inl (Nat.le_of_ble_eq_true rfl))) (Or.inl (Nat.le_of_ble_eq_true rfl))
  have sr : at_ (hst (hrd H 54 R') 55 F') 1 (stL 1 S) := at_out (at_out s1 (Or.inl (Nat.le_of_ble_eq_true rfl))) (Or.inl (Nat.le_of_ble_eq_true rfl))
  have rr : at_ (hst (hrd H 54 R') 55 F') 54 (rdL 54 R') := at_out at_new (Or.inl (Nat.le_of_ble_eq_true rfl))
  have fr : at_ (hst (hrd H 54 R') 55 F') 55 (stL 55 F') := at_new
  have pr : at_ (hst (hrd H 54 R') 55 F') 52 (pdL 52 P) := at_out (at_out p1 (Or.inl (Nat.le_of_ble_eq_true rfl))) (Or.inl (Nat.le_of_ble_eq_true rfl))
  have hCr := CI_rdr hC0 R' F'
  have hOr := CO_rdr (H := H) R' F'
  have n4 : ((-4 : Int32) = -4) = True := by decide
  have zr := cz_rd r1
  have g6 := cx_6 x1
  have g5 := cx_5 x1
  have g6' := cx_6 xr
  have zr' := cz_rd rr
  have zf' := cz_st fr
  have fo : ∀ d, ev d 12 0 [some (.ref 54)] [] (hst (hrd H 54 R') 55 F') = some (some (.ref 55), hst (hrd H 54 R') 55 F') := fun d => c_found rr
  obtain ⟨c1, c2⟩ := a1 m s' hr
  have hFr := c1.2.2.2.2.2
  have hbt := c2.1.1
  have so := S_isSound (d := d + 16) (at_st fr) hFr hbt
  rw [q] at a2
  rw [bI_t hs] at so
  have hSr := at_st sr
  have nc : ∀ d, ev d 38 0 [some (.ref 1)] [] (hst (hrd H 54 R') 55 F') = some (some (.int (nI σ.1)), hst (hrd H 54 R') 55 F') := fun d => S_crates hSr s2
  have nf : ∀ d, ev d 38 0 [some (.ref 55)] [] (hst (hrd H 54 R') 55 F') = some (some (.int (nI s'.2.2.2.2.2.1)), hst (hrd H 54 R') 55 F') := fun d => S_crates (at_st fr) hFr
  have hnt := hbt.1
  have ea : nI σ.1 + nI s'.2.2.2.2.2.1 = nI (σ.1 + s'.2.2.2.2.2.1) := nI_add _ _
  have e1 : (nI (σ.1 + s'.2.2.2.2.2.1) ≤ 12) = (σ.1 + s'.2.2.2.2.2.1 ≤ 12) := nI_lep (b := 12) (by omega) (by omega)
  have e2 : (12 < nI (σ.1 + s'.2.2.2.2.2.1)) = (12 < σ.1 + s'.2.2.2.2.2.1) := nI_ltp (a := 12) (by omega) (by omega)
  have g0' := cx_0 xr
  have zs' := cz_st sr
  have htw := read_wf p2.2.1 hr c2 hcm hs
  obtain ⟨H2, k1', k2', k3', k4'⟩ := c_keep (d := d + 18) hCr hn
  have s2' := at_1 sr k3'
  have x2' := at_0 xr k3'
  have f2' : at_ H2 55 (stL 55 F') := at_fr fr (fun j a b => k3' j (by omega))
  have r2' : at_ H2 54 (rdL 54 R') := at_fr rr (fun j a b => k3' j (by omega))
  have p2' : at_ H2 52 (pdL 52 P) := at_fr pr (fun j a b => k3' j (by omega))
  obtain ⟨S', b1, b2, b3⟩ := s_addAll (d := d + 16) (h := H2) (v := 55) (i := 1) (S := S) (F := F') (by omega) s2 hFr htw h12
  rw [at_st f2', at_st s2'] at b3
  have x3 : at_ (hst H2 1 S') 0 (sxL 0 X) := at_out x2' (Or.inl (Nat.le_of_ble_eq_true rfl))
  have s3' : at_ (hst H2 1 S') 1 (stL 1 S') := at_new
  have p3 : at_ (hst H2 1 S') 52 (pdL 52 P) := at_out p2' (Or.inr (Nat.le_of_ble_eq_true rfl))
  have pe := P_empty (d := d + 19) p3
  have x4 : at_ (hpd (hst H2 1 S') 52 (setI P 0 0)) 0 (sxL 0 X) := at_out x3 (Or.inl (Nat.le_of_ble_eq_true rfl))
  have s4 : at_ (hpd (hst H2 1 S') 52 (setI P 0 0)) 1 (stL 1 S') := at_out s3' (Or.inl (Nat.le_of_ble_eq_true rfl))
  have nj : ev (d + 19) 38 0 [some (.ref 1)] [] (hpd (hst H2 1 S') 52 (setI P 0 0)) = some (some (.int (nI (σ.1 + s'.2.2.2.2.2.1))), hpd (hst H2 1 S') 52 (setI P 0 0)) := S_crates (at_st s4) b1
  have zh := zh_is hCr.2.2.2.2.1
  have fo2 : ev (d + 19) 12 0 [some (.ref 54)] [] H2 = some (some (.ref 55), H2) := c_found r2'
  refine PV_mk (H1 := hpd (hst H2 1 S') 52 (setI P 0 0)) (CI_52 (CI_1 k1' b1 (b2.trans s3)) (w' := w) pdR_0) (CO_t hOr (CO_t k2' (CO_t CO_1 CO_52))) ?_
  simp only [e106_0, e106_1, e106_4, e106_5, e106_8, e106_11, e106_13, e106_16, e106_17, e106_20, e106_23, e106_26, e106_29, e106_31, e106_32, e106_33, e106_36, e106_39, e106_40, e106_43, e106_46, e106_49, e106_50, e106_52, e106_55, e106_57, e106_58, e106_59, e106_62, e106_63, e106_66, e106_69, e106_70, e106_73, e106_74, e106_77, e106_80, e106_83, e106_84, e106_87, e106_90, e106_91, e106_94, e106_97, Option.bind_some, Option.toList_some, Option.toList_none, List.cons_append, List.nil_append, true_or, or_true, and_true, true_and, i10, Bool.false_eq_true, if_true, if_false, reduceIte, g6, g5, zr, a2, n4, g6', zr', fo, zf', so, g0', zs', nc, nf, ea, e1, e2, eq_true h12, eq_false (show ¬ 12 < σ.1 + s'.2.2.2.2.2.1 by omega), cx_4 xr, zh, k4', cx_0 x2', cx_6 x2', cz_rd r2', cz_st s2', fo2, b3, cx_5 x3, cz_pd p3, pe, cx_0 x4, cz_st s4, nj]
end CTEXTS
