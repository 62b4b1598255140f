/-! TEXTS, SIDE BY SIDE -/
section TEXTS
variable {d : Nat} {H H1 : zH} {σ σ' : mS} {r r' : Int32} {e e' : Nat → mS × Int32} {len len' : Nat} {k : Bool} {κ : mS × Int32} {w w' : Nat → Nat} {m m' : Nat} {x y : Int32} {M M' : oS}
theorem MF_p (h : MF M σ r e len k κ w m) (h0 : M'.1 0 = M.1 0) (h2 : M'.1 2 = M.1 2) (h3 : M'.1 3 = M.1 3) (g0 : M'.2 0 = M.2 0) (g1 : M'.2 1 = M.2 1) (hP : pmR M' w' m') : MF M' σ r e len k κ w' m' := by
  obtain ⟨q1, q2, q3, q4, q5⟩ := h
  refine ⟨by rw [h0]; exact q1, ?_, by rw [g1]; exact q3, by rw [h3]; exact q4, hP⟩
  unfold mhi
  rw [g0, h2]
  exact q2
theorem CI_52 {P' : oS} (hC : CI H σ r e len k κ w m) (hP : pdR P' w' m') : CI (hpd H 52 P') σ r e len k κ w' m' := CI_pd hC (fun j _ a => hrg_out (by rw [pd_len]; omega)) ⟨P', at_new, hP⟩
theorem CO_52 {P' : oS} : CO H (hpd H 52 P') := CO_h (Nat.le_of_ble_eq_true rfl)
theorem P_empty {P : oS} (h : at_ H 52 (pdL 52 P)) : ev d 34 0 [some (.ref 52)] [] H = some (none, hpd H 52 (setI P 0 0)) := by
  have q := p_empty (d := d) (h := H) (u := 52) (P := P)
  rw [at_pd h] at q
  exact q
theorem pdR_0 {P : oS} : pdR (setI P 0 0) w 0 := ⟨rfl, Nat.zero_le _, fun j hj => absurd hj (Nat.not_lt_zero j)⟩
theorem pmR_0 {N : oS} (h : N.2 2 = 0) : pmR N w 0 := ⟨h, Nat.zero_le _, fun j hj => absurd hj (Nat.not_lt_zero j)⟩
theorem st_append (hC : CI H σ r e len k κ w m) (hM : MI H σ r e len k κ w m) (hW : WF σ e len k κ) : PR d H 103 163 [some (.int x)] [some (.int x)] := by
  have hC0 := hC
  obtain ⟨⟨X, x1, x2⟩, ⟨S, s1, s2, s3⟩, ⟨T, t1⟩, ⟨K, k1, k2⟩, hh, ⟨P, p1, p2⟩, ⟨R, r1⟩, ⟨F, f1⟩, ⟨Y, y1⟩, ⟨V, v1⟩, ⟨N, n1⟩⟩ := hC
  obtain ⟨M, m0, hF⟩ := hM
  have hF0 := hF
  obtain ⟨m1, m2, m3, m4, m5⟩ := hF
  have hW0 := hW
  obtain ⟨w1, w2, w3, w4⟩ := hW
  have hS := at_st s1
  have hb := w1.bnd
  have hn := hb.1
  have hR := mrw_R m1
  have g0 := cx_0 x1
  have z1 := cz_st s1
  have z0 := cz_sx x1
  have hen : ∀ j, j < len → (e j).1.1 ≤ 12 := fun j hj => (w3 j hj).1
  have hMS : mSt M σ r e len := ⟨m1, m2⟩
  have zp := cz_pd p1
  have pl := P_length (d := d + 19) p1 p2
  have hm80 := p2.2.1
  by_cases q : 33 ≤ x ∧ x ≤ 126
  · have q1 : (x < 33) = False := eq_false (Int32.not_lt.mpr q.1)
    have q2 : (x ≤ 126) = True := eq_true q.2
    have q3 : (126 < x) = False := eq_false (Int32.not_lt.mpr q.2)
    by_cases z : m = 80
    · obtain ⟨M', w', m', a1, a2, a3, a4, a5⟩ := m_append (d := d + 19) (h := H) (i := 71) (M := M) m5 (x := x)
      rw [if_neg (not_not_intro q), if_pos z] at a5
      rcases a4 with ⟨b1, b2, -⟩ | ⟨u, -, -, -, b4, -, -⟩
      · subst b1 b2
        refine PR_mk (v := -3) (M' := M') hC0 CO_r m0 (MF_p hF0 (a2 0 (by decide)) (a2 2 (by decide)) (a2 3 (by decide)) (a3 0 (by decide)) (a3 1 (by decide)) a1) hW0 ?_ a5
        rw [z] at pl
        simp only [e103_0, e103_1, e103_3, e103_6, e103_7, e103_9, e103_12, e103_13, e103_14, e103_15, e103_18, e103_21, e103_23, e103_26, e103_28, e103_29, e103_30, e103_33, e103_34, e103_37, e103_38, e103_41, e103_44, Option.bind_some, Option.toList_some, Option.toList_none, List.cons_append, List.nil_append, true_or, or_true, and_true, true_and, i10, Bool.false_eq_true, if_true, if_false, reduceIte, q1, q2, q3, cx_5 x1, zp, pl, show (nI 80 < 80) = False by decide, show ((80 : Int32) ≤ nI 80) = True by decide]
      · omega
    · have hm : m < 80 := by omega
      have e1 : (nI m < 80) = True := (nI_ltp (b := 80) (by omega) (by omega)).trans (eq_true hm)
      have e2 : ((80 : Int32) ≤ nI m) = False := (nI_lep (a := 80) (by omega) (by omega)).trans (eq_false (by omega))
      obtain ⟨u, u1, u2, rfl⟩ := cod q.1 q.2
      obtain ⟨P', c1, c2⟩ := p_add (d := d + 19) (h := H) (u := 52) (P := P) p2 hm (show u < 128 by omega)
      rw [at_pd p1] at c2
      have p1' : at_ (hpd H 52 P') 52 (pdL 52 P') := at_new
      have x1' : at_ (hpd H 52 P') 0 (sxL 0 X) := at_out x1 (Or.inl (Nat.le_of_ble_eq_true rfl))
      have pl' := P_length (d := d + 19) p1' c1
      obtain ⟨M', w', m', a1, a2, a3, a4, a5⟩ := m_append (d := d + 19) (h := hpd H 52 P') (i := 71) (M := M) m5 (x := nI u)
      rw [if_neg (not_not_intro q), if_neg z] at a5
      rcases a4 with ⟨-, -, b3⟩ | ⟨u', b1, b2, -, b4, b5, b6⟩
      · exact absurd ⟨q, z⟩ b3
      · have hu : u' = u := ((nI_eq (a := u) (b := u') (by omega) (by omega)).mp b2).symm
        subst hu
        rw [b5, b6] at a1
        refine PR_mk (H1 := hpd H 52 P') (v := nI (m + 1)) (M' := M') (CI_52 hC0 c1) CO_52 m0 (MF_p hF0 (a2 0 (by decide)) (a2 2 (by decide)) (a2 3 (by decide)) (a3 0 (by decide)) (a3 1 (by decide)) a1) hW0 ?_ a5
        simp only [e103_0, e103_1, e103_3, e103_6, e103_7, e103_9, e103_12, e103_13, e103_14, e103_15, e103_18, e103_21, e103_23, e103_26, e103_28, e103_29, e103_30, e103_33, e103_34, e103_37, e103_38, e103_41, e103_44, Option.bind_some, Option.toList_some, Option.toList_none, List.cons_append, List.nil_append, true_or, or_true, and_true, true_and, i10, Bool.false_eq_true, if_true, if_false, reduceIte, q1, q2, q3, cx_5 x1, zp, pl, e1, e2, c2, cx_5 x1', cz_pd p1', pl']
  · obtain ⟨M', w', m', a1, a2, a3, a4, a5⟩ := m_append (d := d + 19) (h := H) (i := 71) (M := M) m5 (x := x)
    rw [if_pos q] at a5
    rcases a4 with ⟨b1, b2, -⟩ | ⟨u, -, -, b3, -, -, -⟩
    · subst b1 b2
      refine PR_mk (v := -1) (M' := M') hC0 CO_r m0 (MF_p hF0 (a2 0 (by decide)) (a2 2 (by decide)) (a2 3 (by decide)) (a3 0 (by decide)) (a3 1 (by decide)) a1) hW0 ?_ a5
      by_cases q1 : x < 33
      · simp only [e103_0, e103_1, e103_3, e103_6, e103_7, e103_9, e103_12, e103_13, e103_14, e103_15, e103_18, e103_21, e103_23, e103_26, e103_28, e103_29, e103_30, e103_33, e103_34, e103_37, e103_38, e103_41, e103_44, Option.bind_some, Option.toList_some, Option.toList_none, List.cons_append, List.nil_append, true_or, or_true, and_true, true_and, i10, Bool.false_eq_true, if_true, if_false, reduceIte, eq_true q1]
      · have q2 : ¬ x ≤ 126 := fun z => q ⟨Int32.not_lt.mp q1, z⟩
        have q3 : 126 < x := Int32.not_le.mp q2
        simp only [e103_0, e103_1, e103_3, e103_6, e103_7, e103_9, e103_12, e103_13, e103_14, e103_15, e103_18, e103_21, e103_23, e103_26, e103_28, e103_29, e103_30, e103_33, e103_34, e103_37, e103_38, e103_41, e103_44, Option.bind_some, Option.toList_some, Option.toList_none, List.cons_append, List.nil_append, true_or, or_true, and_true, true_and, i10, Bool.false_eq_true, if_true, if_false, reduceIte, eq_false q1, eq_false q2, eq_true q3]
    · exact absurd b3 q
theorem st_clear (hC : CI H σ r e len k κ w m) (hM : MI H σ r e len k κ w m) (hW : WF σ e len k κ) : PR d H 104 164 [none] [none] := by
  have hC0 := hC
  obtain ⟨⟨X, x1, x2⟩, ⟨S, s1, s2, s3⟩, ⟨T, t1⟩, ⟨K, k1, k2⟩, hh, ⟨P, p1, p2⟩, ⟨R, r1⟩, ⟨F, f1⟩, ⟨Y, y1⟩, ⟨V, v1⟩, ⟨N, n1⟩⟩ := hC
  obtain ⟨M, m0, hF⟩ := hM
  have hF0 := hF
  obtain ⟨m1, m2, m3, m4, m5⟩ := hF
  have hW0 := hW
  obtain ⟨w1, w2, w3, w4⟩ := hW
  have hS := at_st s1
  have hb := w1.bnd
  have hn := hb.1
  have hR := mrw_R m1
  have g0 := cx_0 x1
  have z1 := cz_st s1
  have z0 := cz_sx x1
  have hen : ∀ j, j < len → (e j).1.1 ≤ 12 := fun j hj => (w3 j hj).1
  have hMS : mSt M σ r e len := ⟨m1, m2⟩
  have zp := cz_pd p1
  have pl := P_length (d := d + 19) p1 p2
  have pe := P_empty (d := d + 19) p1
  have mc := m_clear (d := d + 20) (h := hpd H 52 (setI P 0 0)) (i := 71) (M := M) m5
  refine PR_mk (H1 := hpd H 52 (setI P 0 0)) (v := nI m) (M' := setI M 2 0) (CI_52 hC0 (w' := w) pdR_0) CO_52 m0 (MF_p hF0 rfl rfl rfl rfl rfl (pmR_0 rfl)) hW0 ?_ mc
  simp only [e104_0, e104_1, e104_4, e104_7, e104_8, e104_9, e104_12, e104_15, e104_16, Option.bind_some, Option.toList_some, Option.toList_none, List.cons_append, List.nil_append, true_or, or_true, and_true, true_and, i10, Bool.false_eq_true, if_true, if_false, reduceIte, cx_5 x1, zp, pl, pe]
theorem c_found {R' : oS} (h : at_ H 54 (rdL 54 R')) : ev d 12 0 [some (.ref 54)] [] H = some (some (.ref 55), H) := by
  have q : hrd H 54 R' = H := at_rd h
  have g := rd_g0 (h := H) (i := 54) (S := R')
  rw [q] at g
  simp only [e12_0, e12_1, e12_4, Option.bind_some, Option.toList_some, Option.toList_none, List.cons_append, List.nil_append, true_or, or_true, and_true, true_and, i10, Bool.false_eq_true, if_true, if_false, reduceIte, g]
theorem S_isSound {S : oS} {i : Nat} (hH : hst H i S = H) (hR : stR S σ) (hb : bnd σ) : ev (d + 3) 67 0 [some (.ref i), none] [] H = some (some (.int (bI (sou σ = true))), H) := by
  have q := s_isSound (d := d) (h := H) (i := i) (S := S) hR hb
  rw [hH] at q
  exact q
theorem st_load (hC : CI H σ r e len k κ w m) (hM : MI H σ r e len k κ w m) (hW : WF σ e len k κ) : PR d H 106 173 [] [none, none, none, none] := by
  have hC0 := hC
  obtain ⟨⟨X, x1, x2⟩, ⟨S, s1, s2, s3⟩, ⟨T, t1⟩, ⟨K, k1, k2⟩, hh, ⟨P, p1, p2⟩, ⟨R, r1⟩, ⟨F, f1⟩, ⟨Y, y1⟩, ⟨V, v1⟩, ⟨N, n1⟩⟩ := hC
  obtain ⟨M, m0, hF⟩ := hM
  have hF0 := hF
  obtain ⟨m1, m2, m3, m4, m5⟩ := hF
  have hW0 := hW
  obtain ⟨w1, w2, w3, w4⟩ := hW
  have hS := at_st s1
  have hb := w1.bnd
  have hn := hb.1
  have hR := mrw_R m1
  have g0 := cx_0 x1
  have z1 := cz_st s1
  have z0 := cz_sx x1
  have hen : ∀ j, j < len → (e j).1.1 ≤ 12 := fun j hj => (w3 j hj).1
  have hMS : mSt M σ r e len := ⟨m1, m2⟩
  obtain ⟨R', F', a1, a2⟩ := c_read (d := d + 13) x1 p1 p2 r1 f1
  have xr : at_ (hst (hrd H 54 R') 55 F') 0 (sxL 0 X) := at_out (at_out x1 (Or.inl (Nat.le_of_ble_eq_true rfl))) (Or.inl (Nat.le_of_ble_eq_true rfl))
  have sr : at_ (hst (hrd H 54 R') 55 F') 1 (stL 1 S) := at_out (at_out s1 (Or.inl (Nat.le_of_ble_eq_true rfl))) (Or.inl (Nat.le_of_ble_eq_true rfl))
  have rr : at_ (hst (hrd H 54 R') 55 F') 54 (rdL 54 R') := at_out at_new (Or.inl (Nat.le_of_ble_eq_true rfl))
  have fr : at_ (hst (hrd H 54 R') 55 F') 55 (stL 55 F') := at_new
  have pr : at_ (hst (hrd H 54 R') 55 F') 52 (pdL 52 P) := at_out (at_out p1 (Or.inl (Nat.le_of_ble_eq_true rfl))) (Or.inl (Nat.le_of_ble_eq_true rfl))
  have hCr := CI_rdr hC0 R' F'
  have hOr := CO_rdr (H := H) R' F'
  have n4 : ((-4 : Int32) = -4) = True := by decide
  have zr := cz_rd r1
  have g6 := cx_6 x1
  have g5 := cx_5 x1
  have g6' := cx_6 xr
  have zr' := cz_rd rr
  have zf' := cz_st fr
  have fo : ∀ d, ev d 12 0 [some (.ref 54)] [] (hst (hrd H 54 R') 55 F') = some (some (.ref 55), hst (hrd H 54 R') 55 F') := fun d => c_found rr
  by_cases q : rdv m (rnn w m 0 s00) = -4
  · obtain ⟨s', hr, hcm⟩ : ∃ s', rnn w m 0 s00 = (m, some s') ∧ cmp s' = true := by
      obtain ⟨M', -, b2, -⟩ := m_areNests (d := d) (h := H) (i := 71) (M := M) m5
      rcases b2 with ⟨-, -, b3⟩ | ⟨-, s1, b2, -, b4, -⟩
      · exact absurd q b3
      · exact ⟨s1, b2, b4⟩
    obtain ⟨c1, c2⟩ := a1 m s' hr
    have hFr := c1.2.2.2.2.2
    have hbt := c2.1.1
    have so := S_isSound (d := d + 16) (at_st fr) hFr hbt
    rw [q] at a2
    cases hs : sou s'.2.2.2.2.2 with
    | false =>
      rw [bI_f (by rw [hs]; decide)] at so
      obtain ⟨M', b1, b2⟩ := m_loadU (d := d + 14) (h := hst (hrd H 54 R') 55 F') (i := 71) (M := M) m5 hr hcm hs
      refine PR_mk (H1 := hst (hrd H 54 R') 55 F') (v := -2) (M' := M') hCr hOr m0 (MF_L hF0 (mfL_c b1)) hW0 ?_ b2
      simp only [e106_0, e106_1, e106_4, e106_5, e106_8, e106_11, e106_13, e106_16, e106_17, e106_20, e106_23, e106_26, e106_29, e106_31, e106_32, e106_33, e106_36, e106_39, e106_40, e106_43, e106_46, e106_49, e106_50, e106_52, e106_55, e106_57, e106_58, e106_59, e106_62, e106_63, e106_66, e106_69, e106_70, e106_73, e106_74, e106_77, e106_80, e106_83, e106_84, e106_87, e106_90, e106_91, e106_94, e106_97, Option.bind_some, Option.toList_some, Option.toList_none, List.cons_append, List.nil_append, true_or, or_true, and_true, true_and, i10, Bool.false_eq_true, if_true, if_false, reduceIte, g6, g5, zr, a2, n4, g6', zr', fo, zf', so]
    | true =>
      rw [bI_t hs] at so
      have hSr := at_st sr
      have nc : ∀ d, ev d 38 0 [some (.ref 1)] [] (hst (hrd H 54 R') 55 F') = some (some (.int (nI σ.1)), hst (hrd H 54 R') 55 F') := fun d => S_crates hSr s2
      have nf : ∀ d, ev d 38 0 [some (.ref 55)] [] (hst (hrd H 54 R') 55 F') = some (some (.int (nI s'.2.2.2.2.2.1)), hst (hrd H 54 R') 55 F') := fun d => S_crates (at_st fr) hFr
      have hnt := hbt.1
      have ea : nI σ.1 + nI s'.2.2.2.2.2.1 = nI (σ.1 + s'.2.2.2.2.2.1) := nI_add _ _
      have e1 : (nI (σ.1 + s'.2.2.2.2.2.1) ≤ 12) = (σ.1 + s'.2.2.2.2.2.1 ≤ 12) := nI_lep (b := 12) (by omega) (by omega)
      have e2 : (12 < nI (σ.1 + s'.2.2.2.2.2.1)) = (12 < σ.1 + s'.2.2.2.2.2.1) := nI_ltp (a := 12) (by omega) (by omega)
      have g0' := cx_0 xr
      have zs' := cz_st sr
      by_cases h12 : σ.1 + s'.2.2.2.2.2.1 ≤ 12
      · have htw := read_wf p2.2.1 hr c2 hcm hs
        obtain ⟨H2, k1', k2', k3', k4'⟩ := c_keep (d := d + 18) hCr hn
        have s2' := at_1 sr k3'
        have x2' := at_0 xr k3'
        have f2' : at_ H2 55 (stL 55 F') := at_fr fr (fun j a b => k3' j (by omega))
        have r2' : at_ H2 54 (rdL 54 R') := at_fr rr (fun j a b => k3' j (by omega))
        have p2' : at_ H2 52 (pdL 52 P) := at_fr pr (fun j a b => k3' j (by omega))
        obtain ⟨S', b1, b2, b3⟩ := s_addAll (d := d + 16) (h := H2) (v := 55) (i := 1) (S := S) (F := F') (by omega) s2 hFr htw h12
        rw [at_st f2', at_st s2'] at b3
        have x3 : at_ (hst H2 1 S') 0 (sxL 0 X) := at_out x2' (Or.inl (Nat.le_of_ble_eq_true rfl))
        have s3' : at_ (hst H2 1 S') 1 (stL 1 S') := at_new
        have p3 : at_ (hst H2 1 S') 52 (pdL 52 P) := at_out p2' (Or.inr (Nat.le_of_ble_eq_true rfl))
        have pe := P_empty (d := d + 19) p3
        have x4 : at_ (hpd (hst H2 1 S') 52 (setI P 0 0)) 0 (sxL 0 X) := at_out x3 (Or.inl (Nat.le_of_ble_eq_true rfl))
        have s4 : at_ (hpd (hst H2 1 S') 52 (setI P 0 0)) 1 (stL 1 S') := at_out s3' (Or.inl (Nat.le_of_ble_eq_true rfl))
        have nj : ev (d + 19) 38 0 [some (.ref 1)] [] (hpd (hst H2 1 S') 52 (setI P 0 0)) = some (some (.int (nI (σ.1 + s'.2.2.2.2.2.1))), hpd (hst H2 1 S') 52 (setI P 0 0)) := S_crates (at_st s4) b1
        have wl := jnd_wf w1 htw h12
        obtain ⟨M', d1, d2, d3, d4, d5⟩ := m_load (d := d + 14) (h := hpd (hst H2 1 S') 52 (setI P 0 0)) (i := 71) (M := M) m5 w2 hMS hn hen hr hcm hs h12
        have hF' : MF M' (jnd σ s'.2.2.2.2.2) r (he e len (σ, r)) (hl len) k κ w 0 := ⟨d4.1, d4.2, by rw [d2]; exact m3, by rw [d1]; exact m4, d3⟩
        have zh := zh_is hCr.2.2.2.2.1
        have fo2 : ev (d + 19) 12 0 [some (.ref 54)] [] H2 = some (some (.ref 55), H2) := c_found r2'
        refine PR_mk (H1 := hpd (hst H2 1 S') 52 (setI P 0 0)) (v := nI (σ.1 + s'.2.2.2.2.2.1)) (M' := M') (CI_52 (CI_1 k1' b1 (b2.trans s3)) (w' := w) pdR_0) (CO_t hOr (CO_t k2' (CO_t CO_1 CO_52))) m0 hF' (WF_ch hW0 wl) ?_ d5
        simp only [e106_0, e106_1, e106_4, e106_5, e106_8, e106_11, e106_13, e106_16, e106_17, e106_20, e106_23, e106_26, e106_29, e106_31, e106_32, e106_33, e106_36, e106_39, e106_40, e106_43, e106_46, e106_49, e106_50, e106_52, e106_55, e106_57, e106_58, e106_59, e106_62, e106_63, e106_66, e106_69, e106_70, e106_73, e106_74, e106_77, e106_80, e106_83, e106_84, e106_87, e106_90, e106_91, e106_94, e106_97, Option.bind_some, Option.toList_some, Option.toList_none, List.cons_append, List.nil_append, true_or, or_true, and_true, true_and, i10, Bool.false_eq_true, if_true, if_false, reduceIte, g6, g5, zr, a2, n4, g6', zr', fo, zf', so, g0', zs', nc, nf, ea, e1, e2, eq_true h12, eq_false (show ¬ 12 < σ.1 + s'.2.2.2.2.2.1 by omega), cx_4 xr, zh, k4', cx_0 x2', cx_6 x2', cz_rd r2', cz_st s2', fo2, b3, cx_5 x3, cz_pd p3, pe, cx_0 x4, cz_st s4, nj]
      · obtain ⟨M', b1, b2⟩ := m_loadF (d := d + 14) (h := hst (hrd H 54 R') 55 F') (i := 71) (M := M) m5 hR hn hr hcm hs (show 12 < σ.1 + s'.2.2.2.2.2.1 by omega)
        refine PR_mk (H1 := hst (hrd H 54 R') 55 F') (v := -3) (M' := M') hCr hOr m0 (MF_L hF0 (mfL_c b1)) hW0 ?_ b2
        simp only [e106_0, e106_1, e106_4, e106_5, e106_8, e106_11, e106_13, e106_16, e106_17, e106_20, e106_23, e106_26, e106_29, e106_31, e106_32, e106_33, e106_36, e106_39, e106_40, e106_43, e106_46, e106_49, e106_50, e106_52, e106_55, e106_57, e106_58, e106_59, e106_62, e106_63, e106_66, e106_69, e106_70, e106_73, e106_74, e106_77, e106_80, e106_83, e106_84, e106_87, e106_90, e106_91, e106_94, e106_97, Option.bind_some, Option.toList_some, Option.toList_none, List.cons_append, List.nil_append, true_or, or_true, and_true, true_and, i10, Bool.false_eq_true, if_true, if_false, reduceIte, g6, g5, zr, a2, n4, g6', zr', fo, zf', so, g0', zs', nc, nf, ea, e1, e2, eq_false h12, eq_true (show 12 < σ.1 + s'.2.2.2.2.2.1 by omega)]
  · obtain ⟨M', b1, b2⟩ := m_loadX (d := d + 14) (h := hst (hrd H 54 R') 55 F') (i := 71) (M := M) m5 q
    refine PR_mk (H1 := hst (hrd H 54 R') 55 F') (v := -2) (M' := M') hCr hOr m0 (MF_L hF0 (mfL_c b1)) hW0 ?_ b2
    simp only [e106_0, e106_1, e106_4, e106_5, e106_8, e106_11, e106_13, e106_16, e106_17, e106_20, e106_23, e106_26, e106_29, e106_31, e106_32, e106_33, e106_36, e106_39, e106_40, e106_43, e106_46, e106_49, e106_50, e106_52, e106_55, e106_57, e106_58, e106_59, e106_62, e106_63, e106_66, e106_69, e106_70, e106_73, e106_74, e106_77, e106_80, e106_83, e106_84, e106_87, e106_90, e106_91, e106_94, e106_97, Option.bind_some, Option.toList_some, Option.toList_none, List.cons_append, List.nil_append, true_or, or_true, and_true, true_and, i10, Bool.false_eq_true, if_true, if_false, reduceIte, g6, g5, zr, a2, eq_false q]
end TEXTS
