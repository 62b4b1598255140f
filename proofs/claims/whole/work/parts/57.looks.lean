/-! THE LOOKS, SIDE BY SIDE -/
/-- what a call of the class leaves alone -/
def CO (H H1 : zH) : Prop := sme H H1 ∧ ∀ j, 71 ≤ j → zg H1 j = zg H j
theorem CO_r {H : zH} : CO H H := ⟨sme_r H, fun _ _ => rfl⟩
theorem CO_t {H H1 H2 : zH} (a : CO H H1) (b : CO H1 H2) : CO H H2 := ⟨sme_t a.1 b.1, fun j hj => (b.2 j hj).trans (a.2 j hj)⟩
theorem CO_h {H : zH} {i : Nat} {l : List zC} (hl : i + l.length ≤ 71) : CO H (hrg H i l) := ⟨sme_hrg, fun j hj => hrg_out (Or.inr (by omega))⟩
def MF (M : oS) (σ : mS) (r : Int32) (e : Nat → mS × Int32) (len : Nat) (k : Bool) (κ : mS × Int32) (w : Nat → Nat) (m : Nat) : Prop := mrw (M.1 0) 0 σ r ∧ mhi M e len ∧ M.2 1 = bI (k = true) ∧ (k = true → mrw (M.1 3) 0 κ.1 κ.2) ∧ pmR M w m
def mfL (M M' : oS) : Prop := M'.1 0 = M.1 0 ∧ M'.1 2 = M.1 2 ∧ M'.1 3 = M.1 3 ∧ M'.1 4 = M.1 4 ∧ M'.2 0 = M.2 0 ∧ M'.2 1 = M.2 1 ∧ M'.2 2 = M.2 2
theorem mfL_r {M : oS} : mfL M M := ⟨rfl, rfl, rfl, rfl, rfl, rfl, rfl⟩
theorem mfL_10 {M : oS} {f : Nat → Int32} : mfL M (setR M 10 f) := ⟨rfl, rfl, rfl, rfl, rfl, rfl, rfl⟩
theorem mfL_c {M M' : oS} (h : mfC M M') : mfL M M' := ⟨h.1 0 (by decide) (by decide), h.1 2 (by decide) (by decide), h.1 3 (by decide) (by decide), h.1 4 (by decide) (by decide), h.2 0 (by decide) (by decide) (by decide) (by decide), h.2 1 (by decide) (by decide) (by decide) (by decide), h.2 2 (by decide) (by decide) (by decide) (by decide)⟩
theorem mfL_9 {M M' : oS} (h : mf9 0 M M') : mfL M M' := ⟨h.1 0 (by decide) (by decide) (by decide), h.1 2 (by decide) (by decide) (by decide), h.1 3 (by decide) (by decide) (by decide), h.1 4 (by decide) (by decide) (by decide), h.2.1 0 (by decide), h.2.1 1 (by decide), h.2.1 2 (by decide)⟩
/-- two calls, one behind the other, answer alike -/
def PR (d : Nat) (H : zH) (kc km : Nat) (lc lm : List (Option Value)) : Prop := ∃ H1 H2 v, ev (d + 20) kc 0 (some (.ref 0) :: lc) [] H = some (some (.int v), H1) ∧ ev (d + 20) km 0 (some (.ref 71) :: lm) [] H1 = some (some (.int v), H2) ∧ CO H H1 ∧ SO H H2
section LOOKS
variable {d : Nat} {H H1 : zH} {σ : mS} {r : Int32} {e : Nat → mS × Int32} {len : Nat} {k : Bool} {κ : mS × Int32} {w : Nat → Nat} {m : Nat} {x y : Int32} {M M' : oS}
theorem MF_L (h : MF M σ r e len k κ w m) (l : mfL M M') : MF M' σ r e len k κ w m := by
  obtain ⟨a0, a2, a3, a4, b0, b1, b2⟩ := l
  obtain ⟨h1, h2, h3, h4, h5⟩ := h
  refine ⟨by rw [a0]; exact h1, ?_, by rw [b1]; exact h3, by rw [a3]; exact h4, ?_⟩
  · unfold mhi
    rw [b0, a2]
    exact h2
  · unfold pmR
    rw [b2, a4]
    exact h5
theorem SO_fin {o : CO H H1} (hC1 : CI H1 σ r e len k κ w m) (hF : MF M' σ r e len k κ w m) (hW : WF σ e len k κ) : SO H (hmd H1 71 M') :=
  ⟨sme_t o.1 sme_hrg, σ, r, e, len, k, κ, w, m, CI_fr hC1 (fun j _ hj => hrg_out (Or.inl hj)), ⟨M', at_new, hF⟩, hW⟩
theorem PR_mk {kc km : Nat} {lc lm : List (Option Value)} {v : Int32} (hC1 : CI H1 σ r e len k κ w m) (o : CO H H1) (m0 : at_ H 71 (mdL 71 M)) (hF : MF M' σ r e len k κ w m) (hW : WF σ e len k κ) (hc : ev (d + 20) kc 0 (some (.ref 0) :: lc) [] H = some (some (.int v), H1)) (hm : ev (d + 20) km 0 (some (.ref 71) :: lm) [] (hmd H1 71 M) = some (some (.int v), hmd H1 71 M')) : PR d H kc km lc lm := by
  have hH : hmd H1 71 M = H1 := at_md (at_fr m0 (fun j a _ => o.2 j a))
  rw [hH] at hm
  exact ⟨H1, _, v, hc, hm, o, SO_fin (o := o) hC1 hF hW⟩
theorem c_isPl : ev d 125 0 [some (.int x)] [] H = some (some (.int (bI (zin x 4 = true))), H) := by
  rcases zin_cases (c := x) (n := 4) (by decide) with ⟨h1, h2⟩ | ⟨h1, h2, h3⟩ | ⟨q, hq, rfl⟩
  · rw [bI_f (by rw [h2]; decide)]
    simp only [e125_0, e125_1, e125_4, e125_5, e125_6, e125_9, e125_10, e125_13, e125_14, Option.bind_some, Option.toList_some, Option.toList_none, List.cons_append, List.nil_append, true_or, or_true, and_true, true_and, i10, Bool.false_eq_true, if_true, if_false, reduceIte, eq_true h1]
  · have h2' : (4 : Int32) ≤ x := h2
    rw [bI_f (by rw [h3]; decide)]
    simp only [e125_0, e125_1, e125_4, e125_5, e125_6, e125_9, e125_10, e125_13, e125_14, Option.bind_some, Option.toList_some, Option.toList_none, List.cons_append, List.nil_append, true_or, or_true, and_true, true_and, i10, Bool.false_eq_true, if_true, if_false, reduceIte, eq_false h1, eq_true h2']
  · rw [bI_t (zin_T hq (by decide)), x_isPlace hq]
theorem c_isW : ev d 126 0 [some (.int x)] [] H = some (some (.int (bI (0 ≤ x ∧ x ≤ 28))), H) := by
  by_cases h1 : x < 0
  · rw [bI_f (fun z => absurd z.1 (Int32.not_le.mpr h1))]
    simp only [e126_0, e126_1, e126_4, e126_5, e126_7, e126_10, e126_11, e126_14, e126_15, Option.bind_some, Option.toList_some, Option.toList_none, List.cons_append, List.nil_append, true_or, or_true, and_true, true_and, i10, Bool.false_eq_true, if_true, if_false, reduceIte, eq_true h1]
  · by_cases h2 : 28 < x
    · rw [bI_f (fun z => absurd z.2 (Int32.not_le.mpr h2))]
      simp only [e126_0, e126_1, e126_4, e126_5, e126_7, e126_10, e126_11, e126_14, e126_15, Option.bind_some, Option.toList_some, Option.toList_none, List.cons_append, List.nil_append, true_or, or_true, and_true, true_and, i10, Bool.false_eq_true, if_true, if_false, reduceIte, eq_false h1, eq_true h2]
    · rw [bI_t ⟨Int32.not_lt.mp h1, Int32.not_lt.mp h2⟩]
      simp only [e126_0, e126_1, e126_4, e126_5, e126_7, e126_10, e126_11, e126_14, e126_15, Option.bind_some, Option.toList_some, Option.toList_none, List.cons_append, List.nil_append, true_or, or_true, and_true, true_and, i10, Bool.false_eq_true, if_true, if_false, reduceIte, eq_false h1, eq_false h2]
/-- a look at the stock that is -/
theorem c_view {X S V : oS} (x1 : at_ H 0 (sxL 0 X)) (s1 : at_ H 1 (stL 1 S)) (v1 : at_ H 64 (vwL 64 V)) (hR : stR S σ) (hb : bnd σ) : ∃ V', vwR V' σ ∧ ev (d + 6) 123 0 [some (.ref 0)] [] H = some (some (.ref 64), hvw H 64 V') := by
  obtain ⟨V', a1, a2⟩ := v_look (d := d + 1) (h := H) (v := 64) (i := 1) (V := V) (S := S) hR hb (Or.inr (by omega))
  have e1 : hst (hvw H 64 V') 1 S = hvw H 64 V' := at_st (at_out s1 (Or.inl (Nat.le_of_ble_eq_true rfl)))
  rw [at_vw v1, at_st s1, e1] at a2
  have g8 : zgetf (hvw H 64 V') 0 7 8 = some (.ref 64) := cx_8 (at_out x1 (Or.inl (Nat.le_of_ble_eq_true rfl)))
  refine ⟨V', a1, ?_⟩
  simp only [e123_0, e123_1, e123_4, e123_5, e123_8, e123_11, e123_12, e123_15, Option.bind_some, Option.toList_some, Option.toList_none, List.cons_append, List.nil_append, true_or, or_true, and_true, true_and, i10, Bool.false_eq_true, if_true, if_false, reduceIte, cx_8 x1, cx_0 x1, cz_vw v1, a2, g8]
theorem CI_view (hC : CI H σ r e len k κ w m) (V' : oS) : CI (hvw H 64 V') σ r e len k κ w m := CI_vw hC (fun j _ a => hrg_out (by rw [vw_len]; omega)) ⟨V', at_new⟩
theorem CO_vw (V' : oS) : CO H (hvw H 64 V') := CO_h (Nat.le_of_ble_eq_true rfl)
theorem st_letter (hC : CI H σ r e len k κ w m) (hM : MI H σ r e len k κ w m) (hW : WF σ e len k κ) : PR d H 109 182 [some (.int x), some (.int y), none] [some (.int x), some (.int y)] := by
  have hC0 := hC
  obtain ⟨⟨X, x1, x2⟩, ⟨S, s1, s2, s3⟩, ⟨T, t1⟩, ⟨K, k1, k2⟩, hh, ⟨P, p1, p2⟩, ⟨R, r1⟩, ⟨F, f1⟩, ⟨Y, y1⟩, ⟨V, v1⟩, ⟨N, n1⟩⟩ := hC
  obtain ⟨M, m0, hF⟩ := hM
  have hF0 := hF
  obtain ⟨m1, m2, m3, m4, m5⟩ := hF
  have hW0 := hW
  obtain ⟨w1, w2, w3, w4⟩ := hW
  have hS := at_st s1
  have hb := w1.bnd
  have hn := hb.1
  have hR := mrw_R m1
  have g0 := cx_0 x1
  have z1 := cz_st s1
  have z0 := cz_sx x1
  cases q : zin x σ.1 with
  | false =>
    refine PR_mk (v := -1) hC0 CO_r m0 hF0 hW0 ?_ (m_letter0 (d := d + 14) hR hn (Or.inl q))
    simp only [e109_0, e109_1, e109_4, e109_5, e109_8, e109_11, e109_12, e109_15, e109_18, e109_19, e109_20, e109_21, e109_24, e109_25, e109_26, e109_29, e109_30, e109_31, e109_32, e109_35, e109_37, e109_40, e109_41, Option.bind_some, Option.toList_some, Option.toList_none, List.cons_append, List.nil_append, true_or, or_true, and_true, true_and, i10, Bool.false_eq_true, if_true, if_false, reduceIte, g0, z1, S_isC0 hS s2 hn q]
  | true =>
    obtain ⟨c, hc, rfl⟩ := zin_some (by omega) q
    cases q2 : zin y 4 with
    | false =>
      refine PR_mk (v := -1) hC0 CO_r m0 hF0 hW0 ?_ (m_letter0 (d := d + 14) hR hn (Or.inr q2))
      simp only [e109_0, e109_1, e109_4, e109_5, e109_8, e109_11, e109_12, e109_15, e109_18, e109_19, e109_20, e109_21, e109_24, e109_25, e109_26, e109_29, e109_30, e109_31, e109_32, e109_35, e109_37, e109_40, e109_41, Option.bind_some, Option.toList_some, Option.toList_none, List.cons_append, List.nil_append, true_or, or_true, and_true, true_and, i10, Bool.false_eq_true, if_true, if_false, reduceIte, g0, z1, S_isCrate_k hS s2 hb hc, c_isPl, bI_f (show ¬ zin y 4 = true by rw [q2]; decide)]
    | true =>
      obtain ⟨p, hp, rfl⟩ := zin_some (by decide) q2
      have hl := (hb.2 c hc).2.2.2.1 p hp
      refine PR_mk (v := cB (σ.2 c (3 + p))) hC0 CO_r m0 hF0 hW0 ?_ (m_letter (d := d + 14) hR w1 hc hp)
      cases u : σ.2 c (3 + p) with
      | zero =>
        have la := S_letterAt (d := d + 18) hS s2 hb hc hp
        rw [u, hI_0] at la
        simp only [e109_0, e109_1, e109_4, e109_5, e109_8, e109_11, e109_12, e109_15, e109_18, e109_19, e109_20, e109_21, e109_24, e109_25, e109_26, e109_29, e109_30, e109_31, e109_32, e109_35, e109_37, e109_40, e109_41, Option.bind_some, Option.toList_some, Option.toList_none, List.cons_append, List.nil_append, true_or, or_true, and_true, true_and, i10, Bool.false_eq_true, if_true, if_false, reduceIte, g0, z1, S_isCrate_k hS s2 hb hc, c_isPl, bI_t q2, la]
        rfl
      | succ a =>
        have la := S_letterAt (d := d + 18) hS s2 hb hc hp
        rw [u, hI_s] at la
        rw [u] at hl
        have ne : (nI a = -1) = False := nI_m1 (by omega)
        simp only [e109_0, e109_1, e109_4, e109_5, e109_8, e109_11, e109_12, e109_15, e109_18, e109_19, e109_20, e109_21, e109_24, e109_25, e109_26, e109_29, e109_30, e109_31, e109_32, e109_35, e109_37, e109_40, e109_41, Option.bind_some, Option.toList_some, Option.toList_none, List.cons_append, List.nil_append, true_or, or_true, and_true, true_and, i10, Bool.false_eq_true, if_true, if_false, reduceIte, g0, z1, S_isCrate_k hS s2 hb hc, c_isPl, bI_t q2, la, ne]
        rfl
theorem st_seen (hC : CI H σ r e len k κ w m) (hM : MI H σ r e len k κ w m) (hW : WF σ e len k κ) : PR d H 110 183 [some (.int x), some (.int y)] [some (.int x), some (.int y)] := by
  have hC0 := hC
  obtain ⟨⟨X, x1, x2⟩, ⟨S, s1, s2, s3⟩, ⟨T, t1⟩, ⟨K, k1, k2⟩, hh, ⟨P, p1, p2⟩, ⟨R, r1⟩, ⟨F, f1⟩, ⟨Y, y1⟩, ⟨V, v1⟩, ⟨N, n1⟩⟩ := hC
  obtain ⟨M, m0, hF⟩ := hM
  have hF0 := hF
  obtain ⟨m1, m2, m3, m4, m5⟩ := hF
  have hW0 := hW
  obtain ⟨w1, w2, w3, w4⟩ := hW
  have hS := at_st s1
  have hb := w1.bnd
  have hn := hb.1
  have hR := mrw_R m1
  have g0 := cx_0 x1
  have z1 := cz_st s1
  have z0 := cz_sx x1
  cases q : zin x σ.1 with
  | false =>
    refine PR_mk (v := -1) hC0 CO_r m0 hF0 hW0 ?_ (m_seen0 (d := d + 14) hR hn (Or.inl q))
    simp only [e110_0, e110_1, e110_4, e110_5, e110_8, e110_11, e110_12, e110_15, e110_18, e110_19, e110_20, e110_21, e110_24, e110_25, e110_26, e110_29, Option.bind_some, Option.toList_some, Option.toList_none, List.cons_append, List.nil_append, true_or, or_true, and_true, true_and, i10, Bool.false_eq_true, if_true, if_false, reduceIte, g0, z1, S_isC0 hS s2 hn q]
  | true =>
    obtain ⟨c, hc, rfl⟩ := zin_some (by omega) q
    cases q2 : zin y 4 with
    | false =>
      refine PR_mk (v := -1) hC0 CO_r m0 hF0 hW0 ?_ (m_seen0 (d := d + 14) hR hn (Or.inr q2))
      simp only [e110_0, e110_1, e110_4, e110_5, e110_8, e110_11, e110_12, e110_15, e110_18, e110_19, e110_20, e110_21, e110_24, e110_25, e110_26, e110_29, Option.bind_some, Option.toList_some, Option.toList_none, List.cons_append, List.nil_append, true_or, or_true, and_true, true_and, i10, Bool.false_eq_true, if_true, if_false, reduceIte, g0, z1, S_isCrate_k hS s2 hb hc, c_isPl, bI_f (show ¬ zin y 4 = true by rw [q2]; decide)]
    | true =>
      obtain ⟨p, hp, rfl⟩ := zin_some (by decide) q2
      obtain ⟨V', b1, b2⟩ := c_view (d := d + 13) x1 s1 v1 s2 hb
      have hV : hvw (hvw H 64 V') 64 V' = hvw H 64 V' := at_vw at_new
      have zv : zis (hvw H 64 V') 64 6 = true := cz_vw at_new
      refine PR_mk (v := nI (sgn σ c p)) (CI_view hC0 V') (CO_vw V') m0 hF0 hW0 ?_ (m_seen (d := d + 14) hR w1 hc hp)
      simp only [e110_0, e110_1, e110_4, e110_5, e110_8, e110_11, e110_12, e110_15, e110_18, e110_19, e110_20, e110_21, e110_24, e110_25, e110_26, e110_29, Option.bind_some, Option.toList_some, Option.toList_none, List.cons_append, List.nil_append, true_or, or_true, and_true, true_and, i10, Bool.false_eq_true, if_true, if_false, reduceIte, g0, z0, z1, S_isCrate_k hS s2 hb hc, c_isPl, bI_t q2, b2, zv, V_signAt hV b1 hb hc hp]
theorem st_whyNot (hC : CI H σ r e len k κ w m) (hM : MI H σ r e len k κ w m) (hW : WF σ e len k κ) : PR d H 111 184 [some (.int x), some (.int y)] [some (.int x), some (.int y)] := by
  have hC0 := hC
  obtain ⟨⟨X, x1, x2⟩, ⟨S, s1, s2, s3⟩, ⟨T, t1⟩, ⟨K, k1, k2⟩, hh, ⟨P, p1, p2⟩, ⟨R, r1⟩, ⟨F, f1⟩, ⟨Y, y1⟩, ⟨V, v1⟩, ⟨N, n1⟩⟩ := hC
  obtain ⟨M, m0, hF⟩ := hM
  have hF0 := hF
  obtain ⟨m1, m2, m3, m4, m5⟩ := hF
  have hW0 := hW
  obtain ⟨w1, w2, w3, w4⟩ := hW
  have hS := at_st s1
  have hb := w1.bnd
  have hn := hb.1
  have hR := mrw_R m1
  have g0 := cx_0 x1
  have z1 := cz_st s1
  have z0 := cz_sx x1
  cases q : zin x σ.1 with
  | false =>
    refine PR_mk (v := -1) hC0 CO_r m0 hF0 hW0 ?_ (m_why0 (d := d + 14) hR hn (Or.inl q))
    simp only [e111_0, e111_1, e111_4, e111_5, e111_8, e111_11, e111_12, e111_15, e111_16, e111_19, e111_22, e111_23, e111_24, e111_25, e111_28, e111_29, e111_30, e111_33, Option.bind_some, Option.toList_some, Option.toList_none, List.cons_append, List.nil_append, true_or, or_true, and_true, true_and, i10, Bool.false_eq_true, if_true, if_false, reduceIte, g0, z1, S_isC0 hS s2 hn q]
  | true =>
    obtain ⟨c, hc, rfl⟩ := zin_some (by omega) q
    cases q2 : zin y σ.1 with
    | false =>
      refine PR_mk (v := -1) hC0 CO_r m0 hF0 hW0 ?_ (m_why0 (d := d + 14) hR hn (Or.inr q2))
      simp only [e111_0, e111_1, e111_4, e111_5, e111_8, e111_11, e111_12, e111_15, e111_16, e111_19, e111_22, e111_23, e111_24, e111_25, e111_28, e111_29, e111_30, e111_33, Option.bind_some, Option.toList_some, Option.toList_none, List.cons_append, List.nil_append, true_or, or_true, and_true, true_and, i10, Bool.false_eq_true, if_true, if_false, reduceIte, g0, z1, S_isCrate_k hS s2 hb hc, S_isC0 hS s2 hn q2]
    | true =>
      obtain ⟨u, hu, rfl⟩ := zin_some (by omega) q2
      refine PR_mk (v := nI (rpt σ c u)) hC0 CO_r m0 hF0 hW0 ?_ (m_why (d := d + 14) hR w1 hc hu)
      simp only [e111_0, e111_1, e111_4, e111_5, e111_8, e111_11, e111_12, e111_15, e111_16, e111_19, e111_22, e111_23, e111_24, e111_25, e111_28, e111_29, e111_30, e111_33, Option.bind_some, Option.toList_some, Option.toList_none, List.cons_append, List.nil_append, true_or, or_true, and_true, true_and, i10, Bool.false_eq_true, if_true, if_false, reduceIte, g0, z1, S_isCrate_k hS s2 hb hc, S_isCrate_k hS s2 hb hu, S_reasonNotToPut hS s2 w1 hc hu]
theorem st_effort (hC : CI H σ r e len k κ w m) (hM : MI H σ r e len k κ w m) (hW : WF σ e len k κ) : PR d H 112 185 [some (.int x), some (.int y)] [some (.int x), some (.int y), none, none] := by
  have hC0 := hC
  obtain ⟨⟨X, x1, x2⟩, ⟨S, s1, s2, s3⟩, ⟨T, t1⟩, ⟨K, k1, k2⟩, hh, ⟨P, p1, p2⟩, ⟨R, r1⟩, ⟨F, f1⟩, ⟨Y, y1⟩, ⟨V, v1⟩, ⟨N, n1⟩⟩ := hC
  obtain ⟨M, m0, hF⟩ := hM
  have hF0 := hF
  obtain ⟨m1, m2, m3, m4, m5⟩ := hF
  have hW0 := hW
  obtain ⟨w1, w2, w3, w4⟩ := hW
  have hS := at_st s1
  have hb := w1.bnd
  have hn := hb.1
  have hR := mrw_R m1
  have g0 := cx_0 x1
  have z1 := cz_st s1
  have z0 := cz_sx x1
  by_cases q : ((1 : Int32) ≤ x ∧ x ≤ 60) ∧ (0 ≤ y ∧ y ≤ 1)
  · obtain ⟨u, u1, u2, rfl⟩ := rng (a := 0) (b := 1) q.2.1 q.2.2 (by decide) (by decide)
    have q1 : (x < 1) = False := eq_false (Int32.not_lt.mpr q.1.1)
    have q2 : (x ≤ 60) = True := eq_true q.1.2
    have q3 : (60 < x) = False := eq_false (Int32.not_lt.mpr q.1.2)
    refine PR_mk (v := iI (si (gz σ x) σ.1)) hC0 CO_r m0 hF0 hW0 ?_ (m_effort (d := d + 14) hR w1 q)
    have h2 : u = 0 ∨ u = 1 := by omega
    rcases h2 with z | z <;> subst z
    · rw [show nI 0 = 0 from rfl]
      simp only [e112_0, e112_1, e112_2, e112_5, e112_6, e112_8, e112_11, e112_12, e112_13, e112_14c0, e112_14c1, e112_14d, e112_40, e112_41, e112_44, e112_45, e112_48, e112_49, e112_50, e112_53, e112_54, e112_57, e112_58, e112_59, Option.bind_some, Option.toList_some, Option.toList_none, List.cons_append, List.nil_append, true_or, or_true, and_true, true_and, i10, Bool.false_eq_true, if_true, if_false, reduceIte, q1, q2, q3, g0, S_sumGoingUp hS s2 w1]
      rfl
    · rw [show nI 1 = 1 from rfl]
      simp only [e112_0, e112_1, e112_2, e112_5, e112_6, e112_8, e112_11, e112_12, e112_13, e112_14c0, e112_14c1, e112_14d, e112_40, e112_41, e112_44, e112_45, e112_48, e112_49, e112_50, e112_53, e112_54, e112_57, e112_58, e112_59, Option.bind_some, Option.toList_some, Option.toList_none, List.cons_append, List.nil_append, true_or, or_true, and_true, true_and, i10, Bool.false_eq_true, if_true, if_false, reduceIte, q1, q2, q3, g0, S_sumGoingDown hS s2 w1]
  · refine PR_mk (v := -1) hC0 CO_r m0 hF0 hW0 ?_ (m_effort0 (d := d + 14) q)
    by_cases q1 : x < 1
    · simp only [e112_0, e112_1, e112_2, e112_5, e112_6, e112_8, e112_11, e112_12, e112_13, e112_14c0, e112_14c1, e112_14d, e112_40, e112_41, e112_44, e112_45, e112_48, e112_49, e112_50, e112_53, e112_54, e112_57, e112_58, e112_59, Option.bind_some, Option.toList_some, Option.toList_none, List.cons_append, List.nil_append, true_or, or_true, and_true, true_and, i10, Bool.false_eq_true, if_true, if_false, reduceIte, eq_true q1]
    · by_cases q2 : x ≤ 60
      · have q3 : ¬ 60 < x := Int32.not_lt.mpr q2
        have y0 : ¬ y = 0 := fun z => q ⟨⟨Int32.not_lt.mp q1, q2⟩, by rw [z]; decide⟩
        have y1 : ¬ y = 1 := fun z => q ⟨⟨Int32.not_lt.mp q1, q2⟩, by rw [z]; decide⟩
        simp only [e112_0, e112_1, e112_2, e112_5, e112_6, e112_8, e112_11, e112_12, e112_13, e112_14c0, e112_14c1, e112_14d, e112_40, e112_41, e112_44, e112_45, e112_48, e112_49, e112_50, e112_53, e112_54, e112_57, e112_58, e112_59, e112_14d y0 y1, Option.bind_some, Option.toList_some, Option.toList_none, List.cons_append, List.nil_append, true_or, or_true, and_true, true_and, i10, Bool.false_eq_true, if_true, if_false, reduceIte, eq_false q1, eq_true q2, eq_false q3]
      · have q3 : 60 < x := Int32.not_le.mp q2
        simp only [e112_0, e112_1, e112_2, e112_5, e112_6, e112_8, e112_11, e112_12, e112_13, e112_14c0, e112_14c1, e112_14d, e112_40, e112_41, e112_44, e112_45, e112_48, e112_49, e112_50, e112_53, e112_54, e112_57, e112_58, e112_59, Option.bind_some, Option.toList_some, Option.toList_none, List.cons_append, List.nil_append, true_or, or_true, and_true, true_and, i10, Bool.false_eq_true, if_true, if_false, reduceIte, eq_false q1, eq_false q2, eq_true q3]
theorem st_nest (hC : CI H σ r e len k κ w m) (hM : MI H σ r e len k κ w m) (hW : WF σ e len k κ) : PR d H 114 191 [some (.int x)] [some (.int x), none, none, none, none, none, none] := by
  have hC0 := hC
  obtain ⟨⟨X, x1, x2⟩, ⟨S, s1, s2, s3⟩, ⟨T, t1⟩, ⟨K, k1, k2⟩, hh, ⟨P, p1, p2⟩, ⟨R, r1⟩, ⟨F, f1⟩, ⟨Y, y1⟩, ⟨V, v1⟩, ⟨N, n1⟩⟩ := hC
  obtain ⟨M, m0, hF⟩ := hM
  have hF0 := hF
  obtain ⟨m1, m2, m3, m4, m5⟩ := hF
  have hW0 := hW
  obtain ⟨w1, w2, w3, w4⟩ := hW
  have hS := at_st s1
  have hb := w1.bnd
  have hn := hb.1
  have hR := mrw_R m1
  have g0 := cx_0 x1
  have z1 := cz_st s1
  have z0 := cz_sx x1
  obtain ⟨ρ, mn⟩ := m_nest (d := d + 14) (h := H) (i := 71) (M := M) hR w1 (x := x)
  by_cases q : x < 0
  · rw [if_pos q] at mn
    refine PR_mk (v := -1) (M' := setR M 10 ρ) hC0 CO_r m0 (MF_L hF0 mfL_10) hW0 ?_ mn
    have q' : ¬ 0 ≤ x := Int32.not_le.mpr q
    simp only [e114_0, e114_1, e114_4, e114_5, e114_6, e114_7, e114_10, e114_11, e114_14, e114_17, e114_18, e114_19, e114_22, e114_23, e114_26, Option.bind_some, Option.toList_some, Option.toList_none, List.cons_append, List.nil_append, true_or, or_true, and_true, true_and, i10, Bool.false_eq_true, if_true, if_false, reduceIte, eq_false q', eq_true q]
  · have q' : 0 ≤ x := Int32.not_lt.mp q
    obtain ⟨W', a1, a2⟩ := l_find (d := d + 14) (h := H) (v := 68) (i := 1) (V := N) (S := S) s2 w1 (Or.inr (by omega))
    have e1 : hst (hln H 68 W') 1 S = hln H 68 W' := at_st (at_out s1 (Or.inl (Nat.le_of_ble_eq_true rfl)))
    rw [at_ln n1, hS, e1] at a2
    have g9 : zgetf (hln H 68 W') 0 7 9 = some (.ref 68) := cx_9 (at_out x1 (Or.inl (Nat.le_of_ble_eq_true rfl)))
    have zl : zis (hln H 68 W') 68 1 = true := cz_ln at_new
    have hl12 : lgn σ ≤ 12 := Nat.le_trans w1.mxr_le hn
    have ca := l_crateAt (d := d + 19) (h := hln H 68 W') (v := 68) (V := W') a1 hl12 (x := x)
    have e2 : hln (hln H 68 W') 68 W' = hln H 68 W' := at_ln at_new
    rw [e2] at ca
    obtain ⟨ρ2, mn2⟩ := m_nest (d := d + 14) (h := hln H 68 W') (i := 71) (M := M) hR w1 (x := x)
    rw [if_neg q] at mn2
    refine PR_mk (H1 := hln H 68 W') (v := nsv σ x) (M' := setR M 10 ρ2) (CI_ln hC0 (fun j _ a => hrg_out (by rw [ln_len]; omega)) ⟨W', at_new⟩) (CO_h (Nat.le_of_ble_eq_true rfl)) m0 (MF_L hF0 mfL_10) hW0 ?_ mn2
    simp only [e114_0, e114_1, e114_4, e114_5, e114_6, e114_7, e114_10, e114_11, e114_14, e114_17, e114_18, e114_19, e114_22, e114_23, e114_26, Option.bind_some, Option.toList_some, Option.toList_none, List.cons_append, List.nil_append, true_or, or_true, and_true, true_and, i10, Bool.false_eq_true, if_true, if_false, reduceIte, eq_true q', eq_false q, cx_9 x1, g0, cz_ln n1, a2, g9, zl, ca]
end LOOKS
