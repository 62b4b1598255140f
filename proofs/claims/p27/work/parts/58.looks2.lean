section LOOKS2
variable {d : Nat} {H H1 : zH} {σ : mS} {r : Int32} {e : Nat → mS × Int32} {len : Nat} {k : Bool} {κ : mS × Int32} {w : Nat → Nat} {m : Nat} {x y : Int32} {M M' : oS}
theorem P_length {P : oS} (h : at_ H 52 (pdL 52 P)) (hP : pdR P w m) : ev d 32 0 [some (.ref 52)] [] H = some (some (.int (nI m)), H) := by
  have q : hpd H 52 P = H := at_pd h
  have g1 := pd_g1 (h := H) (i := 52) (S := P)
  rw [q] at g1
  simp only [e32_0, e32_1, e32_4, Option.bind_some, Option.toList_some, Option.toList_none, List.cons_append, List.nil_append, true_or, or_true, and_true, true_and, i10, Bool.false_eq_true, if_true, if_false, reduceIte, g1, hP.1]
theorem X_length {Q : Nat → Option Nat} {L : Int32} (h : at_ H 22 (hsL 22 Q L)) : ev d 1 0 [some (.ref 22)] [] H = some (some (.int L), H) := by
  simp only [e1_0, e1_1, e1_4, Option.bind_some, Option.toList_some, Option.toList_none, List.cons_append, List.nil_append, true_or, or_true, and_true, true_and, i10, Bool.false_eq_true, if_true, if_false, reduceIte, hs_g1 h]
/-- a look at the stock with a crate turned -/
theorem c_vt {X S T V : oS} {c : Nat} (x1 : at_ H 0 (sxL 0 X)) (s1 : at_ H 1 (stL 1 S)) (t1 : at_ H 8 (stL 8 T)) (v1 : at_ H 64 (vwL 64 V)) (hR : stR S σ) (hw : wf σ) (hc : c < σ.1) : ∃ T' V', vwR V' (trd σ c) ∧ ev (d + 6) 123 0 [some (.ref 0), some (.int (nI c))] [] H = some (some (.ref 64), hvw (hst H 8 T') 64 V') := by
  have hb := hw.bnd
  have cp := s_copyFrom (d := d + 5) (h := H) (v := 1) (i := 8) (V := S) (S := T) (by omega)
  rw [at_st s1, at_st t1] at cp
  have hRc : stR (cpS T S) σ := stR_cp hR hb.1
  have ts := s_turnSlats (d := d + 4) (h := H) (i := 8) (S := cpS T S) hRc hb hc
  have hRt : stR (setR (cpS T S) 2 (upd ((cpS T S).1 2) c (nI (tnd (σ.2 c 2))))) (trd σ c) := stR_g hRc c _
  have a8 : at_ (hst H 8 (setR (cpS T S) 2 (upd ((cpS T S).1 2) c (nI (tnd (σ.2 c 2)))))) 8 (stL 8 (setR (cpS T S) 2 (upd ((cpS T S).1 2) c (nI (tnd (σ.2 c 2)))))) := at_new
  have aV : at_ (hst H 8 (setR (cpS T S) 2 (upd ((cpS T S).1 2) c (nI (tnd (σ.2 c 2)))))) 64 (vwL 64 V) := at_out v1 (Or.inr (Nat.le_of_ble_eq_true rfl))
  obtain ⟨V', b1, b2⟩ := v_look (d := d + 1) (h := hst H 8 (setR (cpS T S) 2 (upd ((cpS T S).1 2) c (nI (tnd (σ.2 c 2)))))) (v := 64) (i := 8) (V := V) hRt (trd_wf hw).bnd (Or.inr (by omega))
  have e1 : hst (hvw (hst H 8 (setR (cpS T S) 2 (upd ((cpS T S).1 2) c (nI (tnd (σ.2 c 2)))))) 64 V') 8 (setR (cpS T S) 2 (upd ((cpS T S).1 2) c (nI (tnd (σ.2 c 2))))) = hvw (hst H 8 (setR (cpS T S) 2 (upd ((cpS T S).1 2) c (nI (tnd (σ.2 c 2)))))) 64 V' := at_st (at_out a8 (Or.inl (Nat.le_of_ble_eq_true rfl)))
  rw [at_vw aV, at_st a8, e1] at b2
  refine ⟨setR (cpS T S) 2 (upd ((cpS T S).1 2) c (nI (tnd (σ.2 c 2)))), V', b1, ?_⟩
  have xa : at_ (hst H 8 (cpS T S)) 0 (sxL 0 X) := at_out x1 (Or.inl (Nat.le_of_ble_eq_true rfl))
  have xb : at_ (hst H 8 (setR (cpS T S) 2 (upd ((cpS T S).1 2) c (nI (tnd (σ.2 c 2)))))) 0 (sxL 0 X) := at_out x1 (Or.inl (Nat.le_of_ble_eq_true rfl))
  have xc : at_ (hvw (hst H 8 (setR (cpS T S) 2 (upd ((cpS T S).1 2) c (nI (tnd (σ.2 c 2)))))) 64 V') 0 (sxL 0 X) := at_out xb (Or.inl (Nat.le_of_ble_eq_true rfl))
  have za : zis (hst H 8 (cpS T S)) 8 5 = true := cz_st at_new
  simp only [e123_0, e123_1, e123_4, e123_5, e123_8, e123_11, e123_12, e123_15, e123_16, e123_19, e123_20, e123_23, e123_24, e123_27, e123_30, e123_31, e123_34, Option.bind_some, Option.toList_some, Option.toList_none, List.cons_append, List.nil_append, true_or, or_true, and_true, true_and, i10, Bool.false_eq_true, if_true, if_false, reduceIte, cx_1 x1, cx_0 x1, cz_st t1, cp, cx_1 xa, za, ts, cx_8 xb, cx_1 xb, cz_vw aV, b2, cx_8 xc]
theorem CI_vt (hC : CI H σ r e len k κ w m) (T' V' : oS) : CI (hvw (hst H 8 T') 64 V') σ r e len k κ w m := CI_view (CI_s8 hC (fun j _ a => hrg_out (by rw [st_len]; omega)) ⟨T', at_new⟩) V'
theorem CO_vt (T' V' : oS) : CO H (hvw (hst H 8 T') 64 V') := CO_t (CO_h (Nat.le_of_ble_eq_true rfl)) (CO_vw V')
/-- the reader of the class over a whole heap -/
theorem c_read {X P R F : oS} (x1 : at_ H 0 (sxL 0 X)) (p1 : at_ H 52 (pdL 52 P)) (p2 : pdR P w m) (r1 : at_ H 54 (rdL 54 R)) (f1 : at_ H 55 (stL 55 F)) : ∃ R' F', (∀ q s', rnn w m 0 s00 = (q, some s') → psR R' F' s' ∧ psI2 m s') ∧ ev (d + 6) 13 0 [some (.ref 54), some (.ref 52), none] [] H = some (some (.int (rdv m (rnn w m 0 s00))), hst (hrd H 54 R') 55 F') := by
  obtain ⟨R', F', a1, a2⟩ := r_read (d := d) (h := H) (u := 52) (v := 54) (P := P) (R := R) (F := F) (by omega) p2
  have e1 : hst (hrd H 54 R) (54 + 1) F = H := by rw [at_rd r1]; exact at_st f1
  rw [at_pd p1, e1] at a2
  exact ⟨R', F', a1, a2⟩
theorem CI_rdr (hC : CI H σ r e len k κ w m) (R' F' : oS) : CI (hst (hrd H 54 R') 55 F') σ r e len k κ w m := CI_rd hC (fun j _ a => (hrg_out (by rw [st_len]; omega)).trans (hrg_out (by rw [rd_len]; omega))) ⟨R', at_out at_new (Or.inl (Nat.le_of_ble_eq_true rfl))⟩ ⟨F', at_new⟩
theorem CO_rdr (R' F' : oS) : CO H (hst (hrd H 54 R') 55 F') := CO_t (CO_h (Nat.le_of_ble_eq_true rfl)) (CO_h (Nat.le_of_ble_eq_true rfl))
end LOOKS2
