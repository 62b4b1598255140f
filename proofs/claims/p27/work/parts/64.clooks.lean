/-! THE LOOKS OF THE CLASS ALONE -/
/-- a call's answer and the state behind it -/
def PV (d : Nat) (H : zH) (kc : Nat) (lc : List (Option Value)) (v : Int32) (σ : mS) (r : Int32) (e : Nat → mS × Int32) (len : Nat) (k : Bool) (κ : mS × Int32) (w : Nat → Nat) (m : Nat) : Prop := ∃ H1, ev (d + 20) kc 0 (some (.ref 0) :: lc) [] H = some (some (.int v), H1) ∧ CO H H1 ∧ CI H1 σ r e len k κ w m
section CLOOKS
variable {d : Nat} {H H1 : zH} {σ σ' : mS} {r r' : Int32} {e e' : Nat → mS × Int32} {len len' : Nat} {k : Bool} {κ : mS × Int32} {w w' : Nat → Nat} {m m' : Nat} {x y : Int32} {c : Nat}
theorem PV_mk {kc : Nat} {lc : List (Option Value)} {v : Int32} (hC1 : CI H1 σ' r' e' len' k κ w' m') (o : CO H H1) (hc : ev (d + 20) kc 0 (some (.ref 0) :: lc) [] H = some (some (.int v), H1)) : PV d H kc lc v σ' r' e' len' k κ w' m' := ⟨H1, hc, o, hC1⟩
theorem PV_k {k' : Bool} {κ' : mS × Int32} {kc : Nat} {lc : List (Option Value)} {v : Int32} (hC1 : CI H1 σ' r' e' len' k' κ' w' m') (o : CO H H1) (hc : ev (d + 20) kc 0 (some (.ref 0) :: lc) [] H = some (some (.int v), H1)) : PV d H kc lc v σ' r' e' len' k' κ' w' m' := ⟨H1, hc, o, hC1⟩
theorem ca_letter {p : Nat} (hc : c < σ.1) (hp : p < 4) (hC : CI H σ r e len k κ w m) (hW : WF σ e len k κ) : ev (d + 20) 109 0 [some (.ref 0), some (.int (nI c)), some (.int (nI p)), none] [] H = some (some (.int (cB (σ.2 c (3 + p)))), H) := by
  have hC0 := hC
  obtain ⟨⟨X, x1, x2⟩, ⟨S, s1, s2, s3⟩, ⟨T, t1⟩, ⟨K, k1, k2⟩, hh, ⟨P, p1, p2⟩, ⟨R, r1⟩, ⟨F, f1⟩, ⟨Y, y1⟩, ⟨V, v1⟩, ⟨N, n1⟩⟩ := hC
  have hW0 := hW
  obtain ⟨w1, w2, w3, w4⟩ := hW
  have hS := at_st s1
  have hb := w1.bnd
  have hn := hb.1
  have g0 := cx_0 x1
  have z1 := cz_st s1
  have z0 := cz_sx x1
  have hl := (hb.2 c hc).2.2.2.1 p hp
  have q2 := zin_T hp (by decide)
  cases u : σ.2 c (3 + p) with
  | zero =>
    have la := S_letterAt (d := d + 18) hS s2 hb hc hp
    rw [u, hI_0] at la
    simp only [e109_0, e109_1, e109_4, e109_5, e109_8, e109_11, e109_12, e109_15, e109_18, e109_19, e109_20, e109_21, e109_24, e109_25, e109_26, e109_29, e109_30, e109_31, e109_32, e109_35, e109_37, e109_40, e109_41, Option.bind_some, Option.toList_some, Option.toList_none, List.cons_append, List.nil_append, true_or, or_true, and_true, true_and, i10, Bool.false_eq_true, if_true, if_false, reduceIte, g0, z1, S_isCrate_k hS s2 hb hc, c_isPl, bI_t q2, la]
    rfl
  | succ a =>
    have la := S_letterAt (d := d + 18) hS s2 hb hc hp
    rw [u, hI_s] at la
    rw [u] at hl
    have ne : (nI a = -1) = False := nI_m1 (by omega)
    simp only [e109_0, e109_1, e109_4, e109_5, e109_8, e109_11, e109_12, e109_15, e109_18, e109_19, e109_20, e109_21, e109_24, e109_25, e109_26, e109_29, e109_30, e109_31, e109_32, e109_35, e109_37, e109_40, e109_41, Option.bind_some, Option.toList_some, Option.toList_none, List.cons_append, List.nil_append, true_or, or_true, and_true, true_and, i10, Bool.false_eq_true, if_true, if_false, reduceIte, g0, z1, S_isCrate_k hS s2 hb hc, c_isPl, bI_t q2, la, ne]
    rfl
theorem ca_seen {p : Nat} (hc : c < σ.1) (hp : p < 4) (hC : CI H σ r e len k κ w m) (hW : WF σ e len k κ) : PV d H 110 [some (.int (nI c)), some (.int (nI p))] (nI (sgn σ c p)) σ r e len k κ w m := by
  have hC0 := hC
  obtain ⟨⟨X, x1, x2⟩, ⟨S, s1, s2, s3⟩, ⟨T, t1⟩, ⟨K, k1, k2⟩, hh, ⟨P, p1, p2⟩, ⟨R, r1⟩, ⟨F, f1⟩, ⟨Y, y1⟩, ⟨V, v1⟩, ⟨N, n1⟩⟩ := hC
  have hW0 := hW
  obtain ⟨w1, w2, w3, w4⟩ := hW
  have hS := at_st s1
  have hb := w1.bnd
  have hn := hb.1
  have g0 := cx_0 x1
  have z1 := cz_st s1
  have z0 := cz_sx x1
  obtain ⟨V', b1, b2⟩ := c_view (d := d + 13) x1 s1 v1 s2 hb
  have hV : hvw (hvw H 64 V') 64 V' = hvw H 64 V' := at_vw at_new
  have zv : zis (hvw H 64 V') 64 6 = true := cz_vw at_new
  have q2 := zin_T hp (by decide)
  refine PV_mk (CI_view hC0 V') (CO_vw V') ?_
  simp only [e110_0, e110_1, e110_4, e110_5, e110_8, e110_11, e110_12, e110_15, e110_18, e110_19, e110_20, e110_21, e110_24, e110_25, e110_26, e110_29, Option.bind_some, Option.toList_some, Option.toList_none, List.cons_append, List.nil_append, true_or, or_true, and_true, true_and, i10, Bool.false_eq_true, if_true, if_false, reduceIte, g0, z0, z1, S_isCrate_k hS s2 hb hc, c_isPl, bI_t q2, b2, zv, V_signAt hV b1 hb hc hp]
theorem ca_why {u : Nat} (hc : c < σ.1) (hu : u < σ.1) (hC : CI H σ r e len k κ w m) (hW : WF σ e len k κ) : ev (d + 20) 111 0 [some (.ref 0), some (.int (nI c)), some (.int (nI u))] [] H = some (some (.int (nI (rpt σ c u))), H) := by
  have hC0 := hC
  obtain ⟨⟨X, x1, x2⟩, ⟨S, s1, s2, s3⟩, ⟨T, t1⟩, ⟨K, k1, k2⟩, hh, ⟨P, p1, p2⟩, ⟨R, r1⟩, ⟨F, f1⟩, ⟨Y, y1⟩, ⟨V, v1⟩, ⟨N, n1⟩⟩ := hC
  have hW0 := hW
  obtain ⟨w1, w2, w3, w4⟩ := hW
  have hS := at_st s1
  have hb := w1.bnd
  have hn := hb.1
  have g0 := cx_0 x1
  have z1 := cz_st s1
  have z0 := cz_sx x1
  simp only [e111_0, e111_1, e111_4, e111_5, e111_8, e111_11, e111_12, e111_15, e111_16, e111_19, e111_22, e111_23, e111_24, e111_25, e111_28, e111_29, e111_30, e111_33, Option.bind_some, Option.toList_some, Option.toList_none, List.cons_append, List.nil_append, true_or, or_true, and_true, true_and, i10, Bool.false_eq_true, if_true, if_false, reduceIte, g0, z1, S_isCrate_k hS s2 hb hc, S_isCrate_k hS s2 hb hu, S_reasonNotToPut hS s2 w1 hc hu]
theorem ca_why0 (q : zin x σ.1 = false ∨ zin y σ.1 = false) (hC : CI H σ r e len k κ w m) (hW : WF σ e len k κ) : ev (d + 20) 111 0 [some (.ref 0), some (.int x), some (.int y)] [] H = some (some (.int (-1)), H) := by
  have hC0 := hC
  obtain ⟨⟨X, x1, x2⟩, ⟨S, s1, s2, s3⟩, ⟨T, t1⟩, ⟨K, k1, k2⟩, hh, ⟨P, p1, p2⟩, ⟨R, r1⟩, ⟨F, f1⟩, ⟨Y, y1⟩, ⟨V, v1⟩, ⟨N, n1⟩⟩ := hC
  have hW0 := hW
  obtain ⟨w1, w2, w3, w4⟩ := hW
  have hS := at_st s1
  have hb := w1.bnd
  have hn := hb.1
  have g0 := cx_0 x1
  have z1 := cz_st s1
  have z0 := cz_sx x1
  cases q1 : zin x σ.1 with
  | false => simp only [e111_0, e111_1, e111_4, e111_5, e111_8, e111_11, e111_12, e111_15, e111_16, e111_19, e111_22, e111_23, e111_24, e111_25, e111_28, e111_29, e111_30, e111_33, Option.bind_some, Option.toList_some, Option.toList_none, List.cons_append, List.nil_append, true_or, or_true, and_true, true_and, i10, Bool.false_eq_true, if_true, if_false, reduceIte, g0, z1, S_isC0 hS s2 hn q1]
  | true =>
    have q2 : zin y σ.1 = false := q.resolve_left (by rw [q1]; decide)
    obtain ⟨c, hc, rfl⟩ := zin_some (by omega) q1
    simp only [e111_0, e111_1, e111_4, e111_5, e111_8, e111_11, e111_12, e111_15, e111_16, e111_19, e111_22, e111_23, e111_24, e111_25, e111_28, e111_29, e111_30, e111_33, Option.bind_some, Option.toList_some, Option.toList_none, List.cons_append, List.nil_append, true_or, or_true, and_true, true_and, i10, Bool.false_eq_true, if_true, if_false, reduceIte, g0, z1, S_isCrate_k hS s2 hb hc, S_isC0 hS s2 hn q2]
theorem ca_effort {u : Nat} (q : (1 : Int32) ≤ x ∧ x ≤ 60) (hu : u ≤ 1) (hC : CI H σ r e len k κ w m) (hW : WF σ e len k κ) : ev (d + 20) 112 0 [some (.ref 0), some (.int x), some (.int (nI u))] [] H = some (some (.int (iI (si (gz σ x) σ.1))), H) := by
  have hC0 := hC
  obtain ⟨⟨X, x1, x2⟩, ⟨S, s1, s2, s3⟩, ⟨T, t1⟩, ⟨K, k1, k2⟩, hh, ⟨P, p1, p2⟩, ⟨R, r1⟩, ⟨F, f1⟩, ⟨Y, y1⟩, ⟨V, v1⟩, ⟨N, n1⟩⟩ := hC
  have hW0 := hW
  obtain ⟨w1, w2, w3, w4⟩ := hW
  have hS := at_st s1
  have hb := w1.bnd
  have hn := hb.1
  have g0 := cx_0 x1
  have z1 := cz_st s1
  have z0 := cz_sx x1
  have q1 : (x < 1) = False := eq_false (Int32.not_lt.mpr q.1)
  have q2 : (x ≤ 60) = True := eq_true q.2
  have q3 : (60 < x) = False := eq_false (Int32.not_lt.mpr q.2)
  have h2 : u = 0 ∨ u = 1 := by omega
  rcases h2 with z | z <;> subst z
  · rw [show nI 0 = 0 from rfl]
    simp only [e112_0, e112_1, e112_2, e112_5, e112_6, e112_8, e112_11, e112_12, e112_13, e112_14c0, e112_14c1, e112_14d, e112_40, e112_41, e112_44, e112_45, e112_48, e112_49, e112_50, e112_53, e112_54, e112_57, e112_58, e112_59, Option.bind_some, Option.toList_some, Option.toList_none, List.cons_append, List.nil_append, true_or, or_true, and_true, true_and, i10, Bool.false_eq_true, if_true, if_false, reduceIte, q1, q2, q3, g0, S_sumGoingUp hS s2 w1]
    rfl
  · rw [show nI 1 = 1 from rfl]
    simp only [e112_0, e112_1, e112_2, e112_5, e112_6, e112_8, e112_11, e112_12, e112_13, e112_14c0, e112_14c1, e112_14d, e112_40, e112_41, e112_44, e112_45, e112_48, e112_49, e112_50, e112_53, e112_54, e112_57, e112_58, e112_59, Option.bind_some, Option.toList_some, Option.toList_none, List.cons_append, List.nil_append, true_or, or_true, and_true, true_and, i10, Bool.false_eq_true, if_true, if_false, reduceIte, q1, q2, q3, g0, S_sumGoingDown hS s2 w1]
theorem ca_effort0 (q : ¬ ((1 : Int32) ≤ x ∧ x ≤ 60)) (hC : CI H σ r e len k κ w m) (hW : WF σ e len k κ) : ev (d + 20) 112 0 [some (.ref 0), some (.int x), some (.int y)] [] H = some (some (.int (-1)), H) := by
  have hC0 := hC
  obtain ⟨⟨X, x1, x2⟩, ⟨S, s1, s2, s3⟩, ⟨T, t1⟩, ⟨K, k1, k2⟩, hh, ⟨P, p1, p2⟩, ⟨R, r1⟩, ⟨F, f1⟩, ⟨Y, y1⟩, ⟨V, v1⟩, ⟨N, n1⟩⟩ := hC
  have hW0 := hW
  obtain ⟨w1, w2, w3, w4⟩ := hW
  have hS := at_st s1
  have hb := w1.bnd
  have hn := hb.1
  have g0 := cx_0 x1
  have z1 := cz_st s1
  have z0 := cz_sx x1
  by_cases q1 : x < 1
  · simp only [e112_0, e112_1, e112_2, e112_5, e112_6, e112_8, e112_11, e112_12, e112_13, e112_14c0, e112_14c1, e112_14d, e112_40, e112_41, e112_44, e112_45, e112_48, e112_49, e112_50, e112_53, e112_54, e112_57, e112_58, e112_59, Option.bind_some, Option.toList_some, Option.toList_none, List.cons_append, List.nil_append, true_or, or_true, and_true, true_and, i10, Bool.false_eq_true, if_true, if_false, reduceIte, eq_true q1]
  · have q2 : ¬ x ≤ 60 := fun z => q ⟨Int32.not_lt.mp q1, z⟩
    have q3 : 60 < x := Int32.not_le.mp q2
    simp only [e112_0, e112_1, e112_2, e112_5, e112_6, e112_8, e112_11, e112_12, e112_13, e112_14c0, e112_14c1, e112_14d, e112_40, e112_41, e112_44, e112_45, e112_48, e112_49, e112_50, e112_53, e112_54, e112_57, e112_58, e112_59, Option.bind_some, Option.toList_some, Option.toList_none, List.cons_append, List.nil_append, true_or, or_true, and_true, true_and, i10, Bool.false_eq_true, if_true, if_false, reduceIte, eq_false q1, eq_false q2, eq_true q3]
theorem ca_nest0 (q : x < 0) (hC : CI H σ r e len k κ w m) (hW : WF σ e len k κ) : ev (d + 20) 114 0 [some (.ref 0), some (.int x)] [] H = some (some (.int (-1)), H) := by
  have hC0 := hC
  obtain ⟨⟨X, x1, x2⟩, ⟨S, s1, s2, s3⟩, ⟨T, t1⟩, ⟨K, k1, k2⟩, hh, ⟨P, p1, p2⟩, ⟨R, r1⟩, ⟨F, f1⟩, ⟨Y, y1⟩, ⟨V, v1⟩, ⟨N, n1⟩⟩ := hC
  have hW0 := hW
  obtain ⟨w1, w2, w3, w4⟩ := hW
  have hS := at_st s1
  have hb := w1.bnd
  have hn := hb.1
  have g0 := cx_0 x1
  have z1 := cz_st s1
  have z0 := cz_sx x1
  have q' : ¬ 0 ≤ x := Int32.not_le.mpr q
  simp only [e114_0, e114_1, e114_4, e114_5, e114_6, e114_7, e114_10, e114_11, e114_14, e114_17, e114_18, e114_19, e114_22, e114_23, e114_26, Option.bind_some, Option.toList_some, Option.toList_none, List.cons_append, List.nil_append, true_or, or_true, and_true, true_and, i10, Bool.false_eq_true, if_true, if_false, reduceIte, eq_false q', eq_true q]
theorem ca_nest (q : ¬ x < 0) (hC : CI H σ r e len k κ w m) (hW : WF σ e len k κ) : PV d H 114 [some (.int x)] (nsv σ x) σ r e len k κ w m := by
  have hC0 := hC
  obtain ⟨⟨X, x1, x2⟩, ⟨S, s1, s2, s3⟩, ⟨T, t1⟩, ⟨K, k1, k2⟩, hh, ⟨P, p1, p2⟩, ⟨R, r1⟩, ⟨F, f1⟩, ⟨Y, y1⟩, ⟨V, v1⟩, ⟨N, n1⟩⟩ := hC
  have hW0 := hW
  obtain ⟨w1, w2, w3, w4⟩ := hW
  have hS := at_st s1
  have hb := w1.bnd
  have hn := hb.1
  have g0 := cx_0 x1
  have z1 := cz_st s1
  have z0 := cz_sx x1
  have q' : 0 ≤ x := Int32.not_lt.mp q
  obtain ⟨W', a1, a2⟩ := l_find (d := d + 14) (h := H) (v := 68) (i := 1) (V := N) (S := S) s2 w1 (Or.inr (by omega))
  have e1 : hst (hln H 68 W') 1 S = hln H 68 W' := at_st (at_out s1 (Or.inl (Nat.le_of_ble_eq_true rfl)))
  rw [at_ln n1, hS, e1] at a2
  have g9 : zgetf (hln H 68 W') 0 7 9 = some (.ref 68) := cx_9 (at_out x1 (Or.inl (Nat.le_of_ble_eq_true rfl)))
  have zl : zis (hln H 68 W') 68 1 = true := cz_ln at_new
  have hl12 : lgn σ ≤ 12 := Nat.le_trans w1.mxr_le hn
  have ca := l_crateAt (d := d + 19) (h := hln H 68 W') (v := 68) (V := W') a1 hl12 (x := x)
  have e2 : hln (hln H 68 W') 68 W' = hln H 68 W' := at_ln at_new
  rw [e2] at ca
  refine PV_mk (H1 := hln H 68 W') (CI_ln hC0 (fun j _ a => hrg_out (by rw [ln_len]; omega)) ⟨W', at_new⟩) (CO_h (Nat.le_of_ble_eq_true rfl)) ?_
  simp only [e114_0, e114_1, e114_4, e114_5, e114_6, e114_7, e114_10, e114_11, e114_14, e114_17, e114_18, e114_19, e114_22, e114_23, e114_26, Option.bind_some, Option.toList_some, Option.toList_none, List.cons_append, List.nil_append, true_or, or_true, and_true, true_and, i10, Bool.false_eq_true, if_true, if_false, reduceIte, eq_true q', eq_false q, cx_9 x1, g0, cz_ln n1, a2, g9, zl, ca]
theorem ca_cr0 (hc : c < σ.1) (hC : CI H σ r e len k κ w m) (hW : WF σ e len k κ) : ev (d + 20) 108 0 [some (.ref 0), some (.int (nI c)), some (.int 0)] [] H = some (some (.int (nI (σ.2 c 0))), H) := by
  have hC0 := hC
  obtain ⟨⟨X, x1, x2⟩, ⟨S, s1, s2, s3⟩, ⟨T, t1⟩, ⟨K, k1, k2⟩, hh, ⟨P, p1, p2⟩, ⟨R, r1⟩, ⟨F, f1⟩, ⟨Y, y1⟩, ⟨V, v1⟩, ⟨N, n1⟩⟩ := hC
  have hW0 := hW
  obtain ⟨w1, w2, w3, w4⟩ := hW
  have hS := at_st s1
  have hb := w1.bnd
  have hn := hb.1
  have g0 := cx_0 x1
  have z1 := cz_st s1
  have z0 := cz_sx x1
  have ic : ev (d + 19) 37 0 [some (.ref 1), some (.int (nI c))] [] H = some (some (.int 1), H) := S_isCrate_k hS s2 hb hc
  have go : ∀ y : Int32, ev (d + 20) 108 0 [some (.ref 0), some (.int (nI c)), some (.int y)] [] H = ev (d + 20) 108 14 [some (.ref 0), some (.int (nI c)), some (.int y)] [.int y] H := fun y => by
    simp only [e108_0, e108_1, e108_4, e108_5, e108_8, e108_13, Option.bind_some, Option.toList_some, Option.toList_none, List.cons_append, List.nil_append, true_or, or_true, and_true, true_and, i10, Bool.false_eq_true, if_true, if_false, reduceIte, g0, z1, ic]
  refine (go _).trans ?_
  simp only [e108_1, e108_4, e108_5, e108_8, e108_11, e108_12, e108_13, e108_14c0, e108_14c1, e108_14c2, e108_14c3, e108_14c4, e108_14c5, e108_14c6, e108_14c7, e108_14c8, e108_14c9, e108_14c10, e108_14c11, e108_14c12, e108_14c13, e108_14c14, e108_14d, e108_88, e108_89, e108_92, e108_93, e108_96, e108_97, e108_98, e108_101, e108_102, e108_105, e108_106, e108_107, e108_110, e108_111, e108_114, e108_115, e108_116, e108_119, e108_120, e108_123, e108_124, e108_125, e108_128, e108_129, e108_132, e108_135, e108_137, e108_140, e108_141, e108_144, e108_145, e108_148, e108_149, e108_150, e108_153, e108_154, e108_157, e108_158, e108_159, e108_162, e108_163, e108_166, e108_167, e108_168, e108_171, e108_172, e108_175, e108_176, e108_177, e108_180, e108_181, e108_184, e108_185, e108_186, e108_189, e108_190, e108_193, e108_194, e108_195, e108_198, e108_199, e108_202, e108_203, e108_204, e108_207, e108_208, e108_211, e108_214, e108_215, e108_218, e108_219, e108_220, e108_221, e108_224, e108_225, e108_228, e108_229, e108_230, e108_233, e108_234, e108_237, e108_238, e108_239, e108_242, e108_243, e108_246, e108_247, e108_248, Option.bind_some, Option.toList_some, Option.toList_none, List.cons_append, List.nil_append, true_or, or_true, and_true, true_and, i10, Bool.false_eq_true, if_true, if_false, reduceIte, g0, z1, S_sizeOf hS s2 hb hc] <;> rfl
theorem ca_cr1 (hc : c < σ.1) (hC : CI H σ r e len k κ w m) (hW : WF σ e len k κ) : ev (d + 20) 108 0 [some (.ref 0), some (.int (nI c)), some (.int 1)] [] H = some (some (.int (nI (σ.2 c 1))), H) := by
  have hC0 := hC
  obtain ⟨⟨X, x1, x2⟩, ⟨S, s1, s2, s3⟩, ⟨T, t1⟩, ⟨K, k1, k2⟩, hh, ⟨P, p1, p2⟩, ⟨R, r1⟩, ⟨F, f1⟩, ⟨Y, y1⟩, ⟨V, v1⟩, ⟨N, n1⟩⟩ := hC
  have hW0 := hW
  obtain ⟨w1, w2, w3, w4⟩ := hW
  have hS := at_st s1
  have hb := w1.bnd
  have hn := hb.1
  have g0 := cx_0 x1
  have z1 := cz_st s1
  have z0 := cz_sx x1
  have ic : ev (d + 19) 37 0 [some (.ref 1), some (.int (nI c))] [] H = some (some (.int 1), H) := S_isCrate_k hS s2 hb hc
  have go : ∀ y : Int32, ev (d + 20) 108 0 [some (.ref 0), some (.int (nI c)), some (.int y)] [] H = ev (d + 20) 108 14 [some (.ref 0), some (.int (nI c)), some (.int y)] [.int y] H := fun y => by
    simp only [e108_0, e108_1, e108_4, e108_5, e108_8, e108_13, Option.bind_some, Option.toList_some, Option.toList_none, List.cons_append, List.nil_append, true_or, or_true, and_true, true_and, i10, Bool.false_eq_true, if_true, if_false, reduceIte, g0, z1, ic]
  refine (go _).trans ?_
  simp only [e108_1, e108_4, e108_5, e108_8, e108_11, e108_12, e108_13, e108_14c0, e108_14c1, e108_14c2, e108_14c3, e108_14c4, e108_14c5, e108_14c6, e108_14c7, e108_14c8, e108_14c9, e108_14c10, e108_14c11, e108_14c12, e108_14c13, e108_14c14, e108_14d, e108_88, e108_89, e108_92, e108_93, e108_96, e108_97, e108_98, e108_101, e108_102, e108_105, e108_106, e108_107, e108_110, e108_111, e108_114, e108_115, e108_116, e108_119, e108_120, e108_123, e108_124, e108_125, e108_128, e108_129, e108_132, e108_135, e108_137, e108_140, e108_141, e108_144, e108_145, e108_148, e108_149, e108_150, e108_153, e108_154, e108_157, e108_158, e108_159, e108_162, e108_163, e108_166, e108_167, e108_168, e108_171, e108_172, e108_175, e108_176, e108_177, e108_180, e108_181, e108_184, e108_185, e108_186, e108_189, e108_190, e108_193, e108_194, e108_195, e108_198, e108_199, e108_202, e108_203, e108_204, e108_207, e108_208, e108_211, e108_214, e108_215, e108_218, e108_219, e108_220, e108_221, e108_224, e108_225, e108_228, e108_229, e108_230, e108_233, e108_234, e108_237, e108_238, e108_239, e108_242, e108_243, e108_246, e108_247, e108_248, Option.bind_some, Option.toList_some, Option.toList_none, List.cons_append, List.nil_append, true_or, or_true, and_true, true_and, i10, Bool.false_eq_true, if_true, if_false, reduceIte, g0, z1, S_roomOf hS s2 hb hc] <;> rfl
theorem ca_cr2 (hc : c < σ.1) (hC : CI H σ r e len k κ w m) (hW : WF σ e len k κ) : ev (d + 20) 108 0 [some (.ref 0), some (.int (nI c)), some (.int 2)] [] H = some (some (.int (nI (σ.2 c 2))), H) := by
  have hC0 := hC
  obtain ⟨⟨X, x1, x2⟩, ⟨S, s1, s2, s3⟩, ⟨T, t1⟩, ⟨K, k1, k2⟩, hh, ⟨P, p1, p2⟩, ⟨R, r1⟩, ⟨F, f1⟩, ⟨Y, y1⟩, ⟨V, v1⟩, ⟨N, n1⟩⟩ := hC
  have hW0 := hW
  obtain ⟨w1, w2, w3, w4⟩ := hW
  have hS := at_st s1
  have hb := w1.bnd
  have hn := hb.1
  have g0 := cx_0 x1
  have z1 := cz_st s1
  have z0 := cz_sx x1
  have ic : ev (d + 19) 37 0 [some (.ref 1), some (.int (nI c))] [] H = some (some (.int 1), H) := S_isCrate_k hS s2 hb hc
  have go : ∀ y : Int32, ev (d + 20) 108 0 [some (.ref 0), some (.int (nI c)), some (.int y)] [] H = ev (d + 20) 108 14 [some (.ref 0), some (.int (nI c)), some (.int y)] [.int y] H := fun y => by
    simp only [e108_0, e108_1, e108_4, e108_5, e108_8, e108_13, Option.bind_some, Option.toList_some, Option.toList_none, List.cons_append, List.nil_append, true_or, or_true, and_true, true_and, i10, Bool.false_eq_true, if_true, if_false, reduceIte, g0, z1, ic]
  refine (go _).trans ?_
  simp only [e108_1, e108_4, e108_5, e108_8, e108_11, e108_12, e108_13, e108_14c0, e108_14c1, e108_14c2, e108_14c3, e108_14c4, e108_14c5, e108_14c6, e108_14c7, e108_14c8, e108_14c9, e108_14c10, e108_14c11, e108_14c12, e108_14c13, e108_14c14, e108_14d, e108_88, e108_89, e108_92, e108_93, e108_96, e108_97, e108_98, e108_101, e108_102, e108_105, e108_106, e108_107, e108_110, e108_111, e108_114, e108_115, e108_116, e108_119, e108_120, e108_123, e108_124, e108_125, e108_128, e108_129, e108_132, e108_135, e108_137, e108_140, e108_141, e108_144, e108_145, e108_148, e108_149, e108_150, e108_153, e108_154, e108_157, e108_158, e108_159, e108_162, e108_163, e108_166, e108_167, e108_168, e108_171, e108_172, e108_175, e108_176, e108_177, e108_180, e108_181, e108_184, e108_185, e108_186, e108_189, e108_190, e108_193, e108_194, e108_195, e108_198, e108_199, e108_202, e108_203, e108_204, e108_207, e108_208, e108_211, e108_214, e108_215, e108_218, e108_219, e108_220, e108_221, e108_224, e108_225, e108_228, e108_229, e108_230, e108_233, e108_234, e108_237, e108_238, e108_239, e108_242, e108_243, e108_246, e108_247, e108_248, Option.bind_some, Option.toList_some, Option.toList_none, List.cons_append, List.nil_append, true_or, or_true, and_true, true_and, i10, Bool.false_eq_true, if_true, if_false, reduceIte, g0, z1, S_gapsOf hS s2 hb hc] <;> rfl
theorem ca_cr3 (hc : c < σ.1) (hC : CI H σ r e len k κ w m) (hW : WF σ e len k κ) : ev (d + 20) 108 0 [some (.ref 0), some (.int (nI c)), some (.int 3)] [] H = some (some (.int (nI (lts σ c))), H) := by
  have hC0 := hC
  obtain ⟨⟨X, x1, x2⟩, ⟨S, s1, s2, s3⟩, ⟨T, t1⟩, ⟨K, k1, k2⟩, hh, ⟨P, p1, p2⟩, ⟨R, r1⟩, ⟨F, f1⟩, ⟨Y, y1⟩, ⟨V, v1⟩, ⟨N, n1⟩⟩ := hC
  have hW0 := hW
  obtain ⟨w1, w2, w3, w4⟩ := hW
  have hS := at_st s1
  have hb := w1.bnd
  have hn := hb.1
  have g0 := cx_0 x1
  have z1 := cz_st s1
  have z0 := cz_sx x1
  have ic : ev (d + 19) 37 0 [some (.ref 1), some (.int (nI c))] [] H = some (some (.int 1), H) := S_isCrate_k hS s2 hb hc
  have go : ∀ y : Int32, ev (d + 20) 108 0 [some (.ref 0), some (.int (nI c)), some (.int y)] [] H = ev (d + 20) 108 14 [some (.ref 0), some (.int (nI c)), some (.int y)] [.int y] H := fun y => by
    simp only [e108_0, e108_1, e108_4, e108_5, e108_8, e108_13, Option.bind_some, Option.toList_some, Option.toList_none, List.cons_append, List.nil_append, true_or, or_true, and_true, true_and, i10, Bool.false_eq_true, if_true, if_false, reduceIte, g0, z1, ic]
  refine (go _).trans ?_
  simp only [e108_1, e108_4, e108_5, e108_8, e108_11, e108_12, e108_13, e108_14c0, e108_14c1, e108_14c2, e108_14c3, e108_14c4, e108_14c5, e108_14c6, e108_14c7, e108_14c8, e108_14c9, e108_14c10, e108_14c11, e108_14c12, e108_14c13, e108_14c14, e108_14d, e108_88, e108_89, e108_92, e108_93, e108_96, e108_97, e108_98, e108_101, e108_102, e108_105, e108_106, e108_107, e108_110, e108_111, e108_114, e108_115, e108_116, e108_119, e108_120, e108_123, e108_124, e108_125, e108_128, e108_129, e108_132, e108_135, e108_137, e108_140, e108_141, e108_144, e108_145, e108_148, e108_149, e108_150, e108_153, e108_154, e108_157, e108_158, e108_159, e108_162, e108_163, e108_166, e108_167, e108_168, e108_171, e108_172, e108_175, e108_176, e108_177, e108_180, e108_181, e108_184, e108_185, e108_186, e108_189, e108_190, e108_193, e108_194, e108_195, e108_198, e108_199, e108_202, e108_203, e108_204, e108_207, e108_208, e108_211, e108_214, e108_215, e108_218, e108_219, e108_220, e108_221, e108_224, e108_225, e108_228, e108_229, e108_230, e108_233, e108_234, e108_237, e108_238, e108_239, e108_242, e108_243, e108_246, e108_247, e108_248, Option.bind_some, Option.toList_some, Option.toList_none, List.cons_append, List.nil_append, true_or, or_true, and_true, true_and, i10, Bool.false_eq_true, if_true, if_false, reduceIte, g0, z1, S_lettersOf hS s2 hb hc] <;> rfl
theorem ca_cr5 (hc : c < σ.1) (hC : CI H σ r e len k κ w m) (hW : WF σ e len k κ) : ev (d + 20) 108 0 [some (.ref 0), some (.int (nI c)), some (.int 5)] [] H = some (some (.int (nI (dpt σ c))), H) := by
  have hC0 := hC
  obtain ⟨⟨X, x1, x2⟩, ⟨S, s1, s2, s3⟩, ⟨T, t1⟩, ⟨K, k1, k2⟩, hh, ⟨P, p1, p2⟩, ⟨R, r1⟩, ⟨F, f1⟩, ⟨Y, y1⟩, ⟨V, v1⟩, ⟨N, n1⟩⟩ := hC
  have hW0 := hW
  obtain ⟨w1, w2, w3, w4⟩ := hW
  have hS := at_st s1
  have hb := w1.bnd
  have hn := hb.1
  have g0 := cx_0 x1
  have z1 := cz_st s1
  have z0 := cz_sx x1
  have ic : ev (d + 19) 37 0 [some (.ref 1), some (.int (nI c))] [] H = some (some (.int 1), H) := S_isCrate_k hS s2 hb hc
  have go : ∀ y : Int32, ev (d + 20) 108 0 [some (.ref 0), some (.int (nI c)), some (.int y)] [] H = ev (d + 20) 108 14 [some (.ref 0), some (.int (nI c)), some (.int y)] [.int y] H := fun y => by
    simp only [e108_0, e108_1, e108_4, e108_5, e108_8, e108_13, Option.bind_some, Option.toList_some, Option.toList_none, List.cons_append, List.nil_append, true_or, or_true, and_true, true_and, i10, Bool.false_eq_true, if_true, if_false, reduceIte, g0, z1, ic]
  refine (go _).trans ?_
  simp only [e108_1, e108_4, e108_5, e108_8, e108_11, e108_12, e108_13, e108_14c0, e108_14c1, e108_14c2, e108_14c3, e108_14c4, e108_14c5, e108_14c6, e108_14c7, e108_14c8, e108_14c9, e108_14c10, e108_14c11, e108_14c12, e108_14c13, e108_14c14, e108_14d, e108_88, e108_89, e108_92, e108_93, e108_96, e108_97, e108_98, e108_101, e108_102, e108_105, e108_106, e108_107, e108_110, e108_111, e108_114, e108_115, e108_116, e108_119, e108_120, e108_123, e108_124, e108_125, e108_128, e108_129, e108_132, e108_135, e108_137, e108_140, e108_141, e108_144, e108_145, e108_148, e108_149, e108_150, e108_153, e108_154, e108_157, e108_158, e108_159, e108_162, e108_163, e108_166, e108_167, e108_168, e108_171, e108_172, e108_175, e108_176, e108_177, e108_180, e108_181, e108_184, e108_185, e108_186, e108_189, e108_190, e108_193, e108_194, e108_195, e108_198, e108_199, e108_202, e108_203, e108_204, e108_207, e108_208, e108_211, e108_214, e108_215, e108_218, e108_219, e108_220, e108_221, e108_224, e108_225, e108_228, e108_229, e108_230, e108_233, e108_234, e108_237, e108_238, e108_239, e108_242, e108_243, e108_246, e108_247, e108_248, Option.bind_some, Option.toList_some, Option.toList_none, List.cons_append, List.nil_append, true_or, or_true, and_true, true_and, i10, Bool.false_eq_true, if_true, if_false, reduceIte, g0, z1, S_depthOf hS s2 hb hc] <;> rfl
theorem ca_cr6 (hc : c < σ.1) (hC : CI H σ r e len k κ w m) (hW : WF σ e len k κ) : ev (d + 20) 108 0 [some (.ref 0), some (.int (nI c)), some (.int 6)] [] H = some (some (.int (nI (pil σ c))), H) := by
  have hC0 := hC
  obtain ⟨⟨X, x1, x2⟩, ⟨S, s1, s2, s3⟩, ⟨T, t1⟩, ⟨K, k1, k2⟩, hh, ⟨P, p1, p2⟩, ⟨R, r1⟩, ⟨F, f1⟩, ⟨Y, y1⟩, ⟨V, v1⟩, ⟨N, n1⟩⟩ := hC
  have hW0 := hW
  obtain ⟨w1, w2, w3, w4⟩ := hW
  have hS := at_st s1
  have hb := w1.bnd
  have hn := hb.1
  have g0 := cx_0 x1
  have z1 := cz_st s1
  have z0 := cz_sx x1
  have ic : ev (d + 19) 37 0 [some (.ref 1), some (.int (nI c))] [] H = some (some (.int 1), H) := S_isCrate_k hS s2 hb hc
  have go : ∀ y : Int32, ev (d + 20) 108 0 [some (.ref 0), some (.int (nI c)), some (.int y)] [] H = ev (d + 20) 108 14 [some (.ref 0), some (.int (nI c)), some (.int y)] [.int y] H := fun y => by
    simp only [e108_0, e108_1, e108_4, e108_5, e108_8, e108_13, Option.bind_some, Option.toList_some, Option.toList_none, List.cons_append, List.nil_append, true_or, or_true, and_true, true_and, i10, Bool.false_eq_true, if_true, if_false, reduceIte, g0, z1, ic]
  refine (go _).trans ?_
  simp only [e108_1, e108_4, e108_5, e108_8, e108_11, e108_12, e108_13, e108_14c0, e108_14c1, e108_14c2, e108_14c3, e108_14c4, e108_14c5, e108_14c6, e108_14c7, e108_14c8, e108_14c9, e108_14c10, e108_14c11, e108_14c12, e108_14c13, e108_14c14, e108_14d, e108_88, e108_89, e108_92, e108_93, e108_96, e108_97, e108_98, e108_101, e108_102, e108_105, e108_106, e108_107, e108_110, e108_111, e108_114, e108_115, e108_116, e108_119, e108_120, e108_123, e108_124, e108_125, e108_128, e108_129, e108_132, e108_135, e108_137, e108_140, e108_141, e108_144, e108_145, e108_148, e108_149, e108_150, e108_153, e108_154, e108_157, e108_158, e108_159, e108_162, e108_163, e108_166, e108_167, e108_168, e108_171, e108_172, e108_175, e108_176, e108_177, e108_180, e108_181, e108_184, e108_185, e108_186, e108_189, e108_190, e108_193, e108_194, e108_195, e108_198, e108_199, e108_202, e108_203, e108_204, e108_207, e108_208, e108_211, e108_214, e108_215, e108_218, e108_219, e108_220, e108_221, e108_224, e108_225, e108_228, e108_229, e108_230, e108_233, e108_234, e108_237, e108_238, e108_239, e108_242, e108_243, e108_246, e108_247, e108_248, Option.bind_some, Option.toList_some, Option.toList_none, List.cons_append, List.nil_append, true_or, or_true, and_true, true_and, i10, Bool.false_eq_true, if_true, if_false, reduceIte, g0, z1, S_pileOf hS s2 hb hc] <;> rfl
theorem ca_cr7 (hc : c < σ.1) (hC : CI H σ r e len k κ w m) (hW : WF σ e len k κ) : ev (d + 20) 108 0 [some (.ref 0), some (.int (nI c)), some (.int 7)] [] H = some (some (.int (nI (lod σ c))), H) := by
  have hC0 := hC
  obtain ⟨⟨X, x1, x2⟩, ⟨S, s1, s2, s3⟩, ⟨T, t1⟩, ⟨K, k1, k2⟩, hh, ⟨P, p1, p2⟩, ⟨R, r1⟩, ⟨F, f1⟩, ⟨Y, y1⟩, ⟨V, v1⟩, ⟨N, n1⟩⟩ := hC
  have hW0 := hW
  obtain ⟨w1, w2, w3, w4⟩ := hW
  have hS := at_st s1
  have hb := w1.bnd
  have hn := hb.1
  have g0 := cx_0 x1
  have z1 := cz_st s1
  have z0 := cz_sx x1
  have ic : ev (d + 19) 37 0 [some (.ref 1), some (.int (nI c))] [] H = some (some (.int 1), H) := S_isCrate_k hS s2 hb hc
  have go : ∀ y : Int32, ev (d + 20) 108 0 [some (.ref 0), some (.int (nI c)), some (.int y)] [] H = ev (d + 20) 108 14 [some (.ref 0), some (.int (nI c)), some (.int y)] [.int y] H := fun y => by
    simp only [e108_0, e108_1, e108_4, e108_5, e108_8, e108_13, Option.bind_some, Option.toList_some, Option.toList_none, List.cons_append, List.nil_append, true_or, or_true, and_true, true_and, i10, Bool.false_eq_true, if_true, if_false, reduceIte, g0, z1, ic]
  refine (go _).trans ?_
  simp only [e108_1, e108_4, e108_5, e108_8, e108_11, e108_12, e108_13, e108_14c0, e108_14c1, e108_14c2, e108_14c3, e108_14c4, e108_14c5, e108_14c6, e108_14c7, e108_14c8, e108_14c9, e108_14c10, e108_14c11, e108_14c12, e108_14c13, e108_14c14, e108_14d, e108_88, e108_89, e108_92, e108_93, e108_96, e108_97, e108_98, e108_101, e108_102, e108_105, e108_106, e108_107, e108_110, e108_111, e108_114, e108_115, e108_116, e108_119, e108_120, e108_123, e108_124, e108_125, e108_128, e108_129, e108_132, e108_135, e108_137, e108_140, e108_141, e108_144, e108_145, e108_148, e108_149, e108_150, e108_153, e108_154, e108_157, e108_158, e108_159, e108_162, e108_163, e108_166, e108_167, e108_168, e108_171, e108_172, e108_175, e108_176, e108_177, e108_180, e108_181, e108_184, e108_185, e108_186, e108_189, e108_190, e108_193, e108_194, e108_195, e108_198, e108_199, e108_202, e108_203, e108_204, e108_207, e108_208, e108_211, e108_214, e108_215, e108_218, e108_219, e108_220, e108_221, e108_224, e108_225, e108_228, e108_229, e108_230, e108_233, e108_234, e108_237, e108_238, e108_239, e108_242, e108_243, e108_246, e108_247, e108_248, Option.bind_some, Option.toList_some, Option.toList_none, List.cons_append, List.nil_append, true_or, or_true, and_true, true_and, i10, Bool.false_eq_true, if_true, if_false, reduceIte, g0, z1, S_loadOf hS s2 hb hc] <;> rfl
theorem ca_cr8 (hc : c < σ.1) (hC : CI H σ r e len k κ w m) (hW : WF σ e len k κ) : ev (d + 20) 108 0 [some (.ref 0), some (.int (nI c)), some (.int 8)] [] H = some (some (.int (iI (lft σ c))), H) := by
  have hC0 := hC
  obtain ⟨⟨X, x1, x2⟩, ⟨S, s1, s2, s3⟩, ⟨T, t1⟩, ⟨K, k1, k2⟩, hh, ⟨P, p1, p2⟩, ⟨R, r1⟩, ⟨F, f1⟩, ⟨Y, y1⟩, ⟨V, v1⟩, ⟨N, n1⟩⟩ := hC
  have hW0 := hW
  obtain ⟨w1, w2, w3, w4⟩ := hW
  have hS := at_st s1
  have hb := w1.bnd
  have hn := hb.1
  have g0 := cx_0 x1
  have z1 := cz_st s1
  have z0 := cz_sx x1
  have ic : ev (d + 19) 37 0 [some (.ref 1), some (.int (nI c))] [] H = some (some (.int 1), H) := S_isCrate_k hS s2 hb hc
  have go : ∀ y : Int32, ev (d + 20) 108 0 [some (.ref 0), some (.int (nI c)), some (.int y)] [] H = ev (d + 20) 108 14 [some (.ref 0), some (.int (nI c)), some (.int y)] [.int y] H := fun y => by
    simp only [e108_0, e108_1, e108_4, e108_5, e108_8, e108_13, Option.bind_some, Option.toList_some, Option.toList_none, List.cons_append, List.nil_append, true_or, or_true, and_true, true_and, i10, Bool.false_eq_true, if_true, if_false, reduceIte, g0, z1, ic]
  refine (go _).trans ?_
  simp only [e108_1, e108_4, e108_5, e108_8, e108_11, e108_12, e108_13, e108_14c0, e108_14c1, e108_14c2, e108_14c3, e108_14c4, e108_14c5, e108_14c6, e108_14c7, e108_14c8, e108_14c9, e108_14c10, e108_14c11, e108_14c12, e108_14c13, e108_14c14, e108_14d, e108_88, e108_89, e108_92, e108_93, e108_96, e108_97, e108_98, e108_101, e108_102, e108_105, e108_106, e108_107, e108_110, e108_111, e108_114, e108_115, e108_116, e108_119, e108_120, e108_123, e108_124, e108_125, e108_128, e108_129, e108_132, e108_135, e108_137, e108_140, e108_141, e108_144, e108_145, e108_148, e108_149, e108_150, e108_153, e108_154, e108_157, e108_158, e108_159, e108_162, e108_163, e108_166, e108_167, e108_168, e108_171, e108_172, e108_175, e108_176, e108_177, e108_180, e108_181, e108_184, e108_185, e108_186, e108_189, e108_190, e108_193, e108_194, e108_195, e108_198, e108_199, e108_202, e108_203, e108_204, e108_207, e108_208, e108_211, e108_214, e108_215, e108_218, e108_219, e108_220, e108_221, e108_224, e108_225, e108_228, e108_229, e108_230, e108_233, e108_234, e108_237, e108_238, e108_239, e108_242, e108_243, e108_246, e108_247, e108_248, Option.bind_some, Option.toList_some, Option.toList_none, List.cons_append, List.nil_append, true_or, or_true, and_true, true_and, i10, Bool.false_eq_true, if_true, if_false, reduceIte, g0, z1, S_roomLeftIn hS s2 hb hc] <;> rfl
theorem ca_cr9 (hc : c < σ.1) (hC : CI H σ r e len k κ w m) (hW : WF σ e len k κ) : ev (d + 20) 108 0 [some (.ref 0), some (.int (nI c)), some (.int 9)] [] H = some (some (.int (nI (σ.2 c 8))), H) := by
  have hC0 := hC
  obtain ⟨⟨X, x1, x2⟩, ⟨S, s1, s2, s3⟩, ⟨T, t1⟩, ⟨K, k1, k2⟩, hh, ⟨P, p1, p2⟩, ⟨R, r1⟩, ⟨F, f1⟩, ⟨Y, y1⟩, ⟨V, v1⟩, ⟨N, n1⟩⟩ := hC
  have hW0 := hW
  obtain ⟨w1, w2, w3, w4⟩ := hW
  have hS := at_st s1
  have hb := w1.bnd
  have hn := hb.1
  have g0 := cx_0 x1
  have z1 := cz_st s1
  have z0 := cz_sx x1
  have ic : ev (d + 19) 37 0 [some (.ref 1), some (.int (nI c))] [] H = some (some (.int 1), H) := S_isCrate_k hS s2 hb hc
  have go : ∀ y : Int32, ev (d + 20) 108 0 [some (.ref 0), some (.int (nI c)), some (.int y)] [] H = ev (d + 20) 108 14 [some (.ref 0), some (.int (nI c)), some (.int y)] [.int y] H := fun y => by
    simp only [e108_0, e108_1, e108_4, e108_5, e108_8, e108_13, Option.bind_some, Option.toList_some, Option.toList_none, List.cons_append, List.nil_append, true_or, or_true, and_true, true_and, i10, Bool.false_eq_true, if_true, if_false, reduceIte, g0, z1, ic]
  refine (go _).trans ?_
  simp only [e108_1, e108_4, e108_5, e108_8, e108_11, e108_12, e108_13, e108_14c0, e108_14c1, e108_14c2, e108_14c3, e108_14c4, e108_14c5, e108_14c6, e108_14c7, e108_14c8, e108_14c9, e108_14c10, e108_14c11, e108_14c12, e108_14c13, e108_14c14, e108_14d, e108_88, e108_89, e108_92, e108_93, e108_96, e108_97, e108_98, e108_101, e108_102, e108_105, e108_106, e108_107, e108_110, e108_111, e108_114, e108_115, e108_116, e108_119, e108_120, e108_123, e108_124, e108_125, e108_128, e108_129, e108_132, e108_135, e108_137, e108_140, e108_141, e108_144, e108_145, e108_148, e108_149, e108_150, e108_153, e108_154, e108_157, e108_158, e108_159, e108_162, e108_163, e108_166, e108_167, e108_168, e108_171, e108_172, e108_175, e108_176, e108_177, e108_180, e108_181, e108_184, e108_185, e108_186, e108_189, e108_190, e108_193, e108_194, e108_195, e108_198, e108_199, e108_202, e108_203, e108_204, e108_207, e108_208, e108_211, e108_214, e108_215, e108_218, e108_219, e108_220, e108_221, e108_224, e108_225, e108_228, e108_229, e108_230, e108_233, e108_234, e108_237, e108_238, e108_239, e108_242, e108_243, e108_246, e108_247, e108_248, Option.bind_some, Option.toList_some, Option.toList_none, List.cons_append, List.nil_append, true_or, or_true, and_true, true_and, i10, Bool.false_eq_true, if_true, if_false, reduceIte, g0, z1, S_placeOf hS s2 hb hc] <;> rfl
theorem ca_cr10 (hc : c < σ.1) (hC : CI H σ r e len k κ w m) (hW : WF σ e len k κ) : ev (d + 20) 108 0 [some (.ref 0), some (.int (nI c)), some (.int 10)] [] H = some (some (.int (iI (eft σ c))), H) := by
  have hC0 := hC
  obtain ⟨⟨X, x1, x2⟩, ⟨S, s1, s2, s3⟩, ⟨T, t1⟩, ⟨K, k1, k2⟩, hh, ⟨P, p1, p2⟩, ⟨R, r1⟩, ⟨F, f1⟩, ⟨Y, y1⟩, ⟨V, v1⟩, ⟨N, n1⟩⟩ := hC
  have hW0 := hW
  obtain ⟨w1, w2, w3, w4⟩ := hW
  have hS := at_st s1
  have hb := w1.bnd
  have hn := hb.1
  have g0 := cx_0 x1
  have z1 := cz_st s1
  have z0 := cz_sx x1
  have ic : ev (d + 19) 37 0 [some (.ref 1), some (.int (nI c))] [] H = some (some (.int 1), H) := S_isCrate_k hS s2 hb hc
  have go : ∀ y : Int32, ev (d + 20) 108 0 [some (.ref 0), some (.int (nI c)), some (.int y)] [] H = ev (d + 20) 108 14 [some (.ref 0), some (.int (nI c)), some (.int y)] [.int y] H := fun y => by
    simp only [e108_0, e108_1, e108_4, e108_5, e108_8, e108_13, Option.bind_some, Option.toList_some, Option.toList_none, List.cons_append, List.nil_append, true_or, or_true, and_true, true_and, i10, Bool.false_eq_true, if_true, if_false, reduceIte, g0, z1, ic]
  refine (go _).trans ?_
  simp only [e108_1, e108_4, e108_5, e108_8, e108_11, e108_12, e108_13, e108_14c0, e108_14c1, e108_14c2, e108_14c3, e108_14c4, e108_14c5, e108_14c6, e108_14c7, e108_14c8, e108_14c9, e108_14c10, e108_14c11, e108_14c12, e108_14c13, e108_14c14, e108_14d, e108_88, e108_89, e108_92, e108_93, e108_96, e108_97, e108_98, e108_101, e108_102, e108_105, e108_106, e108_107, e108_110, e108_111, e108_114, e108_115, e108_116, e108_119, e108_120, e108_123, e108_124, e108_125, e108_128, e108_129, e108_132, e108_135, e108_137, e108_140, e108_141, e108_144, e108_145, e108_148, e108_149, e108_150, e108_153, e108_154, e108_157, e108_158, e108_159, e108_162, e108_163, e108_166, e108_167, e108_168, e108_171, e108_172, e108_175, e108_176, e108_177, e108_180, e108_181, e108_184, e108_185, e108_186, e108_189, e108_190, e108_193, e108_194, e108_195, e108_198, e108_199, e108_202, e108_203, e108_204, e108_207, e108_208, e108_211, e108_214, e108_215, e108_218, e108_219, e108_220, e108_221, e108_224, e108_225, e108_228, e108_229, e108_230, e108_233, e108_234, e108_237, e108_238, e108_239, e108_242, e108_243, e108_246, e108_247, e108_248, Option.bind_some, Option.toList_some, Option.toList_none, List.cons_append, List.nil_append, true_or, or_true, and_true, true_and, i10, Bool.false_eq_true, if_true, if_false, reduceIte, g0, z1, S_effort hS s2 w1 hc] <;> rfl
theorem ca_cr13 (hc : c < σ.1) (hC : CI H σ r e len k κ w m) (hW : WF σ e len k κ) : ev (d + 20) 108 0 [some (.ref 0), some (.int (nI c)), some (.int 13)] [] H = some (some (.int (cB (bst σ c))), H) := by
  have hC0 := hC
  obtain ⟨⟨X, x1, x2⟩, ⟨S, s1, s2, s3⟩, ⟨T, t1⟩, ⟨K, k1, k2⟩, hh, ⟨P, p1, p2⟩, ⟨R, r1⟩, ⟨F, f1⟩, ⟨Y, y1⟩, ⟨V, v1⟩, ⟨N, n1⟩⟩ := hC
  have hW0 := hW
  obtain ⟨w1, w2, w3, w4⟩ := hW
  have hS := at_st s1
  have hb := w1.bnd
  have hn := hb.1
  have g0 := cx_0 x1
  have z1 := cz_st s1
  have z0 := cz_sx x1
  have ic : ev (d + 19) 37 0 [some (.ref 1), some (.int (nI c))] [] H = some (some (.int 1), H) := S_isCrate_k hS s2 hb hc
  have go : ∀ y : Int32, ev (d + 20) 108 0 [some (.ref 0), some (.int (nI c)), some (.int y)] [] H = ev (d + 20) 108 14 [some (.ref 0), some (.int (nI c)), some (.int y)] [.int y] H := fun y => by
    simp only [e108_0, e108_1, e108_4, e108_5, e108_8, e108_13, Option.bind_some, Option.toList_some, Option.toList_none, List.cons_append, List.nil_append, true_or, or_true, and_true, true_and, i10, Bool.false_eq_true, if_true, if_false, reduceIte, g0, z1, ic]
  refine (go _).trans ?_
  simp only [e108_1, e108_4, e108_5, e108_8, e108_11, e108_12, e108_13, e108_14c0, e108_14c1, e108_14c2, e108_14c3, e108_14c4, e108_14c5, e108_14c6, e108_14c7, e108_14c8, e108_14c9, e108_14c10, e108_14c11, e108_14c12, e108_14c13, e108_14c14, e108_14d, e108_88, e108_89, e108_92, e108_93, e108_96, e108_97, e108_98, e108_101, e108_102, e108_105, e108_106, e108_107, e108_110, e108_111, e108_114, e108_115, e108_116, e108_119, e108_120, e108_123, e108_124, e108_125, e108_128, e108_129, e108_132, e108_135, e108_137, e108_140, e108_141, e108_144, e108_145, e108_148, e108_149, e108_150, e108_153, e108_154, e108_157, e108_158, e108_159, e108_162, e108_163, e108_166, e108_167, e108_168, e108_171, e108_172, e108_175, e108_176, e108_177, e108_180, e108_181, e108_184, e108_185, e108_186, e108_189, e108_190, e108_193, e108_194, e108_195, e108_198, e108_199, e108_202, e108_203, e108_204, e108_207, e108_208, e108_211, e108_214, e108_215, e108_218, e108_219, e108_220, e108_221, e108_224, e108_225, e108_228, e108_229, e108_230, e108_233, e108_234, e108_237, e108_238, e108_239, e108_242, e108_243, e108_246, e108_247, e108_248, Option.bind_some, Option.toList_some, Option.toList_none, List.cons_append, List.nil_append, true_or, or_true, and_true, true_and, i10, Bool.false_eq_true, if_true, if_false, reduceIte, g0, z1, S_best hS s2 w1 hc] <;> rfl
theorem ca_cr14 (hc : c < σ.1) (hC : CI H σ r e len k κ w m) (hW : WF σ e len k κ) : ev (d + 20) 108 0 [some (.ref 0), some (.int (nI c)), some (.int 14)] [] H = some (some (.int (nI (rgd σ c))), H) := by
  have hC0 := hC
  obtain ⟨⟨X, x1, x2⟩, ⟨S, s1, s2, s3⟩, ⟨T, t1⟩, ⟨K, k1, k2⟩, hh, ⟨P, p1, p2⟩, ⟨R, r1⟩, ⟨F, f1⟩, ⟨Y, y1⟩, ⟨V, v1⟩, ⟨N, n1⟩⟩ := hC
  have hW0 := hW
  obtain ⟨w1, w2, w3, w4⟩ := hW
  have hS := at_st s1
  have hb := w1.bnd
  have hn := hb.1
  have g0 := cx_0 x1
  have z1 := cz_st s1
  have z0 := cz_sx x1
  have ic : ev (d + 19) 37 0 [some (.ref 1), some (.int (nI c))] [] H = some (some (.int 1), H) := S_isCrate_k hS s2 hb hc
  have go : ∀ y : Int32, ev (d + 20) 108 0 [some (.ref 0), some (.int (nI c)), some (.int y)] [] H = ev (d + 20) 108 14 [some (.ref 0), some (.int (nI c)), some (.int y)] [.int y] H := fun y => by
    simp only [e108_0, e108_1, e108_4, e108_5, e108_8, e108_13, Option.bind_some, Option.toList_some, Option.toList_none, List.cons_append, List.nil_append, true_or, or_true, and_true, true_and, i10, Bool.false_eq_true, if_true, if_false, reduceIte, g0, z1, ic]
  refine (go _).trans ?_
  simp only [e108_1, e108_4, e108_5, e108_8, e108_11, e108_12, e108_13, e108_14c0, e108_14c1, e108_14c2, e108_14c3, e108_14c4, e108_14c5, e108_14c6, e108_14c7, e108_14c8, e108_14c9, e108_14c10, e108_14c11, e108_14c12, e108_14c13, e108_14c14, e108_14d, e108_88, e108_89, e108_92, e108_93, e108_96, e108_97, e108_98, e108_101, e108_102, e108_105, e108_106, e108_107, e108_110, e108_111, e108_114, e108_115, e108_116, e108_119, e108_120, e108_123, e108_124, e108_125, e108_128, e108_129, e108_132, e108_135, e108_137, e108_140, e108_141, e108_144, e108_145, e108_148, e108_149, e108_150, e108_153, e108_154, e108_157, e108_158, e108_159, e108_162, e108_163, e108_166, e108_167, e108_168, e108_171, e108_172, e108_175, e108_176, e108_177, e108_180, e108_181, e108_184, e108_185, e108_186, e108_189, e108_190, e108_193, e108_194, e108_195, e108_198, e108_199, e108_202, e108_203, e108_204, e108_207, e108_208, e108_211, e108_214, e108_215, e108_218, e108_219, e108_220, e108_221, e108_224, e108_225, e108_228, e108_229, e108_230, e108_233, e108_234, e108_237, e108_238, e108_239, e108_242, e108_243, e108_246, e108_247, e108_248, Option.bind_some, Option.toList_some, Option.toList_none, List.cons_append, List.nil_append, true_or, or_true, and_true, true_and, i10, Bool.false_eq_true, if_true, if_false, reduceIte, g0, z1, S_reasonNotToGround hS s2 w1 hc] <;> rfl
theorem ca_cr4 (hc : c < σ.1) (hC : CI H σ r e len k κ w m) (hW : WF σ e len k κ) : ev (d + 20) 108 0 [some (.ref 0), some (.int (nI c)), some (.int 4)] [] H = some (some (.int (cB (σ.2 c 7))), H) := by
  have hC0 := hC
  obtain ⟨⟨X, x1, x2⟩, ⟨S, s1, s2, s3⟩, ⟨T, t1⟩, ⟨K, k1, k2⟩, hh, ⟨P, p1, p2⟩, ⟨R, r1⟩, ⟨F, f1⟩, ⟨Y, y1⟩, ⟨V, v1⟩, ⟨N, n1⟩⟩ := hC
  have hW0 := hW
  obtain ⟨w1, w2, w3, w4⟩ := hW
  have hS := at_st s1
  have hb := w1.bnd
  have hn := hb.1
  have g0 := cx_0 x1
  have z1 := cz_st s1
  have z0 := cz_sx x1
  have ic : ev (d + 19) 37 0 [some (.ref 1), some (.int (nI c))] [] H = some (some (.int 1), H) := S_isCrate_k hS s2 hb hc
  have go : ∀ y : Int32, ev (d + 20) 108 0 [some (.ref 0), some (.int (nI c)), some (.int y)] [] H = ev (d + 20) 108 14 [some (.ref 0), some (.int (nI c)), some (.int y)] [.int y] H := fun y => by
    simp only [e108_0, e108_1, e108_4, e108_5, e108_8, e108_13, Option.bind_some, Option.toList_some, Option.toList_none, List.cons_append, List.nil_append, true_or, or_true, and_true, true_and, i10, Bool.false_eq_true, if_true, if_false, reduceIte, g0, z1, ic]
  refine (go _).trans ?_
  have og := S_isOnGround (d := d + 17) hS s2 hb hc
  have ho := S_holderOf (d := d + 18) hS s2 hb hc
  cases u : σ.2 c 7 with
  | zero =>
    rw [bI_t u] at og
    simp only [e108_1, e108_4, e108_5, e108_8, e108_11, e108_12, e108_13, e108_14c0, e108_14c1, e108_14c2, e108_14c3, e108_14c4, e108_14c5, e108_14c6, e108_14c7, e108_14c8, e108_14c9, e108_14c10, e108_14c11, e108_14c12, e108_14c13, e108_14c14, e108_14d, e108_88, e108_89, e108_92, e108_93, e108_96, e108_97, e108_98, e108_101, e108_102, e108_105, e108_106, e108_107, e108_110, e108_111, e108_114, e108_115, e108_116, e108_119, e108_120, e108_123, e108_124, e108_125, e108_128, e108_129, e108_132, e108_135, e108_137, e108_140, e108_141, e108_144, e108_145, e108_148, e108_149, e108_150, e108_153, e108_154, e108_157, e108_158, e108_159, e108_162, e108_163, e108_166, e108_167, e108_168, e108_171, e108_172, e108_175, e108_176, e108_177, e108_180, e108_181, e108_184, e108_185, e108_186, e108_189, e108_190, e108_193, e108_194, e108_195, e108_198, e108_199, e108_202, e108_203, e108_204, e108_207, e108_208, e108_211, e108_214, e108_215, e108_218, e108_219, e108_220, e108_221, e108_224, e108_225, e108_228, e108_229, e108_230, e108_233, e108_234, e108_237, e108_238, e108_239, e108_242, e108_243, e108_246, e108_247, e108_248, Option.bind_some, Option.toList_some, Option.toList_none, List.cons_append, List.nil_append, true_or, or_true, and_true, true_and, i10, Bool.false_eq_true, if_true, if_false, reduceIte, g0, z1, og]
    rfl
  | succ a =>
    rw [bI_f (by rw [u]; omega)] at og
    rw [u, hI_s] at ho
    simp only [e108_1, e108_4, e108_5, e108_8, e108_11, e108_12, e108_13, e108_14c0, e108_14c1, e108_14c2, e108_14c3, e108_14c4, e108_14c5, e108_14c6, e108_14c7, e108_14c8, e108_14c9, e108_14c10, e108_14c11, e108_14c12, e108_14c13, e108_14c14, e108_14d, e108_88, e108_89, e108_92, e108_93, e108_96, e108_97, e108_98, e108_101, e108_102, e108_105, e108_106, e108_107, e108_110, e108_111, e108_114, e108_115, e108_116, e108_119, e108_120, e108_123, e108_124, e108_125, e108_128, e108_129, e108_132, e108_135, e108_137, e108_140, e108_141, e108_144, e108_145, e108_148, e108_149, e108_150, e108_153, e108_154, e108_157, e108_158, e108_159, e108_162, e108_163, e108_166, e108_167, e108_168, e108_171, e108_172, e108_175, e108_176, e108_177, e108_180, e108_181, e108_184, e108_185, e108_186, e108_189, e108_190, e108_193, e108_194, e108_195, e108_198, e108_199, e108_202, e108_203, e108_204, e108_207, e108_208, e108_211, e108_214, e108_215, e108_218, e108_219, e108_220, e108_221, e108_224, e108_225, e108_228, e108_229, e108_230, e108_233, e108_234, e108_237, e108_238, e108_239, e108_242, e108_243, e108_246, e108_247, e108_248, Option.bind_some, Option.toList_some, Option.toList_none, List.cons_append, List.nil_append, true_or, or_true, and_true, true_and, i10, Bool.false_eq_true, if_true, if_false, reduceIte, g0, z1, og, ho]
    rfl
theorem ca_crN (q : zin x σ.1 = false) (hC : CI H σ r e len k κ w m) (hW : WF σ e len k κ) : ev (d + 20) 108 0 [some (.ref 0), some (.int x), some (.int y)] [] H = some (some (.int (-1)), H) := by
  have hC0 := hC
  obtain ⟨⟨X, x1, x2⟩, ⟨S, s1, s2, s3⟩, ⟨T, t1⟩, ⟨K, k1, k2⟩, hh, ⟨P, p1, p2⟩, ⟨R, r1⟩, ⟨F, f1⟩, ⟨Y, y1⟩, ⟨V, v1⟩, ⟨N, n1⟩⟩ := hC
  have hW0 := hW
  obtain ⟨w1, w2, w3, w4⟩ := hW
  have hS := at_st s1
  have hb := w1.bnd
  have hn := hb.1
  have g0 := cx_0 x1
  have z1 := cz_st s1
  have z0 := cz_sx x1
  simp only [e108_0, e108_1, e108_4, e108_5, e108_8, e108_11, e108_12, Option.bind_some, Option.toList_some, Option.toList_none, List.cons_append, List.nil_append, true_or, or_true, and_true, true_and, i10, Bool.false_eq_true, if_true, if_false, reduceIte, g0, z1, S_isC0 hS s2 hn q]
theorem ca_n0 (hC : CI H σ r e len k κ w m) (hW : WF σ e len k κ) : ev (d + 20) 115 0 [some (.ref 0), some (.int 0)] [] H = some (some (.int (nI σ.1)), H) := by
  have hC0 := hC
  obtain ⟨⟨X, x1, x2⟩, ⟨S, s1, s2, s3⟩, ⟨T, t1⟩, ⟨K, k1, k2⟩, hh, ⟨P, p1, p2⟩, ⟨R, r1⟩, ⟨F, f1⟩, ⟨Y, y1⟩, ⟨V, v1⟩, ⟨N, n1⟩⟩ := hC
  have hW0 := hW
  obtain ⟨w1, w2, w3, w4⟩ := hW
  have hS := at_st s1
  have hb := w1.bnd
  have hn := hb.1
  have g0 := cx_0 x1
  have z1 := cz_st s1
  have z0 := cz_sx x1
  simp only [e115_0, e115_1c0, e115_1c1, e115_1c2, e115_1c3, e115_1c4, e115_1c5, e115_1c6, e115_1c7, e115_1c8, e115_1c9, e115_1c10, e115_1c11, e115_1c12, e115_1c13, e115_1c14, e115_1d, e115_76, e115_77, e115_80, e115_83, e115_84, e115_85, e115_88, e115_91, e115_92, e115_93, e115_96, e115_99, e115_100, e115_101, e115_104, e115_107, e115_108, e115_109, e115_112, e115_115, e115_116, e115_117, e115_120, e115_123, e115_124, e115_127, e115_130, e115_131, e115_132, e115_133, e115_136, e115_139, e115_140, e115_141, e115_144, e115_147, e115_148, e115_149, e115_152, e115_155, e115_156, e115_157, e115_160, e115_163, e115_164, e115_165, e115_168, e115_169, e115_172, e115_175, e115_176, e115_177, e115_180, e115_183, e115_184, e115_185, e115_188, e115_191, e115_192, e115_193, e115_196, e115_199, e115_200, e115_201, e115_204, e115_207, e115_208, e115_209, Option.bind_some, Option.toList_some, Option.toList_none, List.cons_append, List.nil_append, true_or, or_true, and_true, true_and, i10, Bool.false_eq_true, if_true, if_false, reduceIte, g0, z1, S_crates hS s2] <;> rfl
theorem ca_n1 (hC : CI H σ r e len k κ w m) (hW : WF σ e len k κ) : ev (d + 20) 115 0 [some (.ref 0), some (.int 1)] [] H = some (some (.int (nI (ct (fun c => decide (σ.2 c 7 = 0)) σ.1))), H) := by
  have hC0 := hC
  obtain ⟨⟨X, x1, x2⟩, ⟨S, s1, s2, s3⟩, ⟨T, t1⟩, ⟨K, k1, k2⟩, hh, ⟨P, p1, p2⟩, ⟨R, r1⟩, ⟨F, f1⟩, ⟨Y, y1⟩, ⟨V, v1⟩, ⟨N, n1⟩⟩ := hC
  have hW0 := hW
  obtain ⟨w1, w2, w3, w4⟩ := hW
  have hS := at_st s1
  have hb := w1.bnd
  have hn := hb.1
  have g0 := cx_0 x1
  have z1 := cz_st s1
  have z0 := cz_sx x1
  simp only [e115_0, e115_1c0, e115_1c1, e115_1c2, e115_1c3, e115_1c4, e115_1c5, e115_1c6, e115_1c7, e115_1c8, e115_1c9, e115_1c10, e115_1c11, e115_1c12, e115_1c13, e115_1c14, e115_1d, e115_76, e115_77, e115_80, e115_83, e115_84, e115_85, e115_88, e115_91, e115_92, e115_93, e115_96, e115_99, e115_100, e115_101, e115_104, e115_107, e115_108, e115_109, e115_112, e115_115, e115_116, e115_117, e115_120, e115_123, e115_124, e115_127, e115_130, e115_131, e115_132, e115_133, e115_136, e115_139, e115_140, e115_141, e115_144, e115_147, e115_148, e115_149, e115_152, e115_155, e115_156, e115_157, e115_160, e115_163, e115_164, e115_165, e115_168, e115_169, e115_172, e115_175, e115_176, e115_177, e115_180, e115_183, e115_184, e115_185, e115_188, e115_191, e115_192, e115_193, e115_196, e115_199, e115_200, e115_201, e115_204, e115_207, e115_208, e115_209, Option.bind_some, Option.toList_some, Option.toList_none, List.cons_append, List.nil_append, true_or, or_true, and_true, true_and, i10, Bool.false_eq_true, if_true, if_false, reduceIte, g0, z1, S_onGround hS s2 hb] <;> rfl
theorem ca_n2 (hC : CI H σ r e len k κ w m) (hW : WF σ e len k κ) : ev (d + 20) 115 0 [some (.ref 0), some (.int 2)] [] H = some (some (.int (nI (ct (lse σ) σ.1))), H) := by
  have hC0 := hC
  obtain ⟨⟨X, x1, x2⟩, ⟨S, s1, s2, s3⟩, ⟨T, t1⟩, ⟨K, k1, k2⟩, hh, ⟨P, p1, p2⟩, ⟨R, r1⟩, ⟨F, f1⟩, ⟨Y, y1⟩, ⟨V, v1⟩, ⟨N, n1⟩⟩ := hC
  have hW0 := hW
  obtain ⟨w1, w2, w3, w4⟩ := hW
  have hS := at_st s1
  have hb := w1.bnd
  have hn := hb.1
  have g0 := cx_0 x1
  have z1 := cz_st s1
  have z0 := cz_sx x1
  simp only [e115_0, e115_1c0, e115_1c1, e115_1c2, e115_1c3, e115_1c4, e115_1c5, e115_1c6, e115_1c7, e115_1c8, e115_1c9, e115_1c10, e115_1c11, e115_1c12, e115_1c13, e115_1c14, e115_1d, e115_76, e115_77, e115_80, e115_83, e115_84, e115_85, e115_88, e115_91, e115_92, e115_93, e115_96, e115_99, e115_100, e115_101, e115_104, e115_107, e115_108, e115_109, e115_112, e115_115, e115_116, e115_117, e115_120, e115_123, e115_124, e115_127, e115_130, e115_131, e115_132, e115_133, e115_136, e115_139, e115_140, e115_141, e115_144, e115_147, e115_148, e115_149, e115_152, e115_155, e115_156, e115_157, e115_160, e115_163, e115_164, e115_165, e115_168, e115_169, e115_172, e115_175, e115_176, e115_177, e115_180, e115_183, e115_184, e115_185, e115_188, e115_191, e115_192, e115_193, e115_196, e115_199, e115_200, e115_201, e115_204, e115_207, e115_208, e115_209, Option.bind_some, Option.toList_some, Option.toList_none, List.cons_append, List.nil_append, true_or, or_true, and_true, true_and, i10, Bool.false_eq_true, if_true, if_false, reduceIte, g0, z1, S_loose hS s2 w1] <;> rfl
theorem ca_n3 (hC : CI H σ r e len k κ w m) (hW : WF σ e len k κ) : ev (d + 20) 115 0 [some (.ref 0), some (.int 3)] [] H = some (some (.int (nI (dmx σ))), H) := by
  have hC0 := hC
  obtain ⟨⟨X, x1, x2⟩, ⟨S, s1, s2, s3⟩, ⟨T, t1⟩, ⟨K, k1, k2⟩, hh, ⟨P, p1, p2⟩, ⟨R, r1⟩, ⟨F, f1⟩, ⟨Y, y1⟩, ⟨V, v1⟩, ⟨N, n1⟩⟩ := hC
  have hW0 := hW
  obtain ⟨w1, w2, w3, w4⟩ := hW
  have hS := at_st s1
  have hb := w1.bnd
  have hn := hb.1
  have g0 := cx_0 x1
  have z1 := cz_st s1
  have z0 := cz_sx x1
  simp only [e115_0, e115_1c0, e115_1c1, e115_1c2, e115_1c3, e115_1c4, e115_1c5, e115_1c6, e115_1c7, e115_1c8, e115_1c9, e115_1c10, e115_1c11, e115_1c12, e115_1c13, e115_1c14, e115_1d, e115_76, e115_77, e115_80, e115_83, e115_84, e115_85, e115_88, e115_91, e115_92, e115_93, e115_96, e115_99, e115_100, e115_101, e115_104, e115_107, e115_108, e115_109, e115_112, e115_115, e115_116, e115_117, e115_120, e115_123, e115_124, e115_127, e115_130, e115_131, e115_132, e115_133, e115_136, e115_139, e115_140, e115_141, e115_144, e115_147, e115_148, e115_149, e115_152, e115_155, e115_156, e115_157, e115_160, e115_163, e115_164, e115_165, e115_168, e115_169, e115_172, e115_175, e115_176, e115_177, e115_180, e115_183, e115_184, e115_185, e115_188, e115_191, e115_192, e115_193, e115_196, e115_199, e115_200, e115_201, e115_204, e115_207, e115_208, e115_209, Option.bind_some, Option.toList_some, Option.toList_none, List.cons_append, List.nil_append, true_or, or_true, and_true, true_and, i10, Bool.false_eq_true, if_true, if_false, reduceIte, g0, z1, S_greatestDepth hS s2 hb] <;> rfl
theorem ca_n4 (hC : CI H σ r e len k κ w m) (hW : WF σ e len k κ) : ev (d + 20) 115 0 [some (.ref 0), some (.int 4)] [] H = some (some (.int (nI (sm (fun c => σ.2 c 0) σ.1))), H) := by
  have hC0 := hC
  obtain ⟨⟨X, x1, x2⟩, ⟨S, s1, s2, s3⟩, ⟨T, t1⟩, ⟨K, k1, k2⟩, hh, ⟨P, p1, p2⟩, ⟨R, r1⟩, ⟨F, f1⟩, ⟨Y, y1⟩, ⟨V, v1⟩, ⟨N, n1⟩⟩ := hC
  have hW0 := hW
  obtain ⟨w1, w2, w3, w4⟩ := hW
  have hS := at_st s1
  have hb := w1.bnd
  have hn := hb.1
  have g0 := cx_0 x1
  have z1 := cz_st s1
  have z0 := cz_sx x1
  simp only [e115_0, e115_1c0, e115_1c1, e115_1c2, e115_1c3, e115_1c4, e115_1c5, e115_1c6, e115_1c7, e115_1c8, e115_1c9, e115_1c10, e115_1c11, e115_1c12, e115_1c13, e115_1c14, e115_1d, e115_76, e115_77, e115_80, e115_83, e115_84, e115_85, e115_88, e115_91, e115_92, e115_93, e115_96, e115_99, e115_100, e115_101, e115_104, e115_107, e115_108, e115_109, e115_112, e115_115, e115_116, e115_117, e115_120, e115_123, e115_124, e115_127, e115_130, e115_131, e115_132, e115_133, e115_136, e115_139, e115_140, e115_141, e115_144, e115_147, e115_148, e115_149, e115_152, e115_155, e115_156, e115_157, e115_160, e115_163, e115_164, e115_165, e115_168, e115_169, e115_172, e115_175, e115_176, e115_177, e115_180, e115_183, e115_184, e115_185, e115_188, e115_191, e115_192, e115_193, e115_196, e115_199, e115_200, e115_201, e115_204, e115_207, e115_208, e115_209, Option.bind_some, Option.toList_some, Option.toList_none, List.cons_append, List.nil_append, true_or, or_true, and_true, true_and, i10, Bool.false_eq_true, if_true, if_false, reduceIte, g0, z1, S_sizes hS s2 w1] <;> rfl
theorem ca_n7 (hC : CI H σ r e len k κ w m) (hW : WF σ e len k κ) : ev (d + 20) 115 0 [some (.ref 0), some (.int 7)] [] H = some (some (.int (nI (sm (lts σ) σ.1))), H) := by
  have hC0 := hC
  obtain ⟨⟨X, x1, x2⟩, ⟨S, s1, s2, s3⟩, ⟨T, t1⟩, ⟨K, k1, k2⟩, hh, ⟨P, p1, p2⟩, ⟨R, r1⟩, ⟨F, f1⟩, ⟨Y, y1⟩, ⟨V, v1⟩, ⟨N, n1⟩⟩ := hC
  have hW0 := hW
  obtain ⟨w1, w2, w3, w4⟩ := hW
  have hS := at_st s1
  have hb := w1.bnd
  have hn := hb.1
  have g0 := cx_0 x1
  have z1 := cz_st s1
  have z0 := cz_sx x1
  simp only [e115_0, e115_1c0, e115_1c1, e115_1c2, e115_1c3, e115_1c4, e115_1c5, e115_1c6, e115_1c7, e115_1c8, e115_1c9, e115_1c10, e115_1c11, e115_1c12, e115_1c13, e115_1c14, e115_1d, e115_76, e115_77, e115_80, e115_83, e115_84, e115_85, e115_88, e115_91, e115_92, e115_93, e115_96, e115_99, e115_100, e115_101, e115_104, e115_107, e115_108, e115_109, e115_112, e115_115, e115_116, e115_117, e115_120, e115_123, e115_124, e115_127, e115_130, e115_131, e115_132, e115_133, e115_136, e115_139, e115_140, e115_141, e115_144, e115_147, e115_148, e115_149, e115_152, e115_155, e115_156, e115_157, e115_160, e115_163, e115_164, e115_165, e115_168, e115_169, e115_172, e115_175, e115_176, e115_177, e115_180, e115_183, e115_184, e115_185, e115_188, e115_191, e115_192, e115_193, e115_196, e115_199, e115_200, e115_201, e115_204, e115_207, e115_208, e115_209, Option.bind_some, Option.toList_some, Option.toList_none, List.cons_append, List.nil_append, true_or, or_true, and_true, true_and, i10, Bool.false_eq_true, if_true, if_false, reduceIte, g0, z1, S_letters hS s2 w1] <;> rfl
theorem ca_n11 (hC : CI H σ r e len k κ w m) (hW : WF σ e len k κ) : ev (d + 20) 115 0 [some (.ref 0), some (.int 11)] [] H = some (some (.int (iI (si (eft σ) σ.1))), H) := by
  have hC0 := hC
  obtain ⟨⟨X, x1, x2⟩, ⟨S, s1, s2, s3⟩, ⟨T, t1⟩, ⟨K, k1, k2⟩, hh, ⟨P, p1, p2⟩, ⟨R, r1⟩, ⟨F, f1⟩, ⟨Y, y1⟩, ⟨V, v1⟩, ⟨N, n1⟩⟩ := hC
  have hW0 := hW
  obtain ⟨w1, w2, w3, w4⟩ := hW
  have hS := at_st s1
  have hb := w1.bnd
  have hn := hb.1
  have g0 := cx_0 x1
  have z1 := cz_st s1
  have z0 := cz_sx x1
  simp only [e115_0, e115_1c0, e115_1c1, e115_1c2, e115_1c3, e115_1c4, e115_1c5, e115_1c6, e115_1c7, e115_1c8, e115_1c9, e115_1c10, e115_1c11, e115_1c12, e115_1c13, e115_1c14, e115_1d, e115_76, e115_77, e115_80, e115_83, e115_84, e115_85, e115_88, e115_91, e115_92, e115_93, e115_96, e115_99, e115_100, e115_101, e115_104, e115_107, e115_108, e115_109, e115_112, e115_115, e115_116, e115_117, e115_120, e115_123, e115_124, e115_127, e115_130, e115_131, e115_132, e115_133, e115_136, e115_139, e115_140, e115_141, e115_144, e115_147, e115_148, e115_149, e115_152, e115_155, e115_156, e115_157, e115_160, e115_163, e115_164, e115_165, e115_168, e115_169, e115_172, e115_175, e115_176, e115_177, e115_180, e115_183, e115_184, e115_185, e115_188, e115_191, e115_192, e115_193, e115_196, e115_199, e115_200, e115_201, e115_204, e115_207, e115_208, e115_209, Option.bind_some, Option.toList_some, Option.toList_none, List.cons_append, List.nil_append, true_or, or_true, and_true, true_and, i10, Bool.false_eq_true, if_true, if_false, reduceIte, g0, S_sumOfAll hS s2 w1] <;> rfl
theorem ca_n12 (hC : CI H σ r e len k κ w m) (hW : WF σ e len k κ) : ev (d + 20) 115 0 [some (.ref 0), some (.int 12)] [] H = some (some (.int (r)), H) := by
  have hC0 := hC
  obtain ⟨⟨X, x1, x2⟩, ⟨S, s1, s2, s3⟩, ⟨T, t1⟩, ⟨K, k1, k2⟩, hh, ⟨P, p1, p2⟩, ⟨R, r1⟩, ⟨F, f1⟩, ⟨Y, y1⟩, ⟨V, v1⟩, ⟨N, n1⟩⟩ := hC
  have hW0 := hW
  obtain ⟨w1, w2, w3, w4⟩ := hW
  have hS := at_st s1
  have hb := w1.bnd
  have hn := hb.1
  have g0 := cx_0 x1
  have z1 := cz_st s1
  have z0 := cz_sx x1
  simp only [e115_0, e115_1c0, e115_1c1, e115_1c2, e115_1c3, e115_1c4, e115_1c5, e115_1c6, e115_1c7, e115_1c8, e115_1c9, e115_1c10, e115_1c11, e115_1c12, e115_1c13, e115_1c14, e115_1d, e115_76, e115_77, e115_80, e115_83, e115_84, e115_85, e115_88, e115_91, e115_92, e115_93, e115_96, e115_99, e115_100, e115_101, e115_104, e115_107, e115_108, e115_109, e115_112, e115_115, e115_116, e115_117, e115_120, e115_123, e115_124, e115_127, e115_130, e115_131, e115_132, e115_133, e115_136, e115_139, e115_140, e115_141, e115_144, e115_147, e115_148, e115_149, e115_152, e115_155, e115_156, e115_157, e115_160, e115_163, e115_164, e115_165, e115_168, e115_169, e115_172, e115_175, e115_176, e115_177, e115_180, e115_183, e115_184, e115_185, e115_188, e115_191, e115_192, e115_193, e115_196, e115_199, e115_200, e115_201, e115_204, e115_207, e115_208, e115_209, Option.bind_some, Option.toList_some, Option.toList_none, List.cons_append, List.nil_append, true_or, or_true, and_true, true_and, i10, Bool.false_eq_true, if_true, if_false, reduceIte, g0, z1, S_refused hS, s3] <;> rfl
theorem ca_n10 (hC : CI H σ r e len k κ w m) (hW : WF σ e len k κ) : PV d H 115 [some (.int 10)] (nI (lgn σ)) σ r e len k κ w m := by
  have hC0 := hC
  obtain ⟨⟨X, x1, x2⟩, ⟨S, s1, s2, s3⟩, ⟨T, t1⟩, ⟨K, k1, k2⟩, hh, ⟨P, p1, p2⟩, ⟨R, r1⟩, ⟨F, f1⟩, ⟨Y, y1⟩, ⟨V, v1⟩, ⟨N, n1⟩⟩ := hC
  have hW0 := hW
  obtain ⟨w1, w2, w3, w4⟩ := hW
  have hS := at_st s1
  have hb := w1.bnd
  have hn := hb.1
  have g0 := cx_0 x1
  have z1 := cz_st s1
  have z0 := cz_sx x1
  obtain ⟨W', a1, a2⟩ := l_find (d := d + 14) (h := H) (v := 68) (i := 1) (V := N) (S := S) s2 w1 (Or.inr (by omega))
  have e1 : hst (hln H 68 W') 1 S = hln H 68 W' := at_st (at_out s1 (Or.inl (Nat.le_of_ble_eq_true rfl)))
  rw [at_ln n1, hS, e1] at a2
  refine PV_mk (H1 := hln H 68 W') (CI_ln hC0 (fun j _ a => hrg_out (by rw [ln_len]; omega)) ⟨W', at_new⟩) (CO_h (Nat.le_of_ble_eq_true rfl)) ?_
  simp only [e115_0, e115_1c0, e115_1c1, e115_1c2, e115_1c3, e115_1c4, e115_1c5, e115_1c6, e115_1c7, e115_1c8, e115_1c9, e115_1c10, e115_1c11, e115_1c12, e115_1c13, e115_1c14, e115_1d, e115_76, e115_77, e115_80, e115_83, e115_84, e115_85, e115_88, e115_91, e115_92, e115_93, e115_96, e115_99, e115_100, e115_101, e115_104, e115_107, e115_108, e115_109, e115_112, e115_115, e115_116, e115_117, e115_120, e115_123, e115_124, e115_127, e115_130, e115_131, e115_132, e115_133, e115_136, e115_139, e115_140, e115_141, e115_144, e115_147, e115_148, e115_149, e115_152, e115_155, e115_156, e115_157, e115_160, e115_163, e115_164, e115_165, e115_168, e115_169, e115_172, e115_175, e115_176, e115_177, e115_180, e115_183, e115_184, e115_185, e115_188, e115_191, e115_192, e115_193, e115_196, e115_199, e115_200, e115_201, e115_204, e115_207, e115_208, e115_209, Option.bind_some, Option.toList_some, Option.toList_none, List.cons_append, List.nil_append, true_or, or_true, and_true, true_and, i10, Bool.false_eq_true, if_true, if_false, reduceIte, cx_9 x1, g0, cz_ln n1, a2] <;> rfl
theorem ca_n13 (hC : CI H σ r e len k κ w m) (hW : WF σ e len k κ) : ev (d + 20) 115 0 [some (.ref 0), some (.int 13)] [] H = some (some (.int (nI m)), H) := by
  have hC0 := hC
  obtain ⟨⟨X, x1, x2⟩, ⟨S, s1, s2, s3⟩, ⟨T, t1⟩, ⟨K, k1, k2⟩, hh, ⟨P, p1, p2⟩, ⟨R, r1⟩, ⟨F, f1⟩, ⟨Y, y1⟩, ⟨V, v1⟩, ⟨N, n1⟩⟩ := hC
  have hW0 := hW
  obtain ⟨w1, w2, w3, w4⟩ := hW
  have hS := at_st s1
  have hb := w1.bnd
  have hn := hb.1
  have g0 := cx_0 x1
  have z1 := cz_st s1
  have z0 := cz_sx x1
  simp only [e115_0, e115_1c0, e115_1c1, e115_1c2, e115_1c3, e115_1c4, e115_1c5, e115_1c6, e115_1c7, e115_1c8, e115_1c9, e115_1c10, e115_1c11, e115_1c12, e115_1c13, e115_1c14, e115_1d, e115_76, e115_77, e115_80, e115_83, e115_84, e115_85, e115_88, e115_91, e115_92, e115_93, e115_96, e115_99, e115_100, e115_101, e115_104, e115_107, e115_108, e115_109, e115_112, e115_115, e115_116, e115_117, e115_120, e115_123, e115_124, e115_127, e115_130, e115_131, e115_132, e115_133, e115_136, e115_139, e115_140, e115_141, e115_144, e115_147, e115_148, e115_149, e115_152, e115_155, e115_156, e115_157, e115_160, e115_163, e115_164, e115_165, e115_168, e115_169, e115_172, e115_175, e115_176, e115_177, e115_180, e115_183, e115_184, e115_185, e115_188, e115_191, e115_192, e115_193, e115_196, e115_199, e115_200, e115_201, e115_204, e115_207, e115_208, e115_209, Option.bind_some, Option.toList_some, Option.toList_none, List.cons_append, List.nil_append, true_or, or_true, and_true, true_and, i10, Bool.false_eq_true, if_true, if_false, reduceIte, cx_5 x1, cz_pd p1, P_length p1 p2]
theorem ca_n14 (hC : CI H σ r e len k κ w m) (hW : WF σ e len k κ) : ev (d + 20) 115 0 [some (.ref 0), some (.int 14)] [] H = some (some (.int (nI len)), H) := by
  have hC0 := hC
  obtain ⟨⟨X, x1, x2⟩, ⟨S, s1, s2, s3⟩, ⟨T, t1⟩, ⟨K, k1, k2⟩, hh, ⟨P, p1, p2⟩, ⟨R, r1⟩, ⟨F, f1⟩, ⟨Y, y1⟩, ⟨V, v1⟩, ⟨N, n1⟩⟩ := hC
  have hW0 := hW
  obtain ⟨w1, w2, w3, w4⟩ := hW
  have hS := at_st s1
  have hb := w1.bnd
  have hn := hb.1
  have g0 := cx_0 x1
  have z1 := cz_st s1
  have z0 := cz_sx x1
  obtain ⟨-, Q, qq, hq, -⟩ := hh
  have zh := hs_is hq
  simp only [e115_0, e115_1c0, e115_1c1, e115_1c2, e115_1c3, e115_1c4, e115_1c5, e115_1c6, e115_1c7, e115_1c8, e115_1c9, e115_1c10, e115_1c11, e115_1c12, e115_1c13, e115_1c14, e115_1d, e115_76, e115_77, e115_80, e115_83, e115_84, e115_85, e115_88, e115_91, e115_92, e115_93, e115_96, e115_99, e115_100, e115_101, e115_104, e115_107, e115_108, e115_109, e115_112, e115_115, e115_116, e115_117, e115_120, e115_123, e115_124, e115_127, e115_130, e115_131, e115_132, e115_133, e115_136, e115_139, e115_140, e115_141, e115_144, e115_147, e115_148, e115_149, e115_152, e115_155, e115_156, e115_157, e115_160, e115_163, e115_164, e115_165, e115_168, e115_169, e115_172, e115_175, e115_176, e115_177, e115_180, e115_183, e115_184, e115_185, e115_188, e115_191, e115_192, e115_193, e115_196, e115_199, e115_200, e115_201, e115_204, e115_207, e115_208, e115_209, Option.bind_some, Option.toList_some, Option.toList_none, List.cons_append, List.nil_append, true_or, or_true, and_true, true_and, i10, Bool.false_eq_true, if_true, if_false, reduceIte, cx_4 x1, zh, X_length hq]
theorem ca_ifT {u : Nat} (hc : c < σ.1) (hu : u ≤ 1) (hC : CI H σ r e len k κ w m) (hW : WF σ e len k κ) : PV d H 116 [some (.int (nI c)), some (.int (nI u))] (nI (if u = 0 then ltn σ c else ct (tld (trd σ c)) σ.1)) σ r e len k κ w m := by
  have hC0 := hC
  obtain ⟨⟨X, x1, x2⟩, ⟨S, s1, s2, s3⟩, ⟨T, t1⟩, ⟨K, k1, k2⟩, hh, ⟨P, p1, p2⟩, ⟨R, r1⟩, ⟨F, f1⟩, ⟨Y, y1⟩, ⟨V, v1⟩, ⟨N, n1⟩⟩ := hC
  have hW0 := hW
  obtain ⟨w1, w2, w3, w4⟩ := hW
  have hS := at_st s1
  have hb := w1.bnd
  have hn := hb.1
  have g0 := cx_0 x1
  have z1 := cz_st s1
  have z0 := cz_sx x1
  obtain ⟨T', V', b1, b2⟩ := c_vt (d := d + 13) x1 s1 t1 v1 s2 w1 hc
  have hV : hvw (hvw (hst H 8 T') 64 V') 64 V' = hvw (hst H 8 T') 64 V' := at_vw at_new
  have zv : zis (hvw (hst H 8 T') 64 V') 64 6 = true := cz_vw at_new
  have hbt := (trd_wf w1 (c := c)).bnd
  refine PV_mk (CI_vt hC0 T' V') (CO_vt T' V') ?_
  have h2 : u = 0 ∨ u = 1 := by omega
  rcases h2 with z | z <;> subst z
  · rw [if_pos rfl, show nI 0 = 0 from rfl]
    simp only [e116_0, e116_1, e116_4, e116_5, e116_8, e116_11, e116_12, e116_13, e116_14c0, e116_14c1, e116_14d, e116_40, e116_41, e116_42, e116_45, e116_48, e116_49, e116_50, e116_51, e116_54, e116_57, e116_58, e116_59, Option.bind_some, Option.toList_some, Option.toList_none, List.cons_append, List.nil_append, true_or, or_true, and_true, true_and, i10, Bool.false_eq_true, if_true, if_false, reduceIte, g0, z0, z1, S_isCrate_k hS s2 hb hc, b2, zv, V_lettersSeen hV b1 hbt]
    rfl
  · rw [if_neg (by decide), show nI 1 = 1 from rfl]
    simp only [e116_0, e116_1, e116_4, e116_5, e116_8, e116_11, e116_12, e116_13, e116_14c0, e116_14c1, e116_14d, e116_40, e116_41, e116_42, e116_45, e116_48, e116_49, e116_50, e116_51, e116_54, e116_57, e116_58, e116_59, Option.bind_some, Option.toList_some, Option.toList_none, List.cons_append, List.nil_append, true_or, or_true, and_true, true_and, i10, Bool.false_eq_true, if_true, if_false, reduceIte, g0, z0, z1, S_isCrate_k hS s2 hb hc, b2, zv, V_tellable hV b1 hbt]
    rfl
theorem ca_ifT0 (q : zin x σ.1 = false) (hC : CI H σ r e len k κ w m) (hW : WF σ e len k κ) : ev (d + 20) 116 0 [some (.ref 0), some (.int x), some (.int y)] [] H = some (some (.int (-1)), H) := by
  have hC0 := hC
  obtain ⟨⟨X, x1, x2⟩, ⟨S, s1, s2, s3⟩, ⟨T, t1⟩, ⟨K, k1, k2⟩, hh, ⟨P, p1, p2⟩, ⟨R, r1⟩, ⟨F, f1⟩, ⟨Y, y1⟩, ⟨V, v1⟩, ⟨N, n1⟩⟩ := hC
  have hW0 := hW
  obtain ⟨w1, w2, w3, w4⟩ := hW
  have hS := at_st s1
  have hb := w1.bnd
  have hn := hb.1
  have g0 := cx_0 x1
  have z1 := cz_st s1
  have z0 := cz_sx x1
  simp only [e116_0, e116_1, e116_4, e116_5, e116_8, e116_11, e116_12, e116_13, e116_14c0, e116_14c1, e116_14d, e116_40, e116_41, e116_42, e116_45, e116_48, e116_49, e116_50, e116_51, e116_54, e116_57, e116_58, e116_59, Option.bind_some, Option.toList_some, Option.toList_none, List.cons_append, List.nil_append, true_or, or_true, and_true, true_and, i10, Bool.false_eq_true, if_true, if_false, reduceIte, g0, z1, S_isC0 hS s2 hn q]
theorem ca_best (hC : CI H σ r e len k κ w m) (hW : WF σ e len k κ) : PV d H 117 [none, none, none, none] (cB (btn σ)) σ r e len k κ w m := by
  have hC0 := hC
  obtain ⟨⟨X, x1, x2⟩, ⟨S, s1, s2, s3⟩, ⟨T, t1⟩, ⟨K, k1, k2⟩, hh, ⟨P, p1, p2⟩, ⟨R, r1⟩, ⟨F, f1⟩, ⟨Y, y1⟩, ⟨V, v1⟩, ⟨N, n1⟩⟩ := hC
  have hW0 := hW
  obtain ⟨w1, w2, w3, w4⟩ := hW
  have hS := at_st s1
  have hb := w1.bnd
  have hn := hb.1
  have g0 := cx_0 x1
  have z1 := cz_st s1
  have z0 := cz_sx x1
  have main : ∀ (f i : Nat) (s : Nat × Int) (A B : oS) (z : Option Value), i + f = σ.1 → (-1 ≤ s.2 ∧ s.2 ≤ 60) → s = zfold (bts σ) i (0, -1) → ∃ A' B', ev (d + 20) 117 7 [some (.ref 0), some (.int (cB s.1)), some (.int (iI s.2)), some (.int (nI i)), z] [] (hvw (hst H 8 A) 64 B) = some (some (.int (cB (btn σ))), hvw (hst H 8 A') 64 B') := by
    intro f
    induction f with
    | zero =>
      intro i s A B z hi hs he
      have hi : i = σ.1 := by omega
      subst hi
      have sA : at_ (hst H 8 A) 1 (stL 1 S) := at_out s1 (Or.inl (Nat.le_of_ble_eq_true rfl))
      have sB : at_ (hvw (hst H 8 A) 64 B) 1 (stL 1 S) := at_out sA (Or.inl (Nat.le_of_ble_eq_true rfl))
      have xA : at_ (hst H 8 A) 0 (sxL 0 X) := at_out x1 (Or.inl (Nat.le_of_ble_eq_true rfl))
      have xB : at_ (hvw (hst H 8 A) 64 B) 0 (sxL 0 X) := at_out xA (Or.inl (Nat.le_of_ble_eq_true rfl))
      refine ⟨A, B, ?_⟩
      rw [e117_7]
      simp only [e117_0, e117_2, e117_3, e117_4, e117_5, e117_6, e117_8, e117_9, e117_12, e117_15, e117_18, e117_19, e117_20, e117_23, e117_26, e117_28, e117_30, e117_31, e117_34, e117_36, e117_37, e117_38, e117_39, e117_42, e117_45, e117_46, Option.bind_some, Option.toList_some, Option.toList_none, List.cons_append, List.nil_append, true_or, or_true, and_true, true_and, i10, Bool.false_eq_true, if_true, if_false, reduceIte, cx_0 xB, cz_st sB, S_crates (at_st sB) s2, Int32.le_refl]
      rw [he]
      rfl
    | succ f ih =>
      intro i s A B z hi hs he
      have hi2 : i < σ.1 := by omega
      have e0 : (nI σ.1 ≤ nI i) = False := (nI_lep (by omega) (by omega)).trans (eq_false (by omega))
      have sA : at_ (hst H 8 A) 1 (stL 1 S) := at_out s1 (Or.inl (Nat.le_of_ble_eq_true rfl))
      have sB : at_ (hvw (hst H 8 A) 64 B) 1 (stL 1 S) := at_out sA (Or.inl (Nat.le_of_ble_eq_true rfl))
      have xA : at_ (hst H 8 A) 0 (sxL 0 X) := at_out x1 (Or.inl (Nat.le_of_ble_eq_true rfl))
      have xB : at_ (hvw (hst H 8 A) 64 B) 0 (sxL 0 X) := at_out xA (Or.inl (Nat.le_of_ble_eq_true rfl))
      have tA : at_ (hst H 8 A) 8 (stL 8 A) := at_new
      have tB : at_ (hvw (hst H 8 A) 64 B) 8 (stL 8 A) := at_out tA (Or.inl (Nat.le_of_ble_eq_true rfl))
      have vB : at_ (hvw (hst H 8 A) 64 B) 64 (vwL 64 B) := at_new
      obtain ⟨T', V', b1, b2⟩ := c_vt (d := d + 13) xB sB tB vB s2 w1 hi2
      have e1 : hvw (hst (hvw (hst H 8 A) 64 B) 8 T') 64 V' = hvw (hst H 8 T') 64 V' := by
        have q1 : hst (hvw (hst H 8 A) 64 B) 8 T' = hvw (hst H 8 T') 64 B := by
          refine (hrg_comm (h := hst H 8 A) (i := 64) (j := 8) (l := vwL 64 B) (m := stL 8 T') (Or.inr (Nat.le_of_ble_eq_true rfl))).trans ?_
          exact congrArg (fun z => hrg z 64 (vwL 64 B)) (hrg_hrg rfl)
        rw [q1]
        exact hrg_hrg rfl
      rw [e1] at b2
      have hV : hvw (hvw (hst H 8 T') 64 V') 64 V' = hvw (hst H 8 T') 64 V' := at_vw at_new
      have zv : zis (hvw (hst H 8 T') 64 V') 64 6 = true := cz_vw at_new
      have hbt := (trd_wf w1 (c := i)).bnd
      have ls : ev (d + 19) 88 0 [some (.ref 64), none, none] [] (hvw (hst H 8 T') 64 V') = some (some (.int (nI (ltn σ i))), hvw (hst H 8 T') 64 V') := V_lettersSeen hV b1 hbt
      have hl := ltn_b hn (c := i)
      rw [iI_nat (ltn σ i)] at ls
      have e3 : (iI (ltn σ i : Int) ≤ iI s.2) = ((ltn σ i : Int) ≤ s.2) := iI_le (by omega) (by omega)
      have e4 : (iI s.2 < iI (ltn σ i : Int)) = (s.2 < (ltn σ i : Int)) := iI_lt (by omega) (by omega)
      by_cases q : s.2 < (ltn σ i : Int)
      · have nx : bts σ i s = (i + 1, (ltn σ i : Int)) := if_pos q
        obtain ⟨A', B', c1⟩ := ih (i + 1) (i + 1, (ltn σ i : Int)) T' V' (some (.int (iI (ltn σ i : Int)))) (by omega) (by dsimp only; omega) (by rw [zfold, ← he, nx])
        refine ⟨A', B', ?_⟩
        rw [e117_7]
        simp only [e117_0, e117_2, e117_3, e117_4, e117_5, e117_6, e117_8, e117_9, e117_12, e117_15, e117_18, e117_19, e117_20, e117_23, e117_26, e117_28, e117_30, e117_31, e117_34, e117_36, e117_37, e117_38, e117_39, e117_42, e117_45, e117_46, Option.bind_some, Option.toList_some, Option.toList_none, List.cons_append, List.nil_append, true_or, or_true, and_true, true_and, i10, Bool.false_eq_true, if_true, if_false, reduceIte, cx_0 xB, cz_st sB, cz_sx xB, S_crates (at_st sB) s2, e0, b2, zv, ls, e3, e4, eq_true q, eq_false (show ¬ (ltn σ i : Int) ≤ s.2 by omega), nI_1]
        exact c1
      · have nx : bts σ i s = s := if_neg q
        obtain ⟨A', B', c1⟩ := ih (i + 1) s T' V' (some (.int (iI (ltn σ i : Int)))) (by omega) hs (by rw [zfold, ← he, nx])
        refine ⟨A', B', ?_⟩
        rw [e117_7]
        simp only [e117_0, e117_2, e117_3, e117_4, e117_5, e117_6, e117_8, e117_9, e117_12, e117_15, e117_18, e117_19, e117_20, e117_23, e117_26, e117_28, e117_30, e117_31, e117_34, e117_36, e117_37, e117_38, e117_39, e117_42, e117_45, e117_46, Option.bind_some, Option.toList_some, Option.toList_none, List.cons_append, List.nil_append, true_or, or_true, and_true, true_and, i10, Bool.false_eq_true, if_true, if_false, reduceIte, cx_0 xB, cz_st sB, cz_sx xB, S_crates (at_st sB) s2, e0, b2, zv, ls, e3, e4, eq_false q, eq_true (show (ltn σ i : Int) ≤ s.2 by omega), nI_1]
        exact c1
  obtain ⟨A', B', c1⟩ := main σ.1 0 (0, -1) T V none (by omega) ⟨by decide, by decide⟩ rfl
  have e1 : hvw (hst H 8 T) 64 V = H := by rw [at_st t1]; exact at_vw v1
  rw [e1] at c1
  refine PV_mk (CI_vt hC0 A' B') (CO_vt A' B') ?_
  simp only [e117_0, e117_2, e117_3, e117_4, e117_5, e117_6, e117_8, e117_9, e117_12, e117_15, e117_18, e117_19, e117_20, e117_23, e117_26, e117_28, e117_30, e117_31, e117_34, e117_36, e117_37, e117_38, e117_39, e117_42, e117_45, e117_46, Option.bind_some, Option.toList_some, Option.toList_none, List.cons_append, List.nil_append, true_or, or_true, and_true, true_and, i10, Bool.false_eq_true, if_true, if_false, reduceIte]
  exact c1
theorem ca_sign0 (q : zin x σ.1 = false) (hC : CI H σ r e len k κ w m) (hW : WF σ e len k κ) : ev (d + 20) 107 0 [some (.ref 0), some (.int x), some (.int y)] [] H = some (some (.int (-1)), H) := by
  have hC0 := hC
  obtain ⟨⟨X, x1, x2⟩, ⟨S, s1, s2, s3⟩, ⟨T, t1⟩, ⟨K, k1, k2⟩, hh, ⟨P, p1, p2⟩, ⟨R, r1⟩, ⟨F, f1⟩, ⟨Y, y1⟩, ⟨V, v1⟩, ⟨N, n1⟩⟩ := hC
  have hW0 := hW
  obtain ⟨w1, w2, w3, w4⟩ := hW
  have hS := at_st s1
  have hb := w1.bnd
  have hn := hb.1
  have g0 := cx_0 x1
  have z1 := cz_st s1
  have z0 := cz_sx x1
  simp only [e107_0, e107_1, e107_4, e107_5, e107_8, e107_11, e107_12, e107_15, e107_16, e107_17, e107_18, e107_21, e107_22, e107_25, e107_26, e107_29, e107_30, e107_33, e107_34, e107_37, Option.bind_some, Option.toList_some, Option.toList_none, List.cons_append, List.nil_append, true_or, or_true, and_true, true_and, i10, Bool.false_eq_true, if_true, if_false, reduceIte, g0, z1, S_isC0 hS s2 hn q]
theorem ca_sign1 (hc : c < σ.1) (q2 : y < 0) (hC : CI H σ r e len k κ w m) (hW : WF σ e len k κ) : ev (d + 20) 107 0 [some (.ref 0), some (.int (nI c)), some (.int y)] [] H = some (some (.int (-1)), H) := by
  have hC0 := hC
  obtain ⟨⟨X, x1, x2⟩, ⟨S, s1, s2, s3⟩, ⟨T, t1⟩, ⟨K, k1, k2⟩, hh, ⟨P, p1, p2⟩, ⟨R, r1⟩, ⟨F, f1⟩, ⟨Y, y1⟩, ⟨V, v1⟩, ⟨N, n1⟩⟩ := hC
  have hW0 := hW
  obtain ⟨w1, w2, w3, w4⟩ := hW
  have hS := at_st s1
  have hb := w1.bnd
  have hn := hb.1
  have g0 := cx_0 x1
  have z1 := cz_st s1
  have z0 := cz_sx x1
  have q2' : ¬ 0 ≤ y := Int32.not_le.mpr q2
  simp only [e107_0, e107_1, e107_4, e107_5, e107_8, e107_11, e107_12, e107_15, e107_16, e107_17, e107_18, e107_21, e107_22, e107_25, e107_26, e107_29, e107_30, e107_33, e107_34, e107_37, Option.bind_some, Option.toList_some, Option.toList_none, List.cons_append, List.nil_append, true_or, or_true, and_true, true_and, i10, Bool.false_eq_true, if_true, if_false, reduceIte, g0, z1, S_isCrate_k hS s2 hb hc, eq_true q2, eq_false q2']
theorem ca_sign (hc : c < σ.1) (q2 : ¬ y < 0) (hC : CI H σ r e len k κ w m) (hW : WF σ e len k κ) : PV d H 107 [some (.int (nI c)), some (.int y)] (sgv (wrt σ 12 c) y) σ r e len k κ w m := by
  have hC0 := hC
  obtain ⟨⟨X, x1, x2⟩, ⟨S, s1, s2, s3⟩, ⟨T, t1⟩, ⟨K, k1, k2⟩, hh, ⟨P, p1, p2⟩, ⟨R, r1⟩, ⟨F, f1⟩, ⟨Y, y1⟩, ⟨V, v1⟩, ⟨N, n1⟩⟩ := hC
  have hW0 := hW
  obtain ⟨w1, w2, w3, w4⟩ := hW
  have hS := at_st s1
  have hb := w1.bnd
  have hn := hb.1
  have g0 := cx_0 x1
  have z1 := cz_st s1
  have z0 := cz_sx x1
  have q2' : 0 ≤ y := Int32.not_lt.mp q2
  obtain ⟨W', a1, a2⟩ := w_write (d := d + 2) (h := H) (v := 62) (i := 1) (V := Y) (S := S) (Or.inr (by omega)) s2 w1 hc
  have e1 : hst (hnw H 62 W') 1 S = hnw H 62 W' := at_st (at_out s1 (Or.inl (Nat.le_of_ble_eq_true rfl)))
  rw [at_nw y1, hS, e1] at a2
  have hlen := wrt_len w1 (f := 12) hc
  have sg := w_signAt (d := d + 19) (h := hnw H 62 W') (v := 62) a1 (by omega) (x := y)
  have e2 : hnw (hnw H 62 W') 62 W' = hnw H 62 W' := at_nw at_new
  rw [e2] at sg
  have g7 : zgetf (hnw H 62 W') 0 7 7 = some (.ref 62) := cx_7 (at_out x1 (Or.inl (Nat.le_of_ble_eq_true rfl)))
  have zn : zis (hnw H 62 W') 62 3 = true := cz_nw at_new
  refine PV_mk (H1 := hnw H 62 W') (CI_nw hC0 (fun j _ a => hrg_out (by rw [nw_len]; omega)) ⟨W', at_new⟩) (CO_h (Nat.le_of_ble_eq_true rfl)) ?_
  simp only [e107_0, e107_1, e107_4, e107_5, e107_8, e107_11, e107_12, e107_15, e107_16, e107_17, e107_18, e107_21, e107_22, e107_25, e107_26, e107_29, e107_30, e107_33, e107_34, e107_37, Option.bind_some, Option.toList_some, Option.toList_none, List.cons_append, List.nil_append, true_or, or_true, and_true, true_and, i10, Bool.false_eq_true, if_true, if_false, reduceIte, g0, z1, S_isCrate_k hS s2 hb hc, eq_false q2, eq_true q2', cx_7 x1, cz_nw y1, a2, g7, zn, sg]
theorem ca_fault (hC : CI H σ r e len k κ w m) (hW : WF σ e len k κ) : PV d H 105 [] (rdv m (rnn w m 0 s00)) σ r e len k κ w m := by
  have hC0 := hC
  obtain ⟨⟨X, x1, x2⟩, ⟨S, s1, s2, s3⟩, ⟨T, t1⟩, ⟨K, k1, k2⟩, hh, ⟨P, p1, p2⟩, ⟨R, r1⟩, ⟨F, f1⟩, ⟨Y, y1⟩, ⟨V, v1⟩, ⟨N, n1⟩⟩ := hC
  have hW0 := hW
  obtain ⟨w1, w2, w3, w4⟩ := hW
  have hS := at_st s1
  have hb := w1.bnd
  have hn := hb.1
  have g0 := cx_0 x1
  have z1 := cz_st s1
  have z0 := cz_sx x1
  obtain ⟨R', F', a1, a2⟩ := c_read (d := d + 13) x1 p1 p2 r1 f1
  refine PV_mk (CI_rdr hC0 R' F') (CO_rdr R' F') ?_
  simp only [e105_0, e105_1, e105_4, e105_5, e105_8, e105_11, Option.bind_some, Option.toList_some, Option.toList_none, List.cons_append, List.nil_append, true_or, or_true, and_true, true_and, i10, Bool.false_eq_true, if_true, if_false, reduceIte, cx_6 x1, cx_5 x1, cz_rd r1, a2]
theorem ca_alike {x1 x2 x3 x4 : Int32} (q : wnt x1 ∧ wnt x2 ∧ wnt x3 ∧ wnt x4) (hC : CI H σ r e len k κ w m) (hW : WF σ e len k κ) : PV d H 113 [some (.int x1), some (.int x2), some (.int x3), some (.int x4), none, none] (nI (ct (alk σ x1 x2 x3 x4) σ.1)) σ r e len k κ w m := by
  have hC0 := hC
  obtain ⟨⟨X, u1, u2⟩, ⟨S, s1, s2, s3⟩, ⟨T, t1⟩, ⟨K, k1, k2⟩, hh, ⟨P, p1, p2⟩, ⟨R, r1⟩, ⟨F, f1⟩, ⟨Y, y1⟩, ⟨V, v1⟩, ⟨N, n1⟩⟩ := hC
  have hW0 := hW
  obtain ⟨w1, w2, w3, w4⟩ := hW
  have hS := at_st s1
  have hb := w1.bnd
  have hn := hb.1
  have g0 := cx_0 u1
  have z1 := cz_st s1
  have z0 := cz_sx u1
  obtain ⟨V', b1, b2⟩ := c_view (d := d + 13) u1 s1 v1 s2 hb
  have xB : at_ (hvw H 64 V') 0 (sxL 0 X) := at_out u1 (Or.inl (Nat.le_of_ble_eq_true rfl))
  have sB : at_ (hvw H 64 V') 1 (stL 1 S) := at_out s1 (Or.inl (Nat.le_of_ble_eq_true rfl))
  have hV : hvw (hvw H 64 V') 64 V' = hvw H 64 V' := at_vw at_new
  have zv : zis (hvw H 64 V') 64 6 = true := cz_vw at_new
  have g0' := cx_0 xB
  have g8' := cx_8 xB
  have zs' := cz_st sB
  have nc : ∀ d, ev d 38 0 [some (.ref 1)] [] (hvw H 64 V') = some (some (.int (nI σ.1)), hvw H 64 V') := fun d => S_crates (at_st sB) s2
  have step : ∀ (a s : Nat), a < σ.1 → ev (d + 20) 113 42 [some (.ref 0), some (.int x1), some (.int x2), some (.int x3), some (.int x4), some (.int (nI s)), some (.int (nI a))] [] (hvw H 64 V') = ev (d + 20) 113 42 [some (.ref 0), some (.int x1), some (.int x2), some (.int x3), some (.int x4), some (.int (nI (s + if alk σ x1 x2 x3 x4 a then 1 else 0))), some (.int (nI (a + 1)))] [] (hvw H 64 V') := by
    intro a s ha
    have hlt : (σ.1 ≤ a) = False := eq_false (by omega)
    have a1 := V_shows (d := d + 17) hV b1 hb ha (p := 0) (by decide) (x := x1)
    have a2 := V_shows (d := d + 17) hV b1 hb ha (p := 1) (by decide) (x := x2)
    have a3 := V_shows (d := d + 17) hV b1 hb ha (p := 2) (by decide) (x := x3)
    have a4 := V_shows (d := d + 17) hV b1 hb ha (p := 3) (by decide) (x := x4)
    rw [show nI 0 = 0 from rfl] at a1
    rw [show nI 1 = 1 from rfl] at a2
    rw [show nI 2 = 2 from rfl] at a3
    rw [show nI 3 = 3 from rfl] at a4
    rw [e113_42]
    unfold alk
    by_cases q1 : x1 = 28 ∨ nI (sgn σ a 0) = x1
    · rw [bI_t q1] at a1
      rw [decide_eq_true q1]
      by_cases q2 : x2 = 28 ∨ nI (sgn σ a 1) = x2
      · rw [bI_t q2] at a2
        rw [decide_eq_true q2]
        by_cases q3 : x3 = 28 ∨ nI (sgn σ a 2) = x3
        · rw [bI_t q3] at a3
          rw [decide_eq_true q3]
          by_cases q4 : x4 = 28 ∨ nI (sgn σ a 3) = x4
          · rw [bI_t q4] at a4
            rw [decide_eq_true q4]
            simp only [e113_0, e113_1, e113_4, e113_7, e113_8, e113_11, e113_14, e113_15, e113_18, e113_21, e113_23, e113_26, e113_29, e113_30, e113_31, e113_32, e113_35, e113_36, e113_37, e113_39, e113_40, e113_44, e113_45, e113_48, e113_51, e113_54, e113_55, e113_58, e113_60, e113_61, e113_62, e113_65, e113_68, e113_69, e113_72, e113_74, e113_75, e113_76, e113_79, e113_82, e113_83, e113_86, e113_88, e113_89, e113_90, e113_93, e113_96, e113_97, e113_100, e113_102, e113_103, e113_105, e113_108, e113_111, e113_114, e113_117, e113_120, e113_122, Option.bind_some, Option.toList_some, Option.toList_none, List.cons_append, List.nil_append, true_or, or_true, and_true, true_and, i10, Bool.false_eq_true, if_true, if_false, reduceIte, g0', g8', zs', zv, nc, nI_lep (show σ.1 < 2147483648 by omega) (show a < 2147483648 by omega), hlt, nI_1, a1, a2, a3, a4, Bool.and_self]
          · rw [bI_f q4] at a4
            rw [decide_eq_false q4]
            simp only [e113_0, e113_1, e113_4, e113_7, e113_8, e113_11, e113_14, e113_15, e113_18, e113_21, e113_23, e113_26, e113_29, e113_30, e113_31, e113_32, e113_35, e113_36, e113_37, e113_39, e113_40, e113_44, e113_45, e113_48, e113_51, e113_54, e113_55, e113_58, e113_60, e113_61, e113_62, e113_65, e113_68, e113_69, e113_72, e113_74, e113_75, e113_76, e113_79, e113_82, e113_83, e113_86, e113_88, e113_89, e113_90, e113_93, e113_96, e113_97, e113_100, e113_102, e113_103, e113_105, e113_108, e113_111, e113_114, e113_117, e113_120, e113_122, Option.bind_some, Option.toList_some, Option.toList_none, List.cons_append, List.nil_append, true_or, or_true, and_true, true_and, i10, Bool.false_eq_true, if_true, if_false, reduceIte, g0', g8', zs', zv, nc, nI_lep (show σ.1 < 2147483648 by omega) (show a < 2147483648 by omega), hlt, nI_1, a1, a2, a3, a4, Bool.and_false, Nat.add_zero]
        · rw [bI_f q3] at a3
          rw [decide_eq_false q3]
          simp only [e113_0, e113_1, e113_4, e113_7, e113_8, e113_11, e113_14, e113_15, e113_18, e113_21, e113_23, e113_26, e113_29, e113_30, e113_31, e113_32, e113_35, e113_36, e113_37, e113_39, e113_40, e113_44, e113_45, e113_48, e113_51, e113_54, e113_55, e113_58, e113_60, e113_61, e113_62, e113_65, e113_68, e113_69, e113_72, e113_74, e113_75, e113_76, e113_79, e113_82, e113_83, e113_86, e113_88, e113_89, e113_90, e113_93, e113_96, e113_97, e113_100, e113_102, e113_103, e113_105, e113_108, e113_111, e113_114, e113_117, e113_120, e113_122, Option.bind_some, Option.toList_some, Option.toList_none, List.cons_append, List.nil_append, true_or, or_true, and_true, true_and, i10, Bool.false_eq_true, if_true, if_false, reduceIte, g0', g8', zs', zv, nc, nI_lep (show σ.1 < 2147483648 by omega) (show a < 2147483648 by omega), hlt, nI_1, a1, a2, a3, Bool.and_false, Bool.false_and, Nat.add_zero]
      · rw [bI_f q2] at a2
        rw [decide_eq_false q2]
        simp only [e113_0, e113_1, e113_4, e113_7, e113_8, e113_11, e113_14, e113_15, e113_18, e113_21, e113_23, e113_26, e113_29, e113_30, e113_31, e113_32, e113_35, e113_36, e113_37, e113_39, e113_40, e113_44, e113_45, e113_48, e113_51, e113_54, e113_55, e113_58, e113_60, e113_61, e113_62, e113_65, e113_68, e113_69, e113_72, e113_74, e113_75, e113_76, e113_79, e113_82, e113_83, e113_86, e113_88, e113_89, e113_90, e113_93, e113_96, e113_97, e113_100, e113_102, e113_103, e113_105, e113_108, e113_111, e113_114, e113_117, e113_120, e113_122, Option.bind_some, Option.toList_some, Option.toList_none, List.cons_append, List.nil_append, true_or, or_true, and_true, true_and, i10, Bool.false_eq_true, if_true, if_false, reduceIte, g0', g8', zs', zv, nc, nI_lep (show σ.1 < 2147483648 by omega) (show a < 2147483648 by omega), hlt, nI_1, a1, a2, Bool.and_false, Bool.false_and, Nat.add_zero]
    · rw [bI_f q1] at a1
      rw [decide_eq_false q1]
      simp only [e113_0, e113_1, e113_4, e113_7, e113_8, e113_11, e113_14, e113_15, e113_18, e113_21, e113_23, e113_26, e113_29, e113_30, e113_31, e113_32, e113_35, e113_36, e113_37, e113_39, e113_40, e113_44, e113_45, e113_48, e113_51, e113_54, e113_55, e113_58, e113_60, e113_61, e113_62, e113_65, e113_68, e113_69, e113_72, e113_74, e113_75, e113_76, e113_79, e113_82, e113_83, e113_86, e113_88, e113_89, e113_90, e113_93, e113_96, e113_97, e113_100, e113_102, e113_103, e113_105, e113_108, e113_111, e113_114, e113_117, e113_120, e113_122, Option.bind_some, Option.toList_some, Option.toList_none, List.cons_append, List.nil_append, true_or, or_true, and_true, true_and, i10, Bool.false_eq_true, if_true, if_false, reduceIte, g0', g8', zs', zv, nc, nI_lep (show σ.1 < 2147483648 by omega) (show a < 2147483648 by omega), hlt, nI_1, a1, Bool.false_and, Nat.add_zero]
  have fin : ∀ s : Nat, ev (d + 20) 113 42 [some (.ref 0), some (.int x1), some (.int x2), some (.int x3), some (.int x4), some (.int (nI s)), some (.int (nI σ.1))] [] (hvw H 64 V') = some (some (.int (nI s)), hvw H 64 V') := by
    intro s
    rw [e113_42]
    simp only [e113_0, e113_1, e113_4, e113_7, e113_8, e113_11, e113_14, e113_15, e113_18, e113_21, e113_23, e113_26, e113_29, e113_30, e113_31, e113_32, e113_35, e113_36, e113_37, e113_39, e113_40, e113_44, e113_45, e113_48, e113_51, e113_54, e113_55, e113_58, e113_60, e113_61, e113_62, e113_65, e113_68, e113_69, e113_72, e113_74, e113_75, e113_76, e113_79, e113_82, e113_83, e113_86, e113_88, e113_89, e113_90, e113_93, e113_96, e113_97, e113_100, e113_102, e113_103, e113_105, e113_108, e113_111, e113_114, e113_117, e113_120, e113_122, Option.bind_some, Option.toList_some, Option.toList_none, List.cons_append, List.nil_append, true_or, or_true, and_true, true_and, i10, Bool.false_eq_true, if_true, if_false, reduceIte, g0', zs', nc, Int32.le_refl]
  have main := z_for (fun (a : Nat) (s : Nat) => ev (d + 20) 113 42 [some (.ref 0), some (.int x1), some (.int x2), some (.int x3), some (.int x4), some (.int (nI s)), some (.int (nI a))] [] (hvw H 64 V')) (fun (a : Nat) (s : Nat) => s + if alk σ x1 x2 x3 x4 a then 1 else 0) (n := σ.1) (s := 0) (fun a s ha => step a s ha)
  rw [zfold_ct, Nat.zero_add, fin] at main
  refine PV_mk (CI_view hC0 V') (CO_vw V') ?_
  obtain ⟨q1, q2, q3, q4⟩ := q
  unfold wnt at q1 q2 q3 q4
  simp only [e113_0, e113_1, e113_4, e113_7, e113_8, e113_11, e113_14, e113_15, e113_18, e113_21, e113_23, e113_26, e113_29, e113_30, e113_31, e113_32, e113_35, e113_36, e113_37, e113_39, e113_40, e113_44, e113_45, e113_48, e113_51, e113_54, e113_55, e113_58, e113_60, e113_61, e113_62, e113_65, e113_68, e113_69, e113_72, e113_74, e113_75, e113_76, e113_79, e113_82, e113_83, e113_86, e113_88, e113_89, e113_90, e113_93, e113_96, e113_97, e113_100, e113_102, e113_103, e113_105, e113_108, e113_111, e113_114, e113_117, e113_120, e113_122, Option.bind_some, Option.toList_some, Option.toList_none, List.cons_append, List.nil_append, true_or, or_true, and_true, true_and, i10, Bool.false_eq_true, if_true, if_false, reduceIte, c_isW, bI_t q1, bI_t q2, bI_t q3, bI_t q4, z0, b2]
  exact main
theorem ca_alike0 {x1 x2 x3 x4 : Int32} (q : ¬ (wnt x1 ∧ wnt x2 ∧ wnt x3 ∧ wnt x4)) (hC : CI H σ r e len k κ w m) (hW : WF σ e len k κ) : ev (d + 20) 113 0 [some (.ref 0), some (.int x1), some (.int x2), some (.int x3), some (.int x4), none, none] [] H = some (some (.int (-1)), H) := by
  have hC0 := hC
  obtain ⟨⟨X, u1, u2⟩, ⟨S, s1, s2, s3⟩, ⟨T, t1⟩, ⟨K, k1, k2⟩, hh, ⟨P, p1, p2⟩, ⟨R, r1⟩, ⟨F, f1⟩, ⟨Y, y1⟩, ⟨V, v1⟩, ⟨N, n1⟩⟩ := hC
  have hW0 := hW
  obtain ⟨w1, w2, w3, w4⟩ := hW
  have hS := at_st s1
  have hb := w1.bnd
  have hn := hb.1
  have g0 := cx_0 u1
  have z1 := cz_st s1
  have z0 := cz_sx u1
  unfold wnt at q
  by_cases q1 : (0 : Int32) ≤ x1 ∧ x1 ≤ 28
  · by_cases q2 : (0 : Int32) ≤ x2 ∧ x2 ≤ 28
    · by_cases q3 : (0 : Int32) ≤ x3 ∧ x3 ≤ 28
      · have q4 : ¬ ((0 : Int32) ≤ x4 ∧ x4 ≤ 28) := fun z => q ⟨q1, q2, q3, z⟩
        simp only [e113_0, e113_1, e113_4, e113_7, e113_8, e113_11, e113_14, e113_15, e113_18, e113_21, e113_23, e113_26, e113_29, e113_30, e113_31, e113_32, e113_35, e113_36, e113_37, e113_39, e113_40, e113_44, e113_45, e113_48, e113_51, e113_54, e113_55, e113_58, e113_60, e113_61, e113_62, e113_65, e113_68, e113_69, e113_72, e113_74, e113_75, e113_76, e113_79, e113_82, e113_83, e113_86, e113_88, e113_89, e113_90, e113_93, e113_96, e113_97, e113_100, e113_102, e113_103, e113_105, e113_108, e113_111, e113_114, e113_117, e113_120, e113_122, Option.bind_some, Option.toList_some, Option.toList_none, List.cons_append, List.nil_append, true_or, or_true, and_true, true_and, i10, Bool.false_eq_true, if_true, if_false, reduceIte, c_isW, bI_t q1, bI_t q2, bI_t q3, bI_f q4]
      · simp only [e113_0, e113_1, e113_4, e113_7, e113_8, e113_11, e113_14, e113_15, e113_18, e113_21, e113_23, e113_26, e113_29, e113_30, e113_31, e113_32, e113_35, e113_36, e113_37, e113_39, e113_40, e113_44, e113_45, e113_48, e113_51, e113_54, e113_55, e113_58, e113_60, e113_61, e113_62, e113_65, e113_68, e113_69, e113_72, e113_74, e113_75, e113_76, e113_79, e113_82, e113_83, e113_86, e113_88, e113_89, e113_90, e113_93, e113_96, e113_97, e113_100, e113_102, e113_103, e113_105, e113_108, e113_111, e113_114, e113_117, e113_120, e113_122, Option.bind_some, Option.toList_some, Option.toList_none, List.cons_append, List.nil_append, true_or, or_true, and_true, true_and, i10, Bool.false_eq_true, if_true, if_false, reduceIte, c_isW, bI_t q1, bI_t q2, bI_f q3]
    · simp only [e113_0, e113_1, e113_4, e113_7, e113_8, e113_11, e113_14, e113_15, e113_18, e113_21, e113_23, e113_26, e113_29, e113_30, e113_31, e113_32, e113_35, e113_36, e113_37, e113_39, e113_40, e113_44, e113_45, e113_48, e113_51, e113_54, e113_55, e113_58, e113_60, e113_61, e113_62, e113_65, e113_68, e113_69, e113_72, e113_74, e113_75, e113_76, e113_79, e113_82, e113_83, e113_86, e113_88, e113_89, e113_90, e113_93, e113_96, e113_97, e113_100, e113_102, e113_103, e113_105, e113_108, e113_111, e113_114, e113_117, e113_120, e113_122, Option.bind_some, Option.toList_some, Option.toList_none, List.cons_append, List.nil_append, true_or, or_true, and_true, true_and, i10, Bool.false_eq_true, if_true, if_false, reduceIte, c_isW, bI_t q1, bI_f q2]
  · simp only [e113_0, e113_1, e113_4, e113_7, e113_8, e113_11, e113_14, e113_15, e113_18, e113_21, e113_23, e113_26, e113_29, e113_30, e113_31, e113_32, e113_35, e113_36, e113_37, e113_39, e113_40, e113_44, e113_45, e113_48, e113_51, e113_54, e113_55, e113_58, e113_60, e113_61, e113_62, e113_65, e113_68, e113_69, e113_72, e113_74, e113_75, e113_76, e113_79, e113_82, e113_83, e113_86, e113_88, e113_89, e113_90, e113_93, e113_96, e113_97, e113_100, e113_102, e113_103, e113_105, e113_108, e113_111, e113_114, e113_117, e113_120, e113_122, Option.bind_some, Option.toList_some, Option.toList_none, List.cons_append, List.nil_append, true_or, or_true, and_true, true_and, i10, Bool.false_eq_true, if_true, if_false, reduceIte, c_isW, bI_f q1]
theorem ca_crg {u : Nat} (hu : u < 11) (hc : c < σ.1) (hC : CI H σ r e len k κ w m) (hW : WF σ e len k κ) : ev (d + 20) 108 0 [some (.ref 0), some (.int (nI c)), some (.int (nI u))] [] H = some (some (.int (crv σ c u)), H) := by
  match u, hu with
  | 0, _ => exact ca_cr0 hc hC hW
  | 1, _ => exact ca_cr1 hc hC hW
  | 2, _ => exact ca_cr2 hc hC hW
  | 3, _ => exact ca_cr3 hc hC hW
  | 4, _ => exact ca_cr4 hc hC hW
  | 5, _ => exact ca_cr5 hc hC hW
  | 6, _ => exact ca_cr6 hc hC hW
  | 7, _ => exact ca_cr7 hc hC hW
  | 8, _ => exact ca_cr8 hc hC hW
  | 9, _ => exact ca_cr9 hc hC hW
  | 10, _ => exact ca_cr10 hc hC hW
  | u + 11, h => omega
end CLOOKS
