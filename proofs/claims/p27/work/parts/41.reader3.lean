/-! THE READING OF A PAD -/
/-- the run of the machine: where it stops, and its last state if nothing was wrong -/
def rnn (w : Nat → Nat) : Nat → Nat → pS → Nat × Option pS
  | 0, p, s => (p, some s)
  | f + 1, p, s => match stp s (w p) with
    | some s' => rnn w f (p + 1) s'
    | none => (p, none)
def cmp (s : pS) : Bool := (decide (s.1 = 4) || (decide (s.1 = 3) && decide (0 < s.2.1))) && decide (s.2.2.2.2.1 = 0)
def rdv (m : Nat) (o : Nat × Option pS) : Int32 := match o.2 with
  | some s => if cmp s = true then -4 else nI m
  | none => nI o.1
def s00 : pS := (0, 0, 0, 0, 0, (0, fun _ _ => 0))
theorem psI_00 : psI2 0 s00 := by
  refine ⟨⟨⟨Nat.zero_le _, fun c hc => absurd hc (Nat.not_lt_zero c)⟩, Nat.zero_le _, Nat.zero_le _, Nat.le_refl _, by decide, fun z => absurd z (by simp [s00]), fun _ => rfl, fun _ z => absurd rfl z, by decide⟩, fun z => absurd rfl z, fun _ => rfl, fun z => absurd rfl z⟩
/-- a pad with a text -/
def pdR (P : oS) (w : Nat → Nat) (m : Nat) : Prop := P.2 0 = nI m ∧ m ≤ 80 ∧ ∀ k, k < m → P.1 0 k = nI (w k) ∧ w k < 128
theorem rd_len1 {i : Nat} {S : oS} : (rdL i S).length = 1 := rfl
theorem narc2 (k : Nat) (hk : k < 128) : narrow .char (.int (nI k)) = .int (nI k) := congrArg Value.int (i2c_ok k hk)
section READ
variable {d : Nat} {h : zH} {u v i : Nat} {P R F S : oS} {σ : mS} {s : pS} {w : Nat → Nat} {m p : Nat}
theorem r_complete (hs : psR R F s) (hJ : psI p s) : ev d 14 0 [some (.ref v), none] [] (hst (hrd h v R) (v + 1) F) = some (some (.int (bI (cmp s = true))), hst (hrd h v R) (v + 1) F) := by
  have hd : v + 1 ≤ v + 1 ∨ v + 1 + 7 ≤ v := Or.inl (Nat.le_refl _)
  have i1 := hJ.1.1
  have i2 := hJ.2.1
  have i3 := hJ.2.2.1
  have i4 := hJ.2.2.2.1
  obtain ⟨h1, h2, h3, h4, h5, h6⟩ := hs
  have e1 : (nI s.1 = 4) = (s.1 = 4) := nI_eqp (b := 4) (by omega) (by omega)
  have e2 : (nI s.1 = 3) = (s.1 = 3) := nI_eqp (b := 3) (by omega) (by omega)
  have e3 : (nI s.2.1 ≤ 0) = (s.2.1 ≤ 0) := nI_lep (b := 0) (by omega) (by omega)
  have e4 : (hI s.2.2.2.2.1 = -1) = (s.2.2.2.2.1 = 0) := hI_m1 (by omega)
  simp only [e14_0, e14_1, e14_4, e14_5, e14_8, e14_9, e14_12, e14_13, e14_16, e14_17, e14_20, e14_23, e14_24, e14_27, e14_28, e14_29, e14_30, e14_33, e14_34, e14_37, e14_38, e14_41, e14_42, e14_45, e14_46, rd_is_st hd, rd_g0_st hd, rd_g1_st hd, rd_p1_st hd, rd_g2_st hd, rd_p2_st hd, rd_g3_st hd, rd_p3_st hd, rd_g4_st hd, rd_p4_st hd, rd_g5_st hd, rd_p5_st hd, Option.bind_some, Option.toList_some, Option.toList_none, List.cons_append, List.nil_append, true_or, or_true, and_true, true_and, i10, Bool.false_eq_true, if_true, if_false, reduceIte, h1, h2, h5, e1, e2, e3, e4]
  unfold cmp
  by_cases q1 : s.1 = 4
  · by_cases q4 : s.2.2.2.2.1 = 0
    · simp [q1, q4, bI]
    · simp [q1, q4, bI]
  · by_cases q2 : s.1 = 3
    · by_cases q3 : s.2.1 ≤ 0
      · have q3' : s.2.1 = 0 := by omega
        simp [q2, q3', bI]
      · have q3' : ¬ s.2.1 = 0 := by omega
        have q3'' : 0 < s.2.1 := by omega
        by_cases q4 : s.2.2.2.2.1 = 0
        · simp [q2, q3', q3'', q4, bI]
        · simp [q2, q3', q3'', q4, bI]
    · simp [q1, q2, bI]
theorem p_is (hu : u + 2 ≤ v) : zis (hst (hrd (hpd h u P) v R) (v + 1) F) u 4 = true := (zis_out (by rw [st_len]; omega)).trans ((zis_out (by rw [rd_len1]; omega)).trans pd_is)
theorem p_length (hu : u + 2 ≤ v) (hP : pdR P w m) : ev d 32 0 [some (.ref u)] [] (hst (hrd (hpd h u P) v R) (v + 1) F) = some (some (.int (nI m)), hst (hrd (hpd h u P) v R) (v + 1) F) := by
  have g1 : zgetf (hst (hrd (hpd h u P) v R) (v + 1) F) u 4 1 = some (.int (P.2 0)) := (zgetf_out (by rw [st_len]; omega)).trans ((zgetf_out (by rw [rd_len1]; omega)).trans pd_g1)
  simp only [e32_0, e32_1, e32_4, Option.bind_some, Option.toList_some, Option.toList_none, List.cons_append, List.nil_append, true_or, or_true, and_true, true_and, i10, Bool.false_eq_true, if_true, if_false, reduceIte, g1, hP.1]
theorem p_signAt (hu : u + 2 ≤ v) (hP : pdR P w m) (hp : p < m) : ev d 35 0 [some (.ref u), some (.int (nI p))] [] (hst (hrd (hpd h u P) v R) (v + 1) F) = some (some (.int (nI (w p))), hst (hrd (hpd h u P) v R) (v + 1) F) := by
  obtain ⟨k1, k2, k3⟩ := hP
  have g0 : zgetf (hst (hrd (hpd h u P) v R) (v + 1) F) u 4 0 = some (.ref (u + 1)) := (zgetf_out (by rw [st_len]; omega)).trans ((zgetf_out (by rw [rd_len1]; omega)).trans pd_g0)
  have g1 : zgetf (hst (hrd (hpd h u P) v R) (v + 1) F) u 4 1 = some (.int (P.2 0)) := (zgetf_out (by rw [st_len]; omega)).trans ((zgetf_out (by rw [rd_len1]; omega)).trans pd_g1)
  have gl : ∀ j, zald 1 (hst (hrd (hpd h u P) v R) (v + 1) F) (u + 1) j = zrd 80 (P.1 0) j := fun j => (zald_out (by rw [st_len]; omega)).trans ((zald_out (by rw [rd_len1]; omega)).trans pd_l0)
  have e1 : (nI p < 0) = False := eq_false (nI_pos (by omega))
  have e2 : (nI m ≤ nI p) = False := (nI_lep (by omega) (by omega)).trans (eq_false (by omega))
  simp only [e35_0, e35_1, e35_4, e35_5, e35_6, e35_9, e35_12, e35_13, e35_16, e35_17, e35_18, e35_21, e35_23 (narc2 _ (k3 p hp).2), Option.bind_some, Option.toList_some, Option.toList_none, List.cons_append, List.nil_append, true_or, or_true, and_true, true_and, i10, Bool.false_eq_true, if_true, if_false, reduceIte, g0, g1, gl, k1, e1, e2, zrd_nI (show p < 80 by omega) (show 80 < 2147483648 by omega), (k3 p hp).1]
theorem r_read1 (hu : u + 2 ≤ v) (hP : pdR P w m) : ∀ (f p : Nat) (s : pS) (R F : oS), p + f = m → psR R F s → psI2 p s → ∃ R' F', (∀ q s', rnn w f p s = (q, some s') → psR R' F' s' ∧ psI2 m s') ∧ ev (d + 6) 13 24 [some (.ref v), some (.ref u), some (.int (nI p))] [] (hst (hrd (hpd h u P) v R) (v + 1) F) = some (some (.int (rdv m (rnn w f p s))), hst (hrd (hpd h u P) v R') (v + 1) F') := by
  have hd : v + 1 ≤ v + 1 ∨ v + 1 + 7 ≤ v := Or.inl (Nat.le_refl _)
  have hm := hP.2.1
  intro f
  induction f with
  | zero =>
    intro p s R F hp hs hJ
    have hp : p = m := by omega
    subst hp
    have hc := r_complete (d := d + 5) (h := hpd h u P) (v := v) hs hJ.1
    refine ⟨R, F, fun q s' hq => ?_, ?_⟩
    · cases hq
      exact ⟨hs, hJ⟩
    · rw [e13_24]
      unfold rnn rdv
      dsimp only
      cases q : cmp s with
      | true =>
        rw [bI_t q] at hc
        simp only [e13_0, e13_1, e13_4, e13_7, e13_8, e13_9, e13_12, e13_13, e13_14, e13_17, e13_18, e13_19, e13_22, e13_23, e13_25, e13_26, e13_29, e13_32, e13_33, e13_34, e13_35, e13_38, e13_41, e13_44, e13_45, e13_46, e13_49, e13_52, e13_53, e13_56, e13_59, e13_61, e13_64, e13_65, e13_68, st_g0, st_g1, st_g2, st_g3, st_g4, st_g5, st_g6, st_g7, st_p6, st_p7, st_l0, st_l1, st_l2, st_l3, st_l4, st_l5, st_s0, st_s1, st_s2, st_s3, st_s4, st_s5, st_is, rd_is_st hd, rd_g0_st hd, rd_g1_st hd, rd_p1_st hd, rd_g2_st hd, rd_p2_st hd, rd_g3_st hd, rd_p3_st hd, rd_g4_st hd, rd_p4_st hd, rd_g5_st hd, rd_p5_st hd, Option.bind_some, Option.toList_some, Option.toList_none, List.cons_append, List.nil_append, true_or, or_true, and_true, true_and, i10, Bool.false_eq_true, if_true, if_false, reduceIte, p_is hu, p_length hu hP, Int32.le_refl, hc]
      | false =>
        rw [bI_f (by simp [q])] at hc
        simp only [e13_0, e13_1, e13_4, e13_7, e13_8, e13_9, e13_12, e13_13, e13_14, e13_17, e13_18, e13_19, e13_22, e13_23, e13_25, e13_26, e13_29, e13_32, e13_33, e13_34, e13_35, e13_38, e13_41, e13_44, e13_45, e13_46, e13_49, e13_52, e13_53, e13_56, e13_59, e13_61, e13_64, e13_65, e13_68, st_g0, st_g1, st_g2, st_g3, st_g4, st_g5, st_g6, st_g7, st_p6, st_p7, st_l0, st_l1, st_l2, st_l3, st_l4, st_l5, st_s0, st_s1, st_s2, st_s3, st_s4, st_s5, st_is, rd_is_st hd, rd_g0_st hd, rd_g1_st hd, rd_p1_st hd, rd_g2_st hd, rd_p2_st hd, rd_g3_st hd, rd_p3_st hd, rd_g4_st hd, rd_p4_st hd, rd_g5_st hd, rd_p5_st hd, Option.bind_some, Option.toList_some, Option.toList_none, List.cons_append, List.nil_append, true_or, or_true, and_true, true_and, i10, Bool.false_eq_true, if_true, if_false, reduceIte, p_is hu, p_length hu hP, Int32.le_refl, hc]
  | succ f ih =>
    intro p s R F hp hs hJ
    have hp2 : p < m := by omega
    have e1 : (nI m ≤ nI p) = False := (nI_lep (by omega) (by omega)).trans (eq_false (by omega))
    obtain ⟨R1, F1, a1, a2⟩ := r_take (d := d) (h := hpd h u P) (v := v) (c := w p) hs hJ (by omega) (hP.2.2 p hp2).2
    rw [rnn]
    cases q : stp s (w p) with
    | some s1 =>
      rw [q] at a2
      rw [bI_t (by simp)] at a2
      obtain ⟨R', F', b1, b2⟩ := ih (p + 1) s1 R1 F1 (by omega) (a1 s1 q) (stp_inv hJ (by omega) q)
      refine ⟨R', F', b1, ?_⟩
      rw [e13_24]
      simp only [e13_0, e13_1, e13_4, e13_7, e13_8, e13_9, e13_12, e13_13, e13_14, e13_17, e13_18, e13_19, e13_22, e13_23, e13_25, e13_26, e13_29, e13_32, e13_33, e13_34, e13_35, e13_38, e13_41, e13_44, e13_45, e13_46, e13_49, e13_52, e13_53, e13_56, e13_59, e13_61, e13_64, e13_65, e13_68, st_g0, st_g1, st_g2, st_g3, st_g4, st_g5, st_g6, st_g7, st_p6, st_p7, st_l0, st_l1, st_l2, st_l3, st_l4, st_l5, st_s0, st_s1, st_s2, st_s3, st_s4, st_s5, st_is, rd_is_st hd, rd_g0_st hd, rd_g1_st hd, rd_p1_st hd, rd_g2_st hd, rd_p2_st hd, rd_g3_st hd, rd_p3_st hd, rd_g4_st hd, rd_p4_st hd, rd_g5_st hd, rd_p5_st hd, Option.bind_some, Option.toList_some, Option.toList_none, List.cons_append, List.nil_append, true_or, or_true, and_true, true_and, i10, Bool.false_eq_true, if_true, if_false, reduceIte, p_is hu, p_length hu hP, e1, p_signAt hu hP hp2, a2, nI_1]
      exact b2
    | none =>
      rw [q] at a2
      rw [bI_f (by simp)] at a2
      refine ⟨R1, F1, fun q s' hq => (by cases hq), ?_⟩
      rw [e13_24]
      simp only [e13_0, e13_1, e13_4, e13_7, e13_8, e13_9, e13_12, e13_13, e13_14, e13_17, e13_18, e13_19, e13_22, e13_23, e13_25, e13_26, e13_29, e13_32, e13_33, e13_34, e13_35, e13_38, e13_41, e13_44, e13_45, e13_46, e13_49, e13_52, e13_53, e13_56, e13_59, e13_61, e13_64, e13_65, e13_68, st_g0, st_g1, st_g2, st_g3, st_g4, st_g5, st_g6, st_g7, st_p6, st_p7, st_l0, st_l1, st_l2, st_l3, st_l4, st_l5, st_s0, st_s1, st_s2, st_s3, st_s4, st_s5, st_is, rd_is_st hd, rd_g0_st hd, rd_g1_st hd, rd_p1_st hd, rd_g2_st hd, rd_p2_st hd, rd_g3_st hd, rd_p3_st hd, rd_g4_st hd, rd_p4_st hd, rd_g5_st hd, rd_p5_st hd, Option.bind_some, Option.toList_some, Option.toList_none, List.cons_append, List.nil_append, true_or, or_true, and_true, true_and, i10, Bool.false_eq_true, if_true, if_false, reduceIte, p_is hu, p_length hu hP, e1, p_signAt hu hP hp2, a2]
      rfl
theorem r_read (hu : u + 2 ≤ v) (hP : pdR P w m) : ∃ R' F', (∀ q s', rnn w m 0 s00 = (q, some s') → psR R' F' s' ∧ psI2 m s') ∧ ev (d + 6) 13 0 [some (.ref v), some (.ref u), none] [] (hst (hrd (hpd h u P) v R) (v + 1) F) = some (some (.int (rdv m (rnn w m 0 s00))), hst (hrd (hpd h u P) v R') (v + 1) F') := by
  have hd : v + 1 ≤ v + 1 ∨ v + 1 + 7 ≤ v := Or.inl (Nat.le_refl _)
  obtain ⟨R', F', a1, a2⟩ := r_read1 (d := d) (h := h) hu hP m 0 s00 (setI (setI (setI (setI (setI R 3 (-1)) 4 (-1)) 0 0) 1 0) 2 0) (setI F 0 0) (by omega) ⟨by simp [setI]; rfl, by simp [setI]; rfl, by simp [setI]; rfl, fun z => absurd z (by simp [s00]), by simp [setI, s00, hI_0], ⟨by simp [setI, s00]; rfl, fun c hc => absurd hc (Nat.not_lt_zero c)⟩⟩ psI_00
  refine ⟨R', F', a1, ?_⟩
  simp only [e13_0, e13_1, e13_4, e13_7, e13_8, e13_9, e13_12, e13_13, e13_14, e13_17, e13_18, e13_19, e13_22, e13_23, e13_25, e13_26, e13_29, e13_32, e13_33, e13_34, e13_35, e13_38, e13_41, e13_44, e13_45, e13_46, e13_49, e13_52, e13_53, e13_56, e13_59, e13_61, e13_64, e13_65, e13_68, st_g0, st_g1, st_g2, st_g3, st_g4, st_g5, st_g6, st_g7, st_p6, st_p7, st_l0, st_l1, st_l2, st_l3, st_l4, st_l5, st_s0, st_s1, st_s2, st_s3, st_s4, st_s5, st_is, rd_is_st hd, rd_g0_st hd, rd_g1_st hd, rd_p1_st hd, rd_g2_st hd, rd_p2_st hd, rd_g3_st hd, rd_p3_st hd, rd_g4_st hd, rd_p4_st hd, rd_g5_st hd, rd_p5_st hd, Option.bind_some, Option.toList_some, Option.toList_none, List.cons_append, List.nil_append, true_or, or_true, and_true, true_and, i10, Bool.false_eq_true, if_true, if_false, reduceIte, s_empty, r_begin]
  exact a2
end READ
