/-! MORE LOOKS, SIDE BY SIDE -/
/-- two calls that answer a double -/
def PRD (d : Nat) (H : zH) (kc km : Nat) (lc lm : List (Option Value)) : Prop := ∃ H1 H2 v, ev (d + 20) kc 0 (some (.ref 0) :: lc) [] H = some (some (.double v), H1) ∧ ev (d + 20) km 0 (some (.ref 71) :: lm) [] H1 = some (some (.double v), H2) ∧ CO H H1 ∧ SO H H2
section LOOKS2
variable {d : Nat} {H H1 : zH} {σ : mS} {r : Int32} {e : Nat → mS × Int32} {len : Nat} {k : Bool} {κ : mS × Int32} {w : Nat → Nat} {m : Nat} {x y : Int32} {M M' : oS}
theorem PRD_mk {kc km : Nat} {lc lm : List (Option Value)} {v : UInt64} (hC1 : CI H1 σ r e len k κ w m) (o : CO H H1) (m0 : at_ H 71 (mdL 71 M)) (hF : MF M' σ r e len k κ w m) (hW : WF σ e len k κ) (hc : ev (d + 20) kc 0 (some (.ref 0) :: lc) [] H = some (some (.double v), H1)) (hm : ev (d + 20) km 0 (some (.ref 71) :: lm) [] (hmd H1 71 M) = some (some (.double v), hmd H1 71 M')) : PRD d H kc km lc lm := by
  have hH : hmd H1 71 M = H1 := at_md (at_fr m0 (fun j a _ => o.2 j a))
  rw [hH] at hm
  exact ⟨H1, _, v, hc, hm, o, SO_fin (o := o) hC1 hF hW⟩
theorem P_length {P : oS} (h : at_ H 52 (pdL 52 P)) (hP : pdR P w m) : ev d 32 0 [some (.ref 52)] [] H = some (some (.int (nI m)), H) := by
  have q : hpd H 52 P = H := at_pd h
  have g1 := pd_g1 (h := H) (i := 52) (S := P)
  rw [q] at g1
  simp only [e32_0, e32_1, e32_4, Option.bind_some, Option.toList_some, Option.toList_none, List.cons_append, List.nil_append, true_or, or_true, and_true, true_and, i10, Bool.false_eq_true, if_true, if_false, reduceIte, g1, hP.1]
theorem X_length {Q : Nat → Option Nat} {L : Int32} (h : at_ H 22 (hsL 22 Q L)) : ev d 1 0 [some (.ref 22)] [] H = some (some (.int L), H) := by
  simp only [e1_0, e1_1, e1_4, Option.bind_some, Option.toList_some, Option.toList_none, List.cons_append, List.nil_append, true_or, or_true, and_true, true_and, i10, Bool.false_eq_true, if_true, if_false, reduceIte, hs_g1 h]
/-- a look at the stock with a crate turned -/
theorem c_vt {X S T V : oS} {c : Nat} (x1 : at_ H 0 (sxL 0 X)) (s1 : at_ H 1 (stL 1 S)) (t1 : at_ H 8 (stL 8 T)) (v1 : at_ H 64 (vwL 64 V)) (hR : stR S σ) (hw : wf σ) (hc : c < σ.1) : ∃ T' V', vwR V' (trd σ c) ∧ ev (d + 6) 124 0 [some (.ref 0), some (.int (nI c))] [] H = some (some (.ref 64), hvw (hst H 8 T') 64 V') := by
  have hb := hw.bnd
  have cp := s_copyFrom (d := d + 5) (h := H) (v := 1) (i := 8) (V := S) (S := T) (by omega)
  rw [at_st s1, at_st t1] at cp
  have hRc : stR (cpS T S) σ := stR_cp hR hb.1
  have ts := s_turnSlats (d := d + 4) (h := H) (i := 8) (S := cpS T S) hRc hb hc
  have hRt : stR (setR (cpS T S) 2 (upd ((cpS T S).1 2) c (nI (tnd (σ.2 c 2))))) (trd σ c) := stR_g hRc c _
  have a8 : at_ (hst H 8 (setR (cpS T S) 2 (upd ((cpS T S).1 2) c (nI (tnd (σ.2 c 2)))))) 8 (stL 8 (setR (cpS T S) 2 (upd ((cpS T S).1 2) c (nI (tnd (σ.2 c 2)))))) := at_new
  have aV : at_ (hst H 8 (setR (cpS T S) 2 (upd ((cpS T S).1 2) c (nI (tnd (σ.2 c 2)))))) 64 (vwL 64 V) := at_out v1 (Or.inr (Nat.le_of_ble_eq_true rfl))
  obtain ⟨V', b1, b2⟩ := v_look (d := d + 1) (h := hst H 8 (setR (cpS T S) 2 (upd ((cpS T S).1 2) c (nI (tnd (σ.2 c 2)))))) (v := 64) (i := 8) (V := V) hRt (trd_wf hw).bnd (Or.inr (by omega))
  have e1 : hst (hvw (hst H 8 (setR (cpS T S) 2 (upd ((cpS T S).1 2) c (nI (tnd (σ.2 c 2)))))) 64 V') 8 (setR (cpS T S) 2 (upd ((cpS T S).1 2) c (nI (tnd (σ.2 c 2))))) = hvw (hst H 8 (setR (cpS T S) 2 (upd ((cpS T S).1 2) c (nI (tnd (σ.2 c 2)))))) 64 V' := at_st (at_out a8 (Or.inl (Nat.le_of_ble_eq_true rfl)))
  rw [at_vw aV, at_st a8, e1] at b2
  refine ⟨setR (cpS T S) 2 (upd ((cpS T S).1 2) c (nI (tnd (σ.2 c 2)))), V', b1, ?_⟩
  have xa : at_ (hst H 8 (cpS T S)) 0 (sxL 0 X) := at_out x1 (Or.inl (Nat.le_of_ble_eq_true rfl))
  have xb : at_ (hst H 8 (setR (cpS T S) 2 (upd ((cpS T S).1 2) c (nI (tnd (σ.2 c 2)))))) 0 (sxL 0 X) := at_out x1 (Or.inl (Nat.le_of_ble_eq_true rfl))
  have xc : at_ (hvw (hst H 8 (setR (cpS T S) 2 (upd ((cpS T S).1 2) c (nI (tnd (σ.2 c 2)))))) 64 V') 0 (sxL 0 X) := at_out xb (Or.inl (Nat.le_of_ble_eq_true rfl))
  have za : zis (hst H 8 (cpS T S)) 8 5 = true := cz_st at_new
  simp only [e124_0, e124_1, e124_4, e124_5, e124_8, e124_11, e124_12, e124_15, e124_16, e124_19, e124_20, e124_23, e124_24, e124_27, e124_30, e124_31, e124_34, Option.bind_some, Option.toList_some, Option.toList_none, List.cons_append, List.nil_append, true_or, or_true, and_true, true_and, i10, Bool.false_eq_true, if_true, if_false, reduceIte, cx_1 x1, cx_0 x1, cz_st t1, cp, cx_1 xa, za, ts, cx_8 xb, cx_1 xb, cz_vw aV, b2, cx_8 xc]
theorem CI_vt (hC : CI H σ r e len k κ w m) (T' V' : oS) : CI (hvw (hst H 8 T') 64 V') σ r e len k κ w m := CI_view (CI_s8 hC (fun j _ a => hrg_out (by rw [st_len]; omega)) ⟨T', at_new⟩) V'
theorem CO_vt (T' V' : oS) : CO H (hvw (hst H 8 T') 64 V') := CO_t (CO_h (Nat.le_of_ble_eq_true rfl)) (CO_vw V')
theorem st_crate (hC : CI H σ r e len k κ w m) (hM : MI H σ r e len k κ w m) (hW : WF σ e len k κ) : PR d H 108 180 [some (.int x), some (.int y)] [some (.int x), some (.int y)] := by
  have hC0 := hC
  obtain ⟨⟨X, x1, x2⟩, ⟨S, s1, s2, s3⟩, ⟨T, t1⟩, ⟨K, k1, k2⟩, hh, ⟨P, p1, p2⟩, ⟨R, r1⟩, ⟨F, f1⟩, ⟨Y, y1⟩, ⟨V, v1⟩, ⟨N, n1⟩⟩ := hC
  obtain ⟨M, m0, hF⟩ := hM
  have hF0 := hF
  obtain ⟨m1, m2, m3, m4, m5⟩ := hF
  have hW0 := hW
  obtain ⟨w1, w2, w3, w4⟩ := hW
  have hS := at_st s1
  have hb := w1.bnd
  have hn := hb.1
  have hR := mrw_R m1
  have g0 := cx_0 x1
  have z1 := cz_st s1
  have z0 := cz_sx x1
  cases q : zin x σ.1 with
  | false =>
    refine PR_mk (v := -1) hC0 CO_r m0 hF0 hW0 ?_ (m_crateN (d := d + 14) hR hn q)
    simp only [e108_0, e108_1, e108_4, e108_5, e108_8, e108_11, e108_12, Option.bind_some, Option.toList_some, Option.toList_none, List.cons_append, List.nil_append, true_or, or_true, and_true, true_and, i10, Bool.false_eq_true, if_true, if_false, reduceIte, g0, z1, S_isC0 hS s2 hn q]
  | true =>
    obtain ⟨c, hc, rfl⟩ := zin_some (by omega) q
    have ic : ev (d + 19) 37 0 [some (.ref 1), some (.int (nI c))] [] H = some (some (.int 1), H) := S_isCrate_k hS s2 hb hc
    have go : ev (d + 20) 108 0 [some (.ref 0), some (.int (nI c)), some (.int y)] [] H = ev (d + 20) 108 14 [some (.ref 0), some (.int (nI c)), some (.int y)] [.int y] H := by
      simp only [e108_0, e108_1, e108_4, e108_5, e108_8, e108_13, Option.bind_some, Option.toList_some, Option.toList_none, List.cons_append, List.nil_append, true_or, or_true, and_true, true_and, i10, Bool.false_eq_true, if_true, if_false, reduceIte, g0, z1, ic]
    by_cases hy : 0 ≤ y ∧ y ≤ nI 14
    · obtain ⟨u, -, hu, rfl⟩ := rng (a := 0) (b := 14) hy.1 hy.2 (by decide) (by decide)
      obtain ⟨V', b1, b2⟩ := c_view (d := d + 13) x1 s1 v1 s2 hb
      have hV : hvw (hvw H 64 V') 64 V' = hvw H 64 V' := at_vw at_new
      have zv : zis (hvw H 64 V') 64 6 = true := cz_vw at_new
      rcases to14 hu with z | z | z | z | z | z | z | z | z | z | z | z | z | z | z <;> subst z
      · refine PR_mk (v := crv σ c 0) hC0 CO_r m0 hF0 hW0 (go.trans ?_) (m_crateW (d := d + 14) hR w1 hc (by decide))
        rw [show nI 0 = 0 from rfl]
        simp only [e108_1, e108_4, e108_5, e108_8, e108_11, e108_12, e108_13, e108_14c0, e108_14c1, e108_14c2, e108_14c3, e108_14c4, e108_14c5, e108_14c6, e108_14c7, e108_14c8, e108_14c9, e108_14c10, e108_14c11, e108_14c12, e108_14c13, e108_14c14, e108_14d, e108_88, e108_89, e108_92, e108_93, e108_96, e108_97, e108_98, e108_101, e108_102, e108_105, e108_106, e108_107, e108_110, e108_111, e108_114, e108_115, e108_116, e108_119, e108_120, e108_123, e108_124, e108_125, e108_128, e108_129, e108_132, e108_135, e108_137, e108_140, e108_141, e108_144, e108_145, e108_148, e108_149, e108_150, e108_153, e108_154, e108_157, e108_158, e108_159, e108_162, e108_163, e108_166, e108_167, e108_168, e108_171, e108_172, e108_175, e108_176, e108_177, e108_180, e108_181, e108_184, e108_185, e108_186, e108_189, e108_190, e108_193, e108_194, e108_195, e108_198, e108_199, e108_202, e108_203, e108_204, e108_207, e108_208, e108_211, e108_214, e108_215, e108_218, e108_219, e108_220, e108_221, e108_224, e108_225, e108_228, e108_229, e108_230, e108_233, e108_234, e108_237, e108_238, e108_239, e108_242, e108_243, e108_246, e108_247, e108_248, Option.bind_some, Option.toList_some, Option.toList_none, List.cons_append, List.nil_append, true_or, or_true, and_true, true_and, i10, Bool.false_eq_true, if_true, if_false, reduceIte, g0, z1, S_sizeOf hS s2 hb hc]
        rfl
      · refine PR_mk (v := crv σ c 1) hC0 CO_r m0 hF0 hW0 (go.trans ?_) (m_crateW (d := d + 14) hR w1 hc (by decide))
        rw [show nI 1 = 1 from rfl]
        simp only [e108_1, e108_4, e108_5, e108_8, e108_11, e108_12, e108_13, e108_14c0, e108_14c1, e108_14c2, e108_14c3, e108_14c4, e108_14c5, e108_14c6, e108_14c7, e108_14c8, e108_14c9, e108_14c10, e108_14c11, e108_14c12, e108_14c13, e108_14c14, e108_14d, e108_88, e108_89, e108_92, e108_93, e108_96, e108_97, e108_98, e108_101, e108_102, e108_105, e108_106, e108_107, e108_110, e108_111, e108_114, e108_115, e108_116, e108_119, e108_120, e108_123, e108_124, e108_125, e108_128, e108_129, e108_132, e108_135, e108_137, e108_140, e108_141, e108_144, e108_145, e108_148, e108_149, e108_150, e108_153, e108_154, e108_157, e108_158, e108_159, e108_162, e108_163, e108_166, e108_167, e108_168, e108_171, e108_172, e108_175, e108_176, e108_177, e108_180, e108_181, e108_184, e108_185, e108_186, e108_189, e108_190, e108_193, e108_194, e108_195, e108_198, e108_199, e108_202, e108_203, e108_204, e108_207, e108_208, e108_211, e108_214, e108_215, e108_218, e108_219, e108_220, e108_221, e108_224, e108_225, e108_228, e108_229, e108_230, e108_233, e108_234, e108_237, e108_238, e108_239, e108_242, e108_243, e108_246, e108_247, e108_248, Option.bind_some, Option.toList_some, Option.toList_none, List.cons_append, List.nil_append, true_or, or_true, and_true, true_and, i10, Bool.false_eq_true, if_true, if_false, reduceIte, g0, z1, S_roomOf hS s2 hb hc]
        rfl
      · refine PR_mk (v := crv σ c 2) hC0 CO_r m0 hF0 hW0 (go.trans ?_) (m_crateW (d := d + 14) hR w1 hc (by decide))
        rw [show nI 2 = 2 from rfl]
        simp only [e108_1, e108_4, e108_5, e108_8, e108_11, e108_12, e108_13, e108_14c0, e108_14c1, e108_14c2, e108_14c3, e108_14c4, e108_14c5, e108_14c6, e108_14c7, e108_14c8, e108_14c9, e108_14c10, e108_14c11, e108_14c12, e108_14c13, e108_14c14, e108_14d, e108_88, e108_89, e108_92, e108_93, e108_96, e108_97, e108_98, e108_101, e108_102, e108_105, e108_106, e108_107, e108_110, e108_111, e108_114, e108_115, e108_116, e108_119, e108_120, e108_123, e108_124, e108_125, e108_128, e108_129, e108_132, e108_135, e108_137, e108_140, e108_141, e108_144, e108_145, e108_148, e108_149, e108_150, e108_153, e108_154, e108_157, e108_158, e108_159, e108_162, e108_163, e108_166, e108_167, e108_168, e108_171, e108_172, e108_175, e108_176, e108_177, e108_180, e108_181, e108_184, e108_185, e108_186, e108_189, e108_190, e108_193, e108_194, e108_195, e108_198, e108_199, e108_202, e108_203, e108_204, e108_207, e108_208, e108_211, e108_214, e108_215, e108_218, e108_219, e108_220, e108_221, e108_224, e108_225, e108_228, e108_229, e108_230, e108_233, e108_234, e108_237, e108_238, e108_239, e108_242, e108_243, e108_246, e108_247, e108_248, Option.bind_some, Option.toList_some, Option.toList_none, List.cons_append, List.nil_append, true_or, or_true, and_true, true_and, i10, Bool.false_eq_true, if_true, if_false, reduceIte, g0, z1, S_gapsOf hS s2 hb hc]
        rfl
      · refine PR_mk (v := crv σ c 3) hC0 CO_r m0 hF0 hW0 (go.trans ?_) (m_crateW (d := d + 14) hR w1 hc (by decide))
        rw [show nI 3 = 3 from rfl]
        simp only [e108_1, e108_4, e108_5, e108_8, e108_11, e108_12, e108_13, e108_14c0, e108_14c1, e108_14c2, e108_14c3, e108_14c4, e108_14c5, e108_14c6, e108_14c7, e108_14c8, e108_14c9, e108_14c10, e108_14c11, e108_14c12, e108_14c13, e108_14c14, e108_14d, e108_88, e108_89, e108_92, e108_93, e108_96, e108_97, e108_98, e108_101, e108_102, e108_105, e108_106, e108_107, e108_110, e108_111, e108_114, e108_115, e108_116, e108_119, e108_120, e108_123, e108_124, e108_125, e108_128, e108_129, e108_132, e108_135, e108_137, e108_140, e108_141, e108_144, e108_145, e108_148, e108_149, e108_150, e108_153, e108_154, e108_157, e108_158, e108_159, e108_162, e108_163, e108_166, e108_167, e108_168, e108_171, e108_172, e108_175, e108_176, e108_177, e108_180, e108_181, e108_184, e108_185, e108_186, e108_189, e108_190, e108_193, e108_194, e108_195, e108_198, e108_199, e108_202, e108_203, e108_204, e108_207, e108_208, e108_211, e108_214, e108_215, e108_218, e108_219, e108_220, e108_221, e108_224, e108_225, e108_228, e108_229, e108_230, e108_233, e108_234, e108_237, e108_238, e108_239, e108_242, e108_243, e108_246, e108_247, e108_248, Option.bind_some, Option.toList_some, Option.toList_none, List.cons_append, List.nil_append, true_or, or_true, and_true, true_and, i10, Bool.false_eq_true, if_true, if_false, reduceIte, g0, z1, S_lettersOf hS s2 hb hc]
        rfl
      · refine PR_mk (v := crv σ c 4) hC0 CO_r m0 hF0 hW0 (go.trans ?_) (m_crateW (d := d + 14) hR w1 hc (by decide))
        rw [show nI 4 = 4 from rfl]
        have og := S_isOnGround (d := d + 17) hS s2 hb hc
        have ho := S_holderOf (d := d + 18) hS s2 hb hc
        show _ = some (some (Value.int (cB (σ.2 c 7))), H)
        cases u : σ.2 c 7 with
        | zero =>
          rw [bI_t u] at og
          simp only [e108_1, e108_4, e108_5, e108_8, e108_11, e108_12, e108_13, e108_14c0, e108_14c1, e108_14c2, e108_14c3, e108_14c4, e108_14c5, e108_14c6, e108_14c7, e108_14c8, e108_14c9, e108_14c10, e108_14c11, e108_14c12, e108_14c13, e108_14c14, e108_14d, e108_88, e108_89, e108_92, e108_93, e108_96, e108_97, e108_98, e108_101, e108_102, e108_105, e108_106, e108_107, e108_110, e108_111, e108_114, e108_115, e108_116, e108_119, e108_120, e108_123, e108_124, e108_125, e108_128, e108_129, e108_132, e108_135, e108_137, e108_140, e108_141, e108_144, e108_145, e108_148, e108_149, e108_150, e108_153, e108_154, e108_157, e108_158, e108_159, e108_162, e108_163, e108_166, e108_167, e108_168, e108_171, e108_172, e108_175, e108_176, e108_177, e108_180, e108_181, e108_184, e108_185, e108_186, e108_189, e108_190, e108_193, e108_194, e108_195, e108_198, e108_199, e108_202, e108_203, e108_204, e108_207, e108_208, e108_211, e108_214, e108_215, e108_218, e108_219, e108_220, e108_221, e108_224, e108_225, e108_228, e108_229, e108_230, e108_233, e108_234, e108_237, e108_238, e108_239, e108_242, e108_243, e108_246, e108_247, e108_248, Option.bind_some, Option.toList_some, Option.toList_none, List.cons_append, List.nil_append, true_or, or_true, and_true, true_and, i10, Bool.false_eq_true, if_true, if_false, reduceIte, g0, z1, og]
          rfl
        | succ a =>
          rw [bI_f (by rw [u]; omega)] at og
          rw [u, hI_s] at ho
          simp only [e108_1, e108_4, e108_5, e108_8, e108_11, e108_12, e108_13, e108_14c0, e108_14c1, e108_14c2, e108_14c3, e108_14c4, e108_14c5, e108_14c6, e108_14c7, e108_14c8, e108_14c9, e108_14c10, e108_14c11, e108_14c12, e108_14c13, e108_14c14, e108_14d, e108_88, e108_89, e108_92, e108_93, e108_96, e108_97, e108_98, e108_101, e108_102, e108_105, e108_106, e108_107, e108_110, e108_111, e108_114, e108_115, e108_116, e108_119, e108_120, e108_123, e108_124, e108_125, e108_128, e108_129, e108_132, e108_135, e108_137, e108_140, e108_141, e108_144, e108_145, e108_148, e108_149, e108_150, e108_153, e108_154, e108_157, e108_158, e108_159, e108_162, e108_163, e108_166, e108_167, e108_168, e108_171, e108_172, e108_175, e108_176, e108_177, e108_180, e108_181, e108_184, e108_185, e108_186, e108_189, e108_190, e108_193, e108_194, e108_195, e108_198, e108_199, e108_202, e108_203, e108_204, e108_207, e108_208, e108_211, e108_214, e108_215, e108_218, e108_219, e108_220, e108_221, e108_224, e108_225, e108_228, e108_229, e108_230, e108_233, e108_234, e108_237, e108_238, e108_239, e108_242, e108_243, e108_246, e108_247, e108_248, Option.bind_some, Option.toList_some, Option.toList_none, List.cons_append, List.nil_append, true_or, or_true, and_true, true_and, i10, Bool.false_eq_true, if_true, if_false, reduceIte, g0, z1, og, ho]
          rfl
      · refine PR_mk (v := crv σ c 5) hC0 CO_r m0 hF0 hW0 (go.trans ?_) (m_crateW (d := d + 14) hR w1 hc (by decide))
        rw [show nI 5 = 5 from rfl]
        simp only [e108_1, e108_4, e108_5, e108_8, e108_11, e108_12, e108_13, e108_14c0, e108_14c1, e108_14c2, e108_14c3, e108_14c4, e108_14c5, e108_14c6, e108_14c7, e108_14c8, e108_14c9, e108_14c10, e108_14c11, e108_14c12, e108_14c13, e108_14c14, e108_14d, e108_88, e108_89, e108_92, e108_93, e108_96, e108_97, e108_98, e108_101, e108_102, e108_105, e108_106, e108_107, e108_110, e108_111, e108_114, e108_115, e108_116, e108_119, e108_120, e108_123, e108_124, e108_125, e108_128, e108_129, e108_132, e108_135, e108_137, e108_140, e108_141, e108_144, e108_145, e108_148, e108_149, e108_150, e108_153, e108_154, e108_157, e108_158, e108_159, e108_162, e108_163, e108_166, e108_167, e108_168, e108_171, e108_172, e108_175, e108_176, e108_177, e108_180, e108_181, e108_184, e108_185, e108_186, e108_189, e108_190, e108_193, e108_194, e108_195, e108_198, e108_199, e108_202, e108_203, e108_204, e108_207, e108_208, e108_211, e108_214, e108_215, e108_218, e108_219, e108_220, e108_221, e108_224, e108_225, e108_228, e108_229, e108_230, e108_233, e108_234, e108_237, e108_238, e108_239, e108_242, e108_243, e108_246, e108_247, e108_248, Option.bind_some, Option.toList_some, Option.toList_none, List.cons_append, List.nil_append, true_or, or_true, and_true, true_and, i10, Bool.false_eq_true, if_true, if_false, reduceIte, g0, z1, S_depthOf hS s2 hb hc]
        rfl
      · refine PR_mk (v := crv σ c 6) hC0 CO_r m0 hF0 hW0 (go.trans ?_) (m_crateW (d := d + 14) hR w1 hc (by decide))
        rw [show nI 6 = 6 from rfl]
        simp only [e108_1, e108_4, e108_5, e108_8, e108_11, e108_12, e108_13, e108_14c0, e108_14c1, e108_14c2, e108_14c3, e108_14c4, e108_14c5, e108_14c6, e108_14c7, e108_14c8, e108_14c9, e108_14c10, e108_14c11, e108_14c12, e108_14c13, e108_14c14, e108_14d, e108_88, e108_89, e108_92, e108_93, e108_96, e108_97, e108_98, e108_101, e108_102, e108_105, e108_106, e108_107, e108_110, e108_111, e108_114, e108_115, e108_116, e108_119, e108_120, e108_123, e108_124, e108_125, e108_128, e108_129, e108_132, e108_135, e108_137, e108_140, e108_141, e108_144, e108_145, e108_148, e108_149, e108_150, e108_153, e108_154, e108_157, e108_158, e108_159, e108_162, e108_163, e108_166, e108_167, e108_168, e108_171, e108_172, e108_175, e108_176, e108_177, e108_180, e108_181, e108_184, e108_185, e108_186, e108_189, e108_190, e108_193, e108_194, e108_195, e108_198, e108_199, e108_202, e108_203, e108_204, e108_207, e108_208, e108_211, e108_214, e108_215, e108_218, e108_219, e108_220, e108_221, e108_224, e108_225, e108_228, e108_229, e108_230, e108_233, e108_234, e108_237, e108_238, e108_239, e108_242, e108_243, e108_246, e108_247, e108_248, Option.bind_some, Option.toList_some, Option.toList_none, List.cons_append, List.nil_append, true_or, or_true, and_true, true_and, i10, Bool.false_eq_true, if_true, if_false, reduceIte, g0, z1, S_pileOf hS s2 hb hc]
        rfl
      · refine PR_mk (v := crv σ c 7) hC0 CO_r m0 hF0 hW0 (go.trans ?_) (m_crateW (d := d + 14) hR w1 hc (by decide))
        rw [show nI 7 = 7 from rfl]
        simp only [e108_1, e108_4, e108_5, e108_8, e108_11, e108_12, e108_13, e108_14c0, e108_14c1, e108_14c2, e108_14c3, e108_14c4, e108_14c5, e108_14c6, e108_14c7, e108_14c8, e108_14c9, e108_14c10, e108_14c11, e108_14c12, e108_14c13, e108_14c14, e108_14d, e108_88, e108_89, e108_92, e108_93, e108_96, e108_97, e108_98, e108_101, e108_102, e108_105, e108_106, e108_107, e108_110, e108_111, e108_114, e108_115, e108_116, e108_119, e108_120, e108_123, e108_124, e108_125, e108_128, e108_129, e108_132, e108_135, e108_137, e108_140, e108_141, e108_144, e108_145, e108_148, e108_149, e108_150, e108_153, e108_154, e108_157, e108_158, e108_159, e108_162, e108_163, e108_166, e108_167, e108_168, e108_171, e108_172, e108_175, e108_176, e108_177, e108_180, e108_181, e108_184, e108_185, e108_186, e108_189, e108_190, e108_193, e108_194, e108_195, e108_198, e108_199, e108_202, e108_203, e108_204, e108_207, e108_208, e108_211, e108_214, e108_215, e108_218, e108_219, e108_220, e108_221, e108_224, e108_225, e108_228, e108_229, e108_230, e108_233, e108_234, e108_237, e108_238, e108_239, e108_242, e108_243, e108_246, e108_247, e108_248, Option.bind_some, Option.toList_some, Option.toList_none, List.cons_append, List.nil_append, true_or, or_true, and_true, true_and, i10, Bool.false_eq_true, if_true, if_false, reduceIte, g0, z1, S_loadOf hS s2 hb hc]
        rfl
      · refine PR_mk (v := crv σ c 8) hC0 CO_r m0 hF0 hW0 (go.trans ?_) (m_crateW (d := d + 14) hR w1 hc (by decide))
        rw [show nI 8 = 8 from rfl]
        simp only [e108_1, e108_4, e108_5, e108_8, e108_11, e108_12, e108_13, e108_14c0, e108_14c1, e108_14c2, e108_14c3, e108_14c4, e108_14c5, e108_14c6, e108_14c7, e108_14c8, e108_14c9, e108_14c10, e108_14c11, e108_14c12, e108_14c13, e108_14c14, e108_14d, e108_88, e108_89, e108_92, e108_93, e108_96, e108_97, e108_98, e108_101, e108_102, e108_105, e108_106, e108_107, e108_110, e108_111, e108_114, e108_115, e108_116, e108_119, e108_120, e108_123, e108_124, e108_125, e108_128, e108_129, e108_132, e108_135, e108_137, e108_140, e108_141, e108_144, e108_145, e108_148, e108_149, e108_150, e108_153, e108_154, e108_157, e108_158, e108_159, e108_162, e108_163, e108_166, e108_167, e108_168, e108_171, e108_172, e108_175, e108_176, e108_177, e108_180, e108_181, e108_184, e108_185, e108_186, e108_189, e108_190, e108_193, e108_194, e108_195, e108_198, e108_199, e108_202, e108_203, e108_204, e108_207, e108_208, e108_211, e108_214, e108_215, e108_218, e108_219, e108_220, e108_221, e108_224, e108_225, e108_228, e108_229, e108_230, e108_233, e108_234, e108_237, e108_238, e108_239, e108_242, e108_243, e108_246, e108_247, e108_248, Option.bind_some, Option.toList_some, Option.toList_none, List.cons_append, List.nil_append, true_or, or_true, and_true, true_and, i10, Bool.false_eq_true, if_true, if_false, reduceIte, g0, z1, S_roomLeftIn hS s2 hb hc]
        rfl
      · refine PR_mk (v := crv σ c 9) hC0 CO_r m0 hF0 hW0 (go.trans ?_) (m_crateW (d := d + 14) hR w1 hc (by decide))
        rw [show nI 9 = 9 from rfl]
        simp only [e108_1, e108_4, e108_5, e108_8, e108_11, e108_12, e108_13, e108_14c0, e108_14c1, e108_14c2, e108_14c3, e108_14c4, e108_14c5, e108_14c6, e108_14c7, e108_14c8, e108_14c9, e108_14c10, e108_14c11, e108_14c12, e108_14c13, e108_14c14, e108_14d, e108_88, e108_89, e108_92, e108_93, e108_96, e108_97, e108_98, e108_101, e108_102, e108_105, e108_106, e108_107, e108_110, e108_111, e108_114, e108_115, e108_116, e108_119, e108_120, e108_123, e108_124, e108_125, e108_128, e108_129, e108_132, e108_135, e108_137, e108_140, e108_141, e108_144, e108_145, e108_148, e108_149, e108_150, e108_153, e108_154, e108_157, e108_158, e108_159, e108_162, e108_163, e108_166, e108_167, e108_168, e108_171, e108_172, e108_175, e108_176, e108_177, e108_180, e108_181, e108_184, e108_185, e108_186, e108_189, e108_190, e108_193, e108_194, e108_195, e108_198, e108_199, e108_202, e108_203, e108_204, e108_207, e108_208, e108_211, e108_214, e108_215, e108_218, e108_219, e108_220, e108_221, e108_224, e108_225, e108_228, e108_229, e108_230, e108_233, e108_234, e108_237, e108_238, e108_239, e108_242, e108_243, e108_246, e108_247, e108_248, Option.bind_some, Option.toList_some, Option.toList_none, List.cons_append, List.nil_append, true_or, or_true, and_true, true_and, i10, Bool.false_eq_true, if_true, if_false, reduceIte, g0, z1, S_placeOf hS s2 hb hc]
        rfl
      · refine PR_mk (v := crv σ c 10) hC0 CO_r m0 hF0 hW0 (go.trans ?_) (m_crateW (d := d + 14) hR w1 hc (by decide))
        rw [show nI 10 = 10 from rfl]
        simp only [e108_1, e108_4, e108_5, e108_8, e108_11, e108_12, e108_13, e108_14c0, e108_14c1, e108_14c2, e108_14c3, e108_14c4, e108_14c5, e108_14c6, e108_14c7, e108_14c8, e108_14c9, e108_14c10, e108_14c11, e108_14c12, e108_14c13, e108_14c14, e108_14d, e108_88, e108_89, e108_92, e108_93, e108_96, e108_97, e108_98, e108_101, e108_102, e108_105, e108_106, e108_107, e108_110, e108_111, e108_114, e108_115, e108_116, e108_119, e108_120, e108_123, e108_124, e108_125, e108_128, e108_129, e108_132, e108_135, e108_137, e108_140, e108_141, e108_144, e108_145, e108_148, e108_149, e108_150, e108_153, e108_154, e108_157, e108_158, e108_159, e108_162, e108_163, e108_166, e108_167, e108_168, e108_171, e108_172, e108_175, e108_176, e108_177, e108_180, e108_181, e108_184, e108_185, e108_186, e108_189, e108_190, e108_193, e108_194, e108_195, e108_198, e108_199, e108_202, e108_203, e108_204, e108_207, e108_208, e108_211, e108_214, e108_215, e108_218, e108_219, e108_220, e108_221, e108_224, e108_225, e108_228, e108_229, e108_230, e108_233, e108_234, e108_237, e108_238, e108_239, e108_242, e108_243, e108_246, e108_247, e108_248, Option.bind_some, Option.toList_some, Option.toList_none, List.cons_append, List.nil_append, true_or, or_true, and_true, true_and, i10, Bool.false_eq_true, if_true, if_false, reduceIte, g0, z1, S_effort hS s2 w1 hc]
        rfl
      · refine PR_mk (v := crv σ c 11) (CI_view hC0 V') (CO_vw V') m0 hF0 hW0 (go.trans ?_) (m_crateW (d := d + 14) hR w1 hc (by decide))
        rw [show nI 11 = 11 from rfl]
        show _ = some (some (Value.int (bI (tld σ c = true))), hvw H 64 V')
        have ct := V_canTell (d := d + 19) hV b1 hb hc
        cases u : tld σ c with
        | true =>
          rw [u, bI_t rfl] at ct
          simp only [e108_1, e108_4, e108_5, e108_8, e108_11, e108_12, e108_13, e108_14c0, e108_14c1, e108_14c2, e108_14c3, e108_14c4, e108_14c5, e108_14c6, e108_14c7, e108_14c8, e108_14c9, e108_14c10, e108_14c11, e108_14c12, e108_14c13, e108_14c14, e108_14d, e108_88, e108_89, e108_92, e108_93, e108_96, e108_97, e108_98, e108_101, e108_102, e108_105, e108_106, e108_107, e108_110, e108_111, e108_114, e108_115, e108_116, e108_119, e108_120, e108_123, e108_124, e108_125, e108_128, e108_129, e108_132, e108_135, e108_137, e108_140, e108_141, e108_144, e108_145, e108_148, e108_149, e108_150, e108_153, e108_154, e108_157, e108_158, e108_159, e108_162, e108_163, e108_166, e108_167, e108_168, e108_171, e108_172, e108_175, e108_176, e108_177, e108_180, e108_181, e108_184, e108_185, e108_186, e108_189, e108_190, e108_193, e108_194, e108_195, e108_198, e108_199, e108_202, e108_203, e108_204, e108_207, e108_208, e108_211, e108_214, e108_215, e108_218, e108_219, e108_220, e108_221, e108_224, e108_225, e108_228, e108_229, e108_230, e108_233, e108_234, e108_237, e108_238, e108_239, e108_242, e108_243, e108_246, e108_247, e108_248, Option.bind_some, Option.toList_some, Option.toList_none, List.cons_append, List.nil_append, true_or, or_true, and_true, true_and, i10, Bool.false_eq_true, if_true, if_false, reduceIte, z0, b2, zv, ct]
          rfl
        | false =>
          rw [u, bI_f Bool.false_ne_true] at ct
          simp only [e108_1, e108_4, e108_5, e108_8, e108_11, e108_12, e108_13, e108_14c0, e108_14c1, e108_14c2, e108_14c3, e108_14c4, e108_14c5, e108_14c6, e108_14c7, e108_14c8, e108_14c9, e108_14c10, e108_14c11, e108_14c12, e108_14c13, e108_14c14, e108_14d, e108_88, e108_89, e108_92, e108_93, e108_96, e108_97, e108_98, e108_101, e108_102, e108_105, e108_106, e108_107, e108_110, e108_111, e108_114, e108_115, e108_116, e108_119, e108_120, e108_123, e108_124, e108_125, e108_128, e108_129, e108_132, e108_135, e108_137, e108_140, e108_141, e108_144, e108_145, e108_148, e108_149, e108_150, e108_153, e108_154, e108_157, e108_158, e108_159, e108_162, e108_163, e108_166, e108_167, e108_168, e108_171, e108_172, e108_175, e108_176, e108_177, e108_180, e108_181, e108_184, e108_185, e108_186, e108_189, e108_190, e108_193, e108_194, e108_195, e108_198, e108_199, e108_202, e108_203, e108_204, e108_207, e108_208, e108_211, e108_214, e108_215, e108_218, e108_219, e108_220, e108_221, e108_224, e108_225, e108_228, e108_229, e108_230, e108_233, e108_234, e108_237, e108_238, e108_239, e108_242, e108_243, e108_246, e108_247, e108_248, Option.bind_some, Option.toList_some, Option.toList_none, List.cons_append, List.nil_append, true_or, or_true, and_true, true_and, i10, Bool.false_eq_true, if_true, if_false, reduceIte, z0, b2, zv, ct]
          rfl
      · refine PR_mk (v := crv σ c 12) (CI_view hC0 V') (CO_vw V') m0 hF0 hW0 (go.trans ?_) (m_crateW (d := d + 14) hR w1 hc (by decide))
        rw [show nI 12 = 12 from rfl]
        simp only [e108_1, e108_4, e108_5, e108_8, e108_11, e108_12, e108_13, e108_14c0, e108_14c1, e108_14c2, e108_14c3, e108_14c4, e108_14c5, e108_14c6, e108_14c7, e108_14c8, e108_14c9, e108_14c10, e108_14c11, e108_14c12, e108_14c13, e108_14c14, e108_14d, e108_88, e108_89, e108_92, e108_93, e108_96, e108_97, e108_98, e108_101, e108_102, e108_105, e108_106, e108_107, e108_110, e108_111, e108_114, e108_115, e108_116, e108_119, e108_120, e108_123, e108_124, e108_125, e108_128, e108_129, e108_132, e108_135, e108_137, e108_140, e108_141, e108_144, e108_145, e108_148, e108_149, e108_150, e108_153, e108_154, e108_157, e108_158, e108_159, e108_162, e108_163, e108_166, e108_167, e108_168, e108_171, e108_172, e108_175, e108_176, e108_177, e108_180, e108_181, e108_184, e108_185, e108_186, e108_189, e108_190, e108_193, e108_194, e108_195, e108_198, e108_199, e108_202, e108_203, e108_204, e108_207, e108_208, e108_211, e108_214, e108_215, e108_218, e108_219, e108_220, e108_221, e108_224, e108_225, e108_228, e108_229, e108_230, e108_233, e108_234, e108_237, e108_238, e108_239, e108_242, e108_243, e108_246, e108_247, e108_248, Option.bind_some, Option.toList_some, Option.toList_none, List.cons_append, List.nil_append, true_or, or_true, and_true, true_and, i10, Bool.false_eq_true, if_true, if_false, reduceIte, z0, b2, zv, V_lettersSeenOf hV b1 hb hc]
        rfl
      · refine PR_mk (v := crv σ c 13) hC0 CO_r m0 hF0 hW0 (go.trans ?_) (m_crateW (d := d + 14) hR w1 hc (by decide))
        rw [show nI 13 = 13 from rfl]
        simp only [e108_1, e108_4, e108_5, e108_8, e108_11, e108_12, e108_13, e108_14c0, e108_14c1, e108_14c2, e108_14c3, e108_14c4, e108_14c5, e108_14c6, e108_14c7, e108_14c8, e108_14c9, e108_14c10, e108_14c11, e108_14c12, e108_14c13, e108_14c14, e108_14d, e108_88, e108_89, e108_92, e108_93, e108_96, e108_97, e108_98, e108_101, e108_102, e108_105, e108_106, e108_107, e108_110, e108_111, e108_114, e108_115, e108_116, e108_119, e108_120, e108_123, e108_124, e108_125, e108_128, e108_129, e108_132, e108_135, e108_137, e108_140, e108_141, e108_144, e108_145, e108_148, e108_149, e108_150, e108_153, e108_154, e108_157, e108_158, e108_159, e108_162, e108_163, e108_166, e108_167, e108_168, e108_171, e108_172, e108_175, e108_176, e108_177, e108_180, e108_181, e108_184, e108_185, e108_186, e108_189, e108_190, e108_193, e108_194, e108_195, e108_198, e108_199, e108_202, e108_203, e108_204, e108_207, e108_208, e108_211, e108_214, e108_215, e108_218, e108_219, e108_220, e108_221, e108_224, e108_225, e108_228, e108_229, e108_230, e108_233, e108_234, e108_237, e108_238, e108_239, e108_242, e108_243, e108_246, e108_247, e108_248, Option.bind_some, Option.toList_some, Option.toList_none, List.cons_append, List.nil_append, true_or, or_true, and_true, true_and, i10, Bool.false_eq_true, if_true, if_false, reduceIte, g0, z1, S_best hS s2 w1 hc]
        rfl
      · refine PR_mk (v := crv σ c 14) hC0 CO_r m0 hF0 hW0 (go.trans ?_) (m_crateW (d := d + 14) hR w1 hc (by decide))
        rw [show nI 14 = 14 from rfl]
        simp only [e108_1, e108_4, e108_5, e108_8, e108_11, e108_12, e108_13, e108_14c0, e108_14c1, e108_14c2, e108_14c3, e108_14c4, e108_14c5, e108_14c6, e108_14c7, e108_14c8, e108_14c9, e108_14c10, e108_14c11, e108_14c12, e108_14c13, e108_14c14, e108_14d, e108_88, e108_89, e108_92, e108_93, e108_96, e108_97, e108_98, e108_101, e108_102, e108_105, e108_106, e108_107, e108_110, e108_111, e108_114, e108_115, e108_116, e108_119, e108_120, e108_123, e108_124, e108_125, e108_128, e108_129, e108_132, e108_135, e108_137, e108_140, e108_141, e108_144, e108_145, e108_148, e108_149, e108_150, e108_153, e108_154, e108_157, e108_158, e108_159, e108_162, e108_163, e108_166, e108_167, e108_168, e108_171, e108_172, e108_175, e108_176, e108_177, e108_180, e108_181, e108_184, e108_185, e108_186, e108_189, e108_190, e108_193, e108_194, e108_195, e108_198, e108_199, e108_202, e108_203, e108_204, e108_207, e108_208, e108_211, e108_214, e108_215, e108_218, e108_219, e108_220, e108_221, e108_224, e108_225, e108_228, e108_229, e108_230, e108_233, e108_234, e108_237, e108_238, e108_239, e108_242, e108_243, e108_246, e108_247, e108_248, Option.bind_some, Option.toList_some, Option.toList_none, List.cons_append, List.nil_append, true_or, or_true, and_true, true_and, i10, Bool.false_eq_true, if_true, if_false, reduceIte, g0, z1, S_reasonNotToGround hS s2 w1 hc]
        rfl
    · refine PR_mk (v := -1) hC0 CO_r m0 hF0 hW0 (go.trans ?_) (m_crateD (d := d + 14) hR hn hc hy)
      simp only [e108_14d (swd (b := 14) (by decide) hy), e108_247, e108_248, Option.bind_some, Option.toList_some, Option.toList_none, List.cons_append, List.nil_append, true_or, or_true, and_true, true_and, i10, Bool.false_eq_true, if_true, if_false, reduceIte]
theorem st_count (hC : CI H σ r e len k κ w m) (hM : MI H σ r e len k κ w m) (hW : WF σ e len k κ) : PR d H 115 196 [some (.int x)] [some (.int x)] := by
  have hC0 := hC
  obtain ⟨⟨X, x1, x2⟩, ⟨S, s1, s2, s3⟩, ⟨T, t1⟩, ⟨K, k1, k2⟩, hh, ⟨P, p1, p2⟩, ⟨R, r1⟩, ⟨F, f1⟩, ⟨Y, y1⟩, ⟨V, v1⟩, ⟨N, n1⟩⟩ := hC
  obtain ⟨M, m0, hF⟩ := hM
  have hF0 := hF
  obtain ⟨m1, m2, m3, m4, m5⟩ := hF
  have hW0 := hW
  obtain ⟨w1, w2, w3, w4⟩ := hW
  have hS := at_st s1
  have hb := w1.bnd
  have hn := hb.1
  have hR := mrw_R m1
  have g0 := cx_0 x1
  have z1 := cz_st s1
  have z0 := cz_sx x1
  by_cases hy : 0 ≤ x ∧ x ≤ nI 14
  · obtain ⟨u, -, hu, rfl⟩ := rng (a := 0) (b := 14) hy.1 hy.2 (by decide) (by decide)
    obtain ⟨V', b1, b2⟩ := c_view (d := d + 13) x1 s1 v1 s2 hb
    have hV : hvw (hvw H 64 V') 64 V' = hvw H 64 V' := at_vw at_new
    have zv : zis (hvw H 64 V') 64 6 = true := cz_vw at_new
    have mc := fun (G : zH) => m_count (d := d + 12) (h := G) (i := 71) (M := M) (e := e) (len := len) ⟨m1, m2⟩ w1 m5 hu
    rcases to14 hu with z | z | z | z | z | z | z | z | z | z | z | z | z | z | z <;> subst z
    · obtain ⟨ρ, mq⟩ := mc H
      refine PR_mk (v := cnv σ r m len 0) (M' := setR M 10 ρ) hC0 CO_r m0 (MF_L hF0 mfL_10) hW0 ?_ mq
      rw [show nI 0 = 0 from rfl]
      simp only [e115_0, e115_1c0, e115_1c1, e115_1c2, e115_1c3, e115_1c4, e115_1c5, e115_1c6, e115_1c7, e115_1c8, e115_1c9, e115_1c10, e115_1c11, e115_1c12, e115_1c13, e115_1c14, e115_1d, e115_76, e115_77, e115_80, e115_83, e115_84, e115_85, e115_88, e115_91, e115_92, e115_93, e115_96, e115_99, e115_100, e115_101, e115_104, e115_107, e115_108, e115_109, e115_112, e115_115, e115_116, e115_117, e115_120, e115_123, e115_124, e115_127, e115_130, e115_131, e115_132, e115_133, e115_136, e115_139, e115_140, e115_141, e115_144, e115_147, e115_148, e115_149, e115_152, e115_155, e115_156, e115_157, e115_160, e115_163, e115_164, e115_165, e115_168, e115_169, e115_172, e115_175, e115_176, e115_177, e115_180, e115_183, e115_184, e115_185, e115_188, e115_191, e115_192, e115_193, e115_196, e115_199, e115_200, e115_201, e115_204, e115_207, e115_208, e115_209, Option.bind_some, Option.toList_some, Option.toList_none, List.cons_append, List.nil_append, true_or, or_true, and_true, true_and, i10, Bool.false_eq_true, if_true, if_false, reduceIte, g0, z1, S_crates hS s2]
      rfl
    · obtain ⟨ρ, mq⟩ := mc H
      refine PR_mk (v := cnv σ r m len 1) (M' := setR M 10 ρ) hC0 CO_r m0 (MF_L hF0 mfL_10) hW0 ?_ mq
      rw [show nI 1 = 1 from rfl]
      simp only [e115_0, e115_1c0, e115_1c1, e115_1c2, e115_1c3, e115_1c4, e115_1c5, e115_1c6, e115_1c7, e115_1c8, e115_1c9, e115_1c10, e115_1c11, e115_1c12, e115_1c13, e115_1c14, e115_1d, e115_76, e115_77, e115_80, e115_83, e115_84, e115_85, e115_88, e115_91, e115_92, e115_93, e115_96, e115_99, e115_100, e115_101, e115_104, e115_107, e115_108, e115_109, e115_112, e115_115, e115_116, e115_117, e115_120, e115_123, e115_124, e115_127, e115_130, e115_131, e115_132, e115_133, e115_136, e115_139, e115_140, e115_141, e115_144, e115_147, e115_148, e115_149, e115_152, e115_155, e115_156, e115_157, e115_160, e115_163, e115_164, e115_165, e115_168, e115_169, e115_172, e115_175, e115_176, e115_177, e115_180, e115_183, e115_184, e115_185, e115_188, e115_191, e115_192, e115_193, e115_196, e115_199, e115_200, e115_201, e115_204, e115_207, e115_208, e115_209, Option.bind_some, Option.toList_some, Option.toList_none, List.cons_append, List.nil_append, true_or, or_true, and_true, true_and, i10, Bool.false_eq_true, if_true, if_false, reduceIte, g0, z1, S_onGround hS s2 hb]
      rfl
    · obtain ⟨ρ, mq⟩ := mc H
      refine PR_mk (v := cnv σ r m len 2) (M' := setR M 10 ρ) hC0 CO_r m0 (MF_L hF0 mfL_10) hW0 ?_ mq
      rw [show nI 2 = 2 from rfl]
      simp only [e115_0, e115_1c0, e115_1c1, e115_1c2, e115_1c3, e115_1c4, e115_1c5, e115_1c6, e115_1c7, e115_1c8, e115_1c9, e115_1c10, e115_1c11, e115_1c12, e115_1c13, e115_1c14, e115_1d, e115_76, e115_77, e115_80, e115_83, e115_84, e115_85, e115_88, e115_91, e115_92, e115_93, e115_96, e115_99, e115_100, e115_101, e115_104, e115_107, e115_108, e115_109, e115_112, e115_115, e115_116, e115_117, e115_120, e115_123, e115_124, e115_127, e115_130, e115_131, e115_132, e115_133, e115_136, e115_139, e115_140, e115_141, e115_144, e115_147, e115_148, e115_149, e115_152, e115_155, e115_156, e115_157, e115_160, e115_163, e115_164, e115_165, e115_168, e115_169, e115_172, e115_175, e115_176, e115_177, e115_180, e115_183, e115_184, e115_185, e115_188, e115_191, e115_192, e115_193, e115_196, e115_199, e115_200, e115_201, e115_204, e115_207, e115_208, e115_209, Option.bind_some, Option.toList_some, Option.toList_none, List.cons_append, List.nil_append, true_or, or_true, and_true, true_and, i10, Bool.false_eq_true, if_true, if_false, reduceIte, g0, z1, S_loose hS s2 w1]
      rfl
    · obtain ⟨ρ, mq⟩ := mc H
      refine PR_mk (v := cnv σ r m len 3) (M' := setR M 10 ρ) hC0 CO_r m0 (MF_L hF0 mfL_10) hW0 ?_ mq
      rw [show nI 3 = 3 from rfl]
      simp only [e115_0, e115_1c0, e115_1c1, e115_1c2, e115_1c3, e115_1c4, e115_1c5, e115_1c6, e115_1c7, e115_1c8, e115_1c9, e115_1c10, e115_1c11, e115_1c12, e115_1c13, e115_1c14, e115_1d, e115_76, e115_77, e115_80, e115_83, e115_84, e115_85, e115_88, e115_91, e115_92, e115_93, e115_96, e115_99, e115_100, e115_101, e115_104, e115_107, e115_108, e115_109, e115_112, e115_115, e115_116, e115_117, e115_120, e115_123, e115_124, e115_127, e115_130, e115_131, e115_132, e115_133, e115_136, e115_139, e115_140, e115_141, e115_144, e115_147, e115_148, e115_149, e115_152, e115_155, e115_156, e115_157, e115_160, e115_163, e115_164, e115_165, e115_168, e115_169, e115_172, e115_175, e115_176, e115_177, e115_180, e115_183, e115_184, e115_185, e115_188, e115_191, e115_192, e115_193, e115_196, e115_199, e115_200, e115_201, e115_204, e115_207, e115_208, e115_209, Option.bind_some, Option.toList_some, Option.toList_none, List.cons_append, List.nil_append, true_or, or_true, and_true, true_and, i10, Bool.false_eq_true, if_true, if_false, reduceIte, g0, z1, S_greatestDepth hS s2 hb]
      rfl
    · obtain ⟨ρ, mq⟩ := mc H
      refine PR_mk (v := cnv σ r m len 4) (M' := setR M 10 ρ) hC0 CO_r m0 (MF_L hF0 mfL_10) hW0 ?_ mq
      rw [show nI 4 = 4 from rfl]
      simp only [e115_0, e115_1c0, e115_1c1, e115_1c2, e115_1c3, e115_1c4, e115_1c5, e115_1c6, e115_1c7, e115_1c8, e115_1c9, e115_1c10, e115_1c11, e115_1c12, e115_1c13, e115_1c14, e115_1d, e115_76, e115_77, e115_80, e115_83, e115_84, e115_85, e115_88, e115_91, e115_92, e115_93, e115_96, e115_99, e115_100, e115_101, e115_104, e115_107, e115_108, e115_109, e115_112, e115_115, e115_116, e115_117, e115_120, e115_123, e115_124, e115_127, e115_130, e115_131, e115_132, e115_133, e115_136, e115_139, e115_140, e115_141, e115_144, e115_147, e115_148, e115_149, e115_152, e115_155, e115_156, e115_157, e115_160, e115_163, e115_164, e115_165, e115_168, e115_169, e115_172, e115_175, e115_176, e115_177, e115_180, e115_183, e115_184, e115_185, e115_188, e115_191, e115_192, e115_193, e115_196, e115_199, e115_200, e115_201, e115_204, e115_207, e115_208, e115_209, Option.bind_some, Option.toList_some, Option.toList_none, List.cons_append, List.nil_append, true_or, or_true, and_true, true_and, i10, Bool.false_eq_true, if_true, if_false, reduceIte, g0, z1, S_sizes hS s2 w1]
      rfl
    · obtain ⟨ρ, mq⟩ := mc H
      refine PR_mk (v := cnv σ r m len 5) (M' := setR M 10 ρ) hC0 CO_r m0 (MF_L hF0 mfL_10) hW0 ?_ mq
      rw [show nI 5 = 5 from rfl]
      have e5 : nI (rms σ) - nI (lyg σ) = iI ((rms σ : Int) - (lyg σ : Int)) := by rw [iI_nat, iI_nat, iI_sub]
      have q1 := S_rooms (d := d + 19) hS s2 w1
      have q2 := S_sizesLying (d := d + 16) hS s2 w1
      simp only [e115_0, e115_1c0, e115_1c1, e115_1c2, e115_1c3, e115_1c4, e115_1c5, e115_1c6, e115_1c7, e115_1c8, e115_1c9, e115_1c10, e115_1c11, e115_1c12, e115_1c13, e115_1c14, e115_1d, e115_76, e115_77, e115_80, e115_83, e115_84, e115_85, e115_88, e115_91, e115_92, e115_93, e115_96, e115_99, e115_100, e115_101, e115_104, e115_107, e115_108, e115_109, e115_112, e115_115, e115_116, e115_117, e115_120, e115_123, e115_124, e115_127, e115_130, e115_131, e115_132, e115_133, e115_136, e115_139, e115_140, e115_141, e115_144, e115_147, e115_148, e115_149, e115_152, e115_155, e115_156, e115_157, e115_160, e115_163, e115_164, e115_165, e115_168, e115_169, e115_172, e115_175, e115_176, e115_177, e115_180, e115_183, e115_184, e115_185, e115_188, e115_191, e115_192, e115_193, e115_196, e115_199, e115_200, e115_201, e115_204, e115_207, e115_208, e115_209, Option.bind_some, Option.toList_some, Option.toList_none, List.cons_append, List.nil_append, true_or, or_true, and_true, true_and, i10, Bool.false_eq_true, if_true, if_false, reduceIte, g0, z1, q1, q2]
      exact congrArg (fun z => some (some (Value.int z), H)) e5
    · obtain ⟨ρ, mq⟩ := mc (hvw H 64 V')
      refine PR_mk (v := cnv σ r m len 6) (M' := setR M 10 ρ) (CI_view hC0 V') (CO_vw V') m0 (MF_L hF0 mfL_10) hW0 ?_ mq
      rw [show nI 6 = 6 from rfl]
      simp only [e115_0, e115_1c0, e115_1c1, e115_1c2, e115_1c3, e115_1c4, e115_1c5, e115_1c6, e115_1c7, e115_1c8, e115_1c9, e115_1c10, e115_1c11, e115_1c12, e115_1c13, e115_1c14, e115_1d, e115_76, e115_77, e115_80, e115_83, e115_84, e115_85, e115_88, e115_91, e115_92, e115_93, e115_96, e115_99, e115_100, e115_101, e115_104, e115_107, e115_108, e115_109, e115_112, e115_115, e115_116, e115_117, e115_120, e115_123, e115_124, e115_127, e115_130, e115_131, e115_132, e115_133, e115_136, e115_139, e115_140, e115_141, e115_144, e115_147, e115_148, e115_149, e115_152, e115_155, e115_156, e115_157, e115_160, e115_163, e115_164, e115_165, e115_168, e115_169, e115_172, e115_175, e115_176, e115_177, e115_180, e115_183, e115_184, e115_185, e115_188, e115_191, e115_192, e115_193, e115_196, e115_199, e115_200, e115_201, e115_204, e115_207, e115_208, e115_209, Option.bind_some, Option.toList_some, Option.toList_none, List.cons_append, List.nil_append, true_or, or_true, and_true, true_and, i10, Bool.false_eq_true, if_true, if_false, reduceIte, z0, b2, zv, V_tellable hV b1 hb]
      rfl
    · obtain ⟨ρ, mq⟩ := mc H
      refine PR_mk (v := cnv σ r m len 7) (M' := setR M 10 ρ) hC0 CO_r m0 (MF_L hF0 mfL_10) hW0 ?_ mq
      rw [show nI 7 = 7 from rfl]
      simp only [e115_0, e115_1c0, e115_1c1, e115_1c2, e115_1c3, e115_1c4, e115_1c5, e115_1c6, e115_1c7, e115_1c8, e115_1c9, e115_1c10, e115_1c11, e115_1c12, e115_1c13, e115_1c14, e115_1d, e115_76, e115_77, e115_80, e115_83, e115_84, e115_85, e115_88, e115_91, e115_92, e115_93, e115_96, e115_99, e115_100, e115_101, e115_104, e115_107, e115_108, e115_109, e115_112, e115_115, e115_116, e115_117, e115_120, e115_123, e115_124, e115_127, e115_130, e115_131, e115_132, e115_133, e115_136, e115_139, e115_140, e115_141, e115_144, e115_147, e115_148, e115_149, e115_152, e115_155, e115_156, e115_157, e115_160, e115_163, e115_164, e115_165, e115_168, e115_169, e115_172, e115_175, e115_176, e115_177, e115_180, e115_183, e115_184, e115_185, e115_188, e115_191, e115_192, e115_193, e115_196, e115_199, e115_200, e115_201, e115_204, e115_207, e115_208, e115_209, Option.bind_some, Option.toList_some, Option.toList_none, List.cons_append, List.nil_append, true_or, or_true, and_true, true_and, i10, Bool.false_eq_true, if_true, if_false, reduceIte, g0, z1, S_letters hS s2 w1]
      rfl
    · obtain ⟨ρ, mq⟩ := mc (hvw H 64 V')
      refine PR_mk (v := cnv σ r m len 8) (M' := setR M 10 ρ) (CI_view hC0 V') (CO_vw V') m0 (MF_L hF0 mfL_10) hW0 ?_ mq
      rw [show nI 8 = 8 from rfl]
      simp only [e115_0, e115_1c0, e115_1c1, e115_1c2, e115_1c3, e115_1c4, e115_1c5, e115_1c6, e115_1c7, e115_1c8, e115_1c9, e115_1c10, e115_1c11, e115_1c12, e115_1c13, e115_1c14, e115_1d, e115_76, e115_77, e115_80, e115_83, e115_84, e115_85, e115_88, e115_91, e115_92, e115_93, e115_96, e115_99, e115_100, e115_101, e115_104, e115_107, e115_108, e115_109, e115_112, e115_115, e115_116, e115_117, e115_120, e115_123, e115_124, e115_127, e115_130, e115_131, e115_132, e115_133, e115_136, e115_139, e115_140, e115_141, e115_144, e115_147, e115_148, e115_149, e115_152, e115_155, e115_156, e115_157, e115_160, e115_163, e115_164, e115_165, e115_168, e115_169, e115_172, e115_175, e115_176, e115_177, e115_180, e115_183, e115_184, e115_185, e115_188, e115_191, e115_192, e115_193, e115_196, e115_199, e115_200, e115_201, e115_204, e115_207, e115_208, e115_209, Option.bind_some, Option.toList_some, Option.toList_none, List.cons_append, List.nil_append, true_or, or_true, and_true, true_and, i10, Bool.false_eq_true, if_true, if_false, reduceIte, z0, b2, zv, V_lettersSeen hV b1 hb]
      rfl
    · obtain ⟨ρ, mq⟩ := mc (hvw H 64 V')
      refine PR_mk (v := cnv σ r m len 9) (M' := setR M 10 ρ) (CI_view hC0 V') (CO_vw V') m0 (MF_L hF0 mfL_10) hW0 ?_ mq
      rw [show nI 9 = 9 from rfl]
      simp only [e115_0, e115_1c0, e115_1c1, e115_1c2, e115_1c3, e115_1c4, e115_1c5, e115_1c6, e115_1c7, e115_1c8, e115_1c9, e115_1c10, e115_1c11, e115_1c12, e115_1c13, e115_1c14, e115_1d, e115_76, e115_77, e115_80, e115_83, e115_84, e115_85, e115_88, e115_91, e115_92, e115_93, e115_96, e115_99, e115_100, e115_101, e115_104, e115_107, e115_108, e115_109, e115_112, e115_115, e115_116, e115_117, e115_120, e115_123, e115_124, e115_127, e115_130, e115_131, e115_132, e115_133, e115_136, e115_139, e115_140, e115_141, e115_144, e115_147, e115_148, e115_149, e115_152, e115_155, e115_156, e115_157, e115_160, e115_163, e115_164, e115_165, e115_168, e115_169, e115_172, e115_175, e115_176, e115_177, e115_180, e115_183, e115_184, e115_185, e115_188, e115_191, e115_192, e115_193, e115_196, e115_199, e115_200, e115_201, e115_204, e115_207, e115_208, e115_209, Option.bind_some, Option.toList_some, Option.toList_none, List.cons_append, List.nil_append, true_or, or_true, and_true, true_and, i10, Bool.false_eq_true, if_true, if_false, reduceIte, z0, b2, zv, V_differentRows hV b1 hb]
      rfl
    · obtain ⟨W', a1, a2⟩ := l_find (d := d + 14) (h := H) (v := 68) (i := 1) (V := N) (S := S) s2 w1 (Or.inr (by omega))
      have e1 : hst (hln H 68 W') 1 S = hln H 68 W' := at_st (at_out s1 (Or.inl (Nat.le_of_ble_eq_true rfl)))
      rw [at_ln n1, hS, e1] at a2
      obtain ⟨ρ, mq⟩ := mc (hln H 68 W')
      refine PR_mk (H1 := hln H 68 W') (v := cnv σ r m len 10) (M' := setR M 10 ρ) (CI_ln hC0 (fun j _ a => hrg_out (by rw [ln_len]; omega)) ⟨W', at_new⟩) (CO_h (Nat.le_of_ble_eq_true rfl)) m0 (MF_L hF0 mfL_10) hW0 ?_ mq
      rw [show nI 10 = 10 from rfl]
      simp only [e115_0, e115_1c0, e115_1c1, e115_1c2, e115_1c3, e115_1c4, e115_1c5, e115_1c6, e115_1c7, e115_1c8, e115_1c9, e115_1c10, e115_1c11, e115_1c12, e115_1c13, e115_1c14, e115_1d, e115_76, e115_77, e115_80, e115_83, e115_84, e115_85, e115_88, e115_91, e115_92, e115_93, e115_96, e115_99, e115_100, e115_101, e115_104, e115_107, e115_108, e115_109, e115_112, e115_115, e115_116, e115_117, e115_120, e115_123, e115_124, e115_127, e115_130, e115_131, e115_132, e115_133, e115_136, e115_139, e115_140, e115_141, e115_144, e115_147, e115_148, e115_149, e115_152, e115_155, e115_156, e115_157, e115_160, e115_163, e115_164, e115_165, e115_168, e115_169, e115_172, e115_175, e115_176, e115_177, e115_180, e115_183, e115_184, e115_185, e115_188, e115_191, e115_192, e115_193, e115_196, e115_199, e115_200, e115_201, e115_204, e115_207, e115_208, e115_209, Option.bind_some, Option.toList_some, Option.toList_none, List.cons_append, List.nil_append, true_or, or_true, and_true, true_and, i10, Bool.false_eq_true, if_true, if_false, reduceIte, cx_9 x1, g0, cz_ln n1, a2]
      rfl
    · obtain ⟨ρ, mq⟩ := mc H
      refine PR_mk (v := cnv σ r m len 11) (M' := setR M 10 ρ) hC0 CO_r m0 (MF_L hF0 mfL_10) hW0 ?_ mq
      rw [show nI 11 = 11 from rfl]
      simp only [e115_0, e115_1c0, e115_1c1, e115_1c2, e115_1c3, e115_1c4, e115_1c5, e115_1c6, e115_1c7, e115_1c8, e115_1c9, e115_1c10, e115_1c11, e115_1c12, e115_1c13, e115_1c14, e115_1d, e115_76, e115_77, e115_80, e115_83, e115_84, e115_85, e115_88, e115_91, e115_92, e115_93, e115_96, e115_99, e115_100, e115_101, e115_104, e115_107, e115_108, e115_109, e115_112, e115_115, e115_116, e115_117, e115_120, e115_123, e115_124, e115_127, e115_130, e115_131, e115_132, e115_133, e115_136, e115_139, e115_140, e115_141, e115_144, e115_147, e115_148, e115_149, e115_152, e115_155, e115_156, e115_157, e115_160, e115_163, e115_164, e115_165, e115_168, e115_169, e115_172, e115_175, e115_176, e115_177, e115_180, e115_183, e115_184, e115_185, e115_188, e115_191, e115_192, e115_193, e115_196, e115_199, e115_200, e115_201, e115_204, e115_207, e115_208, e115_209, Option.bind_some, Option.toList_some, Option.toList_none, List.cons_append, List.nil_append, true_or, or_true, and_true, true_and, i10, Bool.false_eq_true, if_true, if_false, reduceIte, g0, S_sumOfAll hS s2 w1]
      rfl
    · obtain ⟨ρ, mq⟩ := mc H
      refine PR_mk (v := cnv σ r m len 12) (M' := setR M 10 ρ) hC0 CO_r m0 (MF_L hF0 mfL_10) hW0 ?_ mq
      rw [show nI 12 = 12 from rfl]
      simp only [e115_0, e115_1c0, e115_1c1, e115_1c2, e115_1c3, e115_1c4, e115_1c5, e115_1c6, e115_1c7, e115_1c8, e115_1c9, e115_1c10, e115_1c11, e115_1c12, e115_1c13, e115_1c14, e115_1d, e115_76, e115_77, e115_80, e115_83, e115_84, e115_85, e115_88, e115_91, e115_92, e115_93, e115_96, e115_99, e115_100, e115_101, e115_104, e115_107, e115_108, e115_109, e115_112, e115_115, e115_116, e115_117, e115_120, e115_123, e115_124, e115_127, e115_130, e115_131, e115_132, e115_133, e115_136, e115_139, e115_140, e115_141, e115_144, e115_147, e115_148, e115_149, e115_152, e115_155, e115_156, e115_157, e115_160, e115_163, e115_164, e115_165, e115_168, e115_169, e115_172, e115_175, e115_176, e115_177, e115_180, e115_183, e115_184, e115_185, e115_188, e115_191, e115_192, e115_193, e115_196, e115_199, e115_200, e115_201, e115_204, e115_207, e115_208, e115_209, Option.bind_some, Option.toList_some, Option.toList_none, List.cons_append, List.nil_append, true_or, or_true, and_true, true_and, i10, Bool.false_eq_true, if_true, if_false, reduceIte, g0, z1, S_refused hS, s3]
      rfl
    · obtain ⟨ρ, mq⟩ := mc H
      refine PR_mk (v := cnv σ r m len 13) (M' := setR M 10 ρ) hC0 CO_r m0 (MF_L hF0 mfL_10) hW0 ?_ mq
      rw [show nI 13 = 13 from rfl]
      simp only [e115_0, e115_1c0, e115_1c1, e115_1c2, e115_1c3, e115_1c4, e115_1c5, e115_1c6, e115_1c7, e115_1c8, e115_1c9, e115_1c10, e115_1c11, e115_1c12, e115_1c13, e115_1c14, e115_1d, e115_76, e115_77, e115_80, e115_83, e115_84, e115_85, e115_88, e115_91, e115_92, e115_93, e115_96, e115_99, e115_100, e115_101, e115_104, e115_107, e115_108, e115_109, e115_112, e115_115, e115_116, e115_117, e115_120, e115_123, e115_124, e115_127, e115_130, e115_131, e115_132, e115_133, e115_136, e115_139, e115_140, e115_141, e115_144, e115_147, e115_148, e115_149, e115_152, e115_155, e115_156, e115_157, e115_160, e115_163, e115_164, e115_165, e115_168, e115_169, e115_172, e115_175, e115_176, e115_177, e115_180, e115_183, e115_184, e115_185, e115_188, e115_191, e115_192, e115_193, e115_196, e115_199, e115_200, e115_201, e115_204, e115_207, e115_208, e115_209, Option.bind_some, Option.toList_some, Option.toList_none, List.cons_append, List.nil_append, true_or, or_true, and_true, true_and, i10, Bool.false_eq_true, if_true, if_false, reduceIte, cx_5 x1, cz_pd p1, P_length p1 p2]
      rfl
    · obtain ⟨ρ, mq⟩ := mc H
      obtain ⟨-, Q, qq, hq, -⟩ := hh
      have zh := hs_is hq
      refine PR_mk (v := cnv σ r m len 14) (M' := setR M 10 ρ) hC0 CO_r m0 (MF_L hF0 mfL_10) hW0 ?_ mq
      rw [show nI 14 = 14 from rfl]
      simp only [e115_0, e115_1c0, e115_1c1, e115_1c2, e115_1c3, e115_1c4, e115_1c5, e115_1c6, e115_1c7, e115_1c8, e115_1c9, e115_1c10, e115_1c11, e115_1c12, e115_1c13, e115_1c14, e115_1d, e115_76, e115_77, e115_80, e115_83, e115_84, e115_85, e115_88, e115_91, e115_92, e115_93, e115_96, e115_99, e115_100, e115_101, e115_104, e115_107, e115_108, e115_109, e115_112, e115_115, e115_116, e115_117, e115_120, e115_123, e115_124, e115_127, e115_130, e115_131, e115_132, e115_133, e115_136, e115_139, e115_140, e115_141, e115_144, e115_147, e115_148, e115_149, e115_152, e115_155, e115_156, e115_157, e115_160, e115_163, e115_164, e115_165, e115_168, e115_169, e115_172, e115_175, e115_176, e115_177, e115_180, e115_183, e115_184, e115_185, e115_188, e115_191, e115_192, e115_193, e115_196, e115_199, e115_200, e115_201, e115_204, e115_207, e115_208, e115_209, Option.bind_some, Option.toList_some, Option.toList_none, List.cons_append, List.nil_append, true_or, or_true, and_true, true_and, i10, Bool.false_eq_true, if_true, if_false, reduceIte, cx_4 x1, zh, X_length hq]
      rfl
  · refine PR_mk (v := -1) hC0 CO_r m0 hF0 hW0 ?_ (m_countD (d := d + 12) hy)
    simp only [e115_0, e115_1d (swd (b := 14) (by decide) hy), e115_208, e115_209, Option.bind_some, Option.toList_some, Option.toList_none, List.cons_append, List.nil_append, true_or, or_true, and_true, true_and, i10, Bool.false_eq_true, if_true, if_false, reduceIte]
theorem st_full (hC : CI H σ r e len k κ w m) (hM : MI H σ r e len k κ w m) (hW : WF σ e len k κ) : PRD d H 116 197 [none] [none] := by
  have hC0 := hC
  obtain ⟨⟨X, x1, x2⟩, ⟨S, s1, s2, s3⟩, ⟨T, t1⟩, ⟨K, k1, k2⟩, hh, ⟨P, p1, p2⟩, ⟨R, r1⟩, ⟨F, f1⟩, ⟨Y, y1⟩, ⟨V, v1⟩, ⟨N, n1⟩⟩ := hC
  obtain ⟨M, m0, hF⟩ := hM
  have hF0 := hF
  obtain ⟨m1, m2, m3, m4, m5⟩ := hF
  have hW0 := hW
  obtain ⟨w1, w2, w3, w4⟩ := hW
  have hS := at_st s1
  have hb := w1.bnd
  have hn := hb.1
  have hR := mrw_R m1
  have g0 := cx_0 x1
  have z1 := cz_st s1
  have z0 := cz_sx x1
  have b1 := rms_b hb
  have b2 := lyg_b hb
  have q1 := S_rooms (d := d + 19) hS s2 w1
  have q2 := S_sizesLying (d := d + 16) hS s2 w1
  have e1 : (nI (rms σ) ≤ 0) = (rms σ ≤ 0) := nI_lep (b := 0) (by omega) (by omega)
  have e2 : (0 < nI (rms σ)) = (0 < rms σ) := nI_ltp (a := 0) (by omega) (by omega)
  refine PRD_mk (v := ful σ) hC0 CO_r m0 hF0 hW0 ?_ (m_full (d := d + 12) hR w1)
  change ev (d + 19) 65 0 _ [] H = some (some (.int (nI (rms σ))), H) at q1
  change ev (d + 19) 64 0 _ [] H = some (some (.int (nI (lyg σ))), H) at q2
  unfold ful
  by_cases q : rms σ = 0
  · rw [if_pos q]
    simp only [e116_0, e116_1, e116_4, e116_7, e116_8, e116_9, e116_12, e116_13, e116_14, e116_15, e116_18, e116_21, e116_22, e116_23, e116_25, Option.bind_some, Option.toList_some, Option.toList_none, List.cons_append, List.nil_append, true_or, or_true, and_true, true_and, i10, Bool.false_eq_true, if_true, if_false, reduceIte, g0, z1, q1, e1, e2, eq_true (show rms σ ≤ 0 by omega), eq_false (show ¬ 0 < rms σ by omega)]
  · rw [if_neg q]
    simp only [e116_0, e116_1, e116_4, e116_7, e116_8, e116_9, e116_12, e116_13, e116_14, e116_15, e116_18, e116_21, e116_22, e116_23, e116_25, e116_24 (fp_div (show lyg σ < 721 by omega) (show rms σ < 721 by omega) q), Option.bind_some, Option.toList_some, Option.toList_none, List.cons_append, List.nil_append, true_or, or_true, and_true, true_and, i10, Bool.false_eq_true, if_true, if_false, reduceIte, g0, z1, q1, q2, e1, e2, eq_false (show ¬ rms σ ≤ 0 by omega), eq_true (show 0 < rms σ by omega)]
theorem st_ifTurned (hC : CI H σ r e len k κ w m) (hM : MI H σ r e len k κ w m) (hW : WF σ e len k κ) : PR d H 117 198 [some (.int x), some (.int y)] [some (.int x), some (.int y), none, none] := by
  have hC0 := hC
  obtain ⟨⟨X, x1, x2⟩, ⟨S, s1, s2, s3⟩, ⟨T, t1⟩, ⟨K, k1, k2⟩, hh, ⟨P, p1, p2⟩, ⟨R, r1⟩, ⟨F, f1⟩, ⟨Y, y1⟩, ⟨V, v1⟩, ⟨N, n1⟩⟩ := hC
  obtain ⟨M, m0, hF⟩ := hM
  have hF0 := hF
  obtain ⟨m1, m2, m3, m4, m5⟩ := hF
  have hW0 := hW
  obtain ⟨w1, w2, w3, w4⟩ := hW
  have hS := at_st s1
  have hb := w1.bnd
  have hn := hb.1
  have hR := mrw_R m1
  have g0 := cx_0 x1
  have z1 := cz_st s1
  have z0 := cz_sx x1
  cases q : zin x σ.1 with
  | false =>
    refine PR_mk (v := -1) hC0 CO_r m0 hF0 hW0 ?_ (m_ifT0 (d := d + 12) hR hn (Or.inl q))
    simp only [e117_0, e117_1, e117_4, e117_5, e117_8, e117_11, e117_12, e117_13, e117_14c0, e117_14c1, e117_14d, e117_40, e117_41, e117_42, e117_45, e117_48, e117_49, e117_50, e117_51, e117_54, e117_57, e117_58, e117_59, Option.bind_some, Option.toList_some, Option.toList_none, List.cons_append, List.nil_append, true_or, or_true, and_true, true_and, i10, Bool.false_eq_true, if_true, if_false, reduceIte, g0, z1, S_isC0 hS s2 hn q]
  | true =>
    obtain ⟨c, hc, rfl⟩ := zin_some (by omega) q
    obtain ⟨T', V', b1, b2⟩ := c_vt (d := d + 13) x1 s1 t1 v1 s2 w1 hc
    have hV : hvw (hvw (hst H 8 T') 64 V') 64 V' = hvw (hst H 8 T') 64 V' := at_vw at_new
    have zv : zis (hvw (hst H 8 T') 64 V') 64 6 = true := cz_vw at_new
    have hbt := (trd_wf w1 (c := c)).bnd
    by_cases y0 : y = 0
    · subst y0
      have mi := m_ifT (d := d + 12) (h := hvw (hst H 8 T') 64 V') (i := 71) (M := M) (y := 0) hR w1 hc ⟨Int32.le_refl _, by decide⟩
      rw [if_pos rfl] at mi
      refine PR_mk (v := nI (ltn σ c)) (CI_vt hC0 T' V') (CO_vt T' V') m0 hF0 hW0 ?_ mi
      simp only [e117_0, e117_1, e117_4, e117_5, e117_8, e117_11, e117_12, e117_13, e117_14c0, e117_14c1, e117_14d, e117_40, e117_41, e117_42, e117_45, e117_48, e117_49, e117_50, e117_51, e117_54, e117_57, e117_58, e117_59, Option.bind_some, Option.toList_some, Option.toList_none, List.cons_append, List.nil_append, true_or, or_true, and_true, true_and, i10, Bool.false_eq_true, if_true, if_false, reduceIte, g0, z0, z1, S_isCrate_k hS s2 hb hc, b2, zv, V_lettersSeen hV b1 hbt]
      rfl
    · by_cases y1 : y = 1
      · subst y1
        have mi := m_ifT (d := d + 12) (h := hvw (hst H 8 T') 64 V') (i := 71) (M := M) (y := 1) hR w1 hc ⟨by decide, Int32.le_refl _⟩
        rw [if_neg (by decide)] at mi
        refine PR_mk (v := nI (ct (tld (trd σ c)) σ.1)) (CI_vt hC0 T' V') (CO_vt T' V') m0 hF0 hW0 ?_ mi
        simp only [e117_0, e117_1, e117_4, e117_5, e117_8, e117_11, e117_12, e117_13, e117_14c0, e117_14c1, e117_14d, e117_40, e117_41, e117_42, e117_45, e117_48, e117_49, e117_50, e117_51, e117_54, e117_57, e117_58, e117_59, Option.bind_some, Option.toList_some, Option.toList_none, List.cons_append, List.nil_append, true_or, or_true, and_true, true_and, i10, Bool.false_eq_true, if_true, if_false, reduceIte, g0, z0, z1, S_isCrate_k hS s2 hb hc, b2, zv, V_tellable hV b1 hbt]
        rfl
      · have hy : ¬ ((0 : Int32) ≤ y ∧ y ≤ 1) := fun z => by
          obtain ⟨u, -, hu, rfl⟩ := rng (a := 0) (b := 1) z.1 z.2 (by decide) (by decide)
          have h2 : u = 0 ∨ u = 1 := by omega
          rcases h2 with v | v <;> subst v
          · exact y0 rfl
          · exact y1 rfl
        refine PR_mk (v := -1) hC0 CO_r m0 hF0 hW0 ?_ (m_ifT0 (d := d + 12) hR hn (Or.inr hy))
        simp only [e117_0, e117_1, e117_4, e117_5, e117_8, e117_11, e117_12, e117_13, e117_14c0, e117_14c1, e117_14d, e117_40, e117_41, e117_42, e117_45, e117_48, e117_49, e117_50, e117_51, e117_54, e117_57, e117_58, e117_59, e117_14d y0 y1, Option.bind_some, Option.toList_some, Option.toList_none, List.cons_append, List.nil_append, true_or, or_true, and_true, true_and, i10, Bool.false_eq_true, if_true, if_false, reduceIte, g0, z1, S_isCrate_k hS s2 hb hc]
theorem st_bestTurn (hC : CI H σ r e len k κ w m) (hM : MI H σ r e len k κ w m) (hW : WF σ e len k κ) : PR d H 118 199 [none, none, none, none] [none, none, none, none] := by
  have hC0 := hC
  obtain ⟨⟨X, x1, x2⟩, ⟨S, s1, s2, s3⟩, ⟨T, t1⟩, ⟨K, k1, k2⟩, hh, ⟨P, p1, p2⟩, ⟨R, r1⟩, ⟨F, f1⟩, ⟨Y, y1⟩, ⟨V, v1⟩, ⟨N, n1⟩⟩ := hC
  obtain ⟨M, m0, hF⟩ := hM
  have hF0 := hF
  obtain ⟨m1, m2, m3, m4, m5⟩ := hF
  have hW0 := hW
  obtain ⟨w1, w2, w3, w4⟩ := hW
  have hS := at_st s1
  have hb := w1.bnd
  have hn := hb.1
  have hR := mrw_R m1
  have g0 := cx_0 x1
  have z1 := cz_st s1
  have z0 := cz_sx x1
  have main : ∀ (f i : Nat) (s : Nat × Int) (A B : oS) (z : Option Value), i + f = σ.1 → (-1 ≤ s.2 ∧ s.2 ≤ 60) → s = zfold (bts σ) i (0, -1) → ∃ A' B', ev (d + 20) 118 7 [some (.ref 0), some (.int (cB s.1)), some (.int (iI s.2)), some (.int (nI i)), z] [] (hvw (hst H 8 A) 64 B) = some (some (.int (cB (btn σ))), hvw (hst H 8 A') 64 B') := by
    intro f
    induction f with
    | zero =>
      intro i s A B z hi hs he
      have hi : i = σ.1 := by omega
      subst hi
      have sA : at_ (hst H 8 A) 1 (stL 1 S) := at_out s1 (Or.inl (Nat.le_of_ble_eq_true rfl))
      have sB : at_ (hvw (hst H 8 A) 64 B) 1 (stL 1 S) := at_out sA (Or.inl (Nat.le_of_ble_eq_true rfl))
      have xA : at_ (hst H 8 A) 0 (sxL 0 X) := at_out x1 (Or.inl (Nat.le_of_ble_eq_true rfl))
      have xB : at_ (hvw (hst H 8 A) 64 B) 0 (sxL 0 X) := at_out xA (Or.inl (Nat.le_of_ble_eq_true rfl))
      refine ⟨A, B, ?_⟩
      rw [e118_7]
      simp only [e118_0, e118_2, e118_3, e118_4, e118_5, e118_6, e118_8, e118_9, e118_12, e118_15, e118_18, e118_19, e118_20, e118_23, e118_26, e118_28, e118_30, e118_31, e118_34, e118_36, e118_37, e118_38, e118_39, e118_42, e118_45, e118_46, Option.bind_some, Option.toList_some, Option.toList_none, List.cons_append, List.nil_append, true_or, or_true, and_true, true_and, i10, Bool.false_eq_true, if_true, if_false, reduceIte, cx_0 xB, cz_st sB, S_crates (at_st sB) s2, Int32.le_refl]
      rw [he]
      rfl
    | succ f ih =>
      intro i s A B z hi hs he
      have hi2 : i < σ.1 := by omega
      have e0 : (nI σ.1 ≤ nI i) = False := (nI_lep (by omega) (by omega)).trans (eq_false (by omega))
      have sA : at_ (hst H 8 A) 1 (stL 1 S) := at_out s1 (Or.inl (Nat.le_of_ble_eq_true rfl))
      have sB : at_ (hvw (hst H 8 A) 64 B) 1 (stL 1 S) := at_out sA (Or.inl (Nat.le_of_ble_eq_true rfl))
      have xA : at_ (hst H 8 A) 0 (sxL 0 X) := at_out x1 (Or.inl (Nat.le_of_ble_eq_true rfl))
      have xB : at_ (hvw (hst H 8 A) 64 B) 0 (sxL 0 X) := at_out xA (Or.inl (Nat.le_of_ble_eq_true rfl))
      have tA : at_ (hst H 8 A) 8 (stL 8 A) := at_new
      have tB : at_ (hvw (hst H 8 A) 64 B) 8 (stL 8 A) := at_out tA (Or.inl (Nat.le_of_ble_eq_true rfl))
      have vB : at_ (hvw (hst H 8 A) 64 B) 64 (vwL 64 B) := at_new
      obtain ⟨T', V', b1, b2⟩ := c_vt (d := d + 13) xB sB tB vB s2 w1 hi2
      have e1 : hvw (hst (hvw (hst H 8 A) 64 B) 8 T') 64 V' = hvw (hst H 8 T') 64 V' := by
        have q1 : hst (hvw (hst H 8 A) 64 B) 8 T' = hvw (hst H 8 T') 64 B := by
          refine (hrg_comm (h := hst H 8 A) (i := 64) (j := 8) (l := vwL 64 B) (m := stL 8 T') (Or.inr (Nat.le_of_ble_eq_true rfl))).trans ?_
          exact congrArg (fun z => hrg z 64 (vwL 64 B)) (hrg_hrg rfl)
        rw [q1]
        exact hrg_hrg rfl
      rw [e1] at b2
      have hV : hvw (hvw (hst H 8 T') 64 V') 64 V' = hvw (hst H 8 T') 64 V' := at_vw at_new
      have zv : zis (hvw (hst H 8 T') 64 V') 64 6 = true := cz_vw at_new
      have hbt := (trd_wf w1 (c := i)).bnd
      have ls : ev (d + 19) 88 0 [some (.ref 64), none, none] [] (hvw (hst H 8 T') 64 V') = some (some (.int (nI (ltn σ i))), hvw (hst H 8 T') 64 V') := V_lettersSeen hV b1 hbt
      have hl := ltn_b hn (c := i)
      rw [iI_nat (ltn σ i)] at ls
      have e3 : (iI (ltn σ i : Int) ≤ iI s.2) = ((ltn σ i : Int) ≤ s.2) := iI_le (by omega) (by omega)
      have e4 : (iI s.2 < iI (ltn σ i : Int)) = (s.2 < (ltn σ i : Int)) := iI_lt (by omega) (by omega)
      by_cases q : s.2 < (ltn σ i : Int)
      · have nx : bts σ i s = (i + 1, (ltn σ i : Int)) := if_pos q
        obtain ⟨A', B', c1⟩ := ih (i + 1) (i + 1, (ltn σ i : Int)) T' V' (some (.int (iI (ltn σ i : Int)))) (by omega) (by dsimp only; omega) (by rw [zfold, ← he, nx])
        refine ⟨A', B', ?_⟩
        rw [e118_7]
        simp only [e118_0, e118_2, e118_3, e118_4, e118_5, e118_6, e118_8, e118_9, e118_12, e118_15, e118_18, e118_19, e118_20, e118_23, e118_26, e118_28, e118_30, e118_31, e118_34, e118_36, e118_37, e118_38, e118_39, e118_42, e118_45, e118_46, Option.bind_some, Option.toList_some, Option.toList_none, List.cons_append, List.nil_append, true_or, or_true, and_true, true_and, i10, Bool.false_eq_true, if_true, if_false, reduceIte, cx_0 xB, cz_st sB, cz_sx xB, S_crates (at_st sB) s2, e0, b2, zv, ls, e3, e4, eq_true q, eq_false (show ¬ (ltn σ i : Int) ≤ s.2 by omega), nI_1]
        exact c1
      · have nx : bts σ i s = s := if_neg q
        obtain ⟨A', B', c1⟩ := ih (i + 1) s T' V' (some (.int (iI (ltn σ i : Int)))) (by omega) hs (by rw [zfold, ← he, nx])
        refine ⟨A', B', ?_⟩
        rw [e118_7]
        simp only [e118_0, e118_2, e118_3, e118_4, e118_5, e118_6, e118_8, e118_9, e118_12, e118_15, e118_18, e118_19, e118_20, e118_23, e118_26, e118_28, e118_30, e118_31, e118_34, e118_36, e118_37, e118_38, e118_39, e118_42, e118_45, e118_46, Option.bind_some, Option.toList_some, Option.toList_none, List.cons_append, List.nil_append, true_or, or_true, and_true, true_and, i10, Bool.false_eq_true, if_true, if_false, reduceIte, cx_0 xB, cz_st sB, cz_sx xB, S_crates (at_st sB) s2, e0, b2, zv, ls, e3, e4, eq_false q, eq_true (show (ltn σ i : Int) ≤ s.2 by omega), nI_1]
        exact c1
  obtain ⟨A', B', c1⟩ := main σ.1 0 (0, -1) T V none (by omega) ⟨by decide, by decide⟩ rfl
  have e1 : hvw (hst H 8 T) 64 V = H := by rw [at_st t1]; exact at_vw v1
  rw [e1] at c1
  refine PR_mk (v := cB (btn σ)) (CI_vt hC0 A' B') (CO_vt A' B') m0 hF0 hW0 ?_ (m_bestT (d := d + 11) hR w1)
  simp only [e118_0, e118_2, e118_3, e118_4, e118_5, e118_6, e118_8, e118_9, e118_12, e118_15, e118_18, e118_19, e118_20, e118_23, e118_26, e118_28, e118_30, e118_31, e118_34, e118_36, e118_37, e118_38, e118_39, e118_42, e118_45, e118_46, Option.bind_some, Option.toList_some, Option.toList_none, List.cons_append, List.nil_append, true_or, or_true, and_true, true_and, i10, Bool.false_eq_true, if_true, if_false, reduceIte]
  exact c1
theorem m_sign0 (hR : mdR M σ) (hn : σ.1 ≤ 12) (hz : zin x σ.1 = false) : ev (d + 6) 178 0 [some (.ref 71), some (.int x), some (.int y)] [] (hmd H 71 M) = some (some (.int (-1)), hmd H 71 M) := by
  simp only [e178_0, e178_1, e178_2, e178_5, e178_8, e178_9, e178_12, e178_13, e178_14, e178_15, e178_16, e178_19, e178_20, e178_21, e178_24, e178_27, e178_28, e178_31, e178_32, e178_33, e178_36, e178_38, md_g0, md_g1, md_g2, md_g3, md_g4, md_g5, md_g6, md_g7, md_g8, md_g9, md_g10, md_g11, md_g12, md_g13, md_g14, md_g15, md_g16, md_g17, md_g18, md_p3, md_p5, md_p7, md_p8, md_p9, md_p11, md_p13, md_p15, md_l0, md_l1, md_l2, md_l3, md_l4, md_l5, md_l6, md_l7, md_l8, md_l9, md_l10, md_s0, md_s1, md_s2, md_s3, md_s4, md_s5, md_s6, md_s7, md_s8, md_s9, md_s10, md_is, Option.bind_some, Option.toList_some, Option.toList_none, List.cons_append, List.nil_append, true_or, or_true, and_true, true_and, i10, Bool.false_eq_true, if_true, if_false, reduceIte, m_isC0 hR hn hz]
theorem st_sign (hC : CI H σ r e len k κ w m) (hM : MI H σ r e len k κ w m) (hW : WF σ e len k κ) : PR d H 107 178 [some (.int x), some (.int y)] [some (.int x), some (.int y)] := by
  have hC0 := hC
  obtain ⟨⟨X, x1, x2⟩, ⟨S, s1, s2, s3⟩, ⟨T, t1⟩, ⟨K, k1, k2⟩, hh, ⟨P, p1, p2⟩, ⟨R, r1⟩, ⟨F, f1⟩, ⟨Y, y1⟩, ⟨V, v1⟩, ⟨N, n1⟩⟩ := hC
  obtain ⟨M, m0, hF⟩ := hM
  have hF0 := hF
  obtain ⟨m1, m2, m3, m4, m5⟩ := hF
  have hW0 := hW
  obtain ⟨w1, w2, w3, w4⟩ := hW
  have hS := at_st s1
  have hb := w1.bnd
  have hn := hb.1
  have hR := mrw_R m1
  have g0 := cx_0 x1
  have z1 := cz_st s1
  have z0 := cz_sx x1
  cases q : zin x σ.1 with
  | false =>
    refine PR_mk (v := -1) hC0 CO_r m0 hF0 hW0 ?_ (m_sign0 (d := d + 14) hR hn q)
    simp only [e107_0, e107_1, e107_4, e107_5, e107_8, e107_11, e107_12, e107_15, e107_16, e107_17, e107_18, e107_21, e107_22, e107_25, e107_26, e107_29, e107_30, e107_33, e107_34, e107_37, Option.bind_some, Option.toList_some, Option.toList_none, List.cons_append, List.nil_append, true_or, or_true, and_true, true_and, i10, Bool.false_eq_true, if_true, if_false, reduceIte, g0, z1, S_isC0 hS s2 hn q]
  | true =>
    obtain ⟨c, hc, rfl⟩ := zin_some (by omega) q
    by_cases q2 : y < 0
    · obtain ⟨M', n1, ms⟩ := m_sign (d := d + 15) (h := H) (i := 71) (M := M) hR w1 hc (x := y)
      rw [if_pos q2] at ms
      refine PR_mk (v := -1) (M' := M') hC0 CO_r m0 (MF_L hF0 (mfL_9 n1)) hW0 ?_ ms
      have q2' : ¬ 0 ≤ y := Int32.not_le.mpr q2
      simp only [e107_0, e107_1, e107_4, e107_5, e107_8, e107_11, e107_12, e107_15, e107_16, e107_17, e107_18, e107_21, e107_22, e107_25, e107_26, e107_29, e107_30, e107_33, e107_34, e107_37, Option.bind_some, Option.toList_some, Option.toList_none, List.cons_append, List.nil_append, true_or, or_true, and_true, true_and, i10, Bool.false_eq_true, if_true, if_false, reduceIte, g0, z1, S_isCrate_k hS s2 hb hc, eq_true q2, eq_false q2']
    · have q2' : 0 ≤ y := Int32.not_lt.mp q2
      obtain ⟨W', a1, a2⟩ := w_write (d := d + 2) (h := H) (v := 62) (i := 1) (V := Y) (S := S) (Or.inr (by omega)) s2 w1 hc
      have e1 : hst (hnw H 62 W') 1 S = hnw H 62 W' := at_st (at_out s1 (Or.inl (Nat.le_of_ble_eq_true rfl)))
      rw [at_nw y1, hS, e1] at a2
      obtain ⟨M', n1, ms⟩ := m_sign (d := d + 15) (h := hnw H 62 W') (i := 71) (M := M) hR w1 hc (x := y)
      rw [if_neg q2] at ms
      have hlen := wrt_len w1 (f := 12) hc
      have sg := w_signAt (d := d + 19) (h := hnw H 62 W') (v := 62) a1 (by omega) (x := y)
      have e2 : hnw (hnw H 62 W') 62 W' = hnw H 62 W' := at_nw at_new
      rw [e2] at sg
      have g7 : zgetf (hnw H 62 W') 0 7 7 = some (.ref 62) := cx_7 (at_out x1 (Or.inl (Nat.le_of_ble_eq_true rfl)))
      have zn : zis (hnw H 62 W') 62 3 = true := cz_nw at_new
      refine PR_mk (H1 := hnw H 62 W') (v := sgv (wrt σ 12 c) y) (M' := M') (CI_nw hC0 (fun j _ a => hrg_out (by rw [nw_len]; omega)) ⟨W', at_new⟩) (CO_h (Nat.le_of_ble_eq_true rfl)) m0 (MF_L hF0 (mfL_9 n1)) hW0 ?_ ms
      simp only [e107_0, e107_1, e107_4, e107_5, e107_8, e107_11, e107_12, e107_15, e107_16, e107_17, e107_18, e107_21, e107_22, e107_25, e107_26, e107_29, e107_30, e107_33, e107_34, e107_37, Option.bind_some, Option.toList_some, Option.toList_none, List.cons_append, List.nil_append, true_or, or_true, and_true, true_and, i10, Bool.false_eq_true, if_true, if_false, reduceIte, g0, z1, S_isCrate_k hS s2 hb hc, eq_false q2, eq_true q2', cx_7 x1, cz_nw y1, a2, g7, zn, sg]
/-- the reader of the class over a whole heap -/
theorem c_read {X P R F : oS} (x1 : at_ H 0 (sxL 0 X)) (p1 : at_ H 52 (pdL 52 P)) (p2 : pdR P w m) (r1 : at_ H 54 (rdL 54 R)) (f1 : at_ H 55 (stL 55 F)) : ∃ R' F', (∀ q s', rnn w m 0 s00 = (q, some s') → psR R' F' s' ∧ psI2 m s') ∧ ev (d + 6) 13 0 [some (.ref 54), some (.ref 52), none] [] H = some (some (.int (rdv m (rnn w m 0 s00))), hst (hrd H 54 R') 55 F') := by
  obtain ⟨R', F', a1, a2⟩ := r_read (d := d) (h := H) (u := 52) (v := 54) (P := P) (R := R) (F := F) (by omega) p2
  have e1 : hst (hrd H 54 R) (54 + 1) F = H := by rw [at_rd r1]; exact at_st f1
  rw [at_pd p1, e1] at a2
  exact ⟨R', F', a1, a2⟩
theorem CI_rdr (hC : CI H σ r e len k κ w m) (R' F' : oS) : CI (hst (hrd H 54 R') 55 F') σ r e len k κ w m := CI_rd hC (fun j _ a => (hrg_out (by rw [st_len]; omega)).trans (hrg_out (by rw [rd_len]; omega))) ⟨R', at_out at_new (Or.inl (Nat.le_of_ble_eq_true rfl))⟩ ⟨F', at_new⟩
theorem CO_rdr (R' F' : oS) : CO H (hst (hrd H 54 R') 55 F') := CO_t (CO_h (Nat.le_of_ble_eq_true rfl)) (CO_h (Nat.le_of_ble_eq_true rfl))
theorem st_fault (hC : CI H σ r e len k κ w m) (hM : MI H σ r e len k κ w m) (hW : WF σ e len k κ) : PR d H 105 171 [] [] := by
  have hC0 := hC
  obtain ⟨⟨X, x1, x2⟩, ⟨S, s1, s2, s3⟩, ⟨T, t1⟩, ⟨K, k1, k2⟩, hh, ⟨P, p1, p2⟩, ⟨R, r1⟩, ⟨F, f1⟩, ⟨Y, y1⟩, ⟨V, v1⟩, ⟨N, n1⟩⟩ := hC
  obtain ⟨M, m0, hF⟩ := hM
  have hF0 := hF
  obtain ⟨m1, m2, m3, m4, m5⟩ := hF
  have hW0 := hW
  obtain ⟨w1, w2, w3, w4⟩ := hW
  have hS := at_st s1
  have hb := w1.bnd
  have hn := hb.1
  have hR := mrw_R m1
  have g0 := cx_0 x1
  have z1 := cz_st s1
  have z0 := cz_sx x1
  obtain ⟨R', F', a1, a2⟩ := c_read (d := d + 13) x1 p1 p2 r1 f1
  obtain ⟨M', b1, b2⟩ := m_fault (d := d + 16) (h := hst (hrd H 54 R') 55 F') (i := 71) (M := M) m5
  refine PR_mk (v := rdv m (rnn w m 0 s00)) (M' := M') (CI_rdr hC0 R' F') (CO_rdr R' F') m0 (MF_L hF0 (mfL_c b1)) hW0 ?_ b2
  simp only [e105_0, e105_1, e105_4, e105_5, e105_8, e105_11, Option.bind_some, Option.toList_some, Option.toList_none, List.cons_append, List.nil_append, true_or, or_true, and_true, true_and, i10, Bool.false_eq_true, if_true, if_false, reduceIte, cx_6 x1, cx_5 x1, cz_rd r1, a2]
end LOOKS2
