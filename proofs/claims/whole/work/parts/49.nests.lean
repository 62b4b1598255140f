/-! THE NESTS IN THE READER OF THE REFERENCE -/
def z4f (f : Nat → Int32) (a : Nat) : Nat → Int32 := upd (upd (upd (upd f a 0) (a + 1) 0) (a + 2) 0) (a + 3) 0
theorem z4f_o {f : Nat → Int32} {a y : Nat} (hy : y < a ∨ a + 4 ≤ y) : z4f f a y = f y := by
  have h0 : ¬ y = a := by omega
  have h1 : ¬ y = a + 1 := by omega
  have h2 : ¬ y = a + 2 := by omega
  have h3 : ¬ y = a + 3 := by omega
  simp only [z4f, upd, h0, h1, h2, h3, if_false]
theorem z4f_i {f : Nat → Int32} {a q : Nat} (hq : q < 4) : z4f f a (a + q) = 0 := by
  have h4 : q = 0 ∨ q = 1 ∨ q = 2 ∨ q = 3 := by omega
  rcases h4 with w | w | w | w <;> subst w <;> simp [z4f, upd]
theorem bgn_o {τ : mS} {u a j : Nat} (ha : a < τ.1) : (bgn τ u).2 a j = τ.2 a j := by
  cases u with
  | zero => exact if_neg (by omega)
  | succ k =>
    show (laid (addd τ zA) τ.1 k).2 a j = _
    rw [laid_2, if_neg (by omega), if_neg (by omega)]
    exact if_neg (by omega)
theorem bgn_7 {τ : mS} {u : Nat} : (bgn τ u).2 τ.1 7 = u := by
  cases u with
  | zero => exact if_pos rfl
  | succ k =>
    show (laid (addd τ zA) τ.1 k).2 τ.1 7 = _
    rw [laid_2, if_pos ⟨rfl, rfl⟩]
theorem bgn_8 {τ : mS} {u : Nat} : (bgn τ u).2 τ.1 8 = plc τ u := by
  cases u with
  | zero => exact if_pos rfl
  | succ k =>
    show (laid (addd τ zA) τ.1 k).2 τ.1 8 = _
    rw [laid_2, if_neg (by omega), if_pos ⟨rfl, rfl⟩]
    unfold plc pil
    show ct _ (τ.1 + 1) = _
    rw [ct]
    have e0 : decide ((gnd (addd τ zA) τ.1).2 τ.1 7 = k + 1) = false := by
      rw [gnd_2, if_pos ⟨rfl, Or.inl rfl⟩]
      simp
    rw [e0]
    refine ct_cong (fun a ha => ?_)
    rw [gnd_2, if_neg (by omega)]
    show decide ((if a = τ.1 then zA 7 else τ.2 a 7) = k + 1) = _
    rw [if_neg (by omega)]
section NESTS
variable {d : Nat} {h : zH} {i : Nat} {M : oS} {s : pS} {w : Nat → Nat} {m p : Nat}
theorem m_head {t : Nat} {b : Bool} (hj : jN M w m p s t) (hc : s.2.2.2.2.2.1 ≤ 11) (hb : b = decide (65 ≤ hre w m p ∧ hre w m p ≤ 90)) : ev (d + 1) 169 0 [some (.ref i), none, none, none, none] [] (hmd h i M) = ev (d + 1) 169 96 [some (.ref i), some (.int (nI (9 * s.2.2.2.2.2.1))), some (.int (hI s.2.2.2.2.1)), some (.int (nI 0)), some (.int 4)] [] (hmd h i (setI (tkS (setR M 5 (z4f (M.1 5) (9 * s.2.2.2.2.2.1 + 3))) b p) 3 (nI p))) := by
  obtain ⟨hJ, hp, hpr, hst, hP, h4, h3, hR, h6, ho, ht⟩ := hj
  have hm := hP.2.1
  have h5 := hR.1
  have hbb := hre_b (p := p) hP
  have hP0 : pmR (setR M 5 (z4f (M.1 5) (9 * s.2.2.2.2.2.1 + 3))) w m := pmR_c hP (mfC_R (by decide))
  have h30 : (setR M 5 (z4f (M.1 5) (9 * s.2.2.2.2.2.1 + 3))).2 3 = nI p := h3
  have h40 : (setR M 5 (z4f (M.1 5) (9 * s.2.2.2.2.2.1 + 3))).2 4 = bI (true = true) := h4
  have e9 : (9 : Int32) * nI s.2.2.2.2.2.1 = nI (9 * s.2.2.2.2.2.1) := pk_mul 9 _
  have e3 : nI (9 * s.2.2.2.2.2.1) + 3 = nI (9 * s.2.2.2.2.2.1 + 3) := nI_add _ 3
  have z0 : nI (9 * s.2.2.2.2.2.1 + 3) + 0 = nI (9 * s.2.2.2.2.2.1 + 3) := Int32.add_zero _
  have z2 : nI (9 * s.2.2.2.2.2.1 + 3) + 2 = nI (9 * s.2.2.2.2.2.1 + 3 + 2) := nI_add _ 2
  have z3 : nI (9 * s.2.2.2.2.2.1 + 3) + 3 = nI (9 * s.2.2.2.2.2.1 + 3 + 3) := nI_add _ 3
  have hr : ∀ f g : Nat → Int32, setR (setR M 5 f) 5 g = setR M 5 g := fun f g => setR_setR M 5 f g
  have h1 : ∀ f : Nat → Int32, (setR M 5 f).1 5 = f := fun _ => rfl
  have hz : upd (upd (upd (upd (M.1 5) (9 * s.2.2.2.2.2.1 + 3) 0) (9 * s.2.2.2.2.2.1 + 3 + 1) 0) (9 * s.2.2.2.2.2.1 + 3 + 2) 0) (9 * s.2.2.2.2.2.1 + 3 + 3) 0 = z4f (M.1 5) (9 * s.2.2.2.2.2.1 + 3) := rfl
  have c1 : (0 + 1 : Int32) = 1 := by decide
  have c2 : (1 + 1 : Int32) = 2 := by decide
  have c3 : (2 + 1 : Int32) = 3 := by decide
  have c4 : (3 + 1 : Int32) = 4 := by decide
  have l0 : ((4 : Int32) ≤ 0) = False := by decide
  have l1 : ((4 : Int32) ≤ 1) = False := by decide
  have l2 : ((4 : Int32) ≤ 2) = False := by decide
  have l3 : ((4 : Int32) ≤ 3) = False := by decide
  have n0 : nI 0 = 0 := rfl
  have x0 := zin_T (show 9 * s.2.2.2.2.2.1 + 3 < 126 by omega) (show 126 < 2147483648 by decide)
  have x1 := zin_T (show 9 * s.2.2.2.2.2.1 + 3 + 1 < 126 by omega) (show 126 < 2147483648 by decide)
  have x2 := zin_T (show 9 * s.2.2.2.2.2.1 + 3 + 2 < 126 by omega) (show 126 < 2147483648 by decide)
  have x3 := zin_T (show 9 * s.2.2.2.2.2.1 + 3 + 3 < 126 by omega) (show 126 < 2147483648 by decide)
  have y0 := nI_clamp (show 9 * s.2.2.2.2.2.1 + 3 < 2 ^ 31 by omega)
  have y1 := nI_clamp (show 9 * s.2.2.2.2.2.1 + 3 + 1 < 2 ^ 31 by omega)
  have y2 := nI_clamp (show 9 * s.2.2.2.2.2.1 + 3 + 2 < 2 ^ 31 by omega)
  have y3 := nI_clamp (show 9 * s.2.2.2.2.2.1 + 3 + 3 < 2 ^ 31 by omega)
  have t1 := m_takes (d := d) (h := h) (i := i) (f := true) (b := b) h40 h30 (x := bI ((65 : Int32) ≤ nI (hre w m p) ∧ nI (hre w m p) ≤ 90)) (bI_congr (by rw [hb, decide_eq_true_iff]; exact and_congr (nI_leI (a := 65) (by omega) (by omega)) (nI_leI (b := 90) (by omega) (by omega))))
  rw [Bool.true_and] at t1
  have main : ev (d + 1) 169 30 [some (.ref i), some (.int (nI (9 * s.2.2.2.2.2.1))), none, none, none] [.int (hI s.2.2.2.2.1)] (hmd h i M) = ev (d + 1) 169 96 [some (.ref i), some (.int (nI (9 * s.2.2.2.2.2.1))), some (.int (hI s.2.2.2.2.1)), some (.int (nI 0)), some (.int 4)] [] (hmd h i (setI (tkS (setR M 5 (z4f (M.1 5) (9 * s.2.2.2.2.2.1 + 3))) b p) 3 (nI p))) := by
    cases hbv : b with
    | true =>
      rw [hbv] at t1
      have g4 : (tkS (setR M 5 (z4f (M.1 5) (9 * s.2.2.2.2.2.1 + 3))) true p).2 4 = 1 := tkS_4
      have g3 : (tkS (setR M 5 (z4f (M.1 5) (9 * s.2.2.2.2.2.1 + 3))) true p).2 3 = nI (p + 1) := tkS_3
      simp only [e169_0, e169_2, e169_3, e169_6, e169_7, e169_8, e169_9, e169_12, e169_15, e169_16, e169_19, e169_20, e169_23, e169_24, e169_25, e169_26, e169_29, e169_30, e169_31, e169_32, e169_33, e169_34, e169_36, e169_38, e169_39, e169_42, e169_43, e169_46, e169_47, e169_48, e169_49, e169_51, e169_52, e169_53, e169_54, e169_57, e169_60, e169_61, e169_62, e169_65, e169_67, e169_69, e169_72, e169_75, e169_76, e169_77, e169_80, e169_81, e169_84, e169_87, e169_88, e169_91, e169_92, e169_93, e169_97, e169_100, e169_103, e169_104, e169_105, e169_108, e169_109, e169_112, e169_114, e169_116, e169_119, e169_122, e169_123, e169_126, e169_127, e169_128, e169_129, e169_130, e169_131, e169_132, e169_135, e169_137, e169_138, e169_139, e169_140, e169_141, e169_144, e169_145, e169_146, e169_149, e169_150, e169_151, e169_154, e169_158, e169_161, e169_162, e169_163, e169_164, e169_165, e169_167, e169_168, e169_170, e169_173, e169_174, e169_175, e169_178, e169_179, e169_180, e169_181, e169_182, e169_184, e169_185, e169_187, e169_190, e169_191, e169_192, e169_195, e169_196, e169_197, e169_198, e169_199, e169_201, e169_202, e169_204, e169_207, e169_208, e169_209, e169_212, e169_213, e169_215, e169_216, e169_217, e169_220, e169_221, e169_224, e169_225, e169_226, e169_229, e169_230, e169_231, e169_234, e169_235, e169_237, e169_238, e169_239, e169_240, e169_241, e169_242, e169_243, e169_244, e169_247, e169_248, e169_249, e169_253, e169_256, e169_259, e169_260, e169_263, e169_265, e169_268, e169_269, e169_270, e169_273, e169_274, e169_275, e169_278, e169_279, e169_282, e169_283, e169_286, e169_287, e169_290, e169_291, e169_292, e169_293, e169_294, e169_295, e169_298, e169_299, e169_300, e169_303, e169_305, e169_308, e169_311, e169_312, e169_315, e169_318, e169_319, e169_322, e169_324, e169_327, e169_328, e169_329, e169_332, e169_333, e169_334, e169_337, e169_338, e169_339, e169_342, e169_343, e169_344, e169_347, e169_350, md_g0, md_g1, md_g2, md_g3, md_g4, md_g5, md_g6, md_g7, md_g8, md_g9, md_g10, md_g11, md_g12, md_g13, md_g14, md_g15, md_g16, md_g17, md_g18, md_p3, md_p5, md_p7, md_p8, md_p9, md_p11, md_p13, md_p15, md_l0, md_l1, md_l2, md_l3, md_l4, md_l5, md_l6, md_l7, md_l8, md_l9, md_l10, md_s0, md_s1, md_s2, md_s3, md_s4, md_s5, md_s6, md_s7, md_s8, md_s9, md_s10, md_is, Option.bind_some, Option.toList_some, Option.toList_none, List.cons_append, List.nil_append, true_or, or_true, and_true, true_and, i10, Bool.false_eq_true, if_true, if_false, reduceIte, e3, z0, nI_1, z2, z3, hr, h1, hz, c1, c2, c3, c4, l0, l1, l2, l3, Int32.le_refl, x0, x1, x2, x3, y0, y1, y2, y3, m_here hP0 h30 (show p < 1000 by omega), m_in, t1, g4, g3, nI_s1, n0]
    | false =>
      rw [hbv] at t1
      have g4 : (tkS (setR M 5 (z4f (M.1 5) (9 * s.2.2.2.2.2.1 + 3))) false p).2 4 = 0 := tkS_4
      have g3 : (tkS (setR M 5 (z4f (M.1 5) (9 * s.2.2.2.2.2.1 + 3))) false p).2 3 = nI p := tkS_3
      simp only [e169_0, e169_2, e169_3, e169_6, e169_7, e169_8, e169_9, e169_12, e169_15, e169_16, e169_19, e169_20, e169_23, e169_24, e169_25, e169_26, e169_29, e169_30, e169_31, e169_32, e169_33, e169_34, e169_36, e169_38, e169_39, e169_42, e169_43, e169_46, e169_47, e169_48, e169_49, e169_51, e169_52, e169_53, e169_54, e169_57, e169_60, e169_61, e169_62, e169_65, e169_67, e169_69, e169_72, e169_75, e169_76, e169_77, e169_80, e169_81, e169_84, e169_87, e169_88, e169_91, e169_92, e169_93, e169_97, e169_100, e169_103, e169_104, e169_105, e169_108, e169_109, e169_112, e169_114, e169_116, e169_119, e169_122, e169_123, e169_126, e169_127, e169_128, e169_129, e169_130, e169_131, e169_132, e169_135, e169_137, e169_138, e169_139, e169_140, e169_141, e169_144, e169_145, e169_146, e169_149, e169_150, e169_151, e169_154, e169_158, e169_161, e169_162, e169_163, e169_164, e169_165, e169_167, e169_168, e169_170, e169_173, e169_174, e169_175, e169_178, e169_179, e169_180, e169_181, e169_182, e169_184, e169_185, e169_187, e169_190, e169_191, e169_192, e169_195, e169_196, e169_197, e169_198, e169_199, e169_201, e169_202, e169_204, e169_207, e169_208, e169_209, e169_212, e169_213, e169_215, e169_216, e169_217, e169_220, e169_221, e169_224, e169_225, e169_226, e169_229, e169_230, e169_231, e169_234, e169_235, e169_237, e169_238, e169_239, e169_240, e169_241, e169_242, e169_243, e169_244, e169_247, e169_248, e169_249, e169_253, e169_256, e169_259, e169_260, e169_263, e169_265, e169_268, e169_269, e169_270, e169_273, e169_274, e169_275, e169_278, e169_279, e169_282, e169_283, e169_286, e169_287, e169_290, e169_291, e169_292, e169_293, e169_294, e169_295, e169_298, e169_299, e169_300, e169_303, e169_305, e169_308, e169_311, e169_312, e169_315, e169_318, e169_319, e169_322, e169_324, e169_327, e169_328, e169_329, e169_332, e169_333, e169_334, e169_337, e169_338, e169_339, e169_342, e169_343, e169_344, e169_347, e169_350, md_g0, md_g1, md_g2, md_g3, md_g4, md_g5, md_g6, md_g7, md_g8, md_g9, md_g10, md_g11, md_g12, md_g13, md_g14, md_g15, md_g16, md_g17, md_g18, md_p3, md_p5, md_p7, md_p8, md_p9, md_p11, md_p13, md_p15, md_l0, md_l1, md_l2, md_l3, md_l4, md_l5, md_l6, md_l7, md_l8, md_l9, md_l10, md_s0, md_s1, md_s2, md_s3, md_s4, md_s5, md_s6, md_s7, md_s8, md_s9, md_s10, md_is, Option.bind_some, Option.toList_some, Option.toList_none, List.cons_append, List.nil_append, true_or, or_true, and_true, true_and, i10, Bool.false_eq_true, if_true, if_false, reduceIte, e3, z0, nI_1, z2, z3, hr, h1, hz, c1, c2, c3, c4, l0, l1, l2, l3, Int32.le_refl, x0, x1, x2, x3, y0, y1, y2, y3, m_here hP0 h30 (show p < 1000 by omega), m_in, t1, g4, g3, Int32.sub_zero, n0]
  refine Eq.trans ?_ main
  cases t with
  | zero =>
    have hu := opS_0 ho
    have h6' : M.2 6 = 0 := h6
    rw [hu, hI_0]
    simp only [e169_0, e169_2, e169_3, e169_6, e169_7, e169_8, e169_9, e169_12, e169_15, e169_16, e169_19, e169_20, e169_23, e169_24, e169_25, e169_26, e169_29, e169_31, e169_32, e169_33, e169_34, e169_36, e169_38, e169_39, e169_42, e169_43, e169_46, e169_47, e169_48, e169_49, e169_51, e169_52, e169_53, e169_54, e169_57, e169_60, e169_61, e169_62, e169_65, e169_67, e169_69, e169_72, e169_75, e169_76, e169_77, e169_80, e169_81, e169_84, e169_87, e169_88, e169_91, e169_92, e169_93, e169_97, e169_100, e169_103, e169_104, e169_105, e169_108, e169_109, e169_112, e169_114, e169_116, e169_119, e169_122, e169_123, e169_126, e169_127, e169_128, e169_129, e169_130, e169_131, e169_132, e169_135, e169_137, e169_138, e169_139, e169_140, e169_141, e169_144, e169_145, e169_146, e169_149, e169_150, e169_151, e169_154, e169_158, e169_161, e169_162, e169_163, e169_164, e169_165, e169_167, e169_168, e169_170, e169_173, e169_174, e169_175, e169_178, e169_179, e169_180, e169_181, e169_182, e169_184, e169_185, e169_187, e169_190, e169_191, e169_192, e169_195, e169_196, e169_197, e169_198, e169_199, e169_201, e169_202, e169_204, e169_207, e169_208, e169_209, e169_212, e169_213, e169_215, e169_216, e169_217, e169_220, e169_221, e169_224, e169_225, e169_226, e169_229, e169_230, e169_231, e169_234, e169_235, e169_237, e169_238, e169_239, e169_240, e169_241, e169_242, e169_243, e169_244, e169_247, e169_248, e169_249, e169_253, e169_256, e169_259, e169_260, e169_263, e169_265, e169_268, e169_269, e169_270, e169_273, e169_274, e169_275, e169_278, e169_279, e169_282, e169_283, e169_286, e169_287, e169_290, e169_291, e169_292, e169_293, e169_294, e169_295, e169_298, e169_299, e169_300, e169_303, e169_305, e169_308, e169_311, e169_312, e169_315, e169_318, e169_319, e169_322, e169_324, e169_327, e169_328, e169_329, e169_332, e169_333, e169_334, e169_337, e169_338, e169_339, e169_342, e169_343, e169_344, e169_347, e169_350, md_g0, md_g1, md_g2, md_g3, md_g4, md_g5, md_g6, md_g7, md_g8, md_g9, md_g10, md_g11, md_g12, md_g13, md_g14, md_g15, md_g16, md_g17, md_g18, md_p3, md_p5, md_p7, md_p8, md_p9, md_p11, md_p13, md_p15, md_l0, md_l1, md_l2, md_l3, md_l4, md_l5, md_l6, md_l7, md_l8, md_l9, md_l10, md_s0, md_s1, md_s2, md_s3, md_s4, md_s5, md_s6, md_s7, md_s8, md_s9, md_s10, md_is, Option.bind_some, Option.toList_some, Option.toList_none, List.cons_append, List.nil_append, true_or, or_true, and_true, true_and, i10, Bool.false_eq_true, if_true, if_false, reduceIte, h5, e9, h6', Int32.le_refl]
  | succ t =>
    have e1 : (nI (t + 1) ≤ 0) = False := (nI_lep (b := 0) (by omega) (by omega)).trans (eq_false (by omega))
    obtain ⟨k, k1, k2, k3⟩ := opS_s ho
    rw [k1, hI_s]
    simp only [e169_0, e169_2, e169_3, e169_6, e169_7, e169_8, e169_9, e169_12, e169_15, e169_16, e169_19, e169_20, e169_23, e169_24, e169_25, e169_26, e169_29, e169_31, e169_32, e169_33, e169_34, e169_36, e169_38, e169_39, e169_42, e169_43, e169_46, e169_47, e169_48, e169_49, e169_51, e169_52, e169_53, e169_54, e169_57, e169_60, e169_61, e169_62, e169_65, e169_67, e169_69, e169_72, e169_75, e169_76, e169_77, e169_80, e169_81, e169_84, e169_87, e169_88, e169_91, e169_92, e169_93, e169_97, e169_100, e169_103, e169_104, e169_105, e169_108, e169_109, e169_112, e169_114, e169_116, e169_119, e169_122, e169_123, e169_126, e169_127, e169_128, e169_129, e169_130, e169_131, e169_132, e169_135, e169_137, e169_138, e169_139, e169_140, e169_141, e169_144, e169_145, e169_146, e169_149, e169_150, e169_151, e169_154, e169_158, e169_161, e169_162, e169_163, e169_164, e169_165, e169_167, e169_168, e169_170, e169_173, e169_174, e169_175, e169_178, e169_179, e169_180, e169_181, e169_182, e169_184, e169_185, e169_187, e169_190, e169_191, e169_192, e169_195, e169_196, e169_197, e169_198, e169_199, e169_201, e169_202, e169_204, e169_207, e169_208, e169_209, e169_212, e169_213, e169_215, e169_216, e169_217, e169_220, e169_221, e169_224, e169_225, e169_226, e169_229, e169_230, e169_231, e169_234, e169_235, e169_237, e169_238, e169_239, e169_240, e169_241, e169_242, e169_243, e169_244, e169_247, e169_248, e169_249, e169_253, e169_256, e169_259, e169_260, e169_263, e169_265, e169_268, e169_269, e169_270, e169_273, e169_274, e169_275, e169_278, e169_279, e169_282, e169_283, e169_286, e169_287, e169_290, e169_291, e169_292, e169_293, e169_294, e169_295, e169_298, e169_299, e169_300, e169_303, e169_305, e169_308, e169_311, e169_312, e169_315, e169_318, e169_319, e169_322, e169_324, e169_327, e169_328, e169_329, e169_332, e169_333, e169_334, e169_337, e169_338, e169_339, e169_342, e169_343, e169_344, e169_347, e169_350, md_g0, md_g1, md_g2, md_g3, md_g4, md_g5, md_g6, md_g7, md_g8, md_g9, md_g10, md_g11, md_g12, md_g13, md_g14, md_g15, md_g16, md_g17, md_g18, md_p3, md_p5, md_p7, md_p8, md_p9, md_p11, md_p13, md_p15, md_l0, md_l1, md_l2, md_l3, md_l4, md_l5, md_l6, md_l7, md_l8, md_l9, md_l10, md_s0, md_s1, md_s2, md_s3, md_s4, md_s5, md_s6, md_s7, md_s8, md_s9, md_s10, md_is, Option.bind_some, Option.toList_some, Option.toList_none, List.cons_append, List.nil_append, true_or, or_true, and_true, true_and, i10, Bool.false_eq_true, if_true, if_false, reduceIte, h5, e9, h6, e1, nI_s1, zrd_nI (show t < 20 by omega) (show 20 < 2147483648 by decide), k2]
theorem m_end0 {x1 x2 x3 x4 : Option Value} (h4 : M.2 4 = 0) : ev d 169 252 [some (.ref i), x1, x2, x3, x4] [] (hmd h i M) = some (none, hmd h i M) := by
  simp only [e169_0, e169_2, e169_3, e169_6, e169_7, e169_8, e169_9, e169_12, e169_15, e169_16, e169_19, e169_20, e169_23, e169_24, e169_25, e169_26, e169_29, e169_30, e169_31, e169_32, e169_33, e169_34, e169_38, e169_39, e169_42, e169_43, e169_46, e169_47, e169_48, e169_49, e169_51, e169_52, e169_53, e169_54, e169_57, e169_60, e169_61, e169_62, e169_65, e169_67, e169_69, e169_72, e169_75, e169_76, e169_77, e169_80, e169_81, e169_84, e169_87, e169_88, e169_91, e169_92, e169_93, e169_97, e169_100, e169_103, e169_104, e169_105, e169_108, e169_109, e169_112, e169_114, e169_116, e169_119, e169_122, e169_123, e169_126, e169_127, e169_128, e169_129, e169_130, e169_131, e169_132, e169_135, e169_137, e169_138, e169_139, e169_140, e169_141, e169_144, e169_145, e169_146, e169_149, e169_150, e169_151, e169_154, e169_158, e169_161, e169_162, e169_163, e169_164, e169_165, e169_167, e169_168, e169_170, e169_173, e169_174, e169_175, e169_178, e169_179, e169_180, e169_181, e169_182, e169_184, e169_185, e169_187, e169_190, e169_191, e169_192, e169_195, e169_196, e169_197, e169_198, e169_199, e169_201, e169_202, e169_204, e169_207, e169_208, e169_209, e169_212, e169_213, e169_215, e169_216, e169_217, e169_220, e169_221, e169_224, e169_225, e169_226, e169_229, e169_230, e169_231, e169_234, e169_235, e169_237, e169_238, e169_239, e169_240, e169_241, e169_242, e169_243, e169_244, e169_247, e169_248, e169_249, e169_252, e169_253, e169_256, e169_259, e169_260, e169_263, e169_265, e169_268, e169_269, e169_270, e169_273, e169_274, e169_275, e169_278, e169_279, e169_282, e169_283, e169_286, e169_287, e169_290, e169_291, e169_292, e169_293, e169_294, e169_295, e169_298, e169_299, e169_300, e169_303, e169_304, e169_305, e169_308, e169_311, e169_312, e169_315, e169_318, e169_319, e169_322, e169_324, e169_327, e169_328, e169_329, e169_332, e169_333, e169_334, e169_337, e169_338, e169_339, e169_342, e169_343, e169_344, e169_347, e169_350, md_g0, md_g1, md_g2, md_g3, md_g4, md_g5, md_g6, md_g7, md_g8, md_g9, md_g10, md_g11, md_g12, md_g13, md_g14, md_g15, md_g16, md_g17, md_g18, md_p3, md_p5, md_p7, md_p8, md_p9, md_p11, md_p13, md_p15, md_l0, md_l1, md_l2, md_l3, md_l4, md_l5, md_l6, md_l7, md_l8, md_l9, md_l10, md_s0, md_s1, md_s2, md_s3, md_s4, md_s5, md_s6, md_s7, md_s8, md_s9, md_s10, md_is, Option.bind_some, Option.toList_some, Option.toList_none, List.cons_append, List.nil_append, true_or, or_true, and_true, true_and, i10, Bool.false_eq_true, if_true, if_false, reduceIte, h4]
theorem m_takesCrate {t : Nat} (hj : jN M w m p s t) (hcm : p = m → cmp s = false) : ∃ M', mfC M M' ∧ ((M'.2 4 = 0 ∧ ∃ q, M'.2 3 = nI q ∧ q ≤ 100 ∧ rdv m (rn w m p s) = nI q) ∨ (M'.2 4 = 1 ∧ ∃ p' s' t', p < p' ∧ Gs w m p s p' s' ∧ jN M' w m p' s' t' ∧ cmp s' = decide (s'.2.2.2.2.1 = 0))) ∧ ev (d + 2) 169 0 [some (.ref i), none, none, none, none] [] (hmd h i M) = some (none, hmd h i M') := by
  have hj0 := hj
  obtain ⟨hJ, hp, hpr, hst, hP, h4, h3, hR, h6, ho, ht⟩ := hj
  have hm := hP.2.1
  have hb := hJ.1.1
  have hu := hJ.1.2.2.2.1
  have hc : s.2.2.2.2.2.1 ≤ 11 := by
    have := hJ.1.2.2.2.2.2.2.2.2
    rw [hpr] at this
    omega
  have F0 : ∀ b, mfC M (setI (tkS (setR M 5 (z4f (M.1 5) (9 * s.2.2.2.2.2.1 + 3))) b p) 3 (nI p)) := fun b => mfC_t (mfC_R (by decide)) (mfC_t (mfC_s mfS_tk) (mfC_I (by decide)))
  by_cases q : 65 ≤ hre w m p ∧ hre w m p ≤ 90
  · have hd := m_head (d := d + 1) (h := h) (i := i) (b := true) hj0 hc (decide_eq_true q).symm
    have F1 := F0 true
    have k40 : (tkS (setR M 5 (z4f (M.1 5) (9 * s.2.2.2.2.2.1 + 3))) true p).2 4 = 1 := tkS_4
    have l1 := m_let1 (d := d + 1) (h := h) (i := i) (M := setI (tkS (setR M 5 (z4f (M.1 5) (9 * s.2.2.2.2.2.1 + 3))) true p) 3 (nI p)) (w := w) (m := m) (p := p) (c := s.2.2.2.2.2.1) (n := 0) (y := some (.int (hI s.2.2.2.2.1))) (x4 := some (.int 4)) hc (by decide) (pmR_c hP F1) k40 rfl (by omega) q
    have k41 : (tkS (setR M 5 (z4f (M.1 5) (9 * s.2.2.2.2.2.1 + 3))) true p).2 4 = 1 := tkS_4
    have hs1 : stp s (hre w m p) = some (0, 1, 0 + (hre w m p - 64), s.2.2.2.2.2.1, s.2.2.2.2.1, sa (bgn s.2.2.2.2.2 s.2.2.2.2.1) s.2.2.2.2.2.1 3 (hre w m p - 64)) := by
      rw [hst]
      unfold sLet
      rw [if_pos ⟨q.1, q.2, (show (0 : Nat) < 4 by decide)⟩, if_pos (show (rBeg s 0).2.1 = 0 from rfl)]
      rfl
    have G1 := Gs_1 hm hp hJ hs1
    have F2 := mfC_t F1 (mfC_t (mfC_R (M := setI (tkS (setR M 5 (z4f (M.1 5) (9 * s.2.2.2.2.2.1 + 3))) true p) 3 (nI p)) (r := 5) (f := (upd ((setI (tkS (setR M 5 (z4f (M.1 5) (9 * s.2.2.2.2.2.1 + 3))) true p) 3 (nI p)).1 5) (9 * s.2.2.2.2.2.1 + (3 + 0)) (nI (hre w m p - 64)))) (by decide)) (mfC_I (k := 3) (x := nI (p + 1)) (by decide)))
    have hcu : cuR (setI (setR (setI (tkS (setR M 5 (z4f (M.1 5) (9 * s.2.2.2.2.2.1 + 3))) true p) 3 (nI p)) 5 (upd ((setI (tkS (setR M 5 (z4f (M.1 5) (9 * s.2.2.2.2.2.1 + 3))) true p) 3 (nI p)).1 5) (9 * s.2.2.2.2.2.1 + (3 + 0)) (nI (hre w m p - 64)))) 3 (nI (p + 1))) (sa (bgn s.2.2.2.2.2 s.2.2.2.2.1) s.2.2.2.2.2.1 3 (hre w m p - 64)) s.2.2.2.2.2.1 := by
      refine ⟨hR.1, fun a ha j hj => ?_, fun z hz => ?_⟩
      · show upd (z4f (M.1 5) (9 * s.2.2.2.2.2.1 + 3)) (9 * s.2.2.2.2.2.1 + (3 + 0)) (nI (hre w m p - 64)) (9 * a + j) = _
        have e1 : ¬ 9 * a + j = 9 * s.2.2.2.2.2.1 + (3 + 0) := by omega
        rw [sa_2, if_neg (by omega), bgn_o ha]
        simp only [upd, e1, if_false]
        rw [z4f_o (by omega)]
        exact hR.2 a ha j hj
      · show upd (z4f (M.1 5) (9 * s.2.2.2.2.2.1 + 3)) (9 * s.2.2.2.2.2.1 + (3 + 0)) (nI (hre w m p - 64)) (9 * s.2.2.2.2.2.1 + (3 + z)) = _
        by_cases e : z = 0
        · subst e
          simp [upd, sa_2]
        · have e1 : ¬ 9 * s.2.2.2.2.2.1 + (3 + z) = 9 * s.2.2.2.2.2.1 + (3 + 0) := by omega
          rw [sa_2, if_neg (by omega), bgn_l (by omega)]
          simp only [upd, e1, if_false]
          rw [show 9 * s.2.2.2.2.2.1 + (3 + z) = 9 * s.2.2.2.2.2.1 + 3 + z by omega, z4f_i hz]
          rfl
    obtain ⟨M1, p1, s1, x, a1, a2, a3, a4, a5, a6, a7, a8, a9, b1, b2, b3, b4, b5, b6⟩ := m_ltrs (d := d + 1) (h := h) (i := i) (y := some (.int (hI s.2.2.2.2.1))) (x4 := some (.int 4)) hc 3 1 (p + 1) _ _ (by decide) (by decide) rfl rfl rfl G1.2.2.1 G1.2.1 (pmR_c hP F2) k41 rfl hcu
    dsimp only at a5 a6 a7
    have FM1 := mfC_t F2 a9
    have ag : ∀ a j, ¬ (a = s.2.2.2.2.2.1 ∧ 3 ≤ j ∧ j ≤ 6) → s1.2.2.2.2.2.2 a j = (bgn s.2.2.2.2.2 s.2.2.2.2.1).2 a j := fun a j haj => (a7 a j haj).trans (by rw [sa_2, if_neg (by omega)])
    have hR1 : rwR M1 s.2.2.2.2.2 := ⟨b5.1, fun a ha j hj => by rw [b5.2.1 a ha j hj, ag a j (by omega), bgn_o ha]⟩
    obtain ⟨M2, y0, y1, y2, c1, c2, c3, c4, c5, c6, c7, c8, c9⟩ := m_three (d := d) (h := h) (i := i) (f0 := true) (x3 := some (.int (nI x))) (x4 := some (.int 4)) hc (pmR_c hP FM1) b3 b4 (show p1 ≤ 80 by have := a1.2.1; omega) hR1 hb rfl hu
    have FM2 := mfC_t FM1 c1
    obtain ⟨e1, e2⟩ := three_go hm a1.2.1 a1.2.2.1 a2 a3 a8
    have run : ev (d + 2) 169 0 [some (.ref i), none, none, none, none] [] (hmd h i M) = ev (d + 2) 169 252 [some (.ref i), some (.int (nI (9 * s.2.2.2.2.2.1))), some (.int (hI s.2.2.2.2.1)), some (.int (nI x)), some (.int 4)] [] (hmd h i M2) := hd.trans (l1.trans (b6.trans c9))
    cases hn : (tn3 w m p1).2 with
    | none =>
      rw [hn] at c6
      exact ⟨M2, FM2, Or.inl ⟨c6, (tn3 w m p1).1, c7, by have := tn3_b (w := w) (m := m) (p := p1); have := a1.2.1; omega, (congrArg (rdv m) (G1.2.2.2.trans a1.2.2.2)).trans (e1 hn)⟩, run.trans (m_end0 c6)⟩
    | some abe =>
      obtain ⟨a, b, e⟩ := abe
      rw [hn] at c6
      have c6' : M2.2 4 = 1 := c6
      have c7' : M2.2 3 = nI (tn3 w m p1).1 := c7
      obtain ⟨v0, v1, v2⟩ := c8 rfl a b e hn
      obtain ⟨g, g1, G3, g3⟩ := e2 a b e hn
      rw [a4, a5] at G3 g3
      have G := Gs_t (Gs_t G1 a1) G3
      have hPM := pmR_c hP FM2
      have hlt : p < (tn3 w m p1).1 := by
        have := a1.1
        have := G3.1
        omega
      have hτ1 : (sa (sa (sa s1.2.2.2.2.2 s.2.2.2.2.2.1 0 a) s.2.2.2.2.2.1 1 b) s.2.2.2.2.2.1 2 e).1 = s.2.2.2.2.2.1 + 1 := a6.trans bgn_1
      have hτo : ∀ r j, r < s.2.2.2.2.2.1 → (sa (sa (sa s1.2.2.2.2.2 s.2.2.2.2.2.1 0 a) s.2.2.2.2.2.1 1 b) s.2.2.2.2.2.1 2 e).2 r j = s.2.2.2.2.2.2 r j := fun r j hr => by
        rw [sa_2, if_neg (by omega), sa_2, if_neg (by omega), sa_2, if_neg (by omega), ag r j (by omega), bgn_o hr]
      have hτ7 : (sa (sa (sa s1.2.2.2.2.2 s.2.2.2.2.2.1 0 a) s.2.2.2.2.2.1 1 b) s.2.2.2.2.2.1 2 e).2 s.2.2.2.2.2.1 7 = s.2.2.2.2.1 := by
        rw [sa_2, if_neg (by omega), sa_2, if_neg (by omega), sa_2, if_neg (by omega), ag _ 7 (by omega), bgn_7]
      have hrw : rwR M2 (sa (sa (sa s1.2.2.2.2.2 s.2.2.2.2.2.1 0 a) s.2.2.2.2.2.1 1 b) s.2.2.2.2.2.1 2 e) := by
        refine ⟨c5.trans (by rw [hτ1]), fun r hr j hj => ?_⟩
        rw [hτ1] at hr
        rw [c4]
        by_cases z : r < s.2.2.2.2.2.1
        · rw [adr_lo (by omega), hτo r j z, hR1.2 r z j hj]
        · have z : r = s.2.2.2.2.2.1 := by omega
          subst z
          have h9 : j = 0 ∨ j = 1 ∨ j = 2 ∨ j = 3 ∨ j = 4 ∨ j = 5 ∨ j = 6 ∨ j = 7 ∨ j = 8 := by omega
          have lt : ∀ z, z < 4 → adr (M1.1 5) s.2.2.2.2.2.1 y0 y1 y2 (nI (plc s.2.2.2.2.2 s.2.2.2.2.1)) (nI s.2.2.2.2.1) (9 * s.2.2.2.2.2.1 + (3 + z)) = nI ((sa (sa (sa s1.2.2.2.2.2 s.2.2.2.2.2.1 0 a) s.2.2.2.2.2.1 1 b) s.2.2.2.2.2.1 2 e).2 s.2.2.2.2.2.1 (3 + z)) := fun z hz => by
            rw [adr_lo (by omega), b5.2.2 z hz, sa_2, if_neg (by omega), sa_2, if_neg (by omega), sa_2, if_neg (by omega)]
          rcases h9 with q0 | q0 | q0 | q0 | q0 | q0 | q0 | q0 | q0 <;> subst q0
          · simp [adr, upd, sa_2, v0]
          · simp [adr, upd, sa_2, v1]
          · simp [adr, upd, sa_2, v2]
          · exact lt 0 (by decide)
          · exact lt 1 (by decide)
          · exact lt 2 (by decide)
          · exact lt 3 (by decide)
          · rw [hτ7]
            simp [adr, upd]
          · rw [sa_2, if_neg (by omega), sa_2, if_neg (by omega), sa_2, if_neg (by omega), ag _ 8 (by omega), bgn_8]
            simp [adr, upd]
      have hop : opS (M2.1 6) (sa (sa (sa s1.2.2.2.2.2 s.2.2.2.2.2.1 0 a) s.2.2.2.2.2.1 1 b) s.2.2.2.2.2.1 2 e) t s.2.2.2.2.1 := opS_eq (n := s.2.2.2.2.2.1) (fun r hr => hτo r 7 hr) (fun r hr => (hb.2 r hr).2.2.2.2.1) (fun y _ => by rw [c2, b1]; rfl) hu ho
      have h6M : M2.2 6 = nI t := by rw [c3, b2]; exact h6
      have hbb := hre_b (p := (tn3 w m p1).1) hPM
      have e91 : (nI (hre w m (tn3 w m p1).1) = 91) = (hre w m (tn3 w m p1).1 = 91) := nI_eqp (b := 91) (by omega) (by omega)
      have hle : (tn3 w m p1).1 < 1000 := by
        have := G3.2.1
        omega
      by_cases z : hre w m (tn3 w m p1).1 = 91
      · have hs4 : stp (3, g, e, s.2.2.2.2.2.1, s.2.2.2.2.1, sa (sa (sa s1.2.2.2.2.2 s.2.2.2.2.2.1 0 a) s.2.2.2.2.2.1 1 b) s.2.2.2.2.2.1 2 e) (hre w m (tn3 w m p1).1) = some (0, 0, 0, s.2.2.2.2.2.1, s.2.2.2.2.2.1 + 1, sa (sa (sa s1.2.2.2.2.2 s.2.2.2.2.2.1 0 a) s.2.2.2.2.2.1 1 b) s.2.2.2.2.2.1 2 e) := by
          rw [stp_3 rfl, g3, z]
          unfold sOpn
          rw [if_pos ⟨rfl, g1⟩]
          rfl
        have G4 := Gs_t G (Gs_1 hm G3.2.1 G3.2.2.1 hs4)
        have FF : mfC M2 (setI (setR (setI M2 3 (nI ((tn3 w m p1).1 + 1))) 6 (upd (M2.1 6) t (nI s.2.2.2.2.2.1))) 6 (nI (t + 1))) := mfC_t (mfC_I (by decide)) (mfC_t (mfC_R (by decide)) (mfC_I (by decide)))
        refine ⟨setI (setR (setI M2 3 (nI ((tn3 w m p1).1 + 1))) 6 (upd (M2.1 6) t (nI s.2.2.2.2.2.1))) 6 (nI (t + 1)), mfC_t FM2 FF, Or.inr ⟨c6', _, _, t + 1, Nat.lt_succ_of_lt hlt, G4, ⟨G4.2.2.1, G4.2.1, rfl, ?_, pmR_c hPM FF, c6', rfl, ⟨hrw.1, hrw.2⟩, rfl, ⟨?_, ?_⟩, ?_⟩, ?_⟩, ?_⟩
        · rw [stp_0 rfl, sMrk_0 rfl, Option.or_none]
          rfl
        · show upd (M2.1 6) t (nI s.2.2.2.2.2.1) t = _
          simp [upd]
        · rw [hτ7]
          refine opS_eq (n := s.2.2.2.2.2.1) (fun r hr => rfl) (fun r hr => ?_) (fun y hy => ?_) hu hop
          · rw [hτo r 7 hr]
            exact (hb.2 r hr).2.2.2.2.1
          · show upd (M2.1 6) t (nI s.2.2.2.2.2.1) y = _
            have : ¬ y = t := by omega
            simp [upd, this]
        · show t + 1 ≤ (sa (sa (sa s1.2.2.2.2.2 s.2.2.2.2.2.1 0 a) s.2.2.2.2.2.1 1 b) s.2.2.2.2.2.1 2 e).1
          rw [hτ1]
          omega
        · simp [cmp]
        · refine run.trans ?_
          have k5 : (setI M2 3 (nI ((tn3 w m p1).1 + 1))).2 5 = nI (s.2.2.2.2.2.1 + 1) := c5
          have k6 : (setI M2 3 (nI ((tn3 w m p1).1 + 1))).2 6 = nI t := h6M
          simp only [e169_0, e169_2, e169_3, e169_6, e169_7, e169_8, e169_9, e169_12, e169_15, e169_16, e169_19, e169_20, e169_23, e169_24, e169_25, e169_26, e169_29, e169_30, e169_31, e169_32, e169_33, e169_34, e169_38, e169_39, e169_42, e169_43, e169_46, e169_47, e169_48, e169_49, e169_51, e169_52, e169_53, e169_54, e169_57, e169_60, e169_61, e169_62, e169_65, e169_67, e169_69, e169_72, e169_75, e169_76, e169_77, e169_80, e169_81, e169_84, e169_87, e169_88, e169_91, e169_92, e169_93, e169_97, e169_100, e169_103, e169_104, e169_105, e169_108, e169_109, e169_112, e169_114, e169_116, e169_119, e169_122, e169_123, e169_126, e169_127, e169_128, e169_129, e169_130, e169_131, e169_132, e169_135, e169_137, e169_138, e169_139, e169_140, e169_141, e169_144, e169_145, e169_146, e169_149, e169_150, e169_151, e169_154, e169_158, e169_161, e169_162, e169_163, e169_164, e169_165, e169_167, e169_168, e169_170, e169_173, e169_174, e169_175, e169_178, e169_179, e169_180, e169_181, e169_182, e169_184, e169_185, e169_187, e169_190, e169_191, e169_192, e169_195, e169_196, e169_197, e169_198, e169_199, e169_201, e169_202, e169_204, e169_207, e169_208, e169_209, e169_212, e169_213, e169_215, e169_216, e169_217, e169_220, e169_221, e169_224, e169_225, e169_226, e169_229, e169_230, e169_231, e169_234, e169_235, e169_237, e169_238, e169_239, e169_240, e169_241, e169_242, e169_243, e169_244, e169_247, e169_248, e169_249, e169_252, e169_253, e169_256, e169_259, e169_260, e169_263, e169_265, e169_268, e169_269, e169_270, e169_273, e169_274, e169_275, e169_278, e169_279, e169_282, e169_283, e169_286, e169_287, e169_290, e169_291, e169_292, e169_293, e169_294, e169_295, e169_298, e169_299, e169_300, e169_303, e169_305, e169_308, e169_311, e169_312, e169_315, e169_318, e169_319, e169_322, e169_324, e169_327, e169_328, e169_329, e169_332, e169_333, e169_334, e169_337, e169_338, e169_339, e169_342, e169_343, e169_344, e169_347, e169_350, md_g0, md_g1, md_g2, md_g3, md_g4, md_g5, md_g6, md_g7, md_g8, md_g9, md_g10, md_g11, md_g12, md_g13, md_g14, md_g15, md_g16, md_g17, md_g18, md_p3, md_p5, md_p7, md_p8, md_p9, md_p11, md_p13, md_p15, md_l0, md_l1, md_l2, md_l3, md_l4, md_l5, md_l6, md_l7, md_l8, md_l9, md_l10, md_s0, md_s1, md_s2, md_s3, md_s4, md_s5, md_s6, md_s7, md_s8, md_s9, md_s10, md_is, Option.bind_some, Option.toList_some, Option.toList_none, List.cons_append, List.nil_append, true_or, or_true, and_true, true_and, i10, Bool.false_eq_true, if_true, if_false, reduceIte, c6', m_here hPM c7' hle, e91, eq_true z, c7', nI_1, k5, k6, nI_s1, zin_T (show t < 20 by omega) (show 20 < 2147483648 by decide), nI_clamp (show t < 2 ^ 31 by omega), setI_1, setR_2]
      · have hs4 : stp (3, g, e, s.2.2.2.2.2.1, s.2.2.2.2.1, sa (sa (sa s1.2.2.2.2.2 s.2.2.2.2.2.1 0 a) s.2.2.2.2.2.1 1 b) s.2.2.2.2.2.1 2 e) (hre w m (tn3 w m p1).1) = sBeh (3, g, e, s.2.2.2.2.2.1, s.2.2.2.2.1, sa (sa (sa s1.2.2.2.2.2 s.2.2.2.2.2.1 0 a) s.2.2.2.2.2.1 1 b) s.2.2.2.2.2.1 2 e) (hre w m (tn3 w m p1).1) := by
          rw [stp_3 rfl, g3, sOpn_n z, if_neg g1]
          rfl
        obtain ⟨M', p', s', t', f1, f2, f3, f4, f5⟩ := m_pops (d := d + 1) (h := h) (i := i) (x1 := some (.int (nI (9 * s.2.2.2.2.2.1)))) (x2 := some (.int (hI s.2.2.2.2.1))) (x3 := some (.int (nI x))) (x4 := some (.int 4)) t _ _ M2 G3.2.2.1 G3.2.1 (by simp) (if_neg g1) hs4 (by simp [cmp, Nat.pos_of_ne_zero g1]) hPM c6' c7' hrw h6M hop (by show t ≤ (sa (sa (sa s1.2.2.2.2.2 s.2.2.2.2.2.1 0 a) s.2.2.2.2.2.1 1 b) s.2.2.2.2.2.1 2 e).1; rw [hτ1]; omega)
        refine ⟨M', mfC_t FM2 f4, Or.inr ⟨f2.2.2.2.2.2.1, p', s', t', by have := f1.1; omega, Gs_t G f1, f2, f3⟩, run.trans ?_⟩
        simp only [e169_0, e169_2, e169_3, e169_6, e169_7, e169_8, e169_9, e169_12, e169_15, e169_16, e169_19, e169_20, e169_23, e169_24, e169_25, e169_26, e169_29, e169_30, e169_31, e169_32, e169_33, e169_34, e169_38, e169_39, e169_42, e169_43, e169_46, e169_47, e169_48, e169_49, e169_51, e169_52, e169_53, e169_54, e169_57, e169_60, e169_61, e169_62, e169_65, e169_67, e169_69, e169_72, e169_75, e169_76, e169_77, e169_80, e169_81, e169_84, e169_87, e169_88, e169_91, e169_92, e169_93, e169_97, e169_100, e169_103, e169_104, e169_105, e169_108, e169_109, e169_112, e169_114, e169_116, e169_119, e169_122, e169_123, e169_126, e169_127, e169_128, e169_129, e169_130, e169_131, e169_132, e169_135, e169_137, e169_138, e169_139, e169_140, e169_141, e169_144, e169_145, e169_146, e169_149, e169_150, e169_151, e169_154, e169_158, e169_161, e169_162, e169_163, e169_164, e169_165, e169_167, e169_168, e169_170, e169_173, e169_174, e169_175, e169_178, e169_179, e169_180, e169_181, e169_182, e169_184, e169_185, e169_187, e169_190, e169_191, e169_192, e169_195, e169_196, e169_197, e169_198, e169_199, e169_201, e169_202, e169_204, e169_207, e169_208, e169_209, e169_212, e169_213, e169_215, e169_216, e169_217, e169_220, e169_221, e169_224, e169_225, e169_226, e169_229, e169_230, e169_231, e169_234, e169_235, e169_237, e169_238, e169_239, e169_240, e169_241, e169_242, e169_243, e169_244, e169_247, e169_248, e169_249, e169_252, e169_253, e169_256, e169_259, e169_260, e169_263, e169_265, e169_268, e169_269, e169_270, e169_273, e169_274, e169_275, e169_278, e169_279, e169_282, e169_283, e169_286, e169_287, e169_290, e169_291, e169_292, e169_293, e169_294, e169_295, e169_298, e169_299, e169_300, e169_303, e169_305, e169_308, e169_311, e169_312, e169_315, e169_318, e169_319, e169_322, e169_324, e169_327, e169_328, e169_329, e169_332, e169_333, e169_334, e169_337, e169_338, e169_339, e169_342, e169_343, e169_344, e169_347, e169_350, md_g0, md_g1, md_g2, md_g3, md_g4, md_g5, md_g6, md_g7, md_g8, md_g9, md_g10, md_g11, md_g12, md_g13, md_g14, md_g15, md_g16, md_g17, md_g18, md_p3, md_p5, md_p7, md_p8, md_p9, md_p11, md_p13, md_p15, md_l0, md_l1, md_l2, md_l3, md_l4, md_l5, md_l6, md_l7, md_l8, md_l9, md_l10, md_s0, md_s1, md_s2, md_s3, md_s4, md_s5, md_s6, md_s7, md_s8, md_s9, md_s10, md_is, Option.bind_some, Option.toList_some, Option.toList_none, List.cons_append, List.nil_append, true_or, or_true, and_true, true_and, i10, Bool.false_eq_true, if_true, if_false, reduceIte, c6', m_here hPM c7' hle, e91, eq_false z]
        exact f5
  · have hd := m_head (d := d + 1) (h := h) (i := i) (b := false) hj0 hc (decide_eq_false q).symm
    have F1 := F0 false
    have hrr : rdv m (rn w m p s) = nI p := rn_no hp (hst.trans (sLet_z (by omega))) hcm
    have hRz : rwR (setI (tkS (setR M 5 (z4f (M.1 5) (9 * s.2.2.2.2.2.1 + 3))) false p) 3 (nI p)) s.2.2.2.2.2 := by
      refine ⟨hR.1, fun a ha j hj => ?_⟩
      show z4f (M.1 5) (9 * s.2.2.2.2.2.1 + 3) (9 * a + j) = _
      rw [z4f_o (by omega)]
      exact hR.2 a ha j hj
    have z40 : (tkS (setR M 5 (z4f (M.1 5) (9 * s.2.2.2.2.2.1 + 3))) false p).2 4 = 0 := tkS_4
    have z4 : (setI (tkS (setR M 5 (z4f (M.1 5) (9 * s.2.2.2.2.2.1 + 3))) false p) 3 (nI p)).2 4 = 0 := z40
    obtain ⟨M2, y0, y1, y2, c1, c2, c3, c4, c5, c6, c7, c8, c9⟩ := m_three (d := d) (h := h) (i := i) (f0 := false) (x3 := some (.int (nI 0))) (x4 := some (.int 4)) hc (pmR_c hP F1) z4 rfl (show p ≤ 80 by omega) hRz hb rfl hu
    refine ⟨M2, mfC_t F1 c1, Or.inl ⟨c6, p, c7, by omega, hrr⟩, hd.trans (Eq.trans ?_ (c9.trans (m_end0 c6)))⟩
    rw [e169_96]
    simp only [e169_0, e169_2, e169_3, e169_6, e169_7, e169_8, e169_9, e169_12, e169_15, e169_16, e169_19, e169_20, e169_23, e169_24, e169_25, e169_26, e169_29, e169_30, e169_31, e169_32, e169_33, e169_34, e169_38, e169_39, e169_42, e169_43, e169_46, e169_47, e169_48, e169_49, e169_51, e169_52, e169_53, e169_54, e169_57, e169_60, e169_61, e169_62, e169_65, e169_67, e169_69, e169_72, e169_75, e169_76, e169_77, e169_80, e169_81, e169_84, e169_87, e169_88, e169_91, e169_92, e169_93, e169_97, e169_100, e169_103, e169_104, e169_105, e169_108, e169_109, e169_112, e169_114, e169_116, e169_119, e169_122, e169_123, e169_126, e169_127, e169_128, e169_129, e169_130, e169_131, e169_132, e169_135, e169_137, e169_138, e169_139, e169_140, e169_141, e169_144, e169_145, e169_146, e169_149, e169_150, e169_151, e169_154, e169_158, e169_161, e169_162, e169_163, e169_164, e169_165, e169_167, e169_168, e169_170, e169_173, e169_174, e169_175, e169_178, e169_179, e169_180, e169_181, e169_182, e169_184, e169_185, e169_187, e169_190, e169_191, e169_192, e169_195, e169_196, e169_197, e169_198, e169_199, e169_201, e169_202, e169_204, e169_207, e169_208, e169_209, e169_212, e169_213, e169_215, e169_216, e169_217, e169_220, e169_221, e169_224, e169_225, e169_226, e169_229, e169_230, e169_231, e169_234, e169_235, e169_237, e169_238, e169_239, e169_240, e169_241, e169_242, e169_243, e169_244, e169_247, e169_248, e169_249, e169_253, e169_256, e169_259, e169_260, e169_263, e169_265, e169_268, e169_269, e169_270, e169_273, e169_274, e169_275, e169_278, e169_279, e169_282, e169_283, e169_286, e169_287, e169_290, e169_291, e169_292, e169_293, e169_294, e169_295, e169_298, e169_299, e169_300, e169_303, e169_305, e169_308, e169_311, e169_312, e169_315, e169_318, e169_319, e169_322, e169_324, e169_327, e169_328, e169_329, e169_332, e169_333, e169_334, e169_337, e169_338, e169_339, e169_342, e169_343, e169_344, e169_347, e169_350, md_g0, md_g1, md_g2, md_g3, md_g4, md_g5, md_g6, md_g7, md_g8, md_g9, md_g10, md_g11, md_g12, md_g13, md_g14, md_g15, md_g16, md_g17, md_g18, md_p3, md_p5, md_p7, md_p8, md_p9, md_p11, md_p13, md_p15, md_l0, md_l1, md_l2, md_l3, md_l4, md_l5, md_l6, md_l7, md_l8, md_l9, md_l10, md_s0, md_s1, md_s2, md_s3, md_s4, md_s5, md_s6, md_s7, md_s8, md_s9, md_s10, md_is, Option.bind_some, Option.toList_some, Option.toList_none, List.cons_append, List.nil_append, true_or, or_true, and_true, true_and, i10, Bool.false_eq_true, if_true, if_false, reduceIte, z4]
/-- what the reader of the reference finds is what the machine finds -/
def nsO (w : Nat → Nat) (m p : Nat) (s : pS) (M' : oS) : Prop := (M'.2 4 = 0 ∧ M'.2 3 = rdv m (rn w m p s) ∧ rdv m (rn w m p s) ≠ -4) ∨ (M'.2 4 = 1 ∧ ∃ s', rn w m p s = (m, some s') ∧ psI2 m s' ∧ cmp s' = true ∧ rwR M' s'.2.2.2.2.2)
theorem nsO_t {p' : Nat} {s' : pS} {M' : oS} (G : Gs w m p s p' s') (hn : nsO w m p' s' M') : nsO w m p s M' := by
  unfold nsO
  rw [G.2.2.2]
  exact hn
theorem nI_n4 {q : Nat} (hq : q ≤ 1000) : nI q ≠ -4 := fun z => by
  have := congrArg Int32.toInt z
  rw [nI_toInt (by omega)] at this
  have e : Int32.toInt (-4) = -4 := by decide
  omega
theorem m_nests1 : ∀ (f p : Nat) (s : pS) (t : Nat) (M : oS), m - p ≤ f → jN M w m p s t → cmp s = decide (s.2.2.2.2.1 = 0) → ∃ M', mfC M M' ∧ nsO w m p s M' ∧ ev (d + 3) 170 24 [some (.ref i)] [] (hmd h i M) = some (some (.int (M'.2 4)), hmd h i M') := by
  have step : ∀ (p : Nat) (s : pS) (t : Nat) (M : oS), jN M w m p s t → cmp s = decide (s.2.2.2.2.1 = 0) → (∃ M', mfC M M' ∧ nsO w m p s M' ∧ ev (d + 3) 170 24 [some (.ref i)] [] (hmd h i M) = some (some (.int (M'.2 4)), hmd h i M')) ∨ ∃ M1 p1 s1 t1, mfC M M1 ∧ p < p1 ∧ Gs w m p s p1 s1 ∧ jN M1 w m p1 s1 t1 ∧ cmp s1 = decide (s1.2.2.2.2.1 = 0) ∧ ev (d + 3) 170 24 [some (.ref i)] [] (hmd h i M) = ev (d + 3) 170 24 [some (.ref i)] [] (hmd h i M1) := by
    intro p s t M hj hcm
    have hj0 := hj
    obtain ⟨hJ, hp, hpr, hst, hP, h4, h3, hR, h6, ho, ht⟩ := hj
    have hm := hP.2.1
    have hn := hJ.1.1.1
    have eL := hP.1
    have e1 : (nI m ≤ nI p) = (m ≤ p) := nI_lep (by omega) (by omega)
    have e1' : (nI p < nI m) = (p < m) := nI_ltp (by omega) (by omega)
    have e2 : (nI t ≤ 0) = (t ≤ 0) := nI_lep (b := 0) (by omega) (by omega)
    by_cases z : p = m ∧ t = 0
    · obtain ⟨z1, z2⟩ := z
      subst z1 z2
      have hu := opS_0 ho
      have h6' : M.2 6 = 0 := h6
      refine Or.inl ⟨M, mfC_r, Or.inr ⟨h4, s, ?_, hJ, by rw [hcm, hu]; rfl, hR⟩, ?_⟩
      · unfold rn
        rw [Nat.sub_self]
        rfl
      · rw [e170_24]
        simp only [e170_0, e170_1, e170_2, e170_5, e170_6, e170_7, e170_10, e170_11, e170_12, e170_15, e170_16, e170_17, e170_20, e170_21, e170_25, e170_28, e170_31, e170_32, e170_35, e170_36, e170_39, e170_42, e170_43, e170_46, e170_49, e170_50, e170_53, e170_56, e170_57, e170_60, md_g0, md_g1, md_g2, md_g3, md_g4, md_g5, md_g6, md_g7, md_g8, md_g9, md_g10, md_g11, md_g12, md_g13, md_g14, md_g15, md_g16, md_g17, md_g18, md_p3, md_p5, md_p7, md_p8, md_p9, md_p11, md_p13, md_p15, md_l0, md_l1, md_l2, md_l3, md_l4, md_l5, md_l6, md_l7, md_l8, md_l9, md_l10, md_s0, md_s1, md_s2, md_s3, md_s4, md_s5, md_s6, md_s7, md_s8, md_s9, md_s10, md_is, Option.bind_some, Option.toList_some, Option.toList_none, List.cons_append, List.nil_append, true_or, or_true, and_true, true_and, i10, Bool.false_eq_true, if_true, if_false, reduceIte, h4, h3, eL, e1, e1', Nat.le_refl, Nat.lt_irrefl, h6', Int32.le_refl]
    · have hc2 : p = m → cmp s = false := fun y => by
        rw [hcm]
        refine decide_eq_false (fun x => z ⟨y, ?_⟩)
        cases t with
        | zero => rfl
        | succ t =>
          obtain ⟨k, k1, -⟩ := opS_s ho
          omega
      obtain ⟨M1, a1, a2, a3⟩ := m_takesCrate (d := d) (h := h) (i := i) hj0 hc2
      have run : ev (d + 3) 170 24 [some (.ref i)] [] (hmd h i M) = ev (d + 3) 170 24 [some (.ref i)] [] (hmd h i M1) := by
        rw [e170_24]
        by_cases y : p < m
        · have y' : ¬ m ≤ p := by omega
          simp only [e170_0, e170_1, e170_2, e170_5, e170_6, e170_7, e170_10, e170_11, e170_12, e170_15, e170_16, e170_17, e170_20, e170_21, e170_25, e170_28, e170_31, e170_32, e170_35, e170_36, e170_39, e170_42, e170_43, e170_46, e170_49, e170_50, e170_53, e170_56, e170_57, e170_60, md_g0, md_g1, md_g2, md_g3, md_g4, md_g5, md_g6, md_g7, md_g8, md_g9, md_g10, md_g11, md_g12, md_g13, md_g14, md_g15, md_g16, md_g17, md_g18, md_p3, md_p5, md_p7, md_p8, md_p9, md_p11, md_p13, md_p15, md_l0, md_l1, md_l2, md_l3, md_l4, md_l5, md_l6, md_l7, md_l8, md_l9, md_l10, md_s0, md_s1, md_s2, md_s3, md_s4, md_s5, md_s6, md_s7, md_s8, md_s9, md_s10, md_is, Option.bind_some, Option.toList_some, Option.toList_none, List.cons_append, List.nil_append, true_or, or_true, and_true, true_and, i10, Bool.false_eq_true, if_true, if_false, reduceIte, h4, h3, eL, e1, e1', eq_true y, eq_false y', a3]
        · have y' : m ≤ p := by omega
          have t0 : ¬ t ≤ 0 := by omega
          simp only [e170_0, e170_1, e170_2, e170_5, e170_6, e170_7, e170_10, e170_11, e170_12, e170_15, e170_16, e170_17, e170_20, e170_21, e170_25, e170_28, e170_31, e170_32, e170_35, e170_36, e170_39, e170_42, e170_43, e170_46, e170_49, e170_50, e170_53, e170_56, e170_57, e170_60, md_g0, md_g1, md_g2, md_g3, md_g4, md_g5, md_g6, md_g7, md_g8, md_g9, md_g10, md_g11, md_g12, md_g13, md_g14, md_g15, md_g16, md_g17, md_g18, md_p3, md_p5, md_p7, md_p8, md_p9, md_p11, md_p13, md_p15, md_l0, md_l1, md_l2, md_l3, md_l4, md_l5, md_l6, md_l7, md_l8, md_l9, md_l10, md_s0, md_s1, md_s2, md_s3, md_s4, md_s5, md_s6, md_s7, md_s8, md_s9, md_s10, md_is, Option.bind_some, Option.toList_some, Option.toList_none, List.cons_append, List.nil_append, true_or, or_true, and_true, true_and, i10, Bool.false_eq_true, if_true, if_false, reduceIte, h4, h3, eL, e1, e1', eq_false y, eq_true y', h6, e2, eq_false t0, a3]
      rcases a2 with ⟨b1, q, b2, b3, b4⟩ | ⟨b1, p1, s1, t1, b2, b3, b4, b5⟩
      · refine Or.inl ⟨M1, a1, Or.inl ⟨b1, by rw [b4]; exact b2, by rw [b4]; exact nI_n4 (by omega)⟩, run.trans ?_⟩
        rw [e170_24]
        simp only [e170_0, e170_1, e170_2, e170_5, e170_6, e170_7, e170_10, e170_11, e170_12, e170_15, e170_16, e170_17, e170_20, e170_21, e170_25, e170_28, e170_31, e170_32, e170_35, e170_36, e170_39, e170_42, e170_43, e170_46, e170_49, e170_50, e170_53, e170_56, e170_57, e170_60, md_g0, md_g1, md_g2, md_g3, md_g4, md_g5, md_g6, md_g7, md_g8, md_g9, md_g10, md_g11, md_g12, md_g13, md_g14, md_g15, md_g16, md_g17, md_g18, md_p3, md_p5, md_p7, md_p8, md_p9, md_p11, md_p13, md_p15, md_l0, md_l1, md_l2, md_l3, md_l4, md_l5, md_l6, md_l7, md_l8, md_l9, md_l10, md_s0, md_s1, md_s2, md_s3, md_s4, md_s5, md_s6, md_s7, md_s8, md_s9, md_s10, md_is, Option.bind_some, Option.toList_some, Option.toList_none, List.cons_append, List.nil_append, true_or, or_true, and_true, true_and, i10, Bool.false_eq_true, if_true, if_false, reduceIte, b1]
      · exact Or.inr ⟨M1, p1, s1, t1, a1, b2, b3, b4, b5, run⟩
  intro f
  induction f with
  | zero =>
    intro p s t M hf hj hcm
    rcases step p s t M hj hcm with a | ⟨M1, p1, s1, t1, a1, a2, a3, a4, a5, a6⟩
    · exact a
    · have := a3.2.1
      omega
  | succ f ih =>
    intro p s t M hf hj hcm
    rcases step p s t M hj hcm with a | ⟨M1, p1, s1, t1, a1, a2, a3, a4, a5, a6⟩
    · exact a
    · have := a3.2.1
      obtain ⟨M', b1, b2, b3⟩ := ih p1 s1 t1 M1 (by omega) a4 a5
      exact ⟨M', mfC_t a1 b1, nsO_t a3 b2, a6.trans b3⟩
theorem m_areNests (hP : pmR M w m) : ∃ M', mfC M M' ∧ nsO w m 0 s00 M' ∧ ev (d + 3) 170 0 [some (.ref i)] [] (hmd h i M) = some (some (.int (M'.2 4)), hmd h i M') := by
  have F : mfC M (setI (setI (setI (setI M 3 0) 4 1) 5 0) 6 0) := mfC_t (mfC_I (by decide)) (mfC_t (mfC_I (by decide)) (mfC_t (mfC_I (by decide)) (mfC_I (by decide))))
  have hj : jN (setI (setI (setI (setI M 3 0) 4 1) 5 0) 6 0) w m 0 s00 0 := ⟨psI_00, Nat.zero_le _, rfl, by rw [stp_0 rfl, sMrk_0 rfl, Option.or_none]; rfl, pmR_c hP F, rfl, rfl, ⟨rfl, fun c hc => absurd hc (Nat.not_lt_zero c)⟩, rfl, trivial, Nat.le_refl _⟩
  obtain ⟨M1, a1, a2, a3⟩ := m_takesCrate (d := d) (h := h) (i := i) hj (fun _ => rfl)
  have run : ev (d + 3) 170 0 [some (.ref i)] [] (hmd h i M) = ev (d + 3) 170 24 [some (.ref i)] [] (hmd h i M1) := by
    simp only [e170_0, e170_1, e170_2, e170_5, e170_6, e170_7, e170_10, e170_11, e170_12, e170_15, e170_16, e170_17, e170_20, e170_21, e170_25, e170_28, e170_31, e170_32, e170_35, e170_36, e170_39, e170_42, e170_43, e170_46, e170_49, e170_50, e170_53, e170_56, e170_57, e170_60, md_g0, md_g1, md_g2, md_g3, md_g4, md_g5, md_g6, md_g7, md_g8, md_g9, md_g10, md_g11, md_g12, md_g13, md_g14, md_g15, md_g16, md_g17, md_g18, md_p3, md_p5, md_p7, md_p8, md_p9, md_p11, md_p13, md_p15, md_l0, md_l1, md_l2, md_l3, md_l4, md_l5, md_l6, md_l7, md_l8, md_l9, md_l10, md_s0, md_s1, md_s2, md_s3, md_s4, md_s5, md_s6, md_s7, md_s8, md_s9, md_s10, md_is, Option.bind_some, Option.toList_some, Option.toList_none, List.cons_append, List.nil_append, true_or, or_true, and_true, true_and, i10, Bool.false_eq_true, if_true, if_false, reduceIte, a3]
  rcases a2 with ⟨b1, q, b2, b3, b4⟩ | ⟨b1, p1, s1, t1, b2, b3, b4, b5⟩
  · refine ⟨M1, mfC_t F a1, Or.inl ⟨b1, by rw [b4]; exact b2, by rw [b4]; exact nI_n4 (by omega)⟩, run.trans ?_⟩
    rw [e170_24]
    simp only [e170_0, e170_1, e170_2, e170_5, e170_6, e170_7, e170_10, e170_11, e170_12, e170_15, e170_16, e170_17, e170_20, e170_21, e170_25, e170_28, e170_31, e170_32, e170_35, e170_36, e170_39, e170_42, e170_43, e170_46, e170_49, e170_50, e170_53, e170_56, e170_57, e170_60, md_g0, md_g1, md_g2, md_g3, md_g4, md_g5, md_g6, md_g7, md_g8, md_g9, md_g10, md_g11, md_g12, md_g13, md_g14, md_g15, md_g16, md_g17, md_g18, md_p3, md_p5, md_p7, md_p8, md_p9, md_p11, md_p13, md_p15, md_l0, md_l1, md_l2, md_l3, md_l4, md_l5, md_l6, md_l7, md_l8, md_l9, md_l10, md_s0, md_s1, md_s2, md_s3, md_s4, md_s5, md_s6, md_s7, md_s8, md_s9, md_s10, md_is, Option.bind_some, Option.toList_some, Option.toList_none, List.cons_append, List.nil_append, true_or, or_true, and_true, true_and, i10, Bool.false_eq_true, if_true, if_false, reduceIte, b1]
  · obtain ⟨M', c1, c2, c3⟩ := m_nests1 (d := d) (h := h) (i := i) _ p1 s1 t1 M1 (Nat.le_refl _) b4 b5
    exact ⟨M', mfC_t F (mfC_t a1 c1), nsO_t b3 c2, run.trans c3⟩
theorem m_fault (hP : pmR M w m) : ∃ M', mfC M M' ∧ ev (d + 4) 171 0 [some (.ref i)] [] (hmd h i M) = some (some (.int (rdv m (rnn w m 0 s00))), hmd h i M') := by
  obtain ⟨M', a1, a2, a3⟩ := m_areNests (d := d) (h := h) (i := i) hP
  refine ⟨M', a1, ?_⟩
  rcases a2 with ⟨b1, b2, b3⟩ | ⟨b1, s', b2, b3, b4, b5⟩
  · rw [b1] at a3
    simp only [e171_0, e171_1, e171_4, e171_7, e171_9, e171_12, e171_13, e171_16, md_g0, md_g1, md_g2, md_g3, md_g4, md_g5, md_g6, md_g7, md_g8, md_g9, md_g10, md_g11, md_g12, md_g13, md_g14, md_g15, md_g16, md_g17, md_g18, md_p3, md_p5, md_p7, md_p8, md_p9, md_p11, md_p13, md_p15, md_l0, md_l1, md_l2, md_l3, md_l4, md_l5, md_l6, md_l7, md_l8, md_l9, md_l10, md_s0, md_s1, md_s2, md_s3, md_s4, md_s5, md_s6, md_s7, md_s8, md_s9, md_s10, md_is, Option.bind_some, Option.toList_some, Option.toList_none, List.cons_append, List.nil_append, true_or, or_true, and_true, true_and, i10, Bool.false_eq_true, if_true, if_false, reduceIte, a3, b2]
    rfl
  · rw [b1] at a3
    have e : rdv m (rnn w m 0 s00) = -4 := by
      have b2' : rnn w m 0 s00 = (m, some s') := b2
      rw [b2']
      unfold rdv
      dsimp only
      rw [if_pos b4]
    rw [e]
    simp only [e171_0, e171_1, e171_4, e171_7, e171_9, e171_12, e171_13, e171_16, md_g0, md_g1, md_g2, md_g3, md_g4, md_g5, md_g6, md_g7, md_g8, md_g9, md_g10, md_g11, md_g12, md_g13, md_g14, md_g15, md_g16, md_g17, md_g18, md_p3, md_p5, md_p7, md_p8, md_p9, md_p11, md_p13, md_p15, md_l0, md_l1, md_l2, md_l3, md_l4, md_l5, md_l6, md_l7, md_l8, md_l9, md_l10, md_s0, md_s1, md_s2, md_s3, md_s4, md_s5, md_s6, md_s7, md_s8, md_s9, md_s10, md_is, Option.bind_some, Option.toList_some, Option.toList_none, List.cons_append, List.nil_append, true_or, or_true, and_true, true_and, i10, Bool.false_eq_true, if_true, if_false, reduceIte, a3]
end NESTS
