/-! A CRATE IN THE READER OF THE REFERENCE -/
/-- the crates that stand open, the innermost one last -/
def opS (f : Nat → Int32) (τ : mS) : Nat → Nat → Prop
  | 0, 0 => True
  | t + 1, k + 1 => f t = nI k ∧ opS f τ t (τ.2 k 7)
  | _, _ => False
theorem opS_0 {f : Nat → Int32} {τ : mS} {u : Nat} (h : opS f τ 0 u) : u = 0 := by
  cases u with
  | zero => rfl
  | succ k => exact h.elim
theorem opS_s {f : Nat → Int32} {τ : mS} {t u : Nat} (h : opS f τ (t + 1) u) : ∃ k, u = k + 1 ∧ f t = nI k ∧ opS f τ t (τ.2 k 7) := by
  cases u with
  | zero => exact h.elim
  | succ k => exact ⟨k, rfl, h.1, h.2⟩
theorem opS_eq {f g : Nat → Int32} {τ τ' : mS} {n : Nat} (h1 : ∀ a, a < n → τ'.2 a 7 = τ.2 a 7) (h2 : ∀ a, a < n → τ.2 a 7 ≤ n) : ∀ {t u : Nat}, (∀ x, x < t → g x = f x) → u ≤ n → opS f τ t u → opS g τ' t u
  | 0, 0, _, _, _ => trivial
  | 0, _ + 1, _, _, h => h.elim
  | _ + 1, 0, _, _, h => h.elim
  | t + 1, k + 1, hf, hu, h => by
    obtain ⟨a, b⟩ := h
    refine ⟨(hf t (by omega)).trans a, ?_⟩
    rw [h1 k (by omega)]
    exact opS_eq h1 h2 (fun x hx => hf x (by omega)) (h2 k (by omega)) b
/-- what the reader of the reference leaves -/
def mfC (M M' : oS) : Prop := (∀ r, r ≠ 5 → r ≠ 6 → M'.1 r = M.1 r) ∧ ∀ k, k ≠ 3 → k ≠ 4 → k ≠ 5 → k ≠ 6 → M'.2 k = M.2 k
theorem mfC_r {M : oS} : mfC M M := ⟨fun _ _ _ => rfl, fun _ _ _ _ _ => rfl⟩
theorem mfC_t {M M' M'' : oS} (h : mfC M M') (h' : mfC M' M'') : mfC M M'' := ⟨fun r a b => (h'.1 r a b).trans (h.1 r a b), fun k a b c e => (h'.2 k a b c e).trans (h.2 k a b c e)⟩
theorem mfC_s {M M' : oS} (h : mfS M M') : mfC M M' := ⟨fun r _ _ => by rw [h.1], fun k a b _ _ => h.2 k a b⟩
theorem mfC_R {M : oS} {f : Nat → Int32} {r : Nat} (hr : r = 5 ∨ r = 6) : mfC M (setR M r f) := ⟨fun k a b => by rw [setR_1, if_neg (by omega)], fun _ _ _ _ _ => rfl⟩
theorem mfC_I {M : oS} {x : Int32} {k : Nat} (hk : k = 3 ∨ k = 4 ∨ k = 5 ∨ k = 6) : mfC M (setI M k x) := ⟨fun _ _ _ => rfl, fun j a b c e => by rw [setI_2, if_neg (by omega)]⟩
theorem pmR_c {M M' : oS} {w : Nat → Nat} {m : Nat} (hP : pmR M w m) (hf : mfC M M') : pmR M' w m := by
  unfold pmR
  rw [hf.1 4 (by decide) (by decide), hf.2 2 (by decide) (by decide) (by decide) (by decide)]
  exact hP
/-- between two crates -/
def jN (M : oS) (w : Nat → Nat) (m p : Nat) (s : pS) (t : Nat) : Prop := psI2 p s ∧ p ≤ m ∧ prg s.1 s.2.1 = 7 ∧ stp s (hre w m p) = sLet (rBeg s 0) (hre w m p) ∧ pmR M w m ∧ M.2 4 = 1 ∧ M.2 3 = nI p ∧ rwR M s.2.2.2.2.2 ∧ M.2 6 = nI t ∧ opS (M.1 6) s.2.2.2.2.2 t s.2.2.2.2.1 ∧ t ≤ s.2.2.2.2.2.1
theorem nI_s1 (k : Nat) : nI (k + 1) - 1 = nI k := hI_s k
theorem hI_1 (u : Nat) : hI u + 1 = nI u := by
  unfold hI
  rw [Int32.sub_add_cancel]
section TAKES
variable {d : Nat} {h : zH} {i : Nat} {M : oS} {s : pS} {w : Nat → Nat} {m p : Nat}
theorem m_pops {x1 x2 x3 x4 : Option Value} : ∀ (t p : Nat) (s : pS) (M : oS), psI2 p s → p ≤ m → s.1 ≠ 0 → prg s.1 s.2.1 = 7 → stp s (hre w m p) = sBeh s (hre w m p) → cmp s = decide (s.2.2.2.2.1 = 0) → pmR M w m → M.2 4 = 1 → M.2 3 = nI p → rwR M s.2.2.2.2.2 → M.2 6 = nI t → opS (M.1 6) s.2.2.2.2.2 t s.2.2.2.2.1 → t ≤ s.2.2.2.2.2.1 → ∃ M' p' s' t', Gs w m p s p' s' ∧ jN M' w m p' s' t' ∧ cmp s' = decide (s'.2.2.2.2.1 = 0) ∧ mfC M M' ∧ ev (d + 1) 169 304 [some (.ref i), x1, x2, x3, x4] [] (hmd h i M) = some (none, hmd h i M') := by
  intro t
  induction t with
  | zero =>
    intro p s M hJ hp h0 hpr hst hcm hP h4 h3 hR h6 ho ht
    have hu := opS_0 ho
    refine ⟨M, p, s, 0, Gs_r hp hJ, ⟨hJ, hp, hpr, hst.trans (sBeh_n (Or.inl hu)), hP, h4, h3, hR, h6, ho, ht⟩, hcm, mfC_r, ?_⟩
    have h6' : M.2 6 = 0 := h6
    rw [e169_304]
    simp only [e169_0, e169_2, e169_3, e169_6, e169_7, e169_8, e169_9, e169_12, e169_15, e169_16, e169_19, e169_20, e169_23, e169_24, e169_25, e169_26, e169_29, e169_30, e169_31, e169_32, e169_33, e169_34, e169_38, e169_39, e169_42, e169_43, e169_46, e169_47, e169_48, e169_49, e169_51, e169_52, e169_53, e169_54, e169_57, e169_60, e169_61, e169_62, e169_65, e169_67, e169_69, e169_72, e169_75, e169_76, e169_77, e169_80, e169_81, e169_84, e169_87, e169_88, e169_91, e169_92, e169_93, e169_97, e169_100, e169_103, e169_104, e169_105, e169_108, e169_109, e169_112, e169_114, e169_116, e169_119, e169_122, e169_123, e169_126, e169_127, e169_128, e169_129, e169_130, e169_131, e169_132, e169_135, e169_137, e169_138, e169_139, e169_140, e169_141, e169_144, e169_145, e169_146, e169_149, e169_150, e169_151, e169_154, e169_158, e169_161, e169_162, e169_163, e169_164, e169_165, e169_167, e169_168, e169_170, e169_173, e169_174, e169_175, e169_178, e169_179, e169_180, e169_181, e169_182, e169_184, e169_185, e169_187, e169_190, e169_191, e169_192, e169_195, e169_196, e169_197, e169_198, e169_199, e169_201, e169_202, e169_204, e169_207, e169_208, e169_209, e169_212, e169_213, e169_215, e169_216, e169_217, e169_220, e169_221, e169_224, e169_225, e169_226, e169_229, e169_230, e169_231, e169_234, e169_235, e169_237, e169_238, e169_239, e169_240, e169_241, e169_242, e169_243, e169_244, e169_247, e169_248, e169_249, e169_252, e169_253, e169_256, e169_259, e169_260, e169_263, e169_265, e169_268, e169_269, e169_270, e169_273, e169_274, e169_275, e169_278, e169_279, e169_282, e169_283, e169_286, e169_287, e169_290, e169_291, e169_292, e169_293, e169_294, e169_295, e169_298, e169_299, e169_300, e169_303, e169_305, e169_308, e169_311, e169_312, e169_315, e169_318, e169_319, e169_322, e169_324, e169_327, e169_328, e169_329, e169_332, e169_333, e169_334, e169_337, e169_338, e169_339, e169_342, e169_343, e169_344, e169_347, e169_350, md_g0, md_g1, md_g2, md_g3, md_g4, md_g5, md_g6, md_g7, md_g8, md_g9, md_g10, md_g11, md_g12, md_g13, md_g14, md_g15, md_g16, md_g17, md_g18, md_p3, md_p5, md_p7, md_p8, md_p9, md_p11, md_p13, md_p15, md_l0, md_l1, md_l2, md_l3, md_l4, md_l5, md_l6, md_l7, md_l8, md_l9, md_l10, md_s0, md_s1, md_s2, md_s3, md_s4, md_s5, md_s6, md_s7, md_s8, md_s9, md_s10, md_is, Option.bind_some, Option.toList_some, Option.toList_none, List.cons_append, List.nil_append, true_or, or_true, and_true, true_and, i10, Bool.false_eq_true, if_true, if_false, reduceIte, h4, h6', Int32.le_refl]
  | succ t ih =>
    intro p s M hJ hp h0 hpr hst hcm hP h4 h3 hR h6 ho ht
    have hm := hP.2.1
    have hn := hJ.1.1.1
    have e1 : (nI (t + 1) ≤ 0) = False := (nI_lep (b := 0) (by omega) (by omega)).trans (eq_false (by omega))
    have hb := hre_b (p := p) hP
    have e2 : (nI (hre w m p) = 93) = (hre w m p = 93) := nI_eqp (b := 93) (by omega) (by omega)
    obtain ⟨k, k1, k2, k3⟩ := opS_s ho
    by_cases q : hre w m p = 93
    · have hs1 : stp s (hre w m p) = some (4, 0, 0, s.2.2.2.1, s.2.2.2.2.2.2 k 7, s.2.2.2.2.2) := by
        rw [hst, q]
        exact sBeh_93 k1
      have G := Gs_1 hm hp hJ hs1
      have F : mfC M (setI (setI M 3 (nI (p + 1))) 6 (nI t)) := mfC_t (mfC_I (by decide)) (mfC_I (by decide))
      obtain ⟨M', p', s', t', a1, a2, a3, a4, a5⟩ := ih (p + 1) _ (setI (setI M 3 (nI (p + 1))) 6 (nI t)) G.2.2.1 G.2.1 (by simp) rfl (stp_4 rfl) (by simp [cmp]) (pmR_c hP F) h4 rfl ⟨hR.1, hR.2⟩ rfl k3 (by dsimp only; omega)
      refine ⟨M', p', s', t', Gs_t G a1, a2, a3, mfC_t F a4, ?_⟩
      have g6 : (setI M 3 (nI (p + 1))).2 6 = nI (t + 1) := h6
      rw [e169_304]
      simp only [e169_0, e169_2, e169_3, e169_6, e169_7, e169_8, e169_9, e169_12, e169_15, e169_16, e169_19, e169_20, e169_23, e169_24, e169_25, e169_26, e169_29, e169_30, e169_31, e169_32, e169_33, e169_34, e169_38, e169_39, e169_42, e169_43, e169_46, e169_47, e169_48, e169_49, e169_51, e169_52, e169_53, e169_54, e169_57, e169_60, e169_61, e169_62, e169_65, e169_67, e169_69, e169_72, e169_75, e169_76, e169_77, e169_80, e169_81, e169_84, e169_87, e169_88, e169_91, e169_92, e169_93, e169_97, e169_100, e169_103, e169_104, e169_105, e169_108, e169_109, e169_112, e169_114, e169_116, e169_119, e169_122, e169_123, e169_126, e169_127, e169_128, e169_129, e169_130, e169_131, e169_132, e169_135, e169_137, e169_138, e169_139, e169_140, e169_141, e169_144, e169_145, e169_146, e169_149, e169_150, e169_151, e169_154, e169_158, e169_161, e169_162, e169_163, e169_164, e169_165, e169_167, e169_168, e169_170, e169_173, e169_174, e169_175, e169_178, e169_179, e169_180, e169_181, e169_182, e169_184, e169_185, e169_187, e169_190, e169_191, e169_192, e169_195, e169_196, e169_197, e169_198, e169_199, e169_201, e169_202, e169_204, e169_207, e169_208, e169_209, e169_212, e169_213, e169_215, e169_216, e169_217, e169_220, e169_221, e169_224, e169_225, e169_226, e169_229, e169_230, e169_231, e169_234, e169_235, e169_237, e169_238, e169_239, e169_240, e169_241, e169_242, e169_243, e169_244, e169_247, e169_248, e169_249, e169_252, e169_253, e169_256, e169_259, e169_260, e169_263, e169_265, e169_268, e169_269, e169_270, e169_273, e169_274, e169_275, e169_278, e169_279, e169_282, e169_283, e169_286, e169_287, e169_290, e169_291, e169_292, e169_293, e169_294, e169_295, e169_298, e169_299, e169_300, e169_303, e169_305, e169_308, e169_311, e169_312, e169_315, e169_318, e169_319, e169_322, e169_324, e169_327, e169_328, e169_329, e169_332, e169_333, e169_334, e169_337, e169_338, e169_339, e169_342, e169_343, e169_344, e169_347, e169_350, md_g0, md_g1, md_g2, md_g3, md_g4, md_g5, md_g6, md_g7, md_g8, md_g9, md_g10, md_g11, md_g12, md_g13, md_g14, md_g15, md_g16, md_g17, md_g18, md_p3, md_p5, md_p7, md_p8, md_p9, md_p11, md_p13, md_p15, md_l0, md_l1, md_l2, md_l3, md_l4, md_l5, md_l6, md_l7, md_l8, md_l9, md_l10, md_s0, md_s1, md_s2, md_s3, md_s4, md_s5, md_s6, md_s7, md_s8, md_s9, md_s10, md_is, Option.bind_some, Option.toList_some, Option.toList_none, List.cons_append, List.nil_append, true_or, or_true, and_true, true_and, i10, Bool.false_eq_true, if_true, if_false, reduceIte, h4, h6, e1, m_here hP h3 (show p < 1000 by omega), e2, eq_true q, h3, nI_1, g6, nI_s1]
      exact a5
    · refine ⟨M, p, s, t + 1, Gs_r hp hJ, ⟨hJ, hp, hpr, hst.trans (sBeh_n (Or.inr q)), hP, h4, h3, hR, h6, ho, ht⟩, hcm, mfC_r, ?_⟩
      rw [e169_304]
      simp only [e169_0, e169_2, e169_3, e169_6, e169_7, e169_8, e169_9, e169_12, e169_15, e169_16, e169_19, e169_20, e169_23, e169_24, e169_25, e169_26, e169_29, e169_30, e169_31, e169_32, e169_33, e169_34, e169_38, e169_39, e169_42, e169_43, e169_46, e169_47, e169_48, e169_49, e169_51, e169_52, e169_53, e169_54, e169_57, e169_60, e169_61, e169_62, e169_65, e169_67, e169_69, e169_72, e169_75, e169_76, e169_77, e169_80, e169_81, e169_84, e169_87, e169_88, e169_91, e169_92, e169_93, e169_97, e169_100, e169_103, e169_104, e169_105, e169_108, e169_109, e169_112, e169_114, e169_116, e169_119, e169_122, e169_123, e169_126, e169_127, e169_128, e169_129, e169_130, e169_131, e169_132, e169_135, e169_137, e169_138, e169_139, e169_140, e169_141, e169_144, e169_145, e169_146, e169_149, e169_150, e169_151, e169_154, e169_158, e169_161, e169_162, e169_163, e169_164, e169_165, e169_167, e169_168, e169_170, e169_173, e169_174, e169_175, e169_178, e169_179, e169_180, e169_181, e169_182, e169_184, e169_185, e169_187, e169_190, e169_191, e169_192, e169_195, e169_196, e169_197, e169_198, e169_199, e169_201, e169_202, e169_204, e169_207, e169_208, e169_209, e169_212, e169_213, e169_215, e169_216, e169_217, e169_220, e169_221, e169_224, e169_225, e169_226, e169_229, e169_230, e169_231, e169_234, e169_235, e169_237, e169_238, e169_239, e169_240, e169_241, e169_242, e169_243, e169_244, e169_247, e169_248, e169_249, e169_252, e169_253, e169_256, e169_259, e169_260, e169_263, e169_265, e169_268, e169_269, e169_270, e169_273, e169_274, e169_275, e169_278, e169_279, e169_282, e169_283, e169_286, e169_287, e169_290, e169_291, e169_292, e169_293, e169_294, e169_295, e169_298, e169_299, e169_300, e169_303, e169_305, e169_308, e169_311, e169_312, e169_315, e169_318, e169_319, e169_322, e169_324, e169_327, e169_328, e169_329, e169_332, e169_333, e169_334, e169_337, e169_338, e169_339, e169_342, e169_343, e169_344, e169_347, e169_350, md_g0, md_g1, md_g2, md_g3, md_g4, md_g5, md_g6, md_g7, md_g8, md_g9, md_g10, md_g11, md_g12, md_g13, md_g14, md_g15, md_g16, md_g17, md_g18, md_p3, md_p5, md_p7, md_p8, md_p9, md_p11, md_p13, md_p15, md_l0, md_l1, md_l2, md_l3, md_l4, md_l5, md_l6, md_l7, md_l8, md_l9, md_l10, md_s0, md_s1, md_s2, md_s3, md_s4, md_s5, md_s6, md_s7, md_s8, md_s9, md_s10, md_is, Option.bind_some, Option.toList_some, Option.toList_none, List.cons_append, List.nil_append, true_or, or_true, and_true, true_and, i10, Bool.false_eq_true, if_true, if_false, reduceIte, h4, h6, e1, m_here hP h3 (show p < 1000 by omega), e2, eq_false q]
/-- row 5 while a crate is read -/
def cuR (M : oS) (τ : mS) (c : Nat) : Prop := M.2 5 = nI c ∧ (∀ a, a < c → ∀ j, j < 9 → M.1 5 (9 * a + j) = nI (τ.2 a j)) ∧ ∀ q, q < 4 → M.1 5 (9 * c + (3 + q)) = nI (τ.2 c (3 + q))
theorem m_let1 {c n : Nat} {y x4 : Option Value} (hc : c ≤ 11) (hn : n < 4) (hP : pmR M w m) (h4 : M.2 4 = 1) (h3 : M.2 3 = nI p) (hp : p < 1000) (hl : 65 ≤ hre w m p ∧ hre w m p ≤ 90) : ev (d + 1) 169 96 [some (.ref i), some (.int (nI (9 * c))), y, some (.int (nI n)), x4] [] (hmd h i M) = ev (d + 1) 169 96 [some (.ref i), some (.int (nI (9 * c))), y, some (.int (nI (n + 1))), x4] [] (hmd h i (setI (setR M 5 (upd (M.1 5) (9 * c + (3 + n)) (nI (hre w m p - 64)))) 3 (nI (p + 1)))) := by
  have e1 : ((4 : Int32) ≤ nI n) = False := (nI_lep (a := 4) (by omega) (by omega)).trans (eq_false (by omega))
  have e2 : bI ((65 : Int32) ≤ nI (hre w m p) ∧ nI (hre w m p) ≤ 90) = 1 := bI_t ⟨(nI_leI (a := 65) (by omega) (by omega)).mpr hl.1, (nI_leI (b := 90) (by omega) (by omega)).mpr hl.2⟩
  have e3 : nI (9 * c) + 3 + nI n = nI (9 * c + (3 + n)) := by
    rw [show (3 : Int32) = nI 3 from rfl, nI_add, nI_add, Nat.add_assoc]
  have e4 : nI (hre w m p) - 65 + 1 = nI (hre w m p - 64) := by
    rw [show (65 : Int32) = iI 65 from rfl, show (1 : Int32) = iI 1 from rfl, iI_nat, iI_nat, iI_sub, iI_add]
    congr 1
    omega
  rw [e169_96]
  simp only [e169_0, e169_2, e169_3, e169_6, e169_7, e169_8, e169_9, e169_12, e169_15, e169_16, e169_19, e169_20, e169_23, e169_24, e169_25, e169_26, e169_29, e169_30, e169_31, e169_32, e169_33, e169_34, e169_38, e169_39, e169_42, e169_43, e169_46, e169_47, e169_48, e169_49, e169_51, e169_52, e169_53, e169_54, e169_57, e169_60, e169_61, e169_62, e169_65, e169_67, e169_69, e169_72, e169_75, e169_76, e169_77, e169_80, e169_81, e169_84, e169_87, e169_88, e169_91, e169_92, e169_93, e169_97, e169_100, e169_103, e169_104, e169_105, e169_108, e169_109, e169_112, e169_114, e169_116, e169_119, e169_122, e169_123, e169_126, e169_127, e169_128, e169_129, e169_130, e169_131, e169_132, e169_135, e169_137, e169_138, e169_139, e169_140, e169_141, e169_144, e169_145, e169_146, e169_149, e169_150, e169_151, e169_154, e169_158, e169_161, e169_162, e169_163, e169_164, e169_165, e169_167, e169_168, e169_170, e169_173, e169_174, e169_175, e169_178, e169_179, e169_180, e169_181, e169_182, e169_184, e169_185, e169_187, e169_190, e169_191, e169_192, e169_195, e169_196, e169_197, e169_198, e169_199, e169_201, e169_202, e169_204, e169_207, e169_208, e169_209, e169_212, e169_213, e169_215, e169_216, e169_217, e169_220, e169_221, e169_224, e169_225, e169_226, e169_229, e169_230, e169_231, e169_234, e169_235, e169_237, e169_238, e169_239, e169_240, e169_241, e169_242, e169_243, e169_244, e169_247, e169_248, e169_249, e169_252, e169_253, e169_256, e169_259, e169_260, e169_263, e169_265, e169_268, e169_269, e169_270, e169_273, e169_274, e169_275, e169_278, e169_279, e169_282, e169_283, e169_286, e169_287, e169_290, e169_291, e169_292, e169_293, e169_294, e169_295, e169_298, e169_299, e169_300, e169_303, e169_305, e169_308, e169_311, e169_312, e169_315, e169_318, e169_319, e169_322, e169_324, e169_327, e169_328, e169_329, e169_332, e169_333, e169_334, e169_337, e169_338, e169_339, e169_342, e169_343, e169_344, e169_347, e169_350, md_g0, md_g1, md_g2, md_g3, md_g4, md_g5, md_g6, md_g7, md_g8, md_g9, md_g10, md_g11, md_g12, md_g13, md_g14, md_g15, md_g16, md_g17, md_g18, md_p3, md_p5, md_p7, md_p8, md_p9, md_p11, md_p13, md_p15, md_l0, md_l1, md_l2, md_l3, md_l4, md_l5, md_l6, md_l7, md_l8, md_l9, md_l10, md_s0, md_s1, md_s2, md_s3, md_s4, md_s5, md_s6, md_s7, md_s8, md_s9, md_s10, md_is, Option.bind_some, Option.toList_some, Option.toList_none, List.cons_append, List.nil_append, true_or, or_true, and_true, true_and, i10, Bool.false_eq_true, if_true, if_false, reduceIte, h4, e1, m_here hP h3 hp, m_in, e2, e3, e4, zin_T (show 9 * c + (3 + n) < 126 by omega) (show 126 < 2147483648 by decide), nI_clamp (show 9 * c + (3 + n) < 2 ^ 31 by omega), setR_2, h3, nI_1]
theorem m_let0 {c n : Nat} {y x4 : Option Value} (hn : n ≤ 4) (hP : pmR M w m) (h4 : M.2 4 = 1) (h3 : M.2 3 = nI p) (hp : p < 1000) (hl : n = 4 ∨ ¬ (65 ≤ hre w m p ∧ hre w m p ≤ 90)) : ev (d + 1) 169 96 [some (.ref i), some (.int (nI (9 * c))), y, some (.int (nI n)), x4] [] (hmd h i M) = ev (d + 1) 169 157 [some (.ref i), some (.int (nI (9 * c))), y, some (.int (nI n)), x4] [] (hmd h i M) := by
  have hb := hre_b (p := p) hP
  rw [e169_96]
  by_cases q : n = 4
  · have e1 : ((4 : Int32) ≤ nI n) = True := (nI_lep (a := 4) (by omega) (by omega)).trans (eq_true (by omega))
    simp only [e169_0, e169_2, e169_3, e169_6, e169_7, e169_8, e169_9, e169_12, e169_15, e169_16, e169_19, e169_20, e169_23, e169_24, e169_25, e169_26, e169_29, e169_30, e169_31, e169_32, e169_33, e169_34, e169_38, e169_39, e169_42, e169_43, e169_46, e169_47, e169_48, e169_49, e169_51, e169_52, e169_53, e169_54, e169_57, e169_60, e169_61, e169_62, e169_65, e169_67, e169_69, e169_72, e169_75, e169_76, e169_77, e169_80, e169_81, e169_84, e169_87, e169_88, e169_91, e169_92, e169_93, e169_97, e169_100, e169_103, e169_104, e169_105, e169_108, e169_109, e169_112, e169_114, e169_116, e169_119, e169_122, e169_123, e169_126, e169_127, e169_128, e169_129, e169_130, e169_131, e169_132, e169_135, e169_137, e169_138, e169_139, e169_140, e169_141, e169_144, e169_145, e169_146, e169_149, e169_150, e169_151, e169_154, e169_158, e169_161, e169_162, e169_163, e169_164, e169_165, e169_167, e169_168, e169_170, e169_173, e169_174, e169_175, e169_178, e169_179, e169_180, e169_181, e169_182, e169_184, e169_185, e169_187, e169_190, e169_191, e169_192, e169_195, e169_196, e169_197, e169_198, e169_199, e169_201, e169_202, e169_204, e169_207, e169_208, e169_209, e169_212, e169_213, e169_215, e169_216, e169_217, e169_220, e169_221, e169_224, e169_225, e169_226, e169_229, e169_230, e169_231, e169_234, e169_235, e169_237, e169_238, e169_239, e169_240, e169_241, e169_242, e169_243, e169_244, e169_247, e169_248, e169_249, e169_252, e169_253, e169_256, e169_259, e169_260, e169_263, e169_265, e169_268, e169_269, e169_270, e169_273, e169_274, e169_275, e169_278, e169_279, e169_282, e169_283, e169_286, e169_287, e169_290, e169_291, e169_292, e169_293, e169_294, e169_295, e169_298, e169_299, e169_300, e169_303, e169_305, e169_308, e169_311, e169_312, e169_315, e169_318, e169_319, e169_322, e169_324, e169_327, e169_328, e169_329, e169_332, e169_333, e169_334, e169_337, e169_338, e169_339, e169_342, e169_343, e169_344, e169_347, e169_350, md_g0, md_g1, md_g2, md_g3, md_g4, md_g5, md_g6, md_g7, md_g8, md_g9, md_g10, md_g11, md_g12, md_g13, md_g14, md_g15, md_g16, md_g17, md_g18, md_p3, md_p5, md_p7, md_p8, md_p9, md_p11, md_p13, md_p15, md_l0, md_l1, md_l2, md_l3, md_l4, md_l5, md_l6, md_l7, md_l8, md_l9, md_l10, md_s0, md_s1, md_s2, md_s3, md_s4, md_s5, md_s6, md_s7, md_s8, md_s9, md_s10, md_is, Option.bind_some, Option.toList_some, Option.toList_none, List.cons_append, List.nil_append, true_or, or_true, and_true, true_and, i10, Bool.false_eq_true, if_true, if_false, reduceIte, h4, e1]
  · have e1 : ((4 : Int32) ≤ nI n) = False := (nI_lep (a := 4) (by omega) (by omega)).trans (eq_false (by omega))
    have hl := hl.resolve_left q
    have e2 : bI ((65 : Int32) ≤ nI (hre w m p) ∧ nI (hre w m p) ≤ 90) = 0 := bI_f (fun z => hl ⟨(nI_leI (a := 65) (by omega) (by omega)).mp z.1, (nI_leI (b := 90) (by omega) (by omega)).mp z.2⟩)
    simp only [e169_0, e169_2, e169_3, e169_6, e169_7, e169_8, e169_9, e169_12, e169_15, e169_16, e169_19, e169_20, e169_23, e169_24, e169_25, e169_26, e169_29, e169_30, e169_31, e169_32, e169_33, e169_34, e169_38, e169_39, e169_42, e169_43, e169_46, e169_47, e169_48, e169_49, e169_51, e169_52, e169_53, e169_54, e169_57, e169_60, e169_61, e169_62, e169_65, e169_67, e169_69, e169_72, e169_75, e169_76, e169_77, e169_80, e169_81, e169_84, e169_87, e169_88, e169_91, e169_92, e169_93, e169_97, e169_100, e169_103, e169_104, e169_105, e169_108, e169_109, e169_112, e169_114, e169_116, e169_119, e169_122, e169_123, e169_126, e169_127, e169_128, e169_129, e169_130, e169_131, e169_132, e169_135, e169_137, e169_138, e169_139, e169_140, e169_141, e169_144, e169_145, e169_146, e169_149, e169_150, e169_151, e169_154, e169_158, e169_161, e169_162, e169_163, e169_164, e169_165, e169_167, e169_168, e169_170, e169_173, e169_174, e169_175, e169_178, e169_179, e169_180, e169_181, e169_182, e169_184, e169_185, e169_187, e169_190, e169_191, e169_192, e169_195, e169_196, e169_197, e169_198, e169_199, e169_201, e169_202, e169_204, e169_207, e169_208, e169_209, e169_212, e169_213, e169_215, e169_216, e169_217, e169_220, e169_221, e169_224, e169_225, e169_226, e169_229, e169_230, e169_231, e169_234, e169_235, e169_237, e169_238, e169_239, e169_240, e169_241, e169_242, e169_243, e169_244, e169_247, e169_248, e169_249, e169_252, e169_253, e169_256, e169_259, e169_260, e169_263, e169_265, e169_268, e169_269, e169_270, e169_273, e169_274, e169_275, e169_278, e169_279, e169_282, e169_283, e169_286, e169_287, e169_290, e169_291, e169_292, e169_293, e169_294, e169_295, e169_298, e169_299, e169_300, e169_303, e169_305, e169_308, e169_311, e169_312, e169_315, e169_318, e169_319, e169_322, e169_324, e169_327, e169_328, e169_329, e169_332, e169_333, e169_334, e169_337, e169_338, e169_339, e169_342, e169_343, e169_344, e169_347, e169_350, md_g0, md_g1, md_g2, md_g3, md_g4, md_g5, md_g6, md_g7, md_g8, md_g9, md_g10, md_g11, md_g12, md_g13, md_g14, md_g15, md_g16, md_g17, md_g18, md_p3, md_p5, md_p7, md_p8, md_p9, md_p11, md_p13, md_p15, md_l0, md_l1, md_l2, md_l3, md_l4, md_l5, md_l6, md_l7, md_l8, md_l9, md_l10, md_s0, md_s1, md_s2, md_s3, md_s4, md_s5, md_s6, md_s7, md_s8, md_s9, md_s10, md_is, Option.bind_some, Option.toList_some, Option.toList_none, List.cons_append, List.nil_append, true_or, or_true, and_true, true_and, i10, Bool.false_eq_true, if_true, if_false, reduceIte, h4, e1, m_here hP h3 hp, m_in, e2]
theorem m_ltrs {c : Nat} {y x4 : Option Value} (hc : c ≤ 11) : ∀ (f n p : Nat) (s : pS) (M : oS), n + f = 4 → 1 ≤ n → s.1 = 0 → s.2.1 = n → s.2.2.2.1 = c → psI2 p s → p ≤ m → pmR M w m → M.2 4 = 1 → M.2 3 = nI p → cuR M s.2.2.2.2.2 c → ∃ M' p' s' x, Gs w m p s p' s' ∧ s'.1 = 0 ∧ s'.2.1 ≠ 0 ∧ s'.2.2.2.1 = c ∧ s'.2.2.2.2.1 = s.2.2.2.2.1 ∧ s'.2.2.2.2.2.1 = s.2.2.2.2.2.1 ∧ (∀ a b, ¬ (a = c ∧ 3 ≤ b ∧ b ≤ 6) → s'.2.2.2.2.2.2 a b = s.2.2.2.2.2.2 a b) ∧ sLet s' (hre w m p') = none ∧ mfC M M' ∧ M'.1 6 = M.1 6 ∧ M'.2 6 = M.2 6 ∧ M'.2 4 = 1 ∧ M'.2 3 = nI p' ∧ cuR M' s'.2.2.2.2.2 c ∧ ev (d + 1) 169 96 [some (.ref i), some (.int (nI (9 * c))), y, some (.int (nI n)), x4] [] (hmd h i M) = ev (d + 1) 169 157 [some (.ref i), some (.int (nI (9 * c))), y, some (.int (nI x)), x4] [] (hmd h i M') := by
  intro f
  induction f with
  | zero =>
    intro n p s M hf hn h0 hg hla hJ hp hP h4 h3 hR
    have hm := hP.2.1
    exact ⟨M, p, s, n, Gs_r hp hJ, h0, by omega, hla, rfl, rfl, fun _ _ _ => rfl, if_neg (by omega), mfC_r, rfl, rfl, h4, h3, hR, m_let0 (by omega) hP h4 h3 (by omega) (Or.inl (by omega))⟩
  | succ f ih =>
    intro n p s M hf hn h0 hg hla hJ hp hP h4 h3 hR
    have hm := hP.2.1
    by_cases q : 65 ≤ hre w m p ∧ hre w m p ≤ 90
    · have hs0 : sLet s (hre w m p) = some (s.1, s.2.1 + 1, s.2.2.1 + (hre w m p - 64) * 27 ^ s.2.1, s.2.2.2.1, s.2.2.2.2.1, sa s.2.2.2.2.2 s.2.2.2.1 (3 + s.2.1) (hre w m p - 64)) := by
        unfold sLet
        rw [if_pos ⟨q.1, q.2, by omega⟩, if_neg (by omega)]
      have hs1 : stp s (hre w m p) = some (s.1, s.2.1 + 1, s.2.2.1 + (hre w m p - 64) * 27 ^ s.2.1, s.2.2.2.1, s.2.2.2.2.1, sa s.2.2.2.2.2 s.2.2.2.1 (3 + s.2.1) (hre w m p - 64)) := by
        rw [stp_0 h0, hs0, Option.some_or]
      have G := Gs_1 hm hp hJ hs1
      have F : mfC M (setI (setR M 5 (upd (M.1 5) (9 * c + (3 + n)) (nI (hre w m p - 64)))) 3 (nI (p + 1))) := mfC_t (mfC_R (by decide)) (mfC_I (by decide))
      have hR1 : cuR (setI (setR M 5 (upd (M.1 5) (9 * c + (3 + n)) (nI (hre w m p - 64)))) 3 (nI (p + 1))) (sa s.2.2.2.2.2 c (3 + n) (hre w m p - 64)) c := by
        obtain ⟨r1, r2, r3⟩ := hR
        refine ⟨r1, fun a ha j hj => ?_, fun z hz => ?_⟩
        · have e1 : ¬ 9 * a + j = 9 * c + (3 + n) := by omega
          have e2 : ¬ (a = c ∧ j = 3 + n) := by omega
          simp only [setI_1, setR_1, if_true, upd, e1, if_false, sa_2, e2]
          exact r2 a ha j hj
        · simp only [setI_1, setR_1, if_true, upd, sa_2]
          by_cases e : z = n
          · subst e
            simp
          · have e1 : ¬ 9 * c + (3 + z) = 9 * c + (3 + n) := by omega
            have e2 : (3 + z = 3 + n) = False := eq_false (by omega)
            simp only [e1, if_false, e2, and_false]
            exact r3 z hz
      obtain ⟨M', p', s', x, a1, a2, a3, a4, a5, a6, a7, a8, a9, b1, b2, b3, b4, b5, b6⟩ := ih (n + 1) (p + 1) (s.1, s.2.1 + 1, s.2.2.1 + (hre w m p - 64) * 27 ^ s.2.1, s.2.2.2.1, s.2.2.2.2.1, sa s.2.2.2.2.2 s.2.2.2.1 (3 + s.2.1) (hre w m p - 64)) (setI (setR M 5 (upd (M.1 5) (9 * c + (3 + n)) (nI (hre w m p - 64)))) 3 (nI (p + 1))) (by omega) (by omega) h0 (by show s.2.1 + 1 = n + 1; omega) hla G.2.2.1 G.2.1 (pmR_c hP F) h4 rfl (by rw [hla, hg]; exact hR1)
      refine ⟨M', p', s', x, Gs_t G a1, a2, a3, a4, a5, a6, fun a b hab => (a7 a b hab).trans ?_, a8, mfC_t F a9, b1, b2, b3, b4, b5, (m_let1 hc (by omega) hP h4 h3 (by omega) q).trans b6⟩
      show (sa s.2.2.2.2.2 s.2.2.2.1 (3 + s.2.1) (hre w m p - 64)).2 a b = _
      rw [sa_2, if_neg (by omega)]
    · exact ⟨M, p, s, n, Gs_r hp hJ, h0, by omega, hla, rfl, rfl, fun _ _ _ => rfl, sLet_z (by omega), mfC_r, rfl, rfl, h4, h3, hR, m_let0 (by omega) hP h4 h3 (by omega) (Or.inr q)⟩
/-- row 5 after the numbers -/
def adr (f : Nat → Int32) (c : Nat) (x0 x1 x2 x8 x7 : Int32) : Nat → Int32 := upd (upd (upd (upd (upd f (9 * c) x0) (9 * c + 1) x1) (9 * c + 2) x2) (9 * c + 8) x8) (9 * c + 7) x7
theorem adr_lo {f : Nat → Int32} {c y : Nat} {x0 x1 x2 x8 x7 : Int32} (hy : y < 9 * c ∨ (9 * c + 3 ≤ y ∧ y ≤ 9 * c + 6)) : adr f c x0 x1 x2 x8 x7 y = f y := by
  have h0 : ¬ y = 9 * c := by omega
  have h1 : ¬ y = 9 * c + 1 := by omega
  have h2 : ¬ y = 9 * c + 2 := by omega
  have h7 : ¬ y = 9 * c + 7 := by omega
  have h8 : ¬ y = 9 * c + 8 := by omega
  simp only [adr, upd, h0, h1, h2, h7, h8, if_false]
def plc (τ : mS) (u : Nat) : Nat := match u with
  | 0 => 0
  | k + 1 => pil τ k
theorem tnr_b {mark lo hi : Nat} : (tnr w m p mark lo hi).1 ≤ p + 3 := by
  unfold tnr tn2
  split
  · dsimp only; omega
  · split
    · dsimp only
      split <;> dsimp only <;> omega
    · dsimp only; omega
theorem tn3_b : (tn3 w m p).1 ≤ p + 9 := by
  have h1 := tnr_b (w := w) (m := m) (p := p) (mark := 115) (lo := 1) (hi := 60)
  have h2 := tnr_b (w := w) (m := m) (p := (tnr w m p 115 1 60).1) (mark := 114) (lo := 0) (hi := 59)
  have h3 := tnr_b (w := w) (m := m) (p := (tnr w m (tnr w m p 115 1 60).1 114 0 59).1) (mark := 103) (lo := 0) (hi := 15)
  unfold tn3
  split
  · dsimp only; omega
  · split
    · dsimp only; omega
    · split <;> dsimp only <;> omega
theorem m_three {c u : Nat} {τ : mS} {f0 : Bool} {x3 x4 : Option Value} (hc : c ≤ 11) (hP : pmR M w m) (h4 : M.2 4 = bI (f0 = true)) (h3 : M.2 3 = nI p) (hp : p ≤ 80) (hR : rwR M τ) (hb : bnd τ) (hτ : τ.1 = c) (hu : u ≤ c) : ∃ M' y0 y1 y2, mfC M M' ∧ M'.1 6 = M.1 6 ∧ M'.2 6 = M.2 6 ∧ M'.1 5 = adr (M.1 5) c y0 y1 y2 (nI (plc τ u)) (nI u) ∧ M'.2 5 = nI (c + 1) ∧ M'.2 4 = bI ((f0 && (tn3 w m p).2.isSome) = true) ∧ M'.2 3 = nI (if f0 = true then (tn3 w m p).1 else p) ∧ (f0 = true → ∀ a b e, (tn3 w m p).2 = some (a, b, e) → y0 = nI a ∧ y1 = nI b ∧ y2 = nI e) ∧ ev (d + 2) 169 157 [some (.ref i), some (.int (nI (9 * c))), some (.int (hI u)), x3, x4] [] (hmd h i M) = ev (d + 2) 169 252 [some (.ref i), some (.int (nI (9 * c))), some (.int (hI u)), x3, x4] [] (hmd h i M') := by
  obtain ⟨M1, y0, a1, a2, a3, a4, a5⟩ := m_takesNumber (d := d) (h := h) (i := i) (f := f0) (mark := 115) (lo := 1) (hi := 60) hP h4 h3 (by omega) (by decide) (by decide) (by decide) (x1 := 115) (x2 := 1) (x3 := 60) rfl rfl rfl
  have F1 : mfC M (setR M1 5 (upd (M1.1 5) (9 * c) y0)) := mfC_t (mfC_s a1) (mfC_R (by decide))
  have hp1 : (if f0 = true then (tnr w m p 115 1 60).1 else p) ≤ 83 := by
    have := tnr_b (w := w) (m := m) (p := p) (mark := 115) (lo := 1) (hi := 60)
    split <;> omega
  obtain ⟨M2, y1, b1, b2, b3, b4, b5⟩ := m_takesNumber (d := d) (h := h) (i := i) (M := setR M1 5 (upd (M1.1 5) (9 * c) y0)) (f := f0 && (tnr w m p 115 1 60).2.isSome) (mark := 114) (lo := 0) (hi := 59) (pmR_c hP F1) a2 a3 (by omega) (by decide) (by decide) (by decide) (x1 := 114) (x2 := 0) (x3 := 59) rfl rfl rfl
  have F2 : mfC M (setR M2 5 (upd (M2.1 5) (9 * c + 1) y1)) := mfC_t F1 (mfC_t (mfC_s b1) (mfC_R (by decide)))
  have hp2 : (if (f0 && (tnr w m p 115 1 60).2.isSome) = true then (tnr w m (if f0 = true then (tnr w m p 115 1 60).1 else p) 114 0 59).1 else (if f0 = true then (tnr w m p 115 1 60).1 else p)) ≤ 86 := by
    have := tnr_b (w := w) (m := m) (p := if f0 = true then (tnr w m p 115 1 60).1 else p) (mark := 114) (lo := 0) (hi := 59)
    split <;> omega
  obtain ⟨M3, y2, c1, c2, c3, c4, c5⟩ := m_takesNumber (d := d) (h := h) (i := i) (M := setR M2 5 (upd (M2.1 5) (9 * c + 1) y1)) (f := (f0 && (tnr w m p 115 1 60).2.isSome) && (tnr w m (if f0 = true then (tnr w m p 115 1 60).1 else p) 114 0 59).2.isSome) (mark := 103) (lo := 0) (hi := 15) (pmR_c hP F2) b2 b3 (by omega) (by decide) (by decide) (by decide) (x1 := 103) (x2 := 0) (x3 := 15) rfl rfl rfl
  have hrow : (setR M3 5 (upd (M3.1 5) (9 * c + 2) y2)).1 5 = upd (upd (upd (M.1 5) (9 * c) y0) (9 * c + 1) y1) (9 * c + 2) y2 := by
    rw [setR_1, if_pos rfl, c1.1, setR_1, if_pos rfl, b1.1, setR_1, if_pos rfl, a1.1]
  have hr5 : M3.2 5 = nI c := by
    rw [c1.2 5 (by decide) (by decide), setR_2, b1.2 5 (by decide) (by decide), setR_2, a1.2 5 (by decide) (by decide), hR.1, hτ]
  have hr6 : M3.2 6 = M.2 6 := by
    rw [c1.2 6 (by decide) (by decide), setR_2, b1.2 6 (by decide) (by decide), setR_2, a1.2 6 (by decide) (by decide)]
  have hr16 : M3.1 6 = M.1 6 := by
    rw [c1.1, setR_1, if_neg (by decide), b1.1, setR_1, if_neg (by decide), a1.1]
  have hR3 : rwR (setR M3 5 (upd (M3.1 5) (9 * c + 2) y2)) τ := by
    refine ⟨hr5.trans (by rw [hτ]), fun a ha j hj => ?_⟩
    rw [hrow]
    have e0 : ¬ 9 * a + j = 9 * c := by omega
    have e1 : ¬ 9 * a + j = 9 * c + 1 := by omega
    have e2 : ¬ 9 * a + j = 9 * c + 2 := by omega
    simp only [upd, e0, e1, e2, if_false]
    exact hR.2 a ha j hj
  have F3 : mfC M M3 := mfC_t F2 (mfC_s c1)
  have i0 : nI (9 * c) + 0 = nI (9 * c) := Int32.add_zero _
  have i2 : nI (9 * c) + 2 = nI (9 * c + 2) := nI_add _ 2
  have i7 : nI (9 * c) + 7 = nI (9 * c + 7) := nI_add _ 7
  have i8 : nI (9 * c) + 8 = nI (9 * c + 8) := nI_add _ 8
  have en : (hI u < 0) = (u = 0) := hI_neg (by omega)
  have key : ev (d + 2) 169 157 [some (.ref i), some (.int (nI (9 * c))), some (.int (hI u)), x3, x4] [] (hmd h i M) = ev (d + 2) 169 252 [some (.ref i), some (.int (nI (9 * c))), some (.int (hI u)), x3, x4] [] (hmd h i (setI (setR (setR (setR M3 5 (upd (M3.1 5) (9 * c + 2) y2)) 5 (upd ((setR M3 5 (upd (M3.1 5) (9 * c + 2) y2)).1 5) (9 * c + 8) (nI (plc τ u)))) 5 (upd ((setR (setR M3 5 (upd (M3.1 5) (9 * c + 2) y2)) 5 (upd ((setR M3 5 (upd (M3.1 5) (9 * c + 2) y2)).1 5) (9 * c + 8) (nI (plc τ u)))).1 5) (9 * c + 7) (nI u))) 5 (nI (c + 1)))) := by
    rw [e169_157]
    cases u with
    | zero =>
      simp only [e169_0, e169_2, e169_3, e169_6, e169_7, e169_8, e169_9, e169_12, e169_15, e169_16, e169_19, e169_20, e169_23, e169_24, e169_25, e169_26, e169_29, e169_30, e169_31, e169_32, e169_33, e169_34, e169_38, e169_39, e169_42, e169_43, e169_46, e169_47, e169_48, e169_49, e169_51, e169_52, e169_53, e169_54, e169_57, e169_60, e169_61, e169_62, e169_65, e169_67, e169_69, e169_72, e169_75, e169_76, e169_77, e169_80, e169_81, e169_84, e169_87, e169_88, e169_91, e169_92, e169_93, e169_97, e169_100, e169_103, e169_104, e169_105, e169_108, e169_109, e169_112, e169_114, e169_116, e169_119, e169_122, e169_123, e169_126, e169_127, e169_128, e169_129, e169_130, e169_131, e169_132, e169_135, e169_137, e169_138, e169_139, e169_140, e169_141, e169_144, e169_145, e169_146, e169_149, e169_150, e169_151, e169_154, e169_158, e169_161, e169_162, e169_163, e169_164, e169_165, e169_167, e169_168, e169_170, e169_173, e169_174, e169_175, e169_178, e169_179, e169_180, e169_181, e169_182, e169_184, e169_185, e169_187, e169_190, e169_191, e169_192, e169_195, e169_196, e169_197, e169_198, e169_199, e169_201, e169_202, e169_204, e169_207, e169_208, e169_209, e169_212, e169_213, e169_215, e169_216, e169_217, e169_220, e169_221, e169_224, e169_225, e169_226, e169_229, e169_230, e169_231, e169_234, e169_235, e169_237, e169_238, e169_239, e169_240, e169_241, e169_242, e169_243, e169_244, e169_247, e169_248, e169_249, e169_253, e169_256, e169_259, e169_260, e169_263, e169_265, e169_268, e169_269, e169_270, e169_273, e169_274, e169_275, e169_278, e169_279, e169_282, e169_283, e169_286, e169_287, e169_290, e169_291, e169_292, e169_293, e169_294, e169_295, e169_298, e169_299, e169_300, e169_303, e169_305, e169_308, e169_311, e169_312, e169_315, e169_318, e169_319, e169_322, e169_324, e169_327, e169_328, e169_329, e169_332, e169_333, e169_334, e169_337, e169_338, e169_339, e169_342, e169_343, e169_344, e169_347, e169_350, md_g0, md_g1, md_g2, md_g3, md_g4, md_g5, md_g6, md_g7, md_g8, md_g9, md_g10, md_g11, md_g12, md_g13, md_g14, md_g15, md_g16, md_g17, md_g18, md_p3, md_p5, md_p7, md_p8, md_p9, md_p11, md_p13, md_p15, md_l0, md_l1, md_l2, md_l3, md_l4, md_l5, md_l6, md_l7, md_l8, md_l9, md_l10, md_s0, md_s1, md_s2, md_s3, md_s4, md_s5, md_s6, md_s7, md_s8, md_s9, md_s10, md_is, Option.bind_some, Option.toList_some, Option.toList_none, List.cons_append, List.nil_append, true_or, or_true, and_true, true_and, i10, Bool.false_eq_true, if_true, if_false, reduceIte, i0, nI_1, i2, i7, i8, a5, b5, c5, en, zin_T (show 9 * c < 126 by omega) (show 126 < 2147483648 by decide), zin_T (show 9 * c + 1 < 126 by omega) (show 126 < 2147483648 by decide), zin_T (show 9 * c + 2 < 126 by omega) (show 126 < 2147483648 by decide), zin_T (show 9 * c + 7 < 126 by omega) (show 126 < 2147483648 by decide), zin_T (show 9 * c + 8 < 126 by omega) (show 126 < 2147483648 by decide), nI_clamp (show 9 * c < 2 ^ 31 by omega), nI_clamp (show 9 * c + 1 < 2 ^ 31 by omega), nI_clamp (show 9 * c + 2 < 2 ^ 31 by omega), nI_clamp (show 9 * c + 7 < 2 ^ 31 by omega), nI_clamp (show 9 * c + 8 < 2 ^ 31 by omega), hI_1, setR_2, hr5]
      rfl
    | succ k =>
      have en' : (nI k < 0) = False := eq_false (nI_pos (by omega))
      have en2 : (0 ≤ nI k) = True := eq_true (nI_pos' (by omega))
      have pl := m_placeIn (d := d + 1) (h := h) (i := i) hR3 hb (k := k) (by omega)
      simp only [hI_s] at en ⊢
      simp only [e169_0, e169_2, e169_3, e169_6, e169_7, e169_8, e169_9, e169_12, e169_15, e169_16, e169_19, e169_20, e169_23, e169_24, e169_25, e169_26, e169_29, e169_30, e169_31, e169_32, e169_33, e169_34, e169_38, e169_39, e169_42, e169_43, e169_46, e169_47, e169_48, e169_49, e169_51, e169_52, e169_53, e169_54, e169_57, e169_60, e169_61, e169_62, e169_65, e169_67, e169_69, e169_72, e169_75, e169_76, e169_77, e169_80, e169_81, e169_84, e169_87, e169_88, e169_91, e169_92, e169_93, e169_97, e169_100, e169_103, e169_104, e169_105, e169_108, e169_109, e169_112, e169_114, e169_116, e169_119, e169_122, e169_123, e169_126, e169_127, e169_128, e169_129, e169_130, e169_131, e169_132, e169_135, e169_137, e169_138, e169_139, e169_140, e169_141, e169_144, e169_145, e169_146, e169_149, e169_150, e169_151, e169_154, e169_158, e169_161, e169_162, e169_163, e169_164, e169_165, e169_167, e169_168, e169_170, e169_173, e169_174, e169_175, e169_178, e169_179, e169_180, e169_181, e169_182, e169_184, e169_185, e169_187, e169_190, e169_191, e169_192, e169_195, e169_196, e169_197, e169_198, e169_199, e169_201, e169_202, e169_204, e169_207, e169_208, e169_209, e169_212, e169_213, e169_215, e169_216, e169_217, e169_220, e169_221, e169_224, e169_225, e169_226, e169_229, e169_230, e169_231, e169_234, e169_235, e169_237, e169_238, e169_239, e169_240, e169_241, e169_242, e169_243, e169_244, e169_247, e169_248, e169_249, e169_253, e169_256, e169_259, e169_260, e169_263, e169_265, e169_268, e169_269, e169_270, e169_273, e169_274, e169_275, e169_278, e169_279, e169_282, e169_283, e169_286, e169_287, e169_290, e169_291, e169_292, e169_293, e169_294, e169_295, e169_298, e169_299, e169_300, e169_303, e169_305, e169_308, e169_311, e169_312, e169_315, e169_318, e169_319, e169_322, e169_324, e169_327, e169_328, e169_329, e169_332, e169_333, e169_334, e169_337, e169_338, e169_339, e169_342, e169_343, e169_344, e169_347, e169_350, md_g0, md_g1, md_g2, md_g3, md_g4, md_g5, md_g6, md_g7, md_g8, md_g9, md_g10, md_g11, md_g12, md_g13, md_g14, md_g15, md_g16, md_g17, md_g18, md_p3, md_p5, md_p7, md_p8, md_p9, md_p11, md_p13, md_p15, md_l0, md_l1, md_l2, md_l3, md_l4, md_l5, md_l6, md_l7, md_l8, md_l9, md_l10, md_s0, md_s1, md_s2, md_s3, md_s4, md_s5, md_s6, md_s7, md_s8, md_s9, md_s10, md_is, Option.bind_some, Option.toList_some, Option.toList_none, List.cons_append, List.nil_append, true_or, or_true, and_true, true_and, i10, Bool.false_eq_true, if_true, if_false, reduceIte, i0, nI_1, i2, i7, i8, a5, b5, c5, en', en2, pl, zin_T (show 9 * c < 126 by omega) (show 126 < 2147483648 by decide), zin_T (show 9 * c + 1 < 126 by omega) (show 126 < 2147483648 by decide), zin_T (show 9 * c + 2 < 126 by omega) (show 126 < 2147483648 by decide), zin_T (show 9 * c + 7 < 126 by omega) (show 126 < 2147483648 by decide), zin_T (show 9 * c + 8 < 126 by omega) (show 126 < 2147483648 by decide), nI_clamp (show 9 * c < 2 ^ 31 by omega), nI_clamp (show 9 * c + 1 < 2 ^ 31 by omega), nI_clamp (show 9 * c + 2 < 2 ^ 31 by omega), nI_clamp (show 9 * c + 7 < 2 ^ 31 by omega), nI_clamp (show 9 * c + 8 < 2 ^ 31 by omega), setR_2, hr5]
      rfl
  refine ⟨_, y0, y1, y2, mfC_t F3 (mfC_t (mfC_R (by decide)) (mfC_t (mfC_R (by decide)) (mfC_t (mfC_R (by decide)) (mfC_I (by decide))))), ?_, ?_, ?_, rfl, ?_, ?_, ?_, key⟩
  · exact hr16
  · exact hr6
  · rw [setI_1, setR_1, if_pos rfl, setR_1, if_pos rfl, hrow]
    rfl
  · show M3.2 4 = _
    rw [c2]
    unfold tn3
    cases f0 with
    | false => rfl
    | true =>
      rw [if_pos rfl]
      cases (tnr w m p 115 1 60).2 with
      | none => rfl
      | some a =>
        simp only [Option.isSome_some, Bool.true_and, eq_self, if_true]
        cases (tnr w m (tnr w m p 115 1 60).1 114 0 59).2 with
        | none => rfl
        | some b =>
          simp only [Option.isSome_some, Bool.true_and, eq_self, if_true]
          cases (tnr w m (tnr w m (tnr w m p 115 1 60).1 114 0 59).1 103 0 15).2 with
          | none => rfl
          | some e => rfl
  · show M3.2 3 = _
    rw [c3]
    unfold tn3
    cases f0 with
    | false => rfl
    | true =>
      rw [if_pos rfl]
      cases (tnr w m p 115 1 60).2 with
      | none => rfl
      | some a =>
        simp only [Option.isSome_some, Bool.true_and, eq_self, if_true]
        cases (tnr w m (tnr w m p 115 1 60).1 114 0 59).2 with
        | none => rfl
        | some b =>
          simp only [Option.isSome_some, Bool.true_and, eq_self, if_true]
          cases (tnr w m (tnr w m (tnr w m p 115 1 60).1 114 0 59).1 103 0 15).2 with
          | none => rfl
          | some e => rfl
  · intro hf a b e he
    subst hf
    unfold tn3 at he
    rw [if_pos rfl] at b4 c4
    cases q1 : (tnr w m p 115 1 60).2 with
    | none => rw [q1] at he; cases he
    | some a' =>
      rw [q1] at he b4 c4
      dsimp only at he
      cases q2 : (tnr w m (tnr w m p 115 1 60).1 114 0 59).2 with
      | none => rw [q2] at he; cases he
      | some b' =>
        rw [q2] at he c4
        dsimp only at he
        cases q3 : (tnr w m (tnr w m (tnr w m p 115 1 60).1 114 0 59).1 103 0 15).2 with
        | none => rw [q3] at he; cases he
        | some e' =>
          rw [q3] at he
          cases he
          exact ⟨a4 rfl _ q1, b4 rfl _ q2, c4 rfl _ q3⟩
end TAKES
