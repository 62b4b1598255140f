/-! THE LAW'S DEEDS -/
section LDEEDS
variable {d : Nat} {H H1 : zH} {σ σ' : mS} {r r' : Int32} {e e' : Nat → mS × Int32} {len len' : Nat} {k : Bool} {κ : mS × Int32} {w w' : Nat → Nat} {m m' : Nat} {x y : Int32} {c n p : Nat}
theorem nI_sub {a b : Nat} (h : b ≤ a) : nI a - nI b = nI (a - b) := by
  rw [iI_nat, iI_nat, iI_nat, iI_sub, Int.ofNat_sub h]
theorem dd_head {n u : Nat} {hw : Int32} (hn : n = lwv y (σ.1 + 1)) (hu : u = lwv (y >>> (4 &&& 31)) (σ.1 + 1)) (hC : CI H σ r e len k κ w m) (hW : WF σ e len k κ) : ev (d + 21) 136 0 [some (.ref 0), some (.int hw), some (.int y), none, none, none, none, none, none, none, none, none, none] [] H = ev (d + 21) 136 47 [some (.ref 0), some (.int (hw)), some (.int (y)), some (.int (nI σ.1)), some (.int (nI n)), some (.int (nI u)), some (.int (r)), some (.int (bI (n = σ.1))), none, none, none, none, none] [] H := by
  have h12 := hW.1.1
  have z0 := CI_z hC
  have f0 := ca_n0 (d := d) hC hW
  have f12 := ca_n12 (d := d) hC hW
  have l1 := lw_low (d := d + 20) (H := H) (x := y) (n := σ.1 + 1) (by omega) (by omega)
  have l2 := lw_low (d := d + 20) (H := H) (x := (y >>> (4 &&& 31))) (n := σ.1 + 1) (by omega) (by omega)
  rw [← hn] at l1
  rw [← hu] at l2
  have h1 : n < σ.1 + 1 := by rw [hn]; exact lwv_lt (by omega)
  have c1 : (nI n = nI σ.1) = (n = σ.1) := nI_eqp (by omega) (by omega)
  by_cases q1 : n = σ.1
  · rw [bI_t q1]
    simp only [e136_0, e136_1, e136_2, e136_5, e136_6, e136_7, e136_8, e136_9, e136_10, e136_13, e136_15, e136_16, e136_17, e136_18, e136_19, e136_20, e136_21, e136_24, e136_26, e136_27, e136_29, e136_32, e136_34, e136_36, e136_37, e136_40, e136_41, e136_44, e136_45, Option.bind_some, Option.toList_some, Option.toList_none, List.cons_append, List.nil_append, true_or, or_true, and_true, true_and, i10, Bool.false_eq_true, if_true, if_false, reduceIte, f0, f12, z0, l1, l2, nI_1, c1.trans (eq_true q1)]
  · rw [bI_f q1]
    simp only [e136_0, e136_1, e136_2, e136_5, e136_6, e136_7, e136_8, e136_9, e136_10, e136_13, e136_15, e136_16, e136_17, e136_18, e136_19, e136_20, e136_21, e136_24, e136_26, e136_27, e136_29, e136_32, e136_34, e136_36, e136_37, e136_40, e136_41, e136_44, e136_45, Option.bind_some, Option.toList_some, Option.toList_none, List.cons_append, List.nil_append, true_or, or_true, and_true, true_and, i10, Bool.false_eq_true, if_true, if_false, reduceIte, f0, f12, z0, l1, l2, nI_1, c1.trans (eq_false q1)]
theorem dd_put {n u : Nat} (h1 : n ≤ σ.1) (h2 : u ≤ σ.1) (hC : CI H σ r e len k κ w m) (hW : WF σ e len k κ) : ∃ H1 σ' r' e' len', ev (d + 21) 136 47 [some (.ref 0), some (.int (0)), some (.int (y)), some (.int (nI σ.1)), some (.int (nI n)), some (.int (nI u)), some (.int (r)), some (.int (bI (n = σ.1))), none, none, none, none, none] [] H = some (some (.int 1), H1) ∧ CO H H1 ∧ CI H1 σ' r' e' len' k κ w m ∧ WF σ' e' len' k κ ∧ CH σ r e len σ' r' e' len' := by
  have hn := hW.1.1
  have z0 := CI_z hC
  have g0 := wd_why (d := d) h1 h2 hC hW
  have f12 := ca_n12 (d := d) hC hW
  by_cases q : n = σ.1 ∨ u = σ.1
  · rw [if_pos q] at g0
    have zz : zin (nI n) σ.1 = false ∨ zin (nI u) σ.1 = false := by
      rcases q with v | v
      · rw [v]; exact Or.inl (zin_many hW)
      · rw [v]; exact Or.inr (zin_many hW)
    have p0 := cd_put0 (d := d) zz hC hW
    refine ⟨H, σ, r, e, len, ?_, CO_r, hC, hW, Or.inl ⟨rfl, rfl, rfl, rfl⟩⟩
    simp only [e136_47, e136_48, e136_51, e136_52, e136_54, e136_56, e136_59, e136_61, e136_62, e136_64, e136_66, e136_69, e136_71, e136_73, e136_76, e136_78, e136_79, e136_82, e136_83, e136_85, e136_88, e136_90, e136_93, e136_94, e136_97, e136_98, e136_101, e136_103, e136_106, e136_108, e136_110, e136_113, e136_114, e136_116, e136_119, e136_121, e136_122, e136_123, e136_126, e136_127, e136_130, e136_131, e136_134, e136_136, e136_138, e136_139, e136_141, e136_142, e136_145, e136_146, e136_149, e136_150, e136_152, e136_153, e136_156, e136_158, e136_161, e136_162, e136_164, e136_166, e136_169, e136_170, e136_172, e136_174, e136_177, e136_178, e136_179, e136_182, e136_183, e136_185, e136_188, e136_190, e136_193, e136_194, e136_197, e136_198 (Or.inr rfl), Option.bind_some, Option.toList_some, Option.toList_none, List.cons_append, List.nil_append, true_or, or_true, and_true, true_and, i10, Bool.false_eq_true, if_true, if_false, reduceIte, g0, p0, f12, z0, show ((0 : Int32) ≤ -1) = False by decide, eq_self]
  · rw [if_neg q] at g0
    have hc : n < σ.1 := by omega
    have hu : u < σ.1 := by omega
    have r3 := rpt_3 (σ := σ) (c := n) (u := u)
    by_cases q3 : rpt σ n u = 0
    · obtain ⟨H1, a1, a2, a3⟩ := cd_put (d := d) hc hu q3 hC hW
      have hW' := WF_ch (r := r) hW (put_wf hW.1 hc hu q3)
      have z1 := CI_z a3
      have k5 := ca_cr5 (d := d) (σ := laid σ n u) (c := n) hc a3 hW'
      have k4 := ca_cr4 (d := d) (σ := laid σ n u) (c := n) hc a3 hW'
      have k9 := ca_cr9 (d := d) (σ := laid σ n u) (c := n) hc a3 hW'
      have k6 := ca_cr6 (d := d) (σ := laid σ n u) (c := u) hu a3 hW'
      have k12 := ca_n12 (d := d) a3 hW'
      rw [laid_2, if_pos ⟨rfl, rfl⟩] at k4
      change _ = some (some (Value.int (nI u)), H1) at k4
      rw [laid_2, if_neg (by omega), if_pos ⟨rfl, rfl⟩, pil_gnd hc] at k9
      rw [pil_laid hc, if_pos rfl] at k6
      refine ⟨H1, _, _, _, _, ?_, a2, a3, hW', Or.inr ⟨rfl, rfl⟩⟩
      rw [q3, show nI 0 = 0 from rfl] at g0
      have e10 : (10 : Int32) + nI (dpt (laid σ n u) n) = nI (10 + dpt (laid σ n u) n) := nI_add 10 _
      simp only [e136_47, e136_48, e136_51, e136_52, e136_54, e136_56, e136_59, e136_61, e136_62, e136_64, e136_66, e136_69, e136_71, e136_73, e136_76, e136_78, e136_79, e136_82, e136_83, e136_85, e136_88, e136_90, e136_93, e136_94, e136_97, e136_98, e136_101, e136_103, e136_106, e136_108, e136_110, e136_113, e136_114, e136_116, e136_119, e136_121, e136_122, e136_123, e136_126, e136_127, e136_130, e136_131, e136_134, e136_136, e136_138, e136_139, e136_141, e136_142, e136_145, e136_146, e136_149, e136_150, e136_152, e136_153, e136_156, e136_158, e136_161, e136_162, e136_164, e136_166, e136_169, e136_170, e136_172, e136_174, e136_177, e136_178, e136_179, e136_182, e136_183, e136_185, e136_188, e136_190, e136_193, e136_194, e136_197, e136_198 (Or.inr rfl), Option.bind_some, Option.toList_some, Option.toList_none, List.cons_append, List.nil_append, true_or, or_true, and_true, true_and, i10, Bool.false_eq_true, if_true, if_false, reduceIte, g0, a1, z0, z1, k5, k4, k9, k6, k12, e10, nI_pred, Int32.le_refl, eq_self]
    · obtain ⟨H1, a1, a2, a3⟩ := cd_putR (d := d) hc hu q3 hC hW
      have hW' := WF_ch (r := r) hW hW.1
      have z1 := CI_z a3
      have k12 := ca_n12 (d := d) a3 hW'
      refine ⟨H1, _, _, _, _, ?_, a2, a3, hW', Or.inr ⟨rfl, rfl⟩⟩
      have p1 : ((0 : Int32) ≤ nI (rpt σ n u)) = True := eq_true (nI_pos' (by omega))
      have p2 : (nI (rpt σ n u) ≤ 0) = False := (nI_lep (b := 0) (by omega) (by omega)).trans (eq_false (by omega))
      simp only [e136_47, e136_48, e136_51, e136_52, e136_54, e136_56, e136_59, e136_61, e136_62, e136_64, e136_66, e136_69, e136_71, e136_73, e136_76, e136_78, e136_79, e136_82, e136_83, e136_85, e136_88, e136_90, e136_93, e136_94, e136_97, e136_98, e136_101, e136_103, e136_106, e136_108, e136_110, e136_113, e136_114, e136_116, e136_119, e136_121, e136_122, e136_123, e136_126, e136_127, e136_130, e136_131, e136_134, e136_136, e136_138, e136_139, e136_141, e136_142, e136_145, e136_146, e136_149, e136_150, e136_152, e136_153, e136_156, e136_158, e136_161, e136_162, e136_164, e136_166, e136_169, e136_170, e136_172, e136_174, e136_177, e136_178, e136_179, e136_182, e136_183, e136_185, e136_188, e136_190, e136_193, e136_194, e136_197, e136_198 (Or.inr rfl), Option.bind_some, Option.toList_some, Option.toList_none, List.cons_append, List.nil_append, true_or, or_true, and_true, true_and, i10, Bool.false_eq_true, if_true, if_false, reduceIte, g0, a1, z0, z1, k12, p1, p2, eq_self]
theorem dd_ground {n u : Nat} (h1 : n ≤ σ.1) (hC : CI H σ r e len k κ w m) (hW : WF σ e len k κ) : ∃ H1 σ' r' e' len', ev (d + 21) 136 47 [some (.ref 0), some (.int (1)), some (.int (y)), some (.int (nI σ.1)), some (.int (nI n)), some (.int (nI u)), some (.int (r)), some (.int (bI (n = σ.1))), none, none, none, none, none] [] H = some (some (.int 1), H1) ∧ CO H H1 ∧ CI H1 σ' r' e' len' k κ w m ∧ WF σ' e' len' k κ ∧ CH σ r e len σ' r' e' len' := by
  have hn := hW.1.1
  have z0 := CI_z hC
  by_cases q : n = σ.1
  · have p0 := cd_ground0 (d := d) (x := nI n) (by rw [q]; exact zin_many hW) hC hW
    refine ⟨H, σ, r, e, len, ?_, CO_r, hC, hW, Or.inl ⟨rfl, rfl, rfl, rfl⟩⟩
    rw [bI_t q]
    simp only [e136_47, e136_48, e136_199, e136_200, e136_201, e136_204, e136_206, e136_209, e136_210, e136_213, e136_214, e136_216, e136_218, e136_221, e136_223, e136_224, e136_226, e136_229, e136_231, e136_233, e136_236, e136_238, e136_239, e136_242, e136_243, e136_246, e136_247, e136_250, e136_252, e136_255, e136_257, e136_259, e136_262, e136_263, e136_265, e136_268, e136_270, e136_271, e136_272, e136_275, e136_276, e136_279, e136_280, e136_283, e136_285, e136_287, e136_290, e136_291, e136_293, e136_294, e136_297, e136_300, e136_301, e136_303, e136_306, e136_308, e136_311, e136_312, e136_315, e136_316 (Or.inr rfl), Option.bind_some, Option.toList_some, Option.toList_none, List.cons_append, List.nil_append, true_or, or_true, and_true, true_and, i10, Bool.false_eq_true, if_true, if_false, reduceIte, p0, z0, eq_self]
  · have hc : n < σ.1 := by omega
    have g14 := ca_cr14 (d := d) hc hC hW
    rw [bI_f q]
    have r5 := rgd_5 (σ := σ) (c := n)
    by_cases q3 : rgd σ n = 0
    · obtain ⟨H1, a1, a2, a3⟩ := cd_ground (d := d) hc q3 hC hW
      have hW' := WF_ch (r := r) hW (gnd_wf hW.1 hc (rgd_0 q3))
      have z1 := CI_z a3
      have k5 := ca_cr5 (d := d) (σ := gnd σ n) (c := n) hc a3 hW'
      have k12 := ca_n12 (d := d) a3 hW'
      have e0 : (gnd σ n).2 n 7 = 0 := by rw [gnd_2, if_pos ⟨rfl, Or.inl rfl⟩]
      rw [dpt_0 e0, show nI 0 = 0 from rfl] at k5
      rw [q3, show nI 0 = 0 from rfl] at g14
      refine ⟨H1, _, _, _, _, ?_, a2, a3, hW', Or.inr ⟨rfl, rfl⟩⟩
      simp only [e136_47, e136_48, e136_199, e136_200, e136_201, e136_204, e136_206, e136_209, e136_210, e136_213, e136_214, e136_216, e136_218, e136_221, e136_223, e136_224, e136_226, e136_229, e136_231, e136_233, e136_236, e136_238, e136_239, e136_242, e136_243, e136_246, e136_247, e136_250, e136_252, e136_255, e136_257, e136_259, e136_262, e136_263, e136_265, e136_268, e136_270, e136_271, e136_272, e136_275, e136_276, e136_279, e136_280, e136_283, e136_285, e136_287, e136_290, e136_291, e136_293, e136_294, e136_297, e136_300, e136_301, e136_303, e136_306, e136_308, e136_311, e136_312, e136_315, e136_316 (Or.inr rfl), Option.bind_some, Option.toList_some, Option.toList_none, List.cons_append, List.nil_append, true_or, or_true, and_true, true_and, i10, Bool.false_eq_true, if_true, if_false, reduceIte, g14, a1, z0, z1, k5, k12, Int32.le_refl, eq_self]
    · obtain ⟨H1, a1, a2, a3⟩ := cd_groundR (d := d) hc q3 hC hW
      have hW' := WF_ch (r := r) hW hW.1
      have z1 := CI_z a3
      have k12 := ca_n12 (d := d) a3 hW'
      have p2 : (nI (rgd σ n) ≤ 0) = False := (nI_lep (b := 0) (by omega) (by omega)).trans (eq_false (by omega))
      refine ⟨H1, _, _, _, _, ?_, a2, a3, hW', Or.inr ⟨rfl, rfl⟩⟩
      simp only [e136_47, e136_48, e136_199, e136_200, e136_201, e136_204, e136_206, e136_209, e136_210, e136_213, e136_214, e136_216, e136_218, e136_221, e136_223, e136_224, e136_226, e136_229, e136_231, e136_233, e136_236, e136_238, e136_239, e136_242, e136_243, e136_246, e136_247, e136_250, e136_252, e136_255, e136_257, e136_259, e136_262, e136_263, e136_265, e136_268, e136_270, e136_271, e136_272, e136_275, e136_276, e136_279, e136_280, e136_283, e136_285, e136_287, e136_290, e136_291, e136_293, e136_294, e136_297, e136_300, e136_301, e136_303, e136_306, e136_308, e136_311, e136_312, e136_315, e136_316 (Or.inr rfl), Option.bind_some, Option.toList_some, Option.toList_none, List.cons_append, List.nil_append, true_or, or_true, and_true, true_and, i10, Bool.false_eq_true, if_true, if_false, reduceIte, g14, a1, z0, z1, k12, p2, eq_self]
theorem dd_turn {n u : Nat} (h1 : n ≤ σ.1) (hC : CI H σ r e len k κ w m) (hW : WF σ e len k κ) : ∃ H1 σ' r' e' len', ev (d + 21) 136 47 [some (.ref 0), some (.int (2)), some (.int (y)), some (.int (nI σ.1)), some (.int (nI n)), some (.int (nI u)), some (.int (r)), some (.int (bI (n = σ.1))), none, none, none, none, none] [] H = some (some (.int 1), H1) ∧ CO H H1 ∧ CI H1 σ' r' e' len' k κ w m ∧ WF σ' e' len' k κ ∧ CH σ r e len σ' r' e' len' := by
  have hn := hW.1.1
  have z0 := CI_z hC
  have e21 : ((2 : Int32) = 1) = False := by decide
  have e20 : ((2 : Int32) = 0) = False := by decide
  have e80 : ((8 : Int32) = 0) = False := by decide
  by_cases q : n = σ.1
  · have p0 := cd_turn0 (d := d) (x := nI n) (by rw [q]; exact zin_many hW) hC hW
    refine ⟨H, σ, r, e, len, ?_, CO_r, hC, hW, Or.inl ⟨rfl, rfl, rfl, rfl⟩⟩
    rw [bI_t q]
    simp only [e136_47, e136_48, e136_199, e136_200, e136_201, e136_317, e136_318, e136_319, e136_322, e136_324, e136_327, e136_328, e136_331, e136_332, e136_334, e136_335, e136_338, e136_340, e136_341, e136_343, e136_346, e136_348, e136_350, e136_352, e136_355, e136_356, e136_359, e136_361, e136_362, e136_363, e136_365, e136_366, e136_368, e136_370, e136_371, e136_372, e136_375, e136_377, e136_380, e136_381, e136_383, e136_384, e136_387, e136_389, e136_392, e136_393, e136_396, e136_397 (Or.inr rfl), Option.bind_some, Option.toList_some, Option.toList_none, List.cons_append, List.nil_append, true_or, or_true, and_true, true_and, i10, Bool.false_eq_true, if_true, if_false, reduceIte, p0, z0, e21, e20, eq_self]
  · have hc : n < σ.1 := by omega
    have hb := hW.1.bnd.2 n hc
    have g2 := ca_cr2 (d := d) hc hC hW
    rw [bI_f q]
    obtain ⟨H1, a1, a2, a3⟩ := cd_turn (d := d) hc hC hW
    have hW' := WF_ch (r := r) hW (trd_wf hW.1 (c := n))
    have z1 := CI_z a3
    have k2 := ca_cr2 (d := d) (σ := trd σ n) (c := n) hc a3 hW'
    have e2 : (trd σ n).2 n 2 = tnd (σ.2 n 2) := by
      unfold trd
      rw [sa_2, if_pos ⟨rfl, rfl⟩]
    rw [e2] at k2
    have et := tnd_l (σ.2 n 2) (by omega)
    refine ⟨H1, _, _, _, _, ?_, a2, a3, hW', Or.inr ⟨rfl, rfl⟩⟩
    simp only [e136_47, e136_48, e136_199, e136_200, e136_201, e136_317, e136_318, e136_319, e136_322, e136_324, e136_327, e136_328, e136_331, e136_332, e136_334, e136_335, e136_338, e136_340, e136_341, e136_343, e136_346, e136_348, e136_350, e136_352, e136_355, e136_356, e136_359, e136_361, e136_362, e136_363, e136_365, e136_366, e136_368, e136_370, e136_371, e136_372, e136_375, e136_377, e136_380, e136_381, e136_383, e136_384, e136_387, e136_389, e136_392, e136_393, e136_396, e136_397 (Or.inr rfl), Option.bind_some, Option.toList_some, Option.toList_none, List.cons_append, List.nil_append, true_or, or_true, and_true, true_and, i10, Bool.false_eq_true, if_true, if_false, reduceIte, g2, a1, z0, z1, k2, e21, e20, e80, not_false_eq_true, et, eq_self]
theorem dd_break {n u : Nat} (h1 : n ≤ σ.1) (hC : CI H σ r e len k κ w m) (hW : WF σ e len k κ) : ∃ H1 σ' r' e' len', ev (d + 21) 136 47 [some (.ref 0), some (.int (3)), some (.int (y)), some (.int (nI σ.1)), some (.int (nI n)), some (.int (nI u)), some (.int (r)), some (.int (bI (n = σ.1))), none, none, none, none, none] [] H = some (some (.int 1), H1) ∧ CO H H1 ∧ CI H1 σ' r' e' len' k κ w m ∧ WF σ' e' len' k κ ∧ CH σ r e len σ' r' e' len' := by
  have hn := hW.1.1
  have z0 := CI_z hC
  have e32 : ((3 : Int32) = 2) = False := by decide
  have e31 : ((3 : Int32) = 1) = False := by decide
  have e30 : ((3 : Int32) = 0) = False := by decide
  have f4 := ca_n4 (d := d) hC hW
  by_cases q : n = σ.1
  · have p0 := cd_break0 (d := d) (x := nI n) (by rw [q]; exact zin_many hW) hC hW
    refine ⟨H, σ, r, e, len, ?_, CO_r, hC, hW, Or.inl ⟨rfl, rfl, rfl, rfl⟩⟩
    rw [bI_t q]
    simp only [e136_47, e136_48, e136_199, e136_200, e136_201, e136_317, e136_318, e136_319, e136_398, e136_400, e136_403, e136_404, e136_406, e136_408, e136_411, e136_412, e136_415, e136_416, e136_419, e136_420, e136_422, e136_424, e136_427, e136_428, e136_430, e136_432, e136_435, e136_438, e136_439, e136_442, e136_443, e136_445, e136_446, e136_447, e136_450, e136_452, e136_454, e136_457, e136_458, e136_461, e136_462, e136_464, e136_465, e136_468, e136_470, e136_471, e136_473, e136_476, e136_478, e136_480, e136_483, e136_485, e136_486, e136_489, e136_490, e136_493, e136_494, e136_497, e136_499, e136_502, e136_504, e136_505, e136_508, e136_509, e136_512, e136_513, e136_516, e136_518, e136_521, e136_523, e136_524, e136_527, e136_528, e136_531, e136_532, e136_535, e136_537, e136_539, e136_540, e136_541, e136_544, e136_545, e136_546, e136_549, e136_550, e136_551, e136_552, e136_555, e136_556, e136_557, e136_560, e136_562, e136_564, e136_565, e136_568, e136_569, e136_572, e136_573 (Or.inr rfl), Option.bind_some, Option.toList_some, Option.toList_none, List.cons_append, List.nil_append, true_or, or_true, and_true, true_and, i10, Bool.false_eq_true, if_true, if_false, reduceIte, p0, f4, z0, e32, e31, e30, eq_self]
  · have hc : n < σ.1 := by omega
    have hp := pil_le (c := n) hW.1.bnd
    have g14 := ca_cr14 (d := d) hc hC hW
    have g6 := ca_cr6 (d := d) hc hC hW
    have g0 := ca_cr0 (d := d) hc hC hW
    have c6 : (nI (pil σ n) = 0) = (pil σ n = 0) := nI_eqp (b := 0) (by omega) (by omega)
    rw [bI_f q]
    cases ht : tpb σ n with
    | false =>
      have e1 : rgd σ n = 1 := by
        unfold rgd
        rw [if_pos ht]
      have e2 : rbk σ n = 1 := by
        unfold rbk
        rw [if_pos ht]
      rw [e1, show nI 1 = 1 from rfl] at g14
      obtain ⟨H1, a1, a2, a3⟩ := cd_breakR (d := d) hc (by rw [e2]; decide) hC hW
      have hW' := WF_ch (r := r) hW hW.1
      rw [e2, show nI 1 = 1 from rfl] at a1
      refine ⟨H1, _, _, _, _, ?_, a2, a3, hW', Or.inr ⟨rfl, rfl⟩⟩
      by_cases q6 : pil σ n = 0
      · simp only [e136_47, e136_48, e136_199, e136_200, e136_201, e136_317, e136_318, e136_319, e136_398, e136_400, e136_403, e136_404, e136_406, e136_408, e136_411, e136_412, e136_415, e136_416, e136_419, e136_420, e136_422, e136_424, e136_427, e136_428, e136_430, e136_432, e136_435, e136_438, e136_439, e136_442, e136_443, e136_445, e136_446, e136_447, e136_450, e136_452, e136_454, e136_457, e136_458, e136_461, e136_462, e136_464, e136_465, e136_468, e136_470, e136_471, e136_473, e136_476, e136_478, e136_480, e136_483, e136_485, e136_486, e136_489, e136_490, e136_493, e136_494, e136_497, e136_499, e136_502, e136_504, e136_505, e136_508, e136_509, e136_512, e136_513, e136_516, e136_518, e136_521, e136_523, e136_524, e136_527, e136_528, e136_531, e136_532, e136_535, e136_537, e136_539, e136_540, e136_541, e136_544, e136_545, e136_546, e136_549, e136_550, e136_551, e136_552, e136_555, e136_556, e136_557, e136_560, e136_562, e136_564, e136_565, e136_568, e136_569, e136_572, e136_573 (Or.inr rfl), Option.bind_some, Option.toList_some, Option.toList_none, List.cons_append, List.nil_append, true_or, or_true, and_true, true_and, i10, Bool.false_eq_true, if_true, if_false, reduceIte, g14, g6, g0, f4, c6.trans (eq_true q6), a1, z0, e32, e31, e30, eq_self]
      · simp only [e136_47, e136_48, e136_199, e136_200, e136_201, e136_317, e136_318, e136_319, e136_398, e136_400, e136_403, e136_404, e136_406, e136_408, e136_411, e136_412, e136_415, e136_416, e136_419, e136_420, e136_422, e136_424, e136_427, e136_428, e136_430, e136_432, e136_435, e136_438, e136_439, e136_442, e136_443, e136_445, e136_446, e136_447, e136_450, e136_452, e136_454, e136_457, e136_458, e136_461, e136_462, e136_464, e136_465, e136_468, e136_470, e136_471, e136_473, e136_476, e136_478, e136_480, e136_483, e136_485, e136_486, e136_489, e136_490, e136_493, e136_494, e136_497, e136_499, e136_502, e136_504, e136_505, e136_508, e136_509, e136_512, e136_513, e136_516, e136_518, e136_521, e136_523, e136_524, e136_527, e136_528, e136_531, e136_532, e136_535, e136_537, e136_539, e136_540, e136_541, e136_544, e136_545, e136_546, e136_549, e136_550, e136_551, e136_552, e136_555, e136_556, e136_557, e136_560, e136_562, e136_564, e136_565, e136_568, e136_569, e136_572, e136_573 (Or.inr rfl), Option.bind_some, Option.toList_some, Option.toList_none, List.cons_append, List.nil_append, true_or, or_true, and_true, true_and, i10, Bool.false_eq_true, if_true, if_false, reduceIte, g14, g6, g0, f4, c6.trans (eq_false q6), a1, z0, e32, e31, e30, eq_self]
    | true =>
      have e1 : (nI (rgd σ n) = 1) = False := by
        have : rgd σ n = 4 ∨ rgd σ n = 0 := by
          unfold rgd
          rw [ht, if_neg (by decide)]
          split
          · exact Or.inl rfl
          · exact Or.inr rfl
        rcases this with v | v <;> rw [v] <;> decide
      by_cases q6 : pil σ n = 0
      · have e2 : rbk σ n = 0 := by
          unfold rbk
          rw [ht, if_neg (by decide), if_neg (by omega)]
        obtain ⟨H1, a1, a2, a3⟩ := cd_break (d := d) hc e2 hC hW
        have hW' := WF_ch (r := r) hW (lrm_wf hW.1 hc ht q6)
        have z1 := CI_z a3
        have k0 := ca_n0 (d := d) a3 hW'
        have k4 := ca_n4 (d := d) a3 hW'
        have hs := lrm_sizes (σ := σ) (c := n) hc
        change _ = some (some (Value.int (nI (σ.1 - 1))), H1) at k0
        have e4 : nI (sm (fun c => (lrm σ n).2 c 0) (lrm σ n).1) = nI (sm (fun a => σ.2 a 0) σ.1) - nI (σ.2 n 0) := by
          rw [← hs, nI_sub (by omega), Nat.add_sub_cancel]
        rw [e4] at k4
        have e9 : nI (10 + (σ.1 - 1)) = 9 + nI σ.1 := by
          rw [show (9 : Int32) = nI 9 from rfl, nI_add]
          exact congrArg nI (by omega)
        have e8 : nI (σ.1 - 1) = nI σ.1 - 1 := by
          rw [show (1 : Int32) = nI 1 from rfl, nI_sub (by omega)]
        rw [e9] at a1
        rw [e8] at k0
        refine ⟨H1, _, _, _, _, ?_, a2, a3, hW', Or.inr ⟨rfl, rfl⟩⟩
        simp only [e136_47, e136_48, e136_199, e136_200, e136_201, e136_317, e136_318, e136_319, e136_398, e136_400, e136_403, e136_404, e136_406, e136_408, e136_411, e136_412, e136_415, e136_416, e136_419, e136_420, e136_422, e136_424, e136_427, e136_428, e136_430, e136_432, e136_435, e136_438, e136_439, e136_442, e136_443, e136_445, e136_446, e136_447, e136_450, e136_452, e136_454, e136_457, e136_458, e136_461, e136_462, e136_464, e136_465, e136_468, e136_470, e136_471, e136_473, e136_476, e136_478, e136_480, e136_483, e136_485, e136_486, e136_489, e136_490, e136_493, e136_494, e136_497, e136_499, e136_502, e136_504, e136_505, e136_508, e136_509, e136_512, e136_513, e136_516, e136_518, e136_521, e136_523, e136_524, e136_527, e136_528, e136_531, e136_532, e136_535, e136_537, e136_539, e136_540, e136_541, e136_544, e136_545, e136_546, e136_549, e136_550, e136_551, e136_552, e136_555, e136_556, e136_557, e136_560, e136_562, e136_564, e136_565, e136_568, e136_569, e136_572, e136_573 (Or.inr rfl), Option.bind_some, Option.toList_some, Option.toList_none, List.cons_append, List.nil_append, true_or, or_true, and_true, true_and, i10, Bool.false_eq_true, if_true, if_false, reduceIte, g14, g6, g0, f4, c6.trans (eq_true q6), a1, z0, z1, k0, k4, e1, e32, e31, e30, eq_self]
      · have e2 : rbk σ n = 5 := by
          unfold rbk
          rw [ht, if_neg (by decide), if_pos (by omega)]
        obtain ⟨H1, a1, a2, a3⟩ := cd_breakR (d := d) hc (by rw [e2]; decide) hC hW
        have hW' := WF_ch (r := r) hW hW.1
        rw [e2, show nI 5 = 5 from rfl] at a1
        refine ⟨H1, _, _, _, _, ?_, a2, a3, hW', Or.inr ⟨rfl, rfl⟩⟩
        simp only [e136_47, e136_48, e136_199, e136_200, e136_201, e136_317, e136_318, e136_319, e136_398, e136_400, e136_403, e136_404, e136_406, e136_408, e136_411, e136_412, e136_415, e136_416, e136_419, e136_420, e136_422, e136_424, e136_427, e136_428, e136_430, e136_432, e136_435, e136_438, e136_439, e136_442, e136_443, e136_445, e136_446, e136_447, e136_450, e136_452, e136_454, e136_457, e136_458, e136_461, e136_462, e136_464, e136_465, e136_468, e136_470, e136_471, e136_473, e136_476, e136_478, e136_480, e136_483, e136_485, e136_486, e136_489, e136_490, e136_493, e136_494, e136_497, e136_499, e136_502, e136_504, e136_505, e136_508, e136_509, e136_512, e136_513, e136_516, e136_518, e136_521, e136_523, e136_524, e136_527, e136_528, e136_531, e136_532, e136_535, e136_537, e136_539, e136_540, e136_541, e136_544, e136_545, e136_546, e136_549, e136_550, e136_551, e136_552, e136_555, e136_556, e136_557, e136_560, e136_562, e136_564, e136_565, e136_568, e136_569, e136_572, e136_573 (Or.inr rfl), Option.bind_some, Option.toList_some, Option.toList_none, List.cons_append, List.nil_append, true_or, or_true, and_true, true_and, i10, Bool.false_eq_true, if_true, if_false, reduceIte, g14, g6, g0, f4, c6.trans (eq_false q6), a1, z0, e1, e32, e31, e30, eq_self]
/-- deeds answers 1 -/
theorem lw_deeds {hw : Nat} (hh : hw ≤ 3) (hC : CI H σ r e len k κ w m) (hW : WF σ e len k κ) : ∃ H1 σ' r' e' len', ev (d + 21) 136 0 [some (.ref 0), some (.int (nI hw)), some (.int y), none, none, none, none, none, none, none, none, none, none] [] H = some (some (.int 1), H1) ∧ CO H H1 ∧ CI H1 σ' r' e' len' k κ w m ∧ WF σ' e' len' k κ ∧ CH σ r e len σ' r' e' len' := by
  have h1 : lwv y (σ.1 + 1) ≤ σ.1 := Nat.le_of_lt_succ (lwv_lt (by omega))
  have h2 : lwv (y >>> (4 &&& 31)) (σ.1 + 1) ≤ σ.1 := Nat.le_of_lt_succ (lwv_lt (by omega))
  rw [dd_head rfl rfl hC hW]
  match hw, hh with
  | 0, _ => exact dd_put h1 h2 hC hW
  | 1, _ => exact dd_ground h1 hC hW
  | 2, _ => exact dd_turn h1 hC hW
  | 3, _ => exact dd_break h1 hC hW
end LDEEDS
