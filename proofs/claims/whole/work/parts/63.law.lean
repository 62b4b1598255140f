/-! THE LAW -/
section LAW
variable {H : zH} {σ : mS} {r : Int32} {e : Nat → mS × Int32} {len : Nat} {k : Bool} {κ : mS × Int32} {w : Nat → Nat} {m : Nat} {L t : Nat} {xs : Nat → Int32} {F : UInt32} {x4 x6 : Option Value}
theorem law_make (hC : CI H σ r e len k κ w m) (hM : MI H σ r e len k κ w m) (hW : WF σ e len k κ) (hs : H.2.2.2 = (L, xs)) (hL : L ≤ 2560) (ht : 5 * t + 4 < L) : ∃ H2 y4 y6, ev 60 203 144 [some (.float F), some (.ref 0), some (.ref 71), some (.int (nI (5 * t))), x4, none, x6, none] [] H = ev 60 203 784 [some (.float F), some (.ref 0), some (.ref 71), some (.int (nI (5 * t))), y4, none, y6, none] [] H2 ∧ SO H H2 := by
  obtain ⟨H1, H2, v, c1, c2, co, so⟩ := st_make (d := 39) hC hM hW (x := xs (5 * t + 1)) (y := xs (5 * t + 2)) (z1 := xs (5 * t + 3)) (z2 := xs (5 * t + 4))
  have c1' : ev 59 98 0 [some (.ref 0), some (.int (xs (5 * t + 1))), some (.int (xs (5 * t + 2))), some (.int (xs (5 * t + 3))), some (.int (xs (5 * t + 4)))] [] H = some (some (.int v), H1) := c1
  have c2' : ev 59 157 0 [some (.ref 71), some (.int (xs (5 * t + 1))), some (.int (xs (5 * t + 2))), some (.int (xs (5 * t + 3))), some (.int (xs (5 * t + 4))), none, none] [] H1 = some (some (.int v), H2) := c2
  obtain ⟨⟨X, u1, -⟩, -⟩ := hC
  have z0 := cz_sx u1
  obtain ⟨M, m0, -⟩ := hM
  have z1 : zis H1 71 8 = true := cz_md (at_fr m0 (fun j a _ => co.2 j a))
  have hL0 : H.2.2.2.1 = L := congrArg Prod.fst hs
  have hX0 : H.2.2.2.2 = xs := congrArg Prod.snd hs
  have hL1 : H1.2.2.2.1 = L := (congrArg Prod.fst co.1.2.2).trans hL0
  have hX1 : H1.2.2.2.2 = xs := (congrArg Prod.snd co.1.2.2).trans hX0
  have i1 := zin_T (show 5 * t + 1 < L by omega) (show L < 2 ^ 31 by omega)
  have j1 := nI_clamp (show 5 * t + 1 < 2 ^ 31 by omega)
  have i2 := zin_T (show 5 * t + 2 < L by omega) (show L < 2 ^ 31 by omega)
  have j2 := nI_clamp (show 5 * t + 2 < 2 ^ 31 by omega)
  have a2 : nI (5 * t) + 2 = nI (5 * t + 2) := nI_add _ 2
  have i3 := zin_T (show 5 * t + 3 < L by omega) (show L < 2 ^ 31 by omega)
  have j3 := nI_clamp (show 5 * t + 3 < 2 ^ 31 by omega)
  have a3 : nI (5 * t) + 3 = nI (5 * t + 3) := nI_add _ 3
  have i4 := zin_T (show 5 * t + 4 < L by omega) (show L < 2 ^ 31 by omega)
  have j4 := nI_clamp (show 5 * t + 4 < 2 ^ 31 by omega)
  have a4 : nI (5 * t) + 4 = nI (5 * t + 4) := nI_add _ 4
  refine ⟨H2, x4, x6, ?_, so⟩
  simp only [e203_144, e203_145, e203_146, e203_147, e203_148, e203_149, e203_150, e203_151, e203_152, e203_153, e203_154, e203_155, e203_156, e203_157, e203_158, e203_159, e203_160, e203_161, e203_162, e203_163, e203_164, e203_165, e203_168, e203_169, e203_170, e203_171, e203_172, e203_173, e203_174, e203_175, e203_176, e203_177, e203_178, e203_179, e203_180, e203_181, e203_182, e203_183, e203_184, e203_185, e203_186, e203_187, e203_188, e203_189, e203_192, e203_195, e203_196, Option.bind_some, Option.toList_some, Option.toList_none, List.cons_append, List.nil_append, true_or, or_true, and_true, true_and, i10, Bool.false_eq_true, if_true, if_false, reduceIte, eq_self, z0, z1, hL0, hX0, hL1, hX1, i1, j1, nI_1, i2, j2, a2, i3, j3, a3, i4, j4, a4, c1', c2']
theorem law_put (hC : CI H σ r e len k κ w m) (hM : MI H σ r e len k κ w m) (hW : WF σ e len k κ) (hs : H.2.2.2 = (L, xs)) (hL : L ≤ 2560) (ht : 5 * t + 4 < L) : ∃ H2 y4 y6, ev 60 203 197 [some (.float F), some (.ref 0), some (.ref 71), some (.int (nI (5 * t))), x4, none, x6, none] [] H = ev 60 203 784 [some (.float F), some (.ref 0), some (.ref 71), some (.int (nI (5 * t))), y4, none, y6, none] [] H2 ∧ SO H H2 := by
  obtain ⟨H1, H2, v, c1, c2, co, so⟩ := st_put (d := 39) hC hM hW (x := xs (5 * t + 1)) (y := xs (5 * t + 2))
  have c1' : ev 59 99 0 [some (.ref 0), some (.int (xs (5 * t + 1))), some (.int (xs (5 * t + 2))), none] [] H = some (some (.int v), H1) := c1
  have c2' : ev 59 158 0 [some (.ref 71), some (.int (xs (5 * t + 1))), some (.int (xs (5 * t + 2))), none] [] H1 = some (some (.int v), H2) := c2
  obtain ⟨⟨X, u1, -⟩, -⟩ := hC
  have z0 := cz_sx u1
  obtain ⟨M, m0, -⟩ := hM
  have z1 : zis H1 71 8 = true := cz_md (at_fr m0 (fun j a _ => co.2 j a))
  have hL0 : H.2.2.2.1 = L := congrArg Prod.fst hs
  have hX0 : H.2.2.2.2 = xs := congrArg Prod.snd hs
  have hL1 : H1.2.2.2.1 = L := (congrArg Prod.fst co.1.2.2).trans hL0
  have hX1 : H1.2.2.2.2 = xs := (congrArg Prod.snd co.1.2.2).trans hX0
  have i1 := zin_T (show 5 * t + 1 < L by omega) (show L < 2 ^ 31 by omega)
  have j1 := nI_clamp (show 5 * t + 1 < 2 ^ 31 by omega)
  have i2 := zin_T (show 5 * t + 2 < L by omega) (show L < 2 ^ 31 by omega)
  have j2 := nI_clamp (show 5 * t + 2 < 2 ^ 31 by omega)
  have a2 : nI (5 * t) + 2 = nI (5 * t + 2) := nI_add _ 2
  refine ⟨H2, x4, x6, ?_, so⟩
  simp only [e203_197, e203_198, e203_199, e203_200, e203_201, e203_202, e203_203, e203_204, e203_205, e203_206, e203_207, e203_208, e203_211, e203_212, e203_213, e203_214, e203_215, e203_216, e203_217, e203_218, e203_219, e203_220, e203_221, e203_222, e203_225, e203_228, e203_229, Option.bind_some, Option.toList_some, Option.toList_none, List.cons_append, List.nil_append, true_or, or_true, and_true, true_and, i10, Bool.false_eq_true, if_true, if_false, reduceIte, eq_self, z0, z1, hL0, hX0, hL1, hX1, i1, j1, nI_1, i2, j2, a2, c1', c2']
theorem law_ground (hC : CI H σ r e len k κ w m) (hM : MI H σ r e len k κ w m) (hW : WF σ e len k κ) (hs : H.2.2.2 = (L, xs)) (hL : L ≤ 2560) (ht : 5 * t + 4 < L) : ∃ H2 y4 y6, ev 60 203 230 [some (.float F), some (.ref 0), some (.ref 71), some (.int (nI (5 * t))), x4, none, x6, none] [] H = ev 60 203 784 [some (.float F), some (.ref 0), some (.ref 71), some (.int (nI (5 * t))), y4, none, y6, none] [] H2 ∧ SO H H2 := by
  obtain ⟨H1, H2, v, c1, c2, co, so⟩ := st_ground (d := 39) hC hM hW (x := xs (5 * t + 1))
  have c1' : ev 59 100 0 [some (.ref 0), some (.int (xs (5 * t + 1))), none] [] H = some (some (.int v), H1) := c1
  have c2' : ev 59 159 0 [some (.ref 71), some (.int (xs (5 * t + 1))), none] [] H1 = some (some (.int v), H2) := c2
  obtain ⟨⟨X, u1, -⟩, -⟩ := hC
  have z0 := cz_sx u1
  obtain ⟨M, m0, -⟩ := hM
  have z1 : zis H1 71 8 = true := cz_md (at_fr m0 (fun j a _ => co.2 j a))
  have hL0 : H.2.2.2.1 = L := congrArg Prod.fst hs
  have hX0 : H.2.2.2.2 = xs := congrArg Prod.snd hs
  have hL1 : H1.2.2.2.1 = L := (congrArg Prod.fst co.1.2.2).trans hL0
  have hX1 : H1.2.2.2.2 = xs := (congrArg Prod.snd co.1.2.2).trans hX0
  have i1 := zin_T (show 5 * t + 1 < L by omega) (show L < 2 ^ 31 by omega)
  have j1 := nI_clamp (show 5 * t + 1 < 2 ^ 31 by omega)
  refine ⟨H2, x4, x6, ?_, so⟩
  simp only [e203_230, e203_231, e203_232, e203_233, e203_234, e203_235, e203_236, e203_239, e203_240, e203_241, e203_242, e203_243, e203_244, e203_245, e203_248, e203_251, e203_252, Option.bind_some, Option.toList_some, Option.toList_none, List.cons_append, List.nil_append, true_or, or_true, and_true, true_and, i10, Bool.false_eq_true, if_true, if_false, reduceIte, eq_self, z0, z1, hL0, hX0, hL1, hX1, i1, j1, nI_1, c1', c2']
theorem law_turn (hC : CI H σ r e len k κ w m) (hM : MI H σ r e len k κ w m) (hW : WF σ e len k κ) (hs : H.2.2.2 = (L, xs)) (hL : L ≤ 2560) (ht : 5 * t + 4 < L) : ∃ H2 y4 y6, ev 60 203 253 [some (.float F), some (.ref 0), some (.ref 71), some (.int (nI (5 * t))), x4, none, x6, none] [] H = ev 60 203 784 [some (.float F), some (.ref 0), some (.ref 71), some (.int (nI (5 * t))), y4, none, y6, none] [] H2 ∧ SO H H2 := by
  obtain ⟨H1, H2, v, c1, c2, co, so⟩ := st_turn (d := 39) hC hM hW (x := xs (5 * t + 1))
  have c1' : ev 59 101 0 [some (.ref 0), some (.int (xs (5 * t + 1)))] [] H = some (some (.int v), H1) := c1
  have c2' : ev 59 161 0 [some (.ref 71), some (.int (xs (5 * t + 1)))] [] H1 = some (some (.int v), H2) := c2
  obtain ⟨⟨X, u1, -⟩, -⟩ := hC
  have z0 := cz_sx u1
  obtain ⟨M, m0, -⟩ := hM
  have z1 : zis H1 71 8 = true := cz_md (at_fr m0 (fun j a _ => co.2 j a))
  have hL0 : H.2.2.2.1 = L := congrArg Prod.fst hs
  have hX0 : H.2.2.2.2 = xs := congrArg Prod.snd hs
  have hL1 : H1.2.2.2.1 = L := (congrArg Prod.fst co.1.2.2).trans hL0
  have hX1 : H1.2.2.2.2 = xs := (congrArg Prod.snd co.1.2.2).trans hX0
  have i1 := zin_T (show 5 * t + 1 < L by omega) (show L < 2 ^ 31 by omega)
  have j1 := nI_clamp (show 5 * t + 1 < 2 ^ 31 by omega)
  refine ⟨H2, x4, x6, ?_, so⟩
  simp only [e203_253, e203_254, e203_255, e203_256, e203_257, e203_258, e203_259, e203_262, e203_263, e203_264, e203_265, e203_266, e203_267, e203_268, e203_271, e203_274, e203_275, Option.bind_some, Option.toList_some, Option.toList_none, List.cons_append, List.nil_append, true_or, or_true, and_true, true_and, i10, Bool.false_eq_true, if_true, if_false, reduceIte, eq_self, z0, z1, hL0, hX0, hL1, hX1, i1, j1, nI_1, c1', c2']
theorem law_breakUp (hC : CI H σ r e len k κ w m) (hM : MI H σ r e len k κ w m) (hW : WF σ e len k κ) (hs : H.2.2.2 = (L, xs)) (hL : L ≤ 2560) (ht : 5 * t + 4 < L) : ∃ H2 y4 y6, ev 60 203 276 [some (.float F), some (.ref 0), some (.ref 71), some (.int (nI (5 * t))), x4, none, x6, none] [] H = ev 60 203 784 [some (.float F), some (.ref 0), some (.ref 71), some (.int (nI (5 * t))), y4, none, y6, none] [] H2 ∧ SO H H2 := by
  obtain ⟨H1, H2, v, c1, c2, co, so⟩ := st_breakUp (d := 39) hC hM hW (x := xs (5 * t + 1))
  have c1' : ev 59 102 0 [some (.ref 0), some (.int (xs (5 * t + 1))), none] [] H = some (some (.int v), H1) := c1
  have c2' : ev 59 162 0 [some (.ref 71), some (.int (xs (5 * t + 1))), none, none] [] H1 = some (some (.int v), H2) := c2
  obtain ⟨⟨X, u1, -⟩, -⟩ := hC
  have z0 := cz_sx u1
  obtain ⟨M, m0, -⟩ := hM
  have z1 : zis H1 71 8 = true := cz_md (at_fr m0 (fun j a _ => co.2 j a))
  have hL0 : H.2.2.2.1 = L := congrArg Prod.fst hs
  have hX0 : H.2.2.2.2 = xs := congrArg Prod.snd hs
  have hL1 : H1.2.2.2.1 = L := (congrArg Prod.fst co.1.2.2).trans hL0
  have hX1 : H1.2.2.2.2 = xs := (congrArg Prod.snd co.1.2.2).trans hX0
  have i1 := zin_T (show 5 * t + 1 < L by omega) (show L < 2 ^ 31 by omega)
  have j1 := nI_clamp (show 5 * t + 1 < 2 ^ 31 by omega)
  refine ⟨H2, x4, x6, ?_, so⟩
  simp only [e203_276, e203_277, e203_278, e203_279, e203_280, e203_281, e203_282, e203_285, e203_286, e203_287, e203_288, e203_289, e203_290, e203_291, e203_294, e203_297, e203_298, Option.bind_some, Option.toList_some, Option.toList_none, List.cons_append, List.nil_append, true_or, or_true, and_true, true_and, i10, Bool.false_eq_true, if_true, if_false, reduceIte, eq_self, z0, z1, hL0, hX0, hL1, hX1, i1, j1, nI_1, c1', c2']
theorem law_append (hC : CI H σ r e len k κ w m) (hM : MI H σ r e len k κ w m) (hW : WF σ e len k κ) (hs : H.2.2.2 = (L, xs)) (hL : L ≤ 2560) (ht : 5 * t + 4 < L) : ∃ H2 y4 y6, ev 60 203 299 [some (.float F), some (.ref 0), some (.ref 71), some (.int (nI (5 * t))), x4, none, x6, none] [] H = ev 60 203 784 [some (.float F), some (.ref 0), some (.ref 71), some (.int (nI (5 * t))), y4, none, y6, none] [] H2 ∧ SO H H2 := by
  obtain ⟨H1, H2, v, c1, c2, co, so⟩ := st_append (d := 39) hC hM hW (x := xs (5 * t + 1))
  have c1' : ev 59 103 0 [some (.ref 0), some (.int (xs (5 * t + 1)))] [] H = some (some (.int v), H1) := c1
  have c2' : ev 59 163 0 [some (.ref 71), some (.int (xs (5 * t + 1)))] [] H1 = some (some (.int v), H2) := c2
  obtain ⟨⟨X, u1, -⟩, -⟩ := hC
  have z0 := cz_sx u1
  obtain ⟨M, m0, -⟩ := hM
  have z1 : zis H1 71 8 = true := cz_md (at_fr m0 (fun j a _ => co.2 j a))
  have hL0 : H.2.2.2.1 = L := congrArg Prod.fst hs
  have hX0 : H.2.2.2.2 = xs := congrArg Prod.snd hs
  have hL1 : H1.2.2.2.1 = L := (congrArg Prod.fst co.1.2.2).trans hL0
  have hX1 : H1.2.2.2.2 = xs := (congrArg Prod.snd co.1.2.2).trans hX0
  have i1 := zin_T (show 5 * t + 1 < L by omega) (show L < 2 ^ 31 by omega)
  have j1 := nI_clamp (show 5 * t + 1 < 2 ^ 31 by omega)
  refine ⟨H2, x4, x6, ?_, so⟩
  simp only [e203_299, e203_300, e203_301, e203_302, e203_303, e203_304, e203_305, e203_308, e203_309, e203_310, e203_311, e203_312, e203_313, e203_314, e203_317, e203_320, e203_321, Option.bind_some, Option.toList_some, Option.toList_none, List.cons_append, List.nil_append, true_or, or_true, and_true, true_and, i10, Bool.false_eq_true, if_true, if_false, reduceIte, eq_self, z0, z1, hL0, hX0, hL1, hX1, i1, j1, nI_1, c1', c2']
theorem law_clear (hC : CI H σ r e len k κ w m) (hM : MI H σ r e len k κ w m) (hW : WF σ e len k κ) (hs : H.2.2.2 = (L, xs)) (hL : L ≤ 2560) (ht : 5 * t + 4 < L) : ∃ H2 y4 y6, ev 60 203 322 [some (.float F), some (.ref 0), some (.ref 71), some (.int (nI (5 * t))), x4, none, x6, none] [] H = ev 60 203 784 [some (.float F), some (.ref 0), some (.ref 71), some (.int (nI (5 * t))), y4, none, y6, none] [] H2 ∧ SO H H2 := by
  obtain ⟨H1, H2, v, c1, c2, co, so⟩ := st_clear (d := 39) hC hM hW 
  have c1' : ev 59 104 0 [some (.ref 0), none] [] H = some (some (.int v), H1) := c1
  have c2' : ev 59 164 0 [some (.ref 71), none] [] H1 = some (some (.int v), H2) := c2
  obtain ⟨⟨X, u1, -⟩, -⟩ := hC
  have z0 := cz_sx u1
  obtain ⟨M, m0, -⟩ := hM
  have z1 : zis H1 71 8 = true := cz_md (at_fr m0 (fun j a _ => co.2 j a))
  have hL0 : H.2.2.2.1 = L := congrArg Prod.fst hs
  have hX0 : H.2.2.2.2 = xs := congrArg Prod.snd hs
  have hL1 : H1.2.2.2.1 = L := (congrArg Prod.fst co.1.2.2).trans hL0
  have hX1 : H1.2.2.2.2 = xs := (congrArg Prod.snd co.1.2.2).trans hX0
  refine ⟨H2, x4, x6, ?_, so⟩
  simp only [e203_322, e203_323, e203_326, e203_327, e203_330, e203_333, e203_334, Option.bind_some, Option.toList_some, Option.toList_none, List.cons_append, List.nil_append, true_or, or_true, and_true, true_and, i10, Bool.false_eq_true, if_true, if_false, reduceIte, eq_self, z0, z1, hL0, hX0, hL1, hX1, c1', c2']
theorem law_fault (hC : CI H σ r e len k κ w m) (hM : MI H σ r e len k κ w m) (hW : WF σ e len k κ) (hs : H.2.2.2 = (L, xs)) (hL : L ≤ 2560) (ht : 5 * t + 4 < L) : ∃ H2 y4 y6, ev 60 203 335 [some (.float F), some (.ref 0), some (.ref 71), some (.int (nI (5 * t))), x4, none, x6, none] [] H = ev 60 203 784 [some (.float F), some (.ref 0), some (.ref 71), some (.int (nI (5 * t))), y4, none, y6, none] [] H2 ∧ SO H H2 := by
  obtain ⟨H1, H2, v, c1, c2, co, so⟩ := st_fault (d := 39) hC hM hW 
  have c1' : ev 59 105 0 [some (.ref 0)] [] H = some (some (.int v), H1) := c1
  have c2' : ev 59 171 0 [some (.ref 71)] [] H1 = some (some (.int v), H2) := c2
  obtain ⟨⟨X, u1, -⟩, -⟩ := hC
  have z0 := cz_sx u1
  obtain ⟨M, m0, -⟩ := hM
  have z1 : zis H1 71 8 = true := cz_md (at_fr m0 (fun j a _ => co.2 j a))
  have hL0 : H.2.2.2.1 = L := congrArg Prod.fst hs
  have hX0 : H.2.2.2.2 = xs := congrArg Prod.snd hs
  have hL1 : H1.2.2.2.1 = L := (congrArg Prod.fst co.1.2.2).trans hL0
  have hX1 : H1.2.2.2.2 = xs := (congrArg Prod.snd co.1.2.2).trans hX0
  refine ⟨H2, x4, x6, ?_, so⟩
  simp only [e203_335, e203_336, e203_339, e203_340, e203_343, e203_346, e203_347, Option.bind_some, Option.toList_some, Option.toList_none, List.cons_append, List.nil_append, true_or, or_true, and_true, true_and, i10, Bool.false_eq_true, if_true, if_false, reduceIte, eq_self, z0, z1, hL0, hX0, hL1, hX1, c1', c2']
theorem law_load (hC : CI H σ r e len k κ w m) (hM : MI H σ r e len k κ w m) (hW : WF σ e len k κ) (hs : H.2.2.2 = (L, xs)) (hL : L ≤ 2560) (ht : 5 * t + 4 < L) : ∃ H2 y4 y6, ev 60 203 348 [some (.float F), some (.ref 0), some (.ref 71), some (.int (nI (5 * t))), x4, none, x6, none] [] H = ev 60 203 784 [some (.float F), some (.ref 0), some (.ref 71), some (.int (nI (5 * t))), y4, none, y6, none] [] H2 ∧ SO H H2 := by
  obtain ⟨H1, H2, v, c1, c2, co, so⟩ := st_load (d := 39) hC hM hW 
  have c1' : ev 59 106 0 [some (.ref 0)] [] H = some (some (.int v), H1) := c1
  have c2' : ev 59 173 0 [some (.ref 71), none, none, none, none] [] H1 = some (some (.int v), H2) := c2
  obtain ⟨⟨X, u1, -⟩, -⟩ := hC
  have z0 := cz_sx u1
  obtain ⟨M, m0, -⟩ := hM
  have z1 : zis H1 71 8 = true := cz_md (at_fr m0 (fun j a _ => co.2 j a))
  have hL0 : H.2.2.2.1 = L := congrArg Prod.fst hs
  have hX0 : H.2.2.2.2 = xs := congrArg Prod.snd hs
  have hL1 : H1.2.2.2.1 = L := (congrArg Prod.fst co.1.2.2).trans hL0
  have hX1 : H1.2.2.2.2 = xs := (congrArg Prod.snd co.1.2.2).trans hX0
  refine ⟨H2, x4, x6, ?_, so⟩
  simp only [e203_348, e203_349, e203_352, e203_353, e203_356, e203_359, e203_360, Option.bind_some, Option.toList_some, Option.toList_none, List.cons_append, List.nil_append, true_or, or_true, and_true, true_and, i10, Bool.false_eq_true, if_true, if_false, reduceIte, eq_self, z0, z1, hL0, hX0, hL1, hX1, c1', c2']
theorem law_sign (hC : CI H σ r e len k κ w m) (hM : MI H σ r e len k κ w m) (hW : WF σ e len k κ) (hs : H.2.2.2 = (L, xs)) (hL : L ≤ 2560) (ht : 5 * t + 4 < L) : ∃ H2 y4 y6, ev 60 203 361 [some (.float F), some (.ref 0), some (.ref 71), some (.int (nI (5 * t))), x4, none, x6, none] [] H = ev 60 203 784 [some (.float F), some (.ref 0), some (.ref 71), some (.int (nI (5 * t))), y4, none, y6, none] [] H2 ∧ SO H H2 := by
  obtain ⟨H1, H2, v, c1, c2, co, so⟩ := st_sign (d := 39) hC hM hW (x := xs (5 * t + 1)) (y := xs (5 * t + 2))
  have c1' : ev 59 107 0 [some (.ref 0), some (.int (xs (5 * t + 1))), some (.int (xs (5 * t + 2)))] [] H = some (some (.int v), H1) := c1
  have c2' : ev 59 178 0 [some (.ref 71), some (.int (xs (5 * t + 1))), some (.int (xs (5 * t + 2)))] [] H1 = some (some (.int v), H2) := c2
  obtain ⟨⟨X, u1, -⟩, -⟩ := hC
  have z0 := cz_sx u1
  obtain ⟨M, m0, -⟩ := hM
  have z1 : zis H1 71 8 = true := cz_md (at_fr m0 (fun j a _ => co.2 j a))
  have hL0 : H.2.2.2.1 = L := congrArg Prod.fst hs
  have hX0 : H.2.2.2.2 = xs := congrArg Prod.snd hs
  have hL1 : H1.2.2.2.1 = L := (congrArg Prod.fst co.1.2.2).trans hL0
  have hX1 : H1.2.2.2.2 = xs := (congrArg Prod.snd co.1.2.2).trans hX0
  have i1 := zin_T (show 5 * t + 1 < L by omega) (show L < 2 ^ 31 by omega)
  have j1 := nI_clamp (show 5 * t + 1 < 2 ^ 31 by omega)
  have i2 := zin_T (show 5 * t + 2 < L by omega) (show L < 2 ^ 31 by omega)
  have j2 := nI_clamp (show 5 * t + 2 < 2 ^ 31 by omega)
  have a2 : nI (5 * t) + 2 = nI (5 * t + 2) := nI_add _ 2
  refine ⟨H2, x4, x6, ?_, so⟩
  simp only [e203_361, e203_362, e203_363, e203_364, e203_365, e203_366, e203_367, e203_368, e203_369, e203_370, e203_371, e203_372, e203_375, e203_376, e203_377, e203_378, e203_379, e203_380, e203_381, e203_382, e203_383, e203_384, e203_385, e203_386, e203_389, e203_392, e203_393, Option.bind_some, Option.toList_some, Option.toList_none, List.cons_append, List.nil_append, true_or, or_true, and_true, true_and, i10, Bool.false_eq_true, if_true, if_false, reduceIte, eq_self, z0, z1, hL0, hX0, hL1, hX1, i1, j1, nI_1, i2, j2, a2, c1', c2']
theorem law_crate (hC : CI H σ r e len k κ w m) (hM : MI H σ r e len k κ w m) (hW : WF σ e len k κ) (hs : H.2.2.2 = (L, xs)) (hL : L ≤ 2560) (ht : 5 * t + 4 < L) : ∃ H2 y4 y6, ev 60 203 394 [some (.float F), some (.ref 0), some (.ref 71), some (.int (nI (5 * t))), x4, none, x6, none] [] H = ev 60 203 784 [some (.float F), some (.ref 0), some (.ref 71), some (.int (nI (5 * t))), y4, none, y6, none] [] H2 ∧ SO H H2 := by
  obtain ⟨H1, H2, v, c1, c2, co, so⟩ := st_crate (d := 39) hC hM hW (x := xs (5 * t + 1)) (y := xs (5 * t + 2))
  have c1' : ev 59 108 0 [some (.ref 0), some (.int (xs (5 * t + 1))), some (.int (xs (5 * t + 2)))] [] H = some (some (.int v), H1) := c1
  have c2' : ev 59 180 0 [some (.ref 71), some (.int (xs (5 * t + 1))), some (.int (xs (5 * t + 2)))] [] H1 = some (some (.int v), H2) := c2
  obtain ⟨⟨X, u1, -⟩, -⟩ := hC
  have z0 := cz_sx u1
  obtain ⟨M, m0, -⟩ := hM
  have z1 : zis H1 71 8 = true := cz_md (at_fr m0 (fun j a _ => co.2 j a))
  have hL0 : H.2.2.2.1 = L := congrArg Prod.fst hs
  have hX0 : H.2.2.2.2 = xs := congrArg Prod.snd hs
  have hL1 : H1.2.2.2.1 = L := (congrArg Prod.fst co.1.2.2).trans hL0
  have hX1 : H1.2.2.2.2 = xs := (congrArg Prod.snd co.1.2.2).trans hX0
  have i1 := zin_T (show 5 * t + 1 < L by omega) (show L < 2 ^ 31 by omega)
  have j1 := nI_clamp (show 5 * t + 1 < 2 ^ 31 by omega)
  have i2 := zin_T (show 5 * t + 2 < L by omega) (show L < 2 ^ 31 by omega)
  have j2 := nI_clamp (show 5 * t + 2 < 2 ^ 31 by omega)
  have a2 : nI (5 * t) + 2 = nI (5 * t + 2) := nI_add _ 2
  refine ⟨H2, x4, x6, ?_, so⟩
  simp only [e203_394, e203_395, e203_396, e203_397, e203_398, e203_399, e203_400, e203_401, e203_402, e203_403, e203_404, e203_405, e203_408, e203_409, e203_410, e203_411, e203_412, e203_413, e203_414, e203_415, e203_416, e203_417, e203_418, e203_419, e203_422, e203_425, e203_426, Option.bind_some, Option.toList_some, Option.toList_none, List.cons_append, List.nil_append, true_or, or_true, and_true, true_and, i10, Bool.false_eq_true, if_true, if_false, reduceIte, eq_self, z0, z1, hL0, hX0, hL1, hX1, i1, j1, nI_1, i2, j2, a2, c1', c2']
theorem law_letter (hC : CI H σ r e len k κ w m) (hM : MI H σ r e len k κ w m) (hW : WF σ e len k κ) (hs : H.2.2.2 = (L, xs)) (hL : L ≤ 2560) (ht : 5 * t + 4 < L) : ∃ H2 y4 y6, ev 60 203 427 [some (.float F), some (.ref 0), some (.ref 71), some (.int (nI (5 * t))), x4, none, x6, none] [] H = ev 60 203 784 [some (.float F), some (.ref 0), some (.ref 71), some (.int (nI (5 * t))), y4, none, y6, none] [] H2 ∧ SO H H2 := by
  obtain ⟨H1, H2, v, c1, c2, co, so⟩ := st_letter (d := 39) hC hM hW (x := xs (5 * t + 1)) (y := xs (5 * t + 2))
  have c1' : ev 59 109 0 [some (.ref 0), some (.int (xs (5 * t + 1))), some (.int (xs (5 * t + 2))), none] [] H = some (some (.int v), H1) := c1
  have c2' : ev 59 182 0 [some (.ref 71), some (.int (xs (5 * t + 1))), some (.int (xs (5 * t + 2)))] [] H1 = some (some (.int v), H2) := c2
  obtain ⟨⟨X, u1, -⟩, -⟩ := hC
  have z0 := cz_sx u1
  obtain ⟨M, m0, -⟩ := hM
  have z1 : zis H1 71 8 = true := cz_md (at_fr m0 (fun j a _ => co.2 j a))
  have hL0 : H.2.2.2.1 = L := congrArg Prod.fst hs
  have hX0 : H.2.2.2.2 = xs := congrArg Prod.snd hs
  have hL1 : H1.2.2.2.1 = L := (congrArg Prod.fst co.1.2.2).trans hL0
  have hX1 : H1.2.2.2.2 = xs := (congrArg Prod.snd co.1.2.2).trans hX0
  have i1 := zin_T (show 5 * t + 1 < L by omega) (show L < 2 ^ 31 by omega)
  have j1 := nI_clamp (show 5 * t + 1 < 2 ^ 31 by omega)
  have i2 := zin_T (show 5 * t + 2 < L by omega) (show L < 2 ^ 31 by omega)
  have j2 := nI_clamp (show 5 * t + 2 < 2 ^ 31 by omega)
  have a2 : nI (5 * t) + 2 = nI (5 * t + 2) := nI_add _ 2
  refine ⟨H2, x4, x6, ?_, so⟩
  simp only [e203_427, e203_428, e203_429, e203_430, e203_431, e203_432, e203_433, e203_434, e203_435, e203_436, e203_437, e203_438, e203_441, e203_442, e203_443, e203_444, e203_445, e203_446, e203_447, e203_448, e203_449, e203_450, e203_451, e203_452, e203_455, e203_458, e203_459, Option.bind_some, Option.toList_some, Option.toList_none, List.cons_append, List.nil_append, true_or, or_true, and_true, true_and, i10, Bool.false_eq_true, if_true, if_false, reduceIte, eq_self, z0, z1, hL0, hX0, hL1, hX1, i1, j1, nI_1, i2, j2, a2, c1', c2']
theorem law_seen (hC : CI H σ r e len k κ w m) (hM : MI H σ r e len k κ w m) (hW : WF σ e len k κ) (hs : H.2.2.2 = (L, xs)) (hL : L ≤ 2560) (ht : 5 * t + 4 < L) : ∃ H2 y4 y6, ev 60 203 460 [some (.float F), some (.ref 0), some (.ref 71), some (.int (nI (5 * t))), x4, none, x6, none] [] H = ev 60 203 784 [some (.float F), some (.ref 0), some (.ref 71), some (.int (nI (5 * t))), y4, none, y6, none] [] H2 ∧ SO H H2 := by
  obtain ⟨H1, H2, v, c1, c2, co, so⟩ := st_seen (d := 39) hC hM hW (x := xs (5 * t + 1)) (y := xs (5 * t + 2))
  have c1' : ev 59 110 0 [some (.ref 0), some (.int (xs (5 * t + 1))), some (.int (xs (5 * t + 2)))] [] H = some (some (.int v), H1) := c1
  have c2' : ev 59 183 0 [some (.ref 71), some (.int (xs (5 * t + 1))), some (.int (xs (5 * t + 2)))] [] H1 = some (some (.int v), H2) := c2
  obtain ⟨⟨X, u1, -⟩, -⟩ := hC
  have z0 := cz_sx u1
  obtain ⟨M, m0, -⟩ := hM
  have z1 : zis H1 71 8 = true := cz_md (at_fr m0 (fun j a _ => co.2 j a))
  have hL0 : H.2.2.2.1 = L := congrArg Prod.fst hs
  have hX0 : H.2.2.2.2 = xs := congrArg Prod.snd hs
  have hL1 : H1.2.2.2.1 = L := (congrArg Prod.fst co.1.2.2).trans hL0
  have hX1 : H1.2.2.2.2 = xs := (congrArg Prod.snd co.1.2.2).trans hX0
  have i1 := zin_T (show 5 * t + 1 < L by omega) (show L < 2 ^ 31 by omega)
  have j1 := nI_clamp (show 5 * t + 1 < 2 ^ 31 by omega)
  have i2 := zin_T (show 5 * t + 2 < L by omega) (show L < 2 ^ 31 by omega)
  have j2 := nI_clamp (show 5 * t + 2 < 2 ^ 31 by omega)
  have a2 : nI (5 * t) + 2 = nI (5 * t + 2) := nI_add _ 2
  refine ⟨H2, x4, x6, ?_, so⟩
  simp only [e203_460, e203_461, e203_462, e203_463, e203_464, e203_465, e203_466, e203_467, e203_468, e203_469, e203_470, e203_471, e203_474, e203_475, e203_476, e203_477, e203_478, e203_479, e203_480, e203_481, e203_482, e203_483, e203_484, e203_485, e203_488, e203_491, e203_492, Option.bind_some, Option.toList_some, Option.toList_none, List.cons_append, List.nil_append, true_or, or_true, and_true, true_and, i10, Bool.false_eq_true, if_true, if_false, reduceIte, eq_self, z0, z1, hL0, hX0, hL1, hX1, i1, j1, nI_1, i2, j2, a2, c1', c2']
theorem law_whyNot (hC : CI H σ r e len k κ w m) (hM : MI H σ r e len k κ w m) (hW : WF σ e len k κ) (hs : H.2.2.2 = (L, xs)) (hL : L ≤ 2560) (ht : 5 * t + 4 < L) : ∃ H2 y4 y6, ev 60 203 493 [some (.float F), some (.ref 0), some (.ref 71), some (.int (nI (5 * t))), x4, none, x6, none] [] H = ev 60 203 784 [some (.float F), some (.ref 0), some (.ref 71), some (.int (nI (5 * t))), y4, none, y6, none] [] H2 ∧ SO H H2 := by
  obtain ⟨H1, H2, v, c1, c2, co, so⟩ := st_whyNot (d := 39) hC hM hW (x := xs (5 * t + 1)) (y := xs (5 * t + 2))
  have c1' : ev 59 111 0 [some (.ref 0), some (.int (xs (5 * t + 1))), some (.int (xs (5 * t + 2)))] [] H = some (some (.int v), H1) := c1
  have c2' : ev 59 184 0 [some (.ref 71), some (.int (xs (5 * t + 1))), some (.int (xs (5 * t + 2)))] [] H1 = some (some (.int v), H2) := c2
  obtain ⟨⟨X, u1, -⟩, -⟩ := hC
  have z0 := cz_sx u1
  obtain ⟨M, m0, -⟩ := hM
  have z1 : zis H1 71 8 = true := cz_md (at_fr m0 (fun j a _ => co.2 j a))
  have hL0 : H.2.2.2.1 = L := congrArg Prod.fst hs
  have hX0 : H.2.2.2.2 = xs := congrArg Prod.snd hs
  have hL1 : H1.2.2.2.1 = L := (congrArg Prod.fst co.1.2.2).trans hL0
  have hX1 : H1.2.2.2.2 = xs := (congrArg Prod.snd co.1.2.2).trans hX0
  have i1 := zin_T (show 5 * t + 1 < L by omega) (show L < 2 ^ 31 by omega)
  have j1 := nI_clamp (show 5 * t + 1 < 2 ^ 31 by omega)
  have i2 := zin_T (show 5 * t + 2 < L by omega) (show L < 2 ^ 31 by omega)
  have j2 := nI_clamp (show 5 * t + 2 < 2 ^ 31 by omega)
  have a2 : nI (5 * t) + 2 = nI (5 * t + 2) := nI_add _ 2
  refine ⟨H2, x4, x6, ?_, so⟩
  simp only [e203_493, e203_494, e203_495, e203_496, e203_497, e203_498, e203_499, e203_500, e203_501, e203_502, e203_503, e203_504, e203_507, e203_508, e203_509, e203_510, e203_511, e203_512, e203_513, e203_514, e203_515, e203_516, e203_517, e203_518, e203_521, e203_524, e203_525, Option.bind_some, Option.toList_some, Option.toList_none, List.cons_append, List.nil_append, true_or, or_true, and_true, true_and, i10, Bool.false_eq_true, if_true, if_false, reduceIte, eq_self, z0, z1, hL0, hX0, hL1, hX1, i1, j1, nI_1, i2, j2, a2, c1', c2']
theorem law_effort (hC : CI H σ r e len k κ w m) (hM : MI H σ r e len k κ w m) (hW : WF σ e len k κ) (hs : H.2.2.2 = (L, xs)) (hL : L ≤ 2560) (ht : 5 * t + 4 < L) : ∃ H2 y4 y6, ev 60 203 526 [some (.float F), some (.ref 0), some (.ref 71), some (.int (nI (5 * t))), x4, none, x6, none] [] H = ev 60 203 784 [some (.float F), some (.ref 0), some (.ref 71), some (.int (nI (5 * t))), y4, none, y6, none] [] H2 ∧ SO H H2 := by
  obtain ⟨H1, H2, v, c1, c2, co, so⟩ := st_effort (d := 39) hC hM hW (x := xs (5 * t + 1)) (y := xs (5 * t + 2))
  have c1' : ev 59 112 0 [some (.ref 0), some (.int (xs (5 * t + 1))), some (.int (xs (5 * t + 2)))] [] H = some (some (.int v), H1) := c1
  have c2' : ev 59 185 0 [some (.ref 71), some (.int (xs (5 * t + 1))), some (.int (xs (5 * t + 2))), none, none] [] H1 = some (some (.int v), H2) := c2
  obtain ⟨⟨X, u1, -⟩, -⟩ := hC
  have z0 := cz_sx u1
  obtain ⟨M, m0, -⟩ := hM
  have z1 : zis H1 71 8 = true := cz_md (at_fr m0 (fun j a _ => co.2 j a))
  have hL0 : H.2.2.2.1 = L := congrArg Prod.fst hs
  have hX0 : H.2.2.2.2 = xs := congrArg Prod.snd hs
  have hL1 : H1.2.2.2.1 = L := (congrArg Prod.fst co.1.2.2).trans hL0
  have hX1 : H1.2.2.2.2 = xs := (congrArg Prod.snd co.1.2.2).trans hX0
  have i1 := zin_T (show 5 * t + 1 < L by omega) (show L < 2 ^ 31 by omega)
  have j1 := nI_clamp (show 5 * t + 1 < 2 ^ 31 by omega)
  have i2 := zin_T (show 5 * t + 2 < L by omega) (show L < 2 ^ 31 by omega)
  have j2 := nI_clamp (show 5 * t + 2 < 2 ^ 31 by omega)
  have a2 : nI (5 * t) + 2 = nI (5 * t + 2) := nI_add _ 2
  refine ⟨H2, x4, x6, ?_, so⟩
  simp only [e203_526, e203_527, e203_528, e203_529, e203_530, e203_531, e203_532, e203_533, e203_534, e203_535, e203_536, e203_537, e203_540, e203_541, e203_542, e203_543, e203_544, e203_545, e203_546, e203_547, e203_548, e203_549, e203_550, e203_551, e203_554, e203_557, e203_558, Option.bind_some, Option.toList_some, Option.toList_none, List.cons_append, List.nil_append, true_or, or_true, and_true, true_and, i10, Bool.false_eq_true, if_true, if_false, reduceIte, eq_self, z0, z1, hL0, hX0, hL1, hX1, i1, j1, nI_1, i2, j2, a2, c1', c2']
theorem law_alike (hC : CI H σ r e len k κ w m) (hM : MI H σ r e len k κ w m) (hW : WF σ e len k κ) (hs : H.2.2.2 = (L, xs)) (hL : L ≤ 2560) (ht : 5 * t + 4 < L) : ∃ H2 y4 y6, ev 60 203 559 [some (.float F), some (.ref 0), some (.ref 71), some (.int (nI (5 * t))), x4, none, x6, none] [] H = ev 60 203 784 [some (.float F), some (.ref 0), some (.ref 71), some (.int (nI (5 * t))), y4, none, y6, none] [] H2 ∧ SO H H2 := by
  obtain ⟨H1, H2, v, c1, c2, co, so⟩ := st_alike (d := 39) hC hM hW (x1 := xs (5 * t + 1)) (x2 := xs (5 * t + 2)) (x3 := xs (5 * t + 3)) (x4 := xs (5 * t + 4))
  have c1' : ev 59 113 0 [some (.ref 0), some (.int (xs (5 * t + 1))), some (.int (xs (5 * t + 2))), some (.int (xs (5 * t + 3))), some (.int (xs (5 * t + 4))), none, none] [] H = some (some (.int v), H1) := c1
  have c2' : ev 59 187 0 [some (.ref 71), some (.int (xs (5 * t + 1))), some (.int (xs (5 * t + 2))), some (.int (xs (5 * t + 3))), some (.int (xs (5 * t + 4))), none, none] [] H1 = some (some (.int v), H2) := c2
  obtain ⟨⟨X, u1, -⟩, -⟩ := hC
  have z0 := cz_sx u1
  obtain ⟨M, m0, -⟩ := hM
  have z1 : zis H1 71 8 = true := cz_md (at_fr m0 (fun j a _ => co.2 j a))
  have hL0 : H.2.2.2.1 = L := congrArg Prod.fst hs
  have hX0 : H.2.2.2.2 = xs := congrArg Prod.snd hs
  have hL1 : H1.2.2.2.1 = L := (congrArg Prod.fst co.1.2.2).trans hL0
  have hX1 : H1.2.2.2.2 = xs := (congrArg Prod.snd co.1.2.2).trans hX0
  have i1 := zin_T (show 5 * t + 1 < L by omega) (show L < 2 ^ 31 by omega)
  have j1 := nI_clamp (show 5 * t + 1 < 2 ^ 31 by omega)
  have i2 := zin_T (show 5 * t + 2 < L by omega) (show L < 2 ^ 31 by omega)
  have j2 := nI_clamp (show 5 * t + 2 < 2 ^ 31 by omega)
  have a2 : nI (5 * t) + 2 = nI (5 * t + 2) := nI_add _ 2
  have i3 := zin_T (show 5 * t + 3 < L by omega) (show L < 2 ^ 31 by omega)
  have j3 := nI_clamp (show 5 * t + 3 < 2 ^ 31 by omega)
  have a3 : nI (5 * t) + 3 = nI (5 * t + 3) := nI_add _ 3
  have i4 := zin_T (show 5 * t + 4 < L by omega) (show L < 2 ^ 31 by omega)
  have j4 := nI_clamp (show 5 * t + 4 < 2 ^ 31 by omega)
  have a4 : nI (5 * t) + 4 = nI (5 * t + 4) := nI_add _ 4
  refine ⟨H2, x4, x6, ?_, so⟩
  simp only [e203_559, e203_560, e203_561, e203_562, e203_563, e203_564, e203_565, e203_566, e203_567, e203_568, e203_569, e203_570, e203_571, e203_572, e203_573, e203_574, e203_575, e203_576, e203_577, e203_578, e203_579, e203_580, e203_583, e203_584, e203_585, e203_586, e203_587, e203_588, e203_589, e203_590, e203_591, e203_592, e203_593, e203_594, e203_595, e203_596, e203_597, e203_598, e203_599, e203_600, e203_601, e203_602, e203_603, e203_604, e203_607, e203_610, e203_611, Option.bind_some, Option.toList_some, Option.toList_none, List.cons_append, List.nil_append, true_or, or_true, and_true, true_and, i10, Bool.false_eq_true, if_true, if_false, reduceIte, eq_self, z0, z1, hL0, hX0, hL1, hX1, i1, j1, nI_1, i2, j2, a2, i3, j3, a3, i4, j4, a4, c1', c2']
theorem law_nest (hC : CI H σ r e len k κ w m) (hM : MI H σ r e len k κ w m) (hW : WF σ e len k κ) (hs : H.2.2.2 = (L, xs)) (hL : L ≤ 2560) (ht : 5 * t + 4 < L) : ∃ H2 y4 y6, ev 60 203 612 [some (.float F), some (.ref 0), some (.ref 71), some (.int (nI (5 * t))), x4, none, x6, none] [] H = ev 60 203 784 [some (.float F), some (.ref 0), some (.ref 71), some (.int (nI (5 * t))), y4, none, y6, none] [] H2 ∧ SO H H2 := by
  obtain ⟨H1, H2, v, c1, c2, co, so⟩ := st_nest (d := 39) hC hM hW (x := xs (5 * t + 1))
  have c1' : ev 59 114 0 [some (.ref 0), some (.int (xs (5 * t + 1)))] [] H = some (some (.int v), H1) := c1
  have c2' : ev 59 191 0 [some (.ref 71), some (.int (xs (5 * t + 1))), none, none, none, none, none, none] [] H1 = some (some (.int v), H2) := c2
  obtain ⟨⟨X, u1, -⟩, -⟩ := hC
  have z0 := cz_sx u1
  obtain ⟨M, m0, -⟩ := hM
  have z1 : zis H1 71 8 = true := cz_md (at_fr m0 (fun j a _ => co.2 j a))
  have hL0 : H.2.2.2.1 = L := congrArg Prod.fst hs
  have hX0 : H.2.2.2.2 = xs := congrArg Prod.snd hs
  have hL1 : H1.2.2.2.1 = L := (congrArg Prod.fst co.1.2.2).trans hL0
  have hX1 : H1.2.2.2.2 = xs := (congrArg Prod.snd co.1.2.2).trans hX0
  have i1 := zin_T (show 5 * t + 1 < L by omega) (show L < 2 ^ 31 by omega)
  have j1 := nI_clamp (show 5 * t + 1 < 2 ^ 31 by omega)
  refine ⟨H2, x4, x6, ?_, so⟩
  simp only [e203_612, e203_613, e203_614, e203_615, e203_616, e203_617, e203_618, e203_621, e203_622, e203_623, e203_624, e203_625, e203_626, e203_627, e203_630, e203_633, e203_634, Option.bind_some, Option.toList_some, Option.toList_none, List.cons_append, List.nil_append, true_or, or_true, and_true, true_and, i10, Bool.false_eq_true, if_true, if_false, reduceIte, eq_self, z0, z1, hL0, hX0, hL1, hX1, i1, j1, nI_1, c1', c2']
theorem law_count (hC : CI H σ r e len k κ w m) (hM : MI H σ r e len k κ w m) (hW : WF σ e len k κ) (hs : H.2.2.2 = (L, xs)) (hL : L ≤ 2560) (ht : 5 * t + 4 < L) : ∃ H2 y4 y6, ev 60 203 635 [some (.float F), some (.ref 0), some (.ref 71), some (.int (nI (5 * t))), x4, none, x6, none] [] H = ev 60 203 784 [some (.float F), some (.ref 0), some (.ref 71), some (.int (nI (5 * t))), y4, none, y6, none] [] H2 ∧ SO H H2 := by
  obtain ⟨H1, H2, v, c1, c2, co, so⟩ := st_count (d := 39) hC hM hW (x := xs (5 * t + 1))
  have c1' : ev 59 115 0 [some (.ref 0), some (.int (xs (5 * t + 1)))] [] H = some (some (.int v), H1) := c1
  have c2' : ev 59 196 0 [some (.ref 71), some (.int (xs (5 * t + 1)))] [] H1 = some (some (.int v), H2) := c2
  obtain ⟨⟨X, u1, -⟩, -⟩ := hC
  have z0 := cz_sx u1
  obtain ⟨M, m0, -⟩ := hM
  have z1 : zis H1 71 8 = true := cz_md (at_fr m0 (fun j a _ => co.2 j a))
  have hL0 : H.2.2.2.1 = L := congrArg Prod.fst hs
  have hX0 : H.2.2.2.2 = xs := congrArg Prod.snd hs
  have hL1 : H1.2.2.2.1 = L := (congrArg Prod.fst co.1.2.2).trans hL0
  have hX1 : H1.2.2.2.2 = xs := (congrArg Prod.snd co.1.2.2).trans hX0
  have i1 := zin_T (show 5 * t + 1 < L by omega) (show L < 2 ^ 31 by omega)
  have j1 := nI_clamp (show 5 * t + 1 < 2 ^ 31 by omega)
  refine ⟨H2, x4, x6, ?_, so⟩
  simp only [e203_635, e203_636, e203_637, e203_638, e203_639, e203_640, e203_641, e203_644, e203_645, e203_646, e203_647, e203_648, e203_649, e203_650, e203_653, e203_656, e203_657, Option.bind_some, Option.toList_some, Option.toList_none, List.cons_append, List.nil_append, true_or, or_true, and_true, true_and, i10, Bool.false_eq_true, if_true, if_false, reduceIte, eq_self, z0, z1, hL0, hX0, hL1, hX1, i1, j1, nI_1, c1', c2']
theorem law_full (hC : CI H σ r e len k κ w m) (hM : MI H σ r e len k κ w m) (hW : WF σ e len k κ) (hs : H.2.2.2 = (L, xs)) (hL : L ≤ 2560) (ht : 5 * t + 4 < L) : ∃ H2 y4 y6, ev 60 203 658 [some (.float F), some (.ref 0), some (.ref 71), some (.int (nI (5 * t))), x4, none, x6, none] [] H = ev 60 203 784 [some (.float F), some (.ref 0), some (.ref 71), some (.int (nI (5 * t))), y4, none, y6, none] [] H2 ∧ SO H H2 := by
  obtain ⟨H1, H2, v, c1, c2, co, so⟩ := st_full (d := 39) hC hM hW 
  have c1' : ev 59 116 0 [some (.ref 0), none] [] H = some (some (.double v), H1) := c1
  have c2' : ev 59 197 0 [some (.ref 71), none] [] H1 = some (some (.double v), H2) := c2
  obtain ⟨⟨X, u1, -⟩, -⟩ := hC
  have z0 := cz_sx u1
  obtain ⟨M, m0, -⟩ := hM
  have z1 : zis H1 71 8 = true := cz_md (at_fr m0 (fun j a _ => co.2 j a))
  have hL0 : H.2.2.2.1 = L := congrArg Prod.fst hs
  have hX0 : H.2.2.2.2 = xs := congrArg Prod.snd hs
  have hL1 : H1.2.2.2.1 = L := (congrArg Prod.fst co.1.2.2).trans hL0
  have hX1 : H1.2.2.2.2 = xs := (congrArg Prod.snd co.1.2.2).trans hX0
  refine ⟨H2, some (.double v), some (.double v), ?_, so⟩
  by_cases n : Op.cmpValue (FP.dcmp v v) .l = 0
  · simp only [e203_658, e203_659, e203_662, e203_664, e203_665, e203_668, e203_670, e203_672, e203_674, e203_675, e203_678, e203_680, e203_682, e203_683, e203_686, e203_688, e203_690, e203_691, e203_694, e203_695, e203_696, Option.bind_some, Option.toList_some, Option.toList_none, List.cons_append, List.nil_append, true_or, or_true, and_true, true_and, i10, Bool.false_eq_true, if_true, if_false, reduceIte, eq_self, z0, z1, c1', c2', eq_true n]
  · simp only [e203_658, e203_659, e203_662, e203_664, e203_665, e203_668, e203_670, e203_672, e203_674, e203_675, e203_678, e203_680, e203_682, e203_683, e203_686, e203_688, e203_690, e203_691, e203_694, e203_695, e203_696, Option.bind_some, Option.toList_some, Option.toList_none, List.cons_append, List.nil_append, true_or, or_true, and_true, true_and, i10, Bool.false_eq_true, if_true, if_false, reduceIte, eq_self, z0, z1, c1', c2', eq_false n]
theorem law_ifTurned (hC : CI H σ r e len k κ w m) (hM : MI H σ r e len k κ w m) (hW : WF σ e len k κ) (hs : H.2.2.2 = (L, xs)) (hL : L ≤ 2560) (ht : 5 * t + 4 < L) : ∃ H2 y4 y6, ev 60 203 699 [some (.float F), some (.ref 0), some (.ref 71), some (.int (nI (5 * t))), x4, none, x6, none] [] H = ev 60 203 784 [some (.float F), some (.ref 0), some (.ref 71), some (.int (nI (5 * t))), y4, none, y6, none] [] H2 ∧ SO H H2 := by
  obtain ⟨H1, H2, v, c1, c2, co, so⟩ := st_ifTurned (d := 39) hC hM hW (x := xs (5 * t + 1)) (y := xs (5 * t + 2))
  have c1' : ev 59 117 0 [some (.ref 0), some (.int (xs (5 * t + 1))), some (.int (xs (5 * t + 2)))] [] H = some (some (.int v), H1) := c1
  have c2' : ev 59 198 0 [some (.ref 71), some (.int (xs (5 * t + 1))), some (.int (xs (5 * t + 2))), none, none] [] H1 = some (some (.int v), H2) := c2
  obtain ⟨⟨X, u1, -⟩, -⟩ := hC
  have z0 := cz_sx u1
  obtain ⟨M, m0, -⟩ := hM
  have z1 : zis H1 71 8 = true := cz_md (at_fr m0 (fun j a _ => co.2 j a))
  have hL0 : H.2.2.2.1 = L := congrArg Prod.fst hs
  have hX0 : H.2.2.2.2 = xs := congrArg Prod.snd hs
  have hL1 : H1.2.2.2.1 = L := (congrArg Prod.fst co.1.2.2).trans hL0
  have hX1 : H1.2.2.2.2 = xs := (congrArg Prod.snd co.1.2.2).trans hX0
  have i1 := zin_T (show 5 * t + 1 < L by omega) (show L < 2 ^ 31 by omega)
  have j1 := nI_clamp (show 5 * t + 1 < 2 ^ 31 by omega)
  have i2 := zin_T (show 5 * t + 2 < L by omega) (show L < 2 ^ 31 by omega)
  have j2 := nI_clamp (show 5 * t + 2 < 2 ^ 31 by omega)
  have a2 : nI (5 * t) + 2 = nI (5 * t + 2) := nI_add _ 2
  refine ⟨H2, x4, x6, ?_, so⟩
  simp only [e203_699, e203_700, e203_701, e203_702, e203_703, e203_704, e203_705, e203_706, e203_707, e203_708, e203_709, e203_710, e203_713, e203_714, e203_715, e203_716, e203_717, e203_718, e203_719, e203_720, e203_721, e203_722, e203_723, e203_724, e203_727, e203_730, e203_731, Option.bind_some, Option.toList_some, Option.toList_none, List.cons_append, List.nil_append, true_or, or_true, and_true, true_and, i10, Bool.false_eq_true, if_true, if_false, reduceIte, eq_self, z0, z1, hL0, hX0, hL1, hX1, i1, j1, nI_1, i2, j2, a2, c1', c2']
theorem law_bestTurn (hC : CI H σ r e len k κ w m) (hM : MI H σ r e len k κ w m) (hW : WF σ e len k κ) (hs : H.2.2.2 = (L, xs)) (hL : L ≤ 2560) (ht : 5 * t + 4 < L) : ∃ H2 y4 y6, ev 60 203 732 [some (.float F), some (.ref 0), some (.ref 71), some (.int (nI (5 * t))), x4, none, x6, none] [] H = ev 60 203 784 [some (.float F), some (.ref 0), some (.ref 71), some (.int (nI (5 * t))), y4, none, y6, none] [] H2 ∧ SO H H2 := by
  obtain ⟨H1, H2, v, c1, c2, co, so⟩ := st_bestTurn (d := 39) hC hM hW 
  have c1' : ev 59 118 0 [some (.ref 0), none, none, none, none] [] H = some (some (.int v), H1) := c1
  have c2' : ev 59 199 0 [some (.ref 71), none, none, none, none] [] H1 = some (some (.int v), H2) := c2
  obtain ⟨⟨X, u1, -⟩, -⟩ := hC
  have z0 := cz_sx u1
  obtain ⟨M, m0, -⟩ := hM
  have z1 : zis H1 71 8 = true := cz_md (at_fr m0 (fun j a _ => co.2 j a))
  have hL0 : H.2.2.2.1 = L := congrArg Prod.fst hs
  have hX0 : H.2.2.2.2 = xs := congrArg Prod.snd hs
  have hL1 : H1.2.2.2.1 = L := (congrArg Prod.fst co.1.2.2).trans hL0
  have hX1 : H1.2.2.2.2 = xs := (congrArg Prod.snd co.1.2.2).trans hX0
  refine ⟨H2, x4, x6, ?_, so⟩
  simp only [e203_732, e203_733, e203_736, e203_737, e203_740, e203_743, e203_744, Option.bind_some, Option.toList_some, Option.toList_none, List.cons_append, List.nil_append, true_or, or_true, and_true, true_and, i10, Bool.false_eq_true, if_true, if_false, reduceIte, eq_self, z0, z1, hL0, hX0, hL1, hX1, c1', c2']
theorem law_undo (hC : CI H σ r e len k κ w m) (hM : MI H σ r e len k κ w m) (hW : WF σ e len k κ) (hs : H.2.2.2 = (L, xs)) (hL : L ≤ 2560) (ht : 5 * t + 4 < L) : ∃ H2 y4 y6, ev 60 203 745 [some (.float F), some (.ref 0), some (.ref 71), some (.int (nI (5 * t))), x4, none, x6, none] [] H = ev 60 203 784 [some (.float F), some (.ref 0), some (.ref 71), some (.int (nI (5 * t))), y4, none, y6, none] [] H2 ∧ SO H H2 := by
  obtain ⟨H1, H2, v, c1, c2, co, so⟩ := st_undo (d := 39) hC hM hW 
  have c1' : ev 59 119 0 [some (.ref 0)] [] H = some (some (.int v), H1) := c1
  have c2' : ev 59 200 0 [some (.ref 71)] [] H1 = some (some (.int v), H2) := c2
  obtain ⟨⟨X, u1, -⟩, -⟩ := hC
  have z0 := cz_sx u1
  obtain ⟨M, m0, -⟩ := hM
  have z1 : zis H1 71 8 = true := cz_md (at_fr m0 (fun j a _ => co.2 j a))
  have hL0 : H.2.2.2.1 = L := congrArg Prod.fst hs
  have hX0 : H.2.2.2.2 = xs := congrArg Prod.snd hs
  have hL1 : H1.2.2.2.1 = L := (congrArg Prod.fst co.1.2.2).trans hL0
  have hX1 : H1.2.2.2.2 = xs := (congrArg Prod.snd co.1.2.2).trans hX0
  refine ⟨H2, x4, x6, ?_, so⟩
  simp only [e203_745, e203_746, e203_749, e203_750, e203_753, e203_756, e203_757, Option.bind_some, Option.toList_some, Option.toList_none, List.cons_append, List.nil_append, true_or, or_true, and_true, true_and, i10, Bool.false_eq_true, if_true, if_false, reduceIte, eq_self, z0, z1, hL0, hX0, hL1, hX1, c1', c2']
theorem law_save (hC : CI H σ r e len k κ w m) (hM : MI H σ r e len k κ w m) (hW : WF σ e len k κ) (hs : H.2.2.2 = (L, xs)) (hL : L ≤ 2560) (ht : 5 * t + 4 < L) : ∃ H2 y4 y6, ev 60 203 758 [some (.float F), some (.ref 0), some (.ref 71), some (.int (nI (5 * t))), x4, none, x6, none] [] H = ev 60 203 784 [some (.float F), some (.ref 0), some (.ref 71), some (.int (nI (5 * t))), y4, none, y6, none] [] H2 ∧ SO H H2 := by
  obtain ⟨H1, H2, v, c1, c2, co, so⟩ := st_save (d := 39) hC hM hW 
  have c1' : ev 59 120 0 [some (.ref 0)] [] H = some (some (.int v), H1) := c1
  have c2' : ev 59 201 0 [some (.ref 71)] [] H1 = some (some (.int v), H2) := c2
  obtain ⟨⟨X, u1, -⟩, -⟩ := hC
  have z0 := cz_sx u1
  obtain ⟨M, m0, -⟩ := hM
  have z1 : zis H1 71 8 = true := cz_md (at_fr m0 (fun j a _ => co.2 j a))
  have hL0 : H.2.2.2.1 = L := congrArg Prod.fst hs
  have hX0 : H.2.2.2.2 = xs := congrArg Prod.snd hs
  have hL1 : H1.2.2.2.1 = L := (congrArg Prod.fst co.1.2.2).trans hL0
  have hX1 : H1.2.2.2.2 = xs := (congrArg Prod.snd co.1.2.2).trans hX0
  refine ⟨H2, x4, x6, ?_, so⟩
  simp only [e203_758, e203_759, e203_762, e203_763, e203_766, e203_769, e203_770, Option.bind_some, Option.toList_some, Option.toList_none, List.cons_append, List.nil_append, true_or, or_true, and_true, true_and, i10, Bool.false_eq_true, if_true, if_false, reduceIte, eq_self, z0, z1, hL0, hX0, hL1, hX1, c1', c2']
theorem law_restore (hC : CI H σ r e len k κ w m) (hM : MI H σ r e len k κ w m) (hW : WF σ e len k κ) (hs : H.2.2.2 = (L, xs)) (hL : L ≤ 2560) (ht : 5 * t + 4 < L) : ∃ H2 y4 y6, ev 60 203 771 [some (.float F), some (.ref 0), some (.ref 71), some (.int (nI (5 * t))), x4, none, x6, none] [] H = ev 60 203 784 [some (.float F), some (.ref 0), some (.ref 71), some (.int (nI (5 * t))), y4, none, y6, none] [] H2 ∧ SO H H2 := by
  obtain ⟨H1, H2, v, c1, c2, co, so⟩ := st_restore (d := 39) hC hM hW 
  have c1' : ev 59 121 0 [some (.ref 0)] [] H = some (some (.int v), H1) := c1
  have c2' : ev 59 202 0 [some (.ref 71)] [] H1 = some (some (.int v), H2) := c2
  obtain ⟨⟨X, u1, -⟩, -⟩ := hC
  have z0 := cz_sx u1
  obtain ⟨M, m0, -⟩ := hM
  have z1 : zis H1 71 8 = true := cz_md (at_fr m0 (fun j a _ => co.2 j a))
  have hL0 : H.2.2.2.1 = L := congrArg Prod.fst hs
  have hX0 : H.2.2.2.2 = xs := congrArg Prod.snd hs
  have hL1 : H1.2.2.2.1 = L := (congrArg Prod.fst co.1.2.2).trans hL0
  have hX1 : H1.2.2.2.2 = xs := (congrArg Prod.snd co.1.2.2).trans hX0
  refine ⟨H2, x4, x6, ?_, so⟩
  simp only [e203_771, e203_772, e203_775, e203_776, e203_779, e203_782, e203_783, Option.bind_some, Option.toList_some, Option.toList_none, List.cons_append, List.nil_append, true_or, or_true, and_true, true_and, i10, Bool.false_eq_true, if_true, if_false, reduceIte, eq_self, z0, z1, hL0, hX0, hL1, hX1, c1', c2']
theorem law_loop (hL : L ≤ 2560) : ∀ (f t : Nat) (H : zH) (x4 x6 : Option Value) (σ : mS) (r : Int32) (e : Nat → mS × Int32) (len : Nat) (k : Bool) (κ : mS × Int32) (w : Nat → Nat) (m : Nat), L < 5 * t + 5 + 5 * f → t ≤ 600 → CI H σ r e len k κ w m → MI H σ r e len k κ w m → WF σ e len k κ → H.2.2.2 = (L, xs) → ∃ H', ev 60 203 18 [some (.float F), some (.ref 0), some (.ref 71), some (.int (nI (5 * t))), x4, none, x6, none] [] H = some (some (.int 1), H') ∧ sme H H' := by
  have stop : ∀ (t : Nat) (H : zH) (x4 x6 : Option Value), L < 5 * t + 5 → t ≤ 600 → H.2.2.2 = (L, xs) → ev 60 203 18 [some (.float F), some (.ref 0), some (.ref 71), some (.int (nI (5 * t))), x4, none, x6, none] [] H = some (some (.int 1), H) := by
    intro t H x4 x6 h1 ht hs
    have hL0 : H.2.2.2.1 = L := congrArg Prod.fst hs
    have e1 : (nI L - 5 < nI (5 * t)) = True := by
      rw [show (5 : Int32) = iI 5 from rfl, iI_nat, iI_nat, iI_sub, iI_lt (by omega) (by omega)]
      exact eq_true (by omega)
    have e0 : Int32.ofNat L = nI L := rfl
    simp only [e203_18, e203_19, e203_20, e203_21, e203_22, e203_23, e203_790, e203_791, Option.bind_some, Option.toList_some, Option.toList_none, List.cons_append, List.nil_append, true_or, or_true, and_true, true_and, i10, Bool.false_eq_true, if_true, if_false, reduceIte, hL0, e0, e1]
  intro f
  induction f with
  | zero =>
    intro t H x4 x6 σ r e len k κ w m h1 ht hC hM hW hs
    exact ⟨H, stop t H x4 x6 (by omega) ht hs, sme_r H⟩
  | succ f ih =>
    intro t H x4 x6 σ r e len k κ w m h1 ht hC hM hW hs
    by_cases q : L < 5 * t + 5
    · exact ⟨H, stop t H x4 x6 q ht hs, sme_r H⟩
    · have hL0 : H.2.2.2.1 = L := congrArg Prod.fst hs
      have hX0 : H.2.2.2.2 = xs := congrArg Prod.snd hs
      have e1 : (nI L - 5 < nI (5 * t)) = False := by
        rw [show (5 : Int32) = iI 5 from rfl, iI_nat, iI_nat, iI_sub, iI_lt (by omega) (by omega)]
        exact eq_false (by omega)
      have e0 : Int32.ofNat L = nI L := rfl
      have i0 := zin_T (show 5 * t < L by omega) (show L < 2 ^ 31 by omega)
      have j0 := nI_clamp (show 5 * t < 2 ^ 31 by omega)
      obtain ⟨u, hu, hx⟩ := pk_andE (xs (5 * t)) (m := 31) 5 (by decide)
      have hu : u < 32 := hu
      have go : ev 60 203 18 [some (.float F), some (.ref 0), some (.ref 71), some (.int (nI (5 * t))), x4, none, x6, none] [] H = ev 60 203 32 [some (.float F), some (.ref 0), some (.ref 71), some (.int (nI (5 * t))), x4, none, x6, none] [.int (nI u)] H := by
        simp only [e203_18, e203_19, e203_20, e203_21, e203_22, e203_23, e203_26, e203_27, e203_28, e203_29, e203_31, Option.bind_some, Option.toList_some, Option.toList_none, List.cons_append, List.nil_append, true_or, or_true, and_true, true_and, i10, Bool.false_eq_true, if_true, if_false, reduceIte, hL0, hX0, e0, e1, i0, j0, hx]
      have key : ∃ H2 y4 y6, ev 60 203 32 [some (.float F), some (.ref 0), some (.ref 71), some (.int (nI (5 * t))), x4, none, x6, none] [.int (nI u)] H = ev 60 203 784 [some (.float F), some (.ref 0), some (.ref 71), some (.int (nI (5 * t))), y4, none, y6, none] [] H2 ∧ SO H H2 := by
        have ht4 : 5 * t + 4 < L := by omega
        by_cases z : u ≤ 23
        · have h24 : u = 0 ∨ u = 1 ∨ u = 2 ∨ u = 3 ∨ u = 4 ∨ u = 5 ∨ u = 6 ∨ u = 7 ∨ u = 8 ∨ u = 9 ∨ u = 10 ∨ u = 11 ∨ u = 12 ∨ u = 13 ∨ u = 14 ∨ u = 15 ∨ u = 16 ∨ u = 17 ∨ u = 18 ∨ u = 19 ∨ u = 20 ∨ u = 21 ∨ u = 22 ∨ u = 23 := by omega
          rcases h24 with y | y | y | y | y | y | y | y | y | y | y | y | y | y | y | y | y | y | y | y | y | y | y | y <;> subst y
          · obtain ⟨H2, y4, y6, b1, b2⟩ := law_make (F := F) (x4 := x4) (x6 := x6) hC hM hW hs hL ht4
            exact ⟨H2, y4, y6, (show ev 60 203 32 _ [.int 0] H = _ from e203_32c0).trans b1, b2⟩
          · obtain ⟨H2, y4, y6, b1, b2⟩ := law_put (F := F) (x4 := x4) (x6 := x6) hC hM hW hs hL ht4
            exact ⟨H2, y4, y6, (show ev 60 203 32 _ [.int 1] H = _ from e203_32c1).trans b1, b2⟩
          · obtain ⟨H2, y4, y6, b1, b2⟩ := law_ground (F := F) (x4 := x4) (x6 := x6) hC hM hW hs hL ht4
            exact ⟨H2, y4, y6, (show ev 60 203 32 _ [.int 2] H = _ from e203_32c2).trans b1, b2⟩
          · obtain ⟨H2, y4, y6, b1, b2⟩ := law_turn (F := F) (x4 := x4) (x6 := x6) hC hM hW hs hL ht4
            exact ⟨H2, y4, y6, (show ev 60 203 32 _ [.int 3] H = _ from e203_32c3).trans b1, b2⟩
          · obtain ⟨H2, y4, y6, b1, b2⟩ := law_breakUp (F := F) (x4 := x4) (x6 := x6) hC hM hW hs hL ht4
            exact ⟨H2, y4, y6, (show ev 60 203 32 _ [.int 4] H = _ from e203_32c4).trans b1, b2⟩
          · obtain ⟨H2, y4, y6, b1, b2⟩ := law_append (F := F) (x4 := x4) (x6 := x6) hC hM hW hs hL ht4
            exact ⟨H2, y4, y6, (show ev 60 203 32 _ [.int 5] H = _ from e203_32c5).trans b1, b2⟩
          · obtain ⟨H2, y4, y6, b1, b2⟩ := law_clear (F := F) (x4 := x4) (x6 := x6) hC hM hW hs hL ht4
            exact ⟨H2, y4, y6, (show ev 60 203 32 _ [.int 6] H = _ from e203_32c6).trans b1, b2⟩
          · obtain ⟨H2, y4, y6, b1, b2⟩ := law_fault (F := F) (x4 := x4) (x6 := x6) hC hM hW hs hL ht4
            exact ⟨H2, y4, y6, (show ev 60 203 32 _ [.int 7] H = _ from e203_32c7).trans b1, b2⟩
          · obtain ⟨H2, y4, y6, b1, b2⟩ := law_load (F := F) (x4 := x4) (x6 := x6) hC hM hW hs hL ht4
            exact ⟨H2, y4, y6, (show ev 60 203 32 _ [.int 8] H = _ from e203_32c8).trans b1, b2⟩
          · obtain ⟨H2, y4, y6, b1, b2⟩ := law_sign (F := F) (x4 := x4) (x6 := x6) hC hM hW hs hL ht4
            exact ⟨H2, y4, y6, (show ev 60 203 32 _ [.int 9] H = _ from e203_32c9).trans b1, b2⟩
          · obtain ⟨H2, y4, y6, b1, b2⟩ := law_crate (F := F) (x4 := x4) (x6 := x6) hC hM hW hs hL ht4
            exact ⟨H2, y4, y6, (show ev 60 203 32 _ [.int 10] H = _ from e203_32c10).trans b1, b2⟩
          · obtain ⟨H2, y4, y6, b1, b2⟩ := law_letter (F := F) (x4 := x4) (x6 := x6) hC hM hW hs hL ht4
            exact ⟨H2, y4, y6, (show ev 60 203 32 _ [.int 11] H = _ from e203_32c11).trans b1, b2⟩
          · obtain ⟨H2, y4, y6, b1, b2⟩ := law_seen (F := F) (x4 := x4) (x6 := x6) hC hM hW hs hL ht4
            exact ⟨H2, y4, y6, (show ev 60 203 32 _ [.int 12] H = _ from e203_32c12).trans b1, b2⟩
          · obtain ⟨H2, y4, y6, b1, b2⟩ := law_whyNot (F := F) (x4 := x4) (x6 := x6) hC hM hW hs hL ht4
            exact ⟨H2, y4, y6, (show ev 60 203 32 _ [.int 13] H = _ from e203_32c13).trans b1, b2⟩
          · obtain ⟨H2, y4, y6, b1, b2⟩ := law_effort (F := F) (x4 := x4) (x6 := x6) hC hM hW hs hL ht4
            exact ⟨H2, y4, y6, (show ev 60 203 32 _ [.int 14] H = _ from e203_32c14).trans b1, b2⟩
          · obtain ⟨H2, y4, y6, b1, b2⟩ := law_alike (F := F) (x4 := x4) (x6 := x6) hC hM hW hs hL ht4
            exact ⟨H2, y4, y6, (show ev 60 203 32 _ [.int 15] H = _ from e203_32c15).trans b1, b2⟩
          · obtain ⟨H2, y4, y6, b1, b2⟩ := law_nest (F := F) (x4 := x4) (x6 := x6) hC hM hW hs hL ht4
            exact ⟨H2, y4, y6, (show ev 60 203 32 _ [.int 16] H = _ from e203_32c16).trans b1, b2⟩
          · obtain ⟨H2, y4, y6, b1, b2⟩ := law_count (F := F) (x4 := x4) (x6 := x6) hC hM hW hs hL ht4
            exact ⟨H2, y4, y6, (show ev 60 203 32 _ [.int 17] H = _ from e203_32c17).trans b1, b2⟩
          · obtain ⟨H2, y4, y6, b1, b2⟩ := law_full (F := F) (x4 := x4) (x6 := x6) hC hM hW hs hL ht4
            exact ⟨H2, y4, y6, (show ev 60 203 32 _ [.int 18] H = _ from e203_32c18).trans b1, b2⟩
          · obtain ⟨H2, y4, y6, b1, b2⟩ := law_ifTurned (F := F) (x4 := x4) (x6 := x6) hC hM hW hs hL ht4
            exact ⟨H2, y4, y6, (show ev 60 203 32 _ [.int 19] H = _ from e203_32c19).trans b1, b2⟩
          · obtain ⟨H2, y4, y6, b1, b2⟩ := law_bestTurn (F := F) (x4 := x4) (x6 := x6) hC hM hW hs hL ht4
            exact ⟨H2, y4, y6, (show ev 60 203 32 _ [.int 20] H = _ from e203_32c20).trans b1, b2⟩
          · obtain ⟨H2, y4, y6, b1, b2⟩ := law_undo (F := F) (x4 := x4) (x6 := x6) hC hM hW hs hL ht4
            exact ⟨H2, y4, y6, (show ev 60 203 32 _ [.int 21] H = _ from e203_32c21).trans b1, b2⟩
          · obtain ⟨H2, y4, y6, b1, b2⟩ := law_save (F := F) (x4 := x4) (x6 := x6) hC hM hW hs hL ht4
            exact ⟨H2, y4, y6, (show ev 60 203 32 _ [.int 22] H = _ from e203_32c22).trans b1, b2⟩
          · obtain ⟨H2, y4, y6, b1, b2⟩ := law_restore (F := F) (x4 := x4) (x6 := x6) hC hM hW hs hL ht4
            exact ⟨H2, y4, y6, (show ev 60 203 32 _ [.int 23] H = _ from e203_32c23).trans b1, b2⟩
        · refine ⟨H, x4, x6, ?_, sme_r H, σ, r, e, len, k, κ, w, m, hC, hM, hW⟩
          exact e203_32d (Or.inr (by rw [nI_toInt (by omega)]; omega))
      obtain ⟨H2, y4, y6, b1, b2, σ', r', e', len', k', κ', w', m', b3, b4, b5⟩ := key
      obtain ⟨H', c1, c2⟩ := ih (t + 1) H2 y4 y6 σ' r' e' len' k' κ' w' m' (by omega) (by omega) b3 b4 b5 (b2.2.2.trans hs)
      have e5 : nI (5 * t) + 5 = nI (5 * (t + 1)) := by rw [show nI (5 * t) + 5 = nI (5 * t + 5) from nI_add _ 5, show 5 * t + 5 = 5 * (t + 1) by omega]
      refine ⟨H', (go.trans b1).trans (Eq.trans ?_ c1), sme_t b2 c2⟩
      simp only [e203_784, e203_787, e5]
/-- the law on a script -/
theorem law_run (hL : L ≤ 2560) : ∃ H', ev 60 203 0 [some (.float F), none, none, none, none, none, none, none] [] ((0, 0, fun _ => zvoid, L, xs) : zH) = some (some (.int 1), H') ∧ H'.1 = 83 ∧ H'.2.1 ≤ 7302250 := by
  have z7 := zis_push (h := ((0, 0, fun _ => zvoid, L, xs) : zH)) (ci := 7) (n := (zblank 7).length) (fs := zblank 7)
  obtain ⟨G, g0, g1, g2, g3, a0, a1, a8, a15, a22, a52, a54, a62, a64, a68⟩ := i_sx (d := 56) (A := zpush ((0, 0, fun _ => zvoid, L, xs) : zH) (zblank 7).length (.inr (.inr (7, zblank 7)))) rfl (by
    show (if (0 : Nat) = 0 then (Sum.inr (Sum.inr (7, zblank 7)) : zC) else zvoid) = _
    exact if_pos rfl)
  have g0' : ev 59 97 0 [some (.ref 0)] [] (zpush ((0, 0, fun _ => zvoid, L, xs) : zH) (zblank 7).length (.inr (.inr (7, zblank 7)))) = some (none, G) := g0
  have z8 := zis_push (h := G) (ci := 8) (n := (zblank 8).length) (fs := zblank 8)
  have im := i_md (d := 59) (h := G)
  rw [g1] at z8 im
  have hG : ∀ i l, at_ G i l → i + l.length ≤ 71 → at_ (zap G (mdL 71 S0) 1293) i l := fun i l h hl => at_fr h (fun j x y => zap_out (by rw [g1]; omega))
  have am : at_ (zap G (mdL 71 S0) 1293) 71 (mdL 71 S0) := by
    have := at_zap (h := G) (l := mdL 71 S0) (n := 1293)
    rwa [g1] at this
  have s0R : stR S0 ((0, fun _ _ => 0) : mS) := ⟨rfl, fun c hc => absurd hc (Nat.not_lt_zero c)⟩
  have ahs := hG 22 _ a22 (Nat.le_of_ble_eq_true rfl)
  have hhs : hsI (zap G (mdL 71 S0) 1293) (fun _ => (((0, fun _ _ => 0) : mS), 0)) 0 := by
    have p2 := at_app (a := hsL 22 (hP 22 4) (nI 0)) (b := sk 24 4) ahs
    refine ⟨by decide, hP 22 4, fun j => j, p2.1, fun j hj => ⟨hj, if_pos hj⟩, fun j q _ _ h => h, fun j hj => ⟨S0, ?_, fun h => absurd h (Nat.not_lt_zero j)⟩⟩
    have p3 : at_ (zap G (mdL 71 S0) 1293) 24 (sk 24 4) := p2.2
    have q4 := at_app (a := sk 24 3) (b := stL (24 + 7 * 3) S0) p3
    have q3 := at_app (a := sk 24 2) (b := stL (24 + 7 * 2) S0) q4.1
    have q2 := at_app (a := sk 24 1) (b := stL (24 + 7 * 1) S0) q3.1
    have q1 := at_app (a := sk 24 0) (b := stL (24 + 7 * 0) S0) q2.1
    have h4 : j = 0 ∨ j = 1 ∨ j = 2 ∨ j = 3 := by omega
    rcases h4 with y | y | y | y <;> subst y
    · exact q1.2
    · exact q2.2
    · exact q3.2
    · exact q4.2
  have hrd := at_app (a := rdL 54 R0) (b := stL 55 S0) (hG 54 _ a54 (Nat.le_of_ble_eq_true rfl))
  have hC : CI (zap G (mdL 71 S0) 1293) ((0, fun _ _ => 0) : mS) 0 (fun _ => (((0, fun _ _ => 0) : mS), 0)) 0 false (((0, fun _ _ => 0) : mS), 0) (fun _ => 0) 0 := ⟨⟨S0, hG 0 _ a0 (Nat.le_of_ble_eq_true rfl), rfl⟩, ⟨S0, hG 1 _ a1 (Nat.le_of_ble_eq_true rfl), s0R, rfl⟩, ⟨S0, hG 8 _ a8 (Nat.le_of_ble_eq_true rfl)⟩, ⟨S0, hG 15 _ a15 (Nat.le_of_ble_eq_true rfl), fun h => absurd h (by decide)⟩, hhs, ⟨S0, hG 52 _ a52 (Nat.le_of_ble_eq_true rfl), rfl, Nat.zero_le _, fun j hj => absurd hj (Nat.not_lt_zero j)⟩, ⟨R0, hrd.1⟩, ⟨S0, hrd.2⟩, ⟨S0, hG 62 _ a62 (Nat.le_of_ble_eq_true rfl)⟩, ⟨S0, hG 64 _ a64 (Nat.le_of_ble_eq_true rfl)⟩, ⟨S0, hG 68 _ a68 (Nat.le_of_ble_eq_true rfl)⟩⟩
  have hM : MI (zap G (mdL 71 S0) 1293) ((0, fun _ _ => 0) : mS) 0 (fun _ => (((0, fun _ _ => 0) : mS), 0)) 0 false (((0, fun _ _ => 0) : mS), 0) (fun _ => 0) 0 := ⟨S0, am, ⟨rfl, rfl, fun c hc => absurd hc (Nat.not_lt_zero c)⟩, ⟨rfl, fun j hj => absurd hj (Nat.not_lt_zero j)⟩, rfl, fun h => absurd h (by decide), rfl, Nat.zero_le _, fun j hj => absurd hj (Nat.not_lt_zero j)⟩
  have hW : WF ((0, fun _ _ => 0) : mS) (fun _ => (((0, fun _ _ => 0) : mS), 0)) 0 false (((0, fun _ _ => 0) : mS), 0) := ⟨⟨Nat.zero_le _, fun c hc => absurd hc (Nat.not_lt_zero c)⟩, Nat.zero_le _, fun j hj => absurd hj (Nat.not_lt_zero j), fun h => absurd h (by decide)⟩
  obtain ⟨H', c1, c2⟩ := law_loop (F := F) (xs := xs) hL (L + 1) 0 (zap G (mdL 71 S0) 1293) none none _ _ _ _ _ _ _ _ (by omega) (by omega) hC hM hW g3
  have hsl : (zap G (mdL 71 S0) 1293).2.1 = G.2.1 + 1293 := rfl
  have hA : (zpush ((0, 0, fun _ => zvoid, L, xs) : zH) (zblank 7).length (.inr (.inr (7, zblank 7)))).2.1 = 0 + (zblank 7).length := rfl
  have l7 : (zblank 7).length = 10 := by rw [zb_7]; rfl
  refine ⟨H', ?_, ?_, ?_⟩
  · have z7' : zis (zpush ((0, 0, fun _ => zvoid, L, xs) : zH) (zblank 7).length (.inr (.inr (7, zblank 7)))) 0 7 = true := z7
    have e0 : (((0, 0, fun _ => zvoid, L, xs) : zH)).1 = 0 := rfl
    simp only [e203_0, e203_3, e203_4, e203_7, e203_8, e203_11, e203_12, e203_15, e203_16, e203_17, Option.bind_some, Option.toList_some, Option.toList_none, List.cons_append, List.nil_append, true_or, or_true, and_true, true_and, i10, Bool.false_eq_true, if_true, if_false, reduceIte, e0, z7', g0', g1, z8, im]
    exact c1
  · rw [c2.1]
    show G.1 + (mdL 71 S0).length = 83
    rw [g1]
    rfl
  · rw [c2.2.1, hsl, g2, hA, l7]
    omega
end LAW
