/-! THE LAW ITSELF -/
section LAWL
variable {d : Nat} {H H1 : zH} {σ σ' : mS} {r r' : Int32} {e e' : Nat → mS × Int32} {len len' : Nat} {k : Bool} {κ : mS × Int32} {w w' : Nat → Nat} {m m' : Nat} {x y : Int32} {c n p L : Nat} {F : UInt32}
theorem he_at (h : len < 4) {z : mS × Int32} : he e len z len = z := by
  unfold he
  rw [if_pos h, if_pos rfl]
/-- the script's numbers of a round -/
theorem la_lot (hL : H.2.2.2.1 = L) (h1 : L ≤ 260) (hn : n < 54) {is : Int32} (his : is = 1) {v6 v7 v8 v10 v11 v12 : Option Value} : ∃ x y, ev (d + 25) 138 62 [some (.float F), some (.ref 0), some (.int (is)), some (.long (lkv κ.1 κ.2)), none, some (.int (nI n)), v6, v7, v8, none, v10, v11, v12] [] H = ev (d + 25) 138 105 [some (.float F), some (.ref 0), some (.int (1)), some (.long (lkv κ.1 κ.2)), none, some (.int (nI n)), some (.int (x)), some (.int (y)), v8, none, v10, v11, v12] [] H := by
  subst his
  have e1 : ((54 : Int32) ≤ nI n) = False := (nI_lep (a := 54) (by omega) (by omega)).trans (eq_false (by omega))
  have e2 : ((4 : Int32) ≤ nI n) = (4 ≤ n) := nI_lep (a := 4) (by omega) (by omega)
  have e3 : (2 : Int32) * nI n = nI (2 * n) := pk_mul 2 n
  obtain ⟨v1, l1⟩ := lw_lot (d := d + 24) (F := F) (q := 2 * n) hL h1 (by omega)
  obtain ⟨v2, l2⟩ := lw_lot (d := d + 24) (F := F) (q := 2 * n + 1) hL h1 (by omega)
  by_cases q : 4 ≤ n
  · refine ⟨v1, v2, ?_⟩
    simp only [e138_62, e138_64, e138_66, e138_69, e138_70, e138_73, e138_75, e138_76, e138_79, e138_80, e138_83, e138_84, e138_85, e138_87, e138_88, e138_91, e138_93, e138_94, e138_95, e138_97, e138_98, e138_99, e138_100, e138_103, Option.bind_some, Option.toList_some, Option.toList_none, List.cons_append, List.nil_append, true_or, or_true, and_true, true_and, i10, Bool.false_eq_true, if_true, if_false, reduceIte, e1, e2.trans (eq_true q), e3, nI_1, l1, l2]
  · refine ⟨0, v2, ?_⟩
    simp only [e138_62, e138_64, e138_66, e138_69, e138_70, e138_73, e138_75, e138_76, e138_79, e138_80, e138_83, e138_84, e138_85, e138_87, e138_88, e138_91, e138_93, e138_94, e138_95, e138_97, e138_98, e138_99, e138_100, e138_103, Option.bind_some, Option.toList_some, Option.toList_none, List.cons_append, List.nil_append, true_or, or_true, and_true, true_and, i10, Bool.false_eq_true, if_true, if_false, reduceIte, e1, e2.trans (eq_false q), e3, nI_1, l2]
/-- look, act, hold, would -/
theorem la_act (hn : n < 54) (hC : CI H σ r e len true κ w m) (hW : WF σ e len true κ) {v8 v10 v11 v12 : Option Value} : ∃ H1 σ' r' e' len' w' m', CO H H1 ∧ CI H1 σ' r' e' len' true κ w' m' ∧ WF σ' e' len' true κ ∧ CH σ r e len σ' r' e' len' ∧ ev (d + 25) 138 105 [some (.float F), some (.ref 0), some (.int (1)), some (.long (lkv κ.1 κ.2)), none, some (.int (nI n)), some (.int (x)), some (.int (y)), v8, none, v10, v11, v12] [] H = ev (d + 25) 138 175 [some (.float F), some (.ref 0), some (.int (1)), some (.long (lkv κ.1 κ.2)), none, some (.int (nI n)), some (.int (x)), some (.int (y)), some (.long (lkv σ r)), none, some (.int (nI len)), some (.int (nI len')), v12] [] H1 := by
  have z0 := CI_z hC
  obtain ⟨H1, a1, a2, a3⟩ := lw_look (d := d + 3) hC hW
  have z1 := CI_z a3
  have f14 := ca_n14 (d := d + 4) a3 hW
  obtain ⟨H2, σ', r', e', len', w', m', b1, b2, b3, b4, b5⟩ := lw_acts (d := d) (x := x) (y := y) a3 hW
  have r3 : nI n - nI n / 3 * 3 = nI (n % 3) := by
    have := pk_rem (a := n) (d := 3) (by omega) (by decide) (by decide)
    rw [show nI 3 = 3 from rfl] at this
    exact this
  have r3z : ((3 : Int32) = 0) = False := by decide
  have r4 : nI n - nI n / 4 * 4 = nI (n % 4) := by
    have := pk_rem (a := n) (d := 4) (by omega) (by decide) (by decide)
    rw [show nI 4 = 4 from rfl] at this
    exact this
  have r4z : ((4 : Int32) = 0) = False := by decide
  have h3 : (0 < nI (n % 3)) = (0 < n % 3) := nI_ltp (a := 0) (by omega) (by omega)
  have h4 : (nI (n % 4) = 2) = (n % 4 = 2) := nI_eqp (b := 2) (by omega) (by omega)
  have s1 : ev (d + 25) 138 105 [some (.float F), some (.ref 0), some (.int (1)), some (.long (lkv κ.1 κ.2)), none, some (.int (nI n)), some (.int (x)), some (.int (y)), v8, none, v10, v11, v12] [] H = ev (d + 25) 138 130 [some (.float F), some (.ref 0), some (.int (1)), some (.long (lkv κ.1 κ.2)), none, some (.int (nI n)), some (.int (x)), some (.int (y)), some (.long (lkv σ r)), none, some (.int (nI len)), v11, v12] [] H2 := by
    simp only [e138_105, e138_106, e138_109, e138_111, e138_112, e138_114, e138_117, e138_119, e138_120, e138_122, e138_124, e138_127, Option.bind_some, Option.toList_some, Option.toList_none, List.cons_append, List.nil_append, true_or, or_true, and_true, true_and, i10, Bool.false_eq_true, if_true, if_false, reduceIte, z0, z1, a1, f14, b1]
  have s2 : ∃ H3, CO H2 H3 ∧ CI H3 σ' r' e' len' true κ w' m' ∧ ev (d + 25) 138 130 [some (.float F), some (.ref 0), some (.int (1)), some (.long (lkv κ.1 κ.2)), none, some (.int (nI n)), some (.int (x)), some (.int (y)), some (.long (lkv σ r)), none, some (.int (nI len)), v11, v12] [] H2 = ev (d + 25) 138 144 [some (.float F), some (.ref 0), some (.int (1)), some (.long (lkv κ.1 κ.2)), none, some (.int (nI n)), some (.int (x)), some (.int (y)), some (.long (lkv σ r)), none, some (.int (nI len)), v11, v12] [] H3 := by
    by_cases q : 0 < n % 3
    · refine ⟨H2, CO_r, b3, ?_⟩
      simp only [e138_130, e138_132, e138_133, e138_134, e138_137, e138_138, e138_141, Option.bind_some, Option.toList_some, Option.toList_none, List.cons_append, List.nil_append, true_or, or_true, and_true, true_and, i10, Bool.false_eq_true, if_true, if_false, reduceIte, r3, r3z, not_false_eq_true, h3.trans (eq_true q)]
    · obtain ⟨H3, c1, c2, c3⟩ := lw_holds (d := d + 2) b3 b4
      refine ⟨H3, c2, c3, ?_⟩
      simp only [e138_130, e138_132, e138_133, e138_134, e138_137, e138_138, e138_141, Option.bind_some, Option.toList_some, Option.toList_none, List.cons_append, List.nil_append, true_or, or_true, and_true, true_and, i10, Bool.false_eq_true, if_true, if_false, reduceIte, r3, r3z, not_false_eq_true, h3.trans (eq_false q), c1]
  obtain ⟨H3, c1, c2, c3⟩ := s2
  have s3 : ∃ H4, CO H3 H4 ∧ CI H4 σ' r' e' len' true κ w' m' ∧ ev (d + 25) 138 144 [some (.float F), some (.ref 0), some (.int (1)), some (.long (lkv κ.1 κ.2)), none, some (.int (nI n)), some (.int (x)), some (.int (y)), some (.long (lkv σ r)), none, some (.int (nI len)), v11, v12] [] H3 = ev (d + 25) 138 167 [some (.float F), some (.ref 0), some (.int (1)), some (.long (lkv κ.1 κ.2)), none, some (.int (nI n)), some (.int (x)), some (.int (y)), some (.long (lkv σ r)), none, some (.int (nI len)), v11, v12] [] H4 := by
    by_cases q : n % 4 = 2
    · obtain ⟨H4, g1, g2, g3⟩ := lw_would (d := d + 2) (x := y) c2 b4
      refine ⟨H4, g2, g3, ?_⟩
      simp only [e138_144, e138_146, e138_147, e138_148, e138_149, e138_152, e138_153, e138_155, e138_158, e138_161, e138_162, e138_165, e138_166, Option.bind_some, Option.toList_some, Option.toList_none, List.cons_append, List.nil_append, true_or, or_true, and_true, true_and, i10, Bool.false_eq_true, if_true, if_false, reduceIte, r4, r4z, not_false_eq_true, h4.trans (eq_true q), g1]
    · refine ⟨H3, CO_r, c2, ?_⟩
      simp only [e138_144, e138_146, e138_147, e138_148, e138_149, e138_152, e138_153, e138_155, e138_158, e138_161, e138_162, e138_165, e138_166, Option.bind_some, Option.toList_some, Option.toList_none, List.cons_append, List.nil_append, true_or, or_true, and_true, true_and, i10, Bool.false_eq_true, if_true, if_false, reduceIte, r4, r4z, not_false_eq_true, h4.trans (eq_false q)]
  obtain ⟨H4, g1, g2, g3⟩ := s3
  have z4 := CI_z g2
  have k14 := ca_n14 (d := d + 4) g2 b4
  refine ⟨H4, σ', r', e', len', w', m', CO_t a2 (CO_t b2 (CO_t c1 g1)), g2, b4, b5, s1.trans (c3.trans (g3.trans ?_))⟩
  simp only [e138_167, e138_168, e138_170, e138_173, Option.bind_some, Option.toList_some, Option.toList_none, List.cons_append, List.nil_append, true_or, or_true, and_true, true_and, i10, Bool.false_eq_true, if_true, if_false, reduceIte, z4, k14]
/-- what was refused or done is told by the history -/
theorem la_same (hC : CI H σ' r' e' len' true κ w m) (hW : WF σ' e' len' true κ) (h4 : len ≤ 4) (hc : CH σ r e len σ' r' e' len') {v12 : Option Value} : ∃ H1, CO H H1 ∧ CI H1 σ' r' e' len' true κ w m ∧ ev (d + 25) 138 175 [some (.float F), some (.ref 0), some (.int (1)), some (.long (lkv κ.1 κ.2)), none, some (.int (nI n)), some (.int (x)), some (.int (y)), some (.long (lkv σ r)), none, some (.int (nI len)), some (.int (nI len')), v12] [] H = ev (d + 25) 138 217 [some (.float F), some (.ref 0), some (.int (1)), some (.long (lkv κ.1 κ.2)), none, some (.int (nI n)), some (.int (x)), some (.int (y)), some (.long (lkv σ r)), none, some (.int (nI len)), some (.int (nI len')), v12] [] H1 := by
  have z0 := CI_z hC
  have h5 := hW.2.1
  have p1 : (nI len' = nI len) = (len' = len) := nI_eqp (by omega) (by omega)
  have p2 : (nI len = 4) = (len = 4) := nI_eqp (b := 4) (by omega) (by omega)
  have p3 : (nI len' = nI (len + 1)) = (len' = len + 1) := nI_eqp (by omega) (by omega)
  rcases hc with ⟨rfl, rfl, rfl, rfl⟩ | ⟨rfl, rfl⟩
  · by_cases q : len' = 4
    · refine ⟨H, CO_r, hC, ?_⟩
      simp only [e138_175, e138_176, e138_179, e138_181, e138_183, e138_186, e138_188, e138_189, e138_192, e138_193, e138_196, e138_198, e138_199, e138_202, e138_204, e138_206, e138_207, e138_208, e138_211, e138_212, e138_215, e138_216, Option.bind_some, Option.toList_some, Option.toList_none, List.cons_append, List.nil_append, true_or, or_true, and_true, true_and, i10, Bool.false_eq_true, if_true, if_false, reduceIte, p2.trans (eq_true q), eq_self]
    · obtain ⟨H1, a1, a2, a3⟩ := lw_look (d := d + 3) hC hW
      refine ⟨H1, a2, a3, ?_⟩
      simp only [e138_175, e138_176, e138_179, e138_181, e138_183, e138_186, e138_188, e138_189, e138_192, e138_193, e138_196, e138_198, e138_199, e138_202, e138_204, e138_206, e138_207, e138_208, e138_211, e138_212, e138_215, e138_216, Option.bind_some, Option.toList_some, Option.toList_none, List.cons_append, List.nil_append, true_or, or_true, and_true, true_and, i10, Bool.false_eq_true, if_true, if_false, reduceIte, p2.trans (eq_false q), a1, lg_self, eq_self]
  · by_cases q : len = 4
    · refine ⟨H, CO_r, hC, ?_⟩
      have e1 : hl len = len := by unfold hl; rw [if_neg (by omega), q]
      simp only [e138_175, e138_176, e138_179, e138_181, e138_183, e138_186, e138_188, e138_189, e138_192, e138_193, e138_196, e138_198, e138_199, e138_202, e138_204, e138_206, e138_207, e138_208, e138_211, e138_212, e138_215, e138_216, Option.bind_some, Option.toList_some, Option.toList_none, List.cons_append, List.nil_append, true_or, or_true, and_true, true_and, i10, Bool.false_eq_true, if_true, if_false, reduceIte, p1.trans (eq_true e1), p2.trans (eq_true q), eq_self]
    · refine ⟨H, CO_r, hC, ?_⟩
      have e1 : hl len = len + 1 := by unfold hl; rw [if_pos (by omega)]
      simp only [e138_175, e138_176, e138_179, e138_181, e138_183, e138_186, e138_188, e138_189, e138_192, e138_193, e138_196, e138_198, e138_199, e138_202, e138_204, e138_206, e138_207, e138_208, e138_211, e138_212, e138_215, e138_216, Option.bind_some, Option.toList_some, Option.toList_none, List.cons_append, List.nil_append, true_or, or_true, and_true, true_and, i10, Bool.false_eq_true, if_true, if_false, reduceIte, p1.trans (eq_false (show ¬ hl len = len by omega)), p3.trans (eq_true e1), nI_1]
/-- what is undone is as it was -/
theorem la_undo (hC : CI H σ' r' e' len' true κ w m) (hW : WF σ' e' len' true κ) (h4 : len ≤ 4) (hc : CH σ r e len σ' r' e' len') {v12 : Option Value} : ∃ H1 σ2 r2 e2 len2, CO H H1 ∧ CI H1 σ2 r2 e2 len2 true κ w m ∧ WF σ2 e2 len2 true κ ∧ ev (d + 25) 138 217 [some (.float F), some (.ref 0), some (.int (1)), some (.long (lkv κ.1 κ.2)), none, some (.int (nI n)), some (.int (x)), some (.int (y)), some (.long (lkv σ r)), none, some (.int (nI len)), some (.int (nI len')), v12] [] H = ev (d + 25) 138 267 [some (.float F), some (.ref 0), some (.int (1)), some (.long (lkv κ.1 κ.2)), none, some (.int (nI n)), some (.int (x)), some (.int (y)), some (.long (lkv σ r)), none, some (.int (nI len)), some (.int (nI len')), v12] [] H1 := by
  have z0 := CI_z hC
  have h5 := hW.2.1
  have p3 : (nI len' = nI (len + 1)) = (len' = len + 1) := nI_eqp (by omega) (by omega)
  have l8 := lw_low (d := d + 24) (H := H) (x := (y >>> (8 &&& 31))) (n := 3) (by omega) (by omega)
  rw [show nI 3 = 3 from rfl] at l8
  have p4 : (nI (lwv (y >>> (8 &&& 31)) 3) = 0) = (lwv (y >>> (8 &&& 31)) 3 = 0) := nI_eqp (b := 0) (by have := lwv_lt (v := (y >>> (8 &&& 31))) (n := 3) (by decide); omega) (by omega)
  by_cases q : len' = len + 1
  · by_cases q2 : lwv (y >>> (8 &&& 31)) 3 = 0
    · rcases hc with ⟨-, -, -, z⟩ | ⟨rfl, z⟩
      · omega
      · subst q
        have h3 : len < 4 := by omega
        obtain ⟨H1, a1, a2, a3⟩ := cd_undo (d := d + 4) hC h5
        rw [he_at h3] at a3
        have hW' : WF σ (he e len (σ, r)) len true κ := by
          have h6 := hW.2.2.1 len (by omega)
          rw [he_at h3] at h6
          exact ⟨h6, by omega, fun j hj => hW.2.2.1 j (by omega), hW.2.2.2⟩
        obtain ⟨H2, b1, b2, b3⟩ := lw_look (d := d + 3) a3 hW'
        have z1 := CI_z a3
        refine ⟨H2, _, _, _, _, CO_t a2 b2, b3, hW', ?_⟩
        simp only [e138_217, e138_218, e138_221, e138_223, e138_225, e138_226, e138_227, e138_230, e138_232, e138_234, e138_235, e138_236, e138_239, e138_242, e138_243, e138_246, e138_248, e138_251, e138_252, e138_255, e138_257, e138_258, e138_261, e138_262, e138_265, e138_266, Option.bind_some, Option.toList_some, Option.toList_none, List.cons_append, List.nil_append, true_or, or_true, and_true, true_and, i10, Bool.false_eq_true, if_true, if_false, reduceIte, p3.trans (eq_true rfl), nI_1, l8, p4.trans (eq_true q2), z0, a1, b1, lg_self, eq_self]
    · refine ⟨H, σ', r', e', len', CO_r, hC, hW, ?_⟩
      simp only [e138_217, e138_218, e138_221, e138_223, e138_225, e138_226, e138_227, e138_230, e138_232, e138_234, e138_235, e138_236, e138_239, e138_242, e138_243, e138_246, e138_248, e138_251, e138_252, e138_255, e138_257, e138_258, e138_261, e138_262, e138_265, e138_266, Option.bind_some, Option.toList_some, Option.toList_none, List.cons_append, List.nil_append, true_or, or_true, and_true, true_and, i10, Bool.false_eq_true, if_true, if_false, reduceIte, p3.trans (eq_true q), nI_1, l8, p4.trans (eq_false q2)]
  · refine ⟨H, σ', r', e', len', CO_r, hC, hW, ?_⟩
    simp only [e138_217, e138_218, e138_221, e138_223, e138_225, e138_226, e138_227, e138_230, e138_232, e138_234, e138_235, e138_236, e138_239, e138_242, e138_243, e138_246, e138_248, e138_251, e138_252, e138_255, e138_257, e138_258, e138_261, e138_262, e138_265, e138_266, Option.bind_some, Option.toList_some, Option.toList_none, List.cons_append, List.nil_append, true_or, or_true, and_true, true_and, i10, Bool.false_eq_true, if_true, if_false, reduceIte, p3.trans (eq_false q), nI_1]
/-- the snapshot comes back -/
theorem la_restore (hn : n < 54) (hC : CI H σ r e len true κ w m) (hW : WF σ e len true κ) {v6 v7 v8 v10 v11 v12 : Option Value} : ∃ H1 σ2 r2 e2 len2 κ2 v12', CO H H1 ∧ CI H1 σ2 r2 e2 len2 true κ2 w m ∧ WF σ2 e2 len2 true κ2 ∧ ev (d + 25) 138 267 [some (.float F), some (.ref 0), some (.int (1)), some (.long (lkv κ.1 κ.2)), none, some (.int (nI n)), v6, v7, v8, none, v10, v11, v12] [] H = ev (d + 25) 138 336 [some (.float F), some (.ref 0), some (.int (1)), some (.long (lkv κ2.1 κ2.2)), none, some (.int (nI n)), v6, v7, v8, none, v10, v11, v12'] [] H1 := by
  have z0 := CI_z hC
  have r15 : nI n - nI n / 15 * 15 = nI (n % 15) := by
    have := pk_rem (a := n) (d := 15) (by omega) (by decide) (by decide)
    rw [show nI 15 = 15 from rfl] at this
    exact this
  have r15z : ((15 : Int32) = 0) = False := by decide
  have h15 : (nI (n % 15) = 14) = (n % 15 = 14) := nI_eqp (b := 14) (by omega) (by omega)
  by_cases q : n % 15 = 14
  · obtain ⟨H1, a1, a2, a3⟩ := cd_restore (d := d + 4) hC hW
    have hwk := hW.2.2.2 rfl
    have hW1 := WF_ch (r := r) hW hwk
    have z1 := CI_z a3
    have f0 := ca_n0 (d := d + 4) a3 hW1
    obtain ⟨H2, b1, b2, b3⟩ := lw_look (d := d + 3) a3 hW1
    have z2 := CI_z b3
    obtain ⟨l, hl1⟩ : ∃ l, hl len = l + 1 := by
      unfold hl
      split
      · exact ⟨len, rfl⟩
      · exact ⟨3, rfl⟩
    have h4 := hW1.2.1
    rw [hl1] at b3 hW1 h4
    obtain ⟨H3, c1, c2, c3⟩ := cd_undo (d := d + 4) b3 h4
    have hW3 : WF (he e len (σ, r) l).1 (he e len (σ, r)) l true κ := ⟨hW1.2.2.1 l (by omega), by omega, fun j hj => hW1.2.2.1 j (by omega), hW1.2.2.2⟩
    have z3 := CI_z c3
    obtain ⟨H4, g1, g2, g3⟩ := cd_save (d := d + 4) c3 hW3
    have hW4 : WF (he e len (σ, r) l).1 (he e len (σ, r)) l true ((he e len (σ, r) l).1, (he e len (σ, r) l).2) := ⟨hW3.1, hW3.2.1, hW3.2.2.1, fun _ => hW3.1⟩
    have z4 := CI_z g3
    have k0 := ca_n0 (d := d + 4) g3 hW4
    obtain ⟨H5, i1, i2, i3⟩ := lw_look (d := d + 3) g3 hW4
    have p1 : (nI l < 0) = False := eq_false (nI_pos (by omega))
    refine ⟨H5, _, _, _, _, _, some (.int (nI κ.1.1)), CO_t a2 (CO_t b2 (CO_t c2 (CO_t g2 i2))), i3, hW4, ?_⟩
    simp only [e138_267, e138_268, e138_271, e138_273, e138_275, e138_276, e138_278, e138_281, e138_282, e138_285, e138_287, e138_289, e138_290, e138_291, e138_294, e138_297, e138_298, e138_301, e138_302, e138_303, e138_306, e138_307, e138_310, e138_313, e138_314, e138_317, e138_318, e138_319, e138_322, e138_325, e138_326, e138_329, e138_330, e138_331, e138_332, e138_335, Option.bind_some, Option.toList_some, Option.toList_none, List.cons_append, List.nil_append, true_or, or_true, and_true, true_and, i10, Bool.false_eq_true, if_true, if_false, reduceIte, r15, r15z, not_false_eq_true, h15.trans (eq_true q), z0, z1, z2, z3, z4, a1, f0, b1, lg_self, c1, p1, g1, k0, i1, eq_self]
  · refine ⟨H, σ, r, e, len, κ, v12, CO_r, hC, hW, ?_⟩
    simp only [e138_267, e138_268, e138_271, e138_273, e138_275, e138_276, e138_278, e138_281, e138_282, e138_285, e138_287, e138_289, e138_290, e138_291, e138_294, e138_297, e138_298, e138_301, e138_302, e138_303, e138_306, e138_307, e138_310, e138_313, e138_314, e138_317, e138_318, e138_319, e138_322, e138_325, e138_326, e138_329, e138_330, e138_331, e138_332, e138_335, Option.bind_some, Option.toList_some, Option.toList_none, List.cons_append, List.nil_append, true_or, or_true, and_true, true_and, i10, Bool.false_eq_true, if_true, if_false, reduceIte, r15, r15z, not_false_eq_true, h15.trans (eq_false q)]
/-- one more step back -/
theorem la_back (hn : n < 54) (hC : CI H σ r e len true κ w m) (hW : WF σ e len true κ) {v6 v7 v8 v10 v11 v12 : Option Value} : ∃ H1 σ2 r2 e2 len2 v12', CO H H1 ∧ CI H1 σ2 r2 e2 len2 true κ w m ∧ WF σ2 e2 len2 true κ ∧ ev (d + 25) 138 336 [some (.float F), some (.ref 0), some (.int (1)), some (.long (lkv κ.1 κ.2)), none, some (.int (nI n)), v6, v7, v8, none, v10, v11, v12] [] H = ev (d + 25) 138 385 [some (.float F), some (.ref 0), some (.int (1)), some (.long (lkv κ.1 κ.2)), none, some (.int (nI n)), v6, v7, v8, none, v10, v11, v12'] [] H1 := by
  have z0 := CI_z hC
  have r11 : nI n - nI n / 11 * 11 = nI (n % 11) := by
    have := pk_rem (a := n) (d := 11) (by omega) (by decide) (by decide)
    rw [show nI 11 = 11 from rfl] at this
    exact this
  have r11z : ((11 : Int32) = 0) = False := by decide
  have h11 : (nI (n % 11) = 10) = (n % 11 = 10) := nI_eqp (b := 10) (by omega) (by omega)
  by_cases q : n % 11 = 10
  · have f14 := ca_n14 (d := d + 4) hC hW
    cases len with
    | zero =>
      have a1 := cd_undo0 (d := d + 4) hC
      rw [show nI 0 = 0 from rfl] at f14
      refine ⟨H, σ, r, e, 0, some (.int (0)), CO_r, hC, hW, ?_⟩
      simp only [e138_336, e138_337, e138_340, e138_342, e138_344, e138_345, e138_347, e138_350, e138_351, e138_353, e138_356, e138_358, e138_359, e138_362, e138_364, e138_367, e138_369, e138_372, e138_374, e138_375, e138_376, e138_379, e138_380, e138_383, e138_384, Option.bind_some, Option.toList_some, Option.toList_none, List.cons_append, List.nil_append, true_or, or_true, and_true, true_and, i10, Bool.false_eq_true, if_true, if_false, reduceIte, r11, r11z, not_false_eq_true, h11.trans (eq_true q), z0, f14, a1, eq_self]
    | succ l =>
      have h4 := hW.2.1
      obtain ⟨H1, a1, a2, a3⟩ := cd_undo (d := d + 4) hC h4
      have hW1 : WF (e l).1 e l true κ := ⟨hW.2.2.1 l (by omega), by omega, fun j hj => hW.2.2.1 j (by omega), hW.2.2.2⟩
      have p1 : (nI (l + 1) = 0) = False := (nI_eqp (b := 0) (by omega) (by omega)).trans (eq_false (by omega))
      refine ⟨H1, _, _, _, _, some (.int (nI (l + 1))), a2, a3, hW1, ?_⟩
      simp only [e138_336, e138_337, e138_340, e138_342, e138_344, e138_345, e138_347, e138_350, e138_351, e138_353, e138_356, e138_358, e138_359, e138_362, e138_364, e138_367, e138_369, e138_372, e138_374, e138_375, e138_376, e138_379, e138_380, e138_383, e138_384, Option.bind_some, Option.toList_some, Option.toList_none, List.cons_append, List.nil_append, true_or, or_true, and_true, true_and, i10, Bool.false_eq_true, if_true, if_false, reduceIte, r11, r11z, not_false_eq_true, h11.trans (eq_true q), z0, f14, a1, p1, nI_pred, eq_self]
  · refine ⟨H, σ, r, e, len, v12, CO_r, hC, hW, ?_⟩
    simp only [e138_336, e138_337, e138_340, e138_342, e138_344, e138_345, e138_347, e138_350, e138_351, e138_353, e138_356, e138_358, e138_359, e138_362, e138_364, e138_367, e138_369, e138_372, e138_374, e138_375, e138_376, e138_379, e138_380, e138_383, e138_384, Option.bind_some, Option.toList_some, Option.toList_none, List.cons_append, List.nil_append, true_or, or_true, and_true, true_and, i10, Bool.false_eq_true, if_true, if_false, reduceIte, r11, r11z, not_false_eq_true, h11.trans (eq_false q)]
/-- the law's rounds -/
theorem la_loop (h1 : L ≤ 260) : ∀ (f n : Nat) (H : zH) (σ : mS) (r : Int32) (e : Nat → mS × Int32) (len : Nat) (κ : mS × Int32) (w : Nat → Nat) (m : Nat) (v6 v7 v8 v10 v11 v12 : Option Value), n + f = 54 → H.2.2.2.1 = L → CI H σ r e len true κ w m → WF σ e len true κ → ∃ H1, sme H H1 ∧ ev (d + 25) 138 62 [some (.float F), some (.ref 0), some (.int (1)), some (.long (lkv κ.1 κ.2)), none, some (.int (nI n)), v6, v7, v8, none, v10, v11, v12] [] H = some (some (.int 1), H1) := by
  intro f
  induction f with
  | zero =>
    intro n H σ r e len κ w m v6 v7 v8 v10 v11 v12 hn hL hC hW
    have : n = 54 := by omega
    subst this
    have z0 := CI_z hC
    obtain ⟨H1, a1, a2, a3⟩ := lw_holds (d := d + 2) hC hW
    refine ⟨H1, a2.1, ?_⟩
    simp only [e138_62, e138_64, e138_66, e138_391, e138_392, e138_395, e138_396, e138_399, e138_402, e138_403, e138_406, e138_407 (Or.inr rfl), Option.bind_some, Option.toList_some, Option.toList_none, List.cons_append, List.nil_append, true_or, or_true, and_true, true_and, i10, Bool.false_eq_true, if_true, if_false, reduceIte, show ((54 : Int32) ≤ nI 54) = True by decide, a1]
  | succ f ih =>
    intro n H σ r e len κ w m v6 v7 v8 v10 v11 v12 hn hL hC hW
    obtain ⟨x, y, s1⟩ := la_lot (d := d) (F := F) (κ := κ) (n := n) hL h1 (by omega) (is := 1) rfl (v6 := v6) (v7 := v7) (v8 := v8) (v10 := v10) (v11 := v11) (v12 := v12)
    obtain ⟨H2, σ', r', e', len', w', m', a1, a2, a3, a4, s2⟩ := la_act (d := d) (F := F) (n := n) (x := x) (y := y) (by omega) hC hW (v8 := v8) (v10 := v10) (v11 := v11) (v12 := v12)
    obtain ⟨H3, b1, b2, s3⟩ := la_same (d := d) (F := F) (n := n) (x := x) (y := y) a2 a3 hW.2.1 a4 (v12 := v12)
    obtain ⟨H4, σ2, r2, e2, len2, c1, c2, c3, s4⟩ := la_undo (d := d) (F := F) (n := n) (x := x) (y := y) b2 a3 hW.2.1 a4 (v12 := v12)
    obtain ⟨H5, σ3, r3, e3, len3, κ3, v12', g1, g2, g3, s5⟩ := la_restore (d := d) (F := F) (n := n) (by omega) c2 c3 (v6 := some (.int (x))) (v7 := some (.int (y))) (v8 := some (.long (lkv σ r))) (v10 := some (.int (nI len))) (v11 := some (.int (nI len'))) (v12 := v12)
    obtain ⟨H6, σ4, r4, e4, len4, v12'', i1, i2, i3, s6⟩ := la_back (d := d) (F := F) (n := n) (by omega) g2 g3 (v6 := some (.int (x))) (v7 := some (.int (y))) (v8 := some (.long (lkv σ r))) (v10 := some (.int (nI len))) (v11 := some (.int (nI len'))) (v12 := v12')
    have hs : sme H H6 := (CO_t a1 (CO_t b1 (CO_t c1 (CO_t g1 i1)))).1
    obtain ⟨H7, j1, j2⟩ := ih (n + 1) H6 σ4 r4 e4 len4 κ3 w' m' (some (.int (x))) (some (.int (y))) (some (.long (lkv σ r))) (some (.int (nI len))) (some (.int (nI len'))) v12'' (by omega) (by rw [hs.2.2]; exact hL) i2 i3
    refine ⟨H7, sme_t hs j1, ?_⟩
    refine s1.trans (s2.trans (s3.trans (s4.trans (s5.trans (s6.trans (Eq.trans ?_ j2))))))
    simp only [e138_385, e138_388, nI_1]
/-- the law on a script -/
theorem law_run {xs : Nat → Int32} (hL : L ≤ 260) : ∃ H', ev 60 138 0 [some (.float F), none, none, none, none, none, none, none, none, none, none, none, none] [] ((0, 0, fun _ => zvoid, L, xs) : zH) = some (some (.int 1), H') ∧ H'.1 = 71 ∧ H'.2.1 ≤ 7302250 := by
  have z7 := zis_push (h := ((0, 0, fun _ => zvoid, L, xs) : zH)) (ci := 7) (n := (zblank 7).length) (fs := zblank 7)
  obtain ⟨G, g0, g1, g2, g3, a0, a1, a8, a15, a22, a52, a54, a62, a64, a68⟩ := i_sx (d := 56) (A := zpush ((0, 0, fun _ => zvoid, L, xs) : zH) (zblank 7).length (.inr (.inr (7, zblank 7)))) rfl (by
    show (if (0 : Nat) = 0 then (Sum.inr (Sum.inr (7, zblank 7)) : zC) else zvoid) = _
    exact if_pos rfl)
  have g0' : ev 59 97 0 [some (.ref 0)] [] (zpush ((0, 0, fun _ => zvoid, L, xs) : zH) (zblank 7).length (.inr (.inr (7, zblank 7)))) = some (none, G) := g0
  have s0R : stR S0 ((0, fun _ _ => 0) : mS) := ⟨rfl, fun c hc => absurd hc (Nat.not_lt_zero c)⟩
  have hhs : hsI G (fun _ => (((0, fun _ _ => 0) : mS), 0)) 0 := by
    have p2 := at_app (a := hsL 22 (hP 22 4) (nI 0)) (b := sk 24 4) a22
    refine ⟨by decide, hP 22 4, fun j => j, p2.1, fun j hj => ⟨hj, if_pos hj⟩, fun j q _ _ h => h, fun j hj => ⟨S0, ?_, fun h => absurd h (Nat.not_lt_zero j)⟩⟩
    have p3 : at_ G 24 (sk 24 4) := p2.2
    have q4 := at_app (a := sk 24 3) (b := stL (24 + 7 * 3) S0) p3
    have q3 := at_app (a := sk 24 2) (b := stL (24 + 7 * 2) S0) q4.1
    have q2 := at_app (a := sk 24 1) (b := stL (24 + 7 * 1) S0) q3.1
    have q1 := at_app (a := sk 24 0) (b := stL (24 + 7 * 0) S0) q2.1
    have h4 : j = 0 ∨ j = 1 ∨ j = 2 ∨ j = 3 := by omega
    rcases h4 with y | y | y | y <;> subst y
    · exact q1.2
    · exact q2.2
    · exact q3.2
    · exact q4.2
  have hrd := at_app (a := rdL 54 R0) (b := stL 55 S0) a54
  have hC : CI G ((0, fun _ _ => 0) : mS) 0 (fun _ => (((0, fun _ _ => 0) : mS), 0)) 0 false (((0, fun _ _ => 0) : mS), 0) (fun _ => 0) 0 := ⟨⟨S0, a0, rfl⟩, ⟨S0, a1, s0R, rfl⟩, ⟨S0, a8⟩, ⟨S0, a15, fun h => absurd h (by decide)⟩, hhs, ⟨S0, a52, rfl, Nat.zero_le _, fun j hj => absurd hj (Nat.not_lt_zero j)⟩, ⟨R0, hrd.1⟩, ⟨S0, hrd.2⟩, ⟨S0, a62⟩, ⟨S0, a64⟩, ⟨S0, a68⟩⟩
  have hW : WF ((0, fun _ _ => 0) : mS) (fun _ => (((0, fun _ _ => 0) : mS), 0)) 0 false (((0, fun _ _ => 0) : mS), 0) := ⟨⟨Nat.zero_le _, fun c hc => absurd hc (Nat.not_lt_zero c)⟩, Nat.zero_le _, fun j hj => absurd hj (Nat.not_lt_zero j), fun h => absurd h (by decide)⟩
  obtain ⟨H1, h1, h2, h3⟩ := lw_holds (d := 37) hC hW
  obtain ⟨H2, i1, i2, i3⟩ := lw_would (d := 37) (x := 0) h3 hW
  have z2 := CI_z i3
  have u0 := cd_undo0 (d := 39) i3
  have r0 := cd_restore0 (d := 39) i3
  obtain ⟨H3, b1, b2, b3⟩ := cd_save (d := 39) i3 hW
  have hW3 : WF ((0, fun _ _ => 0) : mS) (fun _ => (((0, fun _ _ => 0) : mS), 0)) 0 true (((0, fun _ _ => 0) : mS), 0) := ⟨hW.1, hW.2.1, hW.2.2.1, fun _ => hW.1⟩
  obtain ⟨H4, c1, c2, c3⟩ := lw_look (d := 38) b3 hW3
  have hs : sme G H4 := (CO_t h2 (CO_t i2 (CO_t b2 c2))).1
  obtain ⟨H5, j1, j2⟩ := la_loop (d := 35) (F := F) hL 54 0 H4 _ _ _ _ _ _ _ none none none none none none (by omega) (by rw [hs.2.2, g3]; rfl) c3 hW3
  have hA : (zpush ((0, 0, fun _ => zvoid, L, xs) : zH) (zblank 7).length (.inr (.inr (7, zblank 7)))).2.1 = 0 + (zblank 7).length := rfl
  have l7 : (zblank 7).length = 10 := by rw [zb_7]; rfl
  have h1' : ev 59 130 0 [some (.ref 0), none, none, none, none, none, none, none, none, none, none, none, none, none] [] G = some (some (.int 1), H1) := h1
  have i1' : ev 59 132 0 [some (.ref 0), some (.int 0), none, none, none, none, none, none, none, none, none, none, none, none, none, none, none] [] H1 = some (some (.int 1), H2) := i1
  have u0' : ev 59 118 0 [some (.ref 0)] [] H2 = some (some (.int (-2)), H2) := u0
  have r0' : ev 59 120 0 [some (.ref 0)] [] H2 = some (some (.int (-2)), H2) := r0
  have b1' : ev 59 119 0 [some (.ref 0)] [] H2 = some (some (.int 0), H3) := b1
  have c1' : ev 59 129 0 [some (.ref 0), none, none, none, none] [] H3 = some (some (.long (lkv ((0, fun _ _ => 0) : mS) 0)), H4) := c1
  refine ⟨H5, ?_, ?_, ?_⟩
  · have z7' : zis (zpush ((0, 0, fun _ => zvoid, L, xs) : zH) (zblank 7).length (.inr (.inr (7, zblank 7)))) 0 7 = true := z7
    have e0 : (((0, 0, fun _ => zvoid, L, xs) : zH)).1 = 0 := rfl
    simp only [e138_0, e138_3, e138_4, e138_7, e138_8, e138_9, e138_12, e138_15, e138_16, e138_17, e138_20, e138_23, e138_24, e138_27, e138_29, e138_32, e138_33, e138_36, e138_38, e138_41, e138_42, e138_45, e138_48, e138_49, e138_52, e138_53, e138_54, e138_55, e138_58, e138_59, e138_60, Option.bind_some, Option.toList_some, Option.toList_none, List.cons_append, List.nil_append, true_or, or_true, and_true, true_and, i10, Bool.false_eq_true, if_true, if_false, reduceIte, e0, z7', g0', h1', i1', z2, u0', r0', b1', c1', eq_self]
    exact j2
  · rw [j1.1, hs.1]
    exact g1
  · rw [j1.2.1, hs.2.1, g2, hA, l7]
    omega
end LAWL
