/-! A STOCK COPIED; A CRATE TAKEN OUT -/
def cp (S V : oS) (r : Nat) : oS := setR S r (va_cpy (V.1 r) (S.1 r) 0 0 12)
def cpS (S V : oS) : oS := setI (setI (cp (cp (cp (cp (cp (cp S V 0) V 1) V 2) V 3) V 4) V 5) 0 (V.2 0)) 1 (V.2 1)
theorem cl0 : Int32.toNatClampNeg 0 = 0 := by decide
theorem cl12 : Int32.toNatClampNeg 12 = 12 := by decide
theorem va_cpy_in {f g : Nat → Int32} {a : Nat} (ha : a < 12) : va_cpy f g 0 0 12 a = f a := by
  unfold va_cpy
  rw [if_pos (by omega)]
  congr 1
  omega
theorem st_c0 {h : zH} {v i : Nat} {V S : oS} (hd : v + 7 ≤ i ∨ i + 7 ≤ v) : zcopy (hst (hst h v V) i S) (v + 1) 0 (i + 1) 0 12 = some (hst (hst h v V) i (cp S V 0)) := by
  unfold zcopy
  rw [show zg (hst (hst h v V) i S) (v + 1) = .inl (0, 12, V.1 0) from (hrg_out (by rw [st_len]; omega)).trans (hrg_get (k := 1) rfl), show zg (hst (hst h v V) i S) (i + 1) = .inl (0, 12, S.1 0) from hrg_get (k := 1) rfl]
  simp only [cl0, cl12]
  rw [if_pos (by decide)]
  exact congrArg some (hrg_set (k := 1) (by rw [st_len]; omega))
theorem st_c1 {h : zH} {v i : Nat} {V S : oS} (hd : v + 7 ≤ i ∨ i + 7 ≤ v) : zcopy (hst (hst h v V) i S) (v + 2) 0 (i + 2) 0 12 = some (hst (hst h v V) i (cp S V 1)) := by
  unfold zcopy
  rw [show zg (hst (hst h v V) i S) (v + 2) = .inl (0, 12, V.1 1) from (hrg_out (by rw [st_len]; omega)).trans (hrg_get (k := 2) rfl), show zg (hst (hst h v V) i S) (i + 2) = .inl (0, 12, S.1 1) from hrg_get (k := 2) rfl]
  simp only [cl0, cl12]
  rw [if_pos (by decide)]
  exact congrArg some (hrg_set (k := 2) (by rw [st_len]; omega))
theorem st_c2 {h : zH} {v i : Nat} {V S : oS} (hd : v + 7 ≤ i ∨ i + 7 ≤ v) : zcopy (hst (hst h v V) i S) (v + 3) 0 (i + 3) 0 12 = some (hst (hst h v V) i (cp S V 2)) := by
  unfold zcopy
  rw [show zg (hst (hst h v V) i S) (v + 3) = .inl (0, 12, V.1 2) from (hrg_out (by rw [st_len]; omega)).trans (hrg_get (k := 3) rfl), show zg (hst (hst h v V) i S) (i + 3) = .inl (0, 12, S.1 2) from hrg_get (k := 3) rfl]
  simp only [cl0, cl12]
  rw [if_pos (by decide)]
  exact congrArg some (hrg_set (k := 3) (by rw [st_len]; omega))
theorem st_c3 {h : zH} {v i : Nat} {V S : oS} (hd : v + 7 ≤ i ∨ i + 7 ≤ v) : zcopy (hst (hst h v V) i S) (v + 4) 0 (i + 4) 0 12 = some (hst (hst h v V) i (cp S V 3)) := by
  unfold zcopy
  rw [show zg (hst (hst h v V) i S) (v + 4) = .inl (0, 12, V.1 3) from (hrg_out (by rw [st_len]; omega)).trans (hrg_get (k := 4) rfl), show zg (hst (hst h v V) i S) (i + 4) = .inl (0, 12, S.1 3) from hrg_get (k := 4) rfl]
  simp only [cl0, cl12]
  rw [if_pos (by decide)]
  exact congrArg some (hrg_set (k := 4) (by rw [st_len]; omega))
theorem st_c4 {h : zH} {v i : Nat} {V S : oS} (hd : v + 7 ≤ i ∨ i + 7 ≤ v) : zcopy (hst (hst h v V) i S) (v + 5) 0 (i + 5) 0 12 = some (hst (hst h v V) i (cp S V 4)) := by
  unfold zcopy
  rw [show zg (hst (hst h v V) i S) (v + 5) = .inl (0, 12, V.1 4) from (hrg_out (by rw [st_len]; omega)).trans (hrg_get (k := 5) rfl), show zg (hst (hst h v V) i S) (i + 5) = .inl (0, 12, S.1 4) from hrg_get (k := 5) rfl]
  simp only [cl0, cl12]
  rw [if_pos (by decide)]
  exact congrArg some (hrg_set (k := 5) (by rw [st_len]; omega))
theorem st_c5 {h : zH} {v i : Nat} {V S : oS} (hd : v + 7 ≤ i ∨ i + 7 ≤ v) : zcopy (hst (hst h v V) i S) (v + 6) 0 (i + 6) 0 12 = some (hst (hst h v V) i (cp S V 5)) := by
  unfold zcopy
  rw [show zg (hst (hst h v V) i S) (v + 6) = .inl (0, 12, V.1 5) from (hrg_out (by rw [st_len]; omega)).trans (hrg_get (k := 6) rfl), show zg (hst (hst h v V) i S) (i + 6) = .inl (0, 12, S.1 5) from hrg_get (k := 6) rfl]
  simp only [cl0, cl12]
  rw [if_pos (by decide)]
  exact congrArg some (hrg_set (k := 6) (by rw [st_len]; omega))
theorem cpS_row {S V : oS} {r a : Nat} (hr : r < 6) (ha : a < 12) : (cpS S V).1 r a = V.1 r a := by
  have h6 : r = 0 ∨ r = 1 ∨ r = 2 ∨ r = 3 ∨ r = 4 ∨ r = 5 := by omega
  rcases h6 with q | q | q | q | q | q <;> subst q <;> simp [cpS, cp, setI, setR, va_cpy_in ha]
theorem cpS_0 {S V : oS} : (cpS S V).2 0 = V.2 0 := by simp [cpS, setI]
theorem cpS_1 {S V : oS} : (cpS S V).2 1 = V.2 1 := by simp [cpS, setI]
theorem stR_cp {S V : oS} {σ : mS} (hR : stR V σ) (hn : σ.1 ≤ 12) : stR (cpS S V) σ := by
  refine ⟨cpS_0.trans hR.1, fun a ha => ?_⟩
  have h12 : a < 12 := by omega
  rw [cpS_row (by omega) h12, cpS_row (by omega) h12, cpS_row (by omega) h12, cpS_row (by omega) h12, cpS_row (by omega) h12, cpS_row (by omega) h12]
  exact hR.2 a ha
/-- a crate taken out -/
def shf (c a : Nat) : Nat := if a < c then a else a + 1
def lrm (σ : mS) (c : Nat) : mS := (σ.1 - 1, fun a b => if b = 7 then (if σ.2 (shf c a) 7 ≤ c + 1 then σ.2 (shf c a) 7 else σ.2 (shf c a) 7 - 1) else σ.2 (shf c a) b)
theorem hI_le {u k : Nat} (hu : u < 2147483648) (hk : k < 2147483648) : (hI u ≤ nI k) = (u ≤ k + 1) := by
  cases u with
  | zero =>
    rw [hI_0]
    refine propext ⟨fun _ => by omega, fun _ => ?_⟩
    rw [show (-1 : Int32) = iI (-1) by decide, iI_nat, iI_le (by omega) (by omega)]
    omega
  | succ j =>
    rw [hI_s, nI_lep (by omega) hk]
    exact propext ⟨fun _ => by omega, fun _ => by omega⟩
section CHANGE2
variable {d : Nat} {h : zH} {v i : Nat} {V S M : oS} {σ τ : mS} {c : Nat}
theorem s_copyFrom (hd : v + 7 ≤ i ∨ i + 7 ≤ v) : ev d 80 0 [some (.ref i), some (.ref v)] [] (hst (hst h v V) i S) = some (none, hst (hst h v V) i (cpS S V)) := by
  simp only [e80_0, e80_1, e80_4, e80_5, e80_6, e80_9, e80_10, e80_12, e80_15, e80_16, e80_19, e80_20, e80_21, e80_24, e80_25, e80_27, e80_30, e80_31, e80_34, e80_35, e80_36, e80_39, e80_40, e80_42, e80_45, e80_46, e80_49, e80_50, e80_51, e80_54, e80_55, e80_57, e80_60, e80_61, e80_64, e80_65, e80_66, e80_69, e80_70, e80_72, e80_75, e80_76, e80_79, e80_80, e80_81, e80_84, e80_85, e80_87, e80_90, e80_91, e80_92, e80_95, e80_98, e80_99, e80_100, e80_103, e80_106, st_g0, st_g1, st_g2, st_g3, st_g4, st_g5, st_g6, st_g7, st_p6, st_p7, st_l0, st_l1, st_l2, st_l3, st_l4, st_l5, st_s0, st_s1, st_s2, st_s3, st_s4, st_s5, st_is, st_is_st hd, st_g0_st hd, st_g1_st hd, st_g2_st hd, st_g3_st hd, st_g4_st hd, st_g5_st hd, st_g6_st hd, st_p6_st hd, st_g7_st hd, st_p7_st hd, st_l0_st hd, st_s0_st hd, st_l1_st hd, st_s1_st hd, st_l2_st hd, st_s2_st hd, st_l3_st hd, st_s3_st hd, st_l4_st hd, st_s4_st hd, st_l5_st hd, st_s5_st hd, Option.bind_some, Option.toList_some, Option.toList_none, List.cons_append, List.nil_append, true_or, or_true, and_true, true_and, i10, Bool.false_eq_true, if_true, if_false, reduceIte, st_c0 hd, st_c1 hd, st_c2 hd, st_c3 hd, st_c4 hd, st_c5 hd]
  rfl
def rmI (S : oS) (n c k : Nat) (W : oS) : Prop := W.2 = S.2 ∧ ∀ a, a < n → ∀ r, r < 6 → W.1 r a = if c ≤ a ∧ a < k then S.1 r (a + 1) else S.1 r a
theorem s_remove1 (h0 : S.2 0 = nI σ.1) (hn : σ.1 ≤ 12) : ∀ (f k : Nat) (W : oS), k + 1 + f = σ.1 → c ≤ k → rmI S σ.1 c k W → ∃ W', rmI S σ.1 c (σ.1 - 1) W' ∧ ev d 72 11 [some (.ref i), some (.int (nI c)), some (.int (nI k))] [] (hst h i W) = ev d 72 111 [some (.ref i), some (.int (nI c)), some (.int (nI (σ.1 - 1)))] [] (hst h i W') := by
  intro f
  induction f with
  | zero =>
    intro k W hk hc hW
    have hk : k = σ.1 - 1 := by omega
    have h1 : W.2 0 = nI σ.1 := by rw [hW.1]; exact h0
    subst hk
    refine ⟨W, hW, ?_⟩
    have e1 : (nI σ.1 ≤ nI (σ.1 - 1 + 1)) = True := (nI_lep (by omega) (by omega)).trans (eq_true (by omega))
    rw [e72_11]
    simp only [e72_0, e72_1, e72_2, e72_5, e72_8, e72_9, e72_10, e72_12, e72_13, e72_14, e72_15, e72_18, e72_21, e72_22, e72_25, e72_26, e72_27, e72_30, e72_31, e72_32, e72_33, e72_34, e72_35, e72_36, e72_39, e72_40, e72_41, e72_44, e72_45, e72_46, e72_47, e72_48, e72_49, e72_50, e72_53, e72_54, e72_55, e72_58, e72_59, e72_60, e72_61, e72_62, e72_63, e72_64, e72_67, e72_68, e72_69, e72_72, e72_73, e72_74, e72_75, e72_76, e72_77, e72_78, e72_81, e72_82, e72_83, e72_86, e72_87, e72_88, e72_89, e72_90, e72_91, e72_92, e72_95, e72_96, e72_97, e72_100, e72_101, e72_102, e72_103, e72_104, e72_105, e72_108, e72_112, e72_113, e72_116, e72_117, e72_118, e72_121, e72_122, e72_123, e72_124, e72_125, e72_128, e72_131, e72_132, e72_135, e72_136, e72_137, e72_138, e72_141, e72_142, e72_145, e72_146, e72_147, e72_148, e72_149, e72_150, e72_151, e72_154, e72_157, st_g0, st_g1, st_g2, st_g3, st_g4, st_g5, st_g6, st_g7, st_p6, st_p7, st_l0, st_l1, st_l2, st_l3, st_l4, st_l5, st_s0, st_s1, st_s2, st_s3, st_s4, st_s5, st_is, Option.bind_some, Option.toList_some, Option.toList_none, List.cons_append, List.nil_append, true_or, or_true, and_true, true_and, i10, Bool.false_eq_true, if_true, if_false, reduceIte, h1, nI_1, e1]
  | succ f ih =>
    intro k W hk hc hW
    have h1 : W.2 0 = nI σ.1 := by rw [hW.1]; exact h0
    have e1 : (nI σ.1 ≤ nI (k + 1)) = False := (nI_lep (by omega) (by omega)).trans (eq_false (by omega))
    obtain ⟨W', g1, g2⟩ := ih (k + 1) (setR (setR (setR (setR (setR (setR W 0 (upd (W.1 0) k (W.1 0 (k + 1)))) 1 (upd (W.1 1) k (W.1 1 (k + 1)))) 2 (upd (W.1 2) k (W.1 2 (k + 1)))) 3 (upd (W.1 3) k (W.1 3 (k + 1)))) 4 (upd (W.1 4) k (W.1 4 (k + 1)))) 5 (upd (W.1 5) k (W.1 5 (k + 1)))) (by omega) (by omega) ⟨hW.1, fun a ha r hr => by
      have h6 : r = 0 ∨ r = 1 ∨ r = 2 ∨ r = 3 ∨ r = 4 ∨ r = 5 := by omega
      have main : (if a = k then W.1 r (k + 1) else W.1 r a) = if c ≤ a ∧ a < k + 1 then S.1 r (a + 1) else S.1 r a := by
        by_cases q : a = k
        · subst q
          rw [if_pos rfl, hW.2 (a + 1) (by omega) r hr, if_neg (by omega), if_pos (by omega)]
        · rw [if_neg q, hW.2 a ha r hr]
          by_cases w : c ≤ a ∧ a < k
          · rw [if_pos w, if_pos (by omega)]
          · rw [if_neg w, if_neg (by omega)]
      rw [← main]
      rcases h6 with q | q | q | q | q | q <;> subst q <;> simp [setR, upd]⟩
    refine ⟨W', g1, ?_⟩
    rw [e72_11]
    simp only [e72_0, e72_1, e72_2, e72_5, e72_8, e72_9, e72_10, e72_12, e72_13, e72_14, e72_15, e72_18, e72_21, e72_22, e72_25, e72_26, e72_27, e72_30, e72_31, e72_32, e72_33, e72_34, e72_35, e72_36, e72_39, e72_40, e72_41, e72_44, e72_45, e72_46, e72_47, e72_48, e72_49, e72_50, e72_53, e72_54, e72_55, e72_58, e72_59, e72_60, e72_61, e72_62, e72_63, e72_64, e72_67, e72_68, e72_69, e72_72, e72_73, e72_74, e72_75, e72_76, e72_77, e72_78, e72_81, e72_82, e72_83, e72_86, e72_87, e72_88, e72_89, e72_90, e72_91, e72_92, e72_95, e72_96, e72_97, e72_100, e72_101, e72_102, e72_103, e72_104, e72_105, e72_108, e72_112, e72_113, e72_116, e72_117, e72_118, e72_121, e72_122, e72_123, e72_124, e72_125, e72_128, e72_131, e72_132, e72_135, e72_136, e72_137, e72_138, e72_141, e72_142, e72_145, e72_146, e72_147, e72_148, e72_149, e72_150, e72_151, e72_154, e72_157, st_g0, st_g1, st_g2, st_g3, st_g4, st_g5, st_g6, st_g7, st_p6, st_p7, st_l0, st_l1, st_l2, st_l3, st_l4, st_l5, st_s0, st_s1, st_s2, st_s3, st_s4, st_s5, st_is, Option.bind_some, Option.toList_some, Option.toList_none, List.cons_append, List.nil_append, true_or, or_true, and_true, true_and, i10, Bool.false_eq_true, if_true, if_false, reduceIte, h1, nI_1, e1, zrd_nI (show k + 1 < 12 by omega) (show 12 < 2147483648 by omega), zin_T (show k < 12 by omega) (by decide), nI_clamp (show k < 2 ^ 31 by omega)]
    exact g2
def rmJ (S : oS) (σ : mS) (c k : Nat) (W : oS) : Prop := W.2 0 = nI (σ.1 - 1) ∧ W.2 1 = S.2 1 ∧ ∀ a, a < σ.1 - 1 → W.1 0 a = nI (σ.2 (shf c a) 0) ∧ W.1 1 a = nI (σ.2 (shf c a) 1) ∧ W.1 2 a = nI (σ.2 (shf c a) 2) ∧ W.1 3 a = nI (lbl (σ.2 (shf c a))) ∧ W.1 4 a = hI (if a < k then (lrm σ c).2 a 7 else σ.2 (shf c a) 7) ∧ W.1 5 a = nI (σ.2 (shf c a) 8)
theorem s_remove2 (hb : bnd σ) (hc : c < σ.1) : ∀ (f k : Nat) (W : oS), k + f = σ.1 - 1 → rmJ S σ c k W → ∃ W', rmJ S σ c (σ.1 - 1) W' ∧ ev d 72 123 [some (.ref i), some (.int (nI c)), some (.int (nI k))] [] (hst h i W) = some (none, hst h i W') := by
  have hn := hb.1
  intro f
  induction f with
  | zero =>
    intro k W hk hW
    have hk : k = σ.1 - 1 := by omega
    subst hk
    refine ⟨W, hW, ?_⟩
    rw [e72_123]
    simp only [e72_0, e72_1, e72_2, e72_5, e72_8, e72_9, e72_10, e72_12, e72_13, e72_14, e72_15, e72_18, e72_21, e72_22, e72_25, e72_26, e72_27, e72_30, e72_31, e72_32, e72_33, e72_34, e72_35, e72_36, e72_39, e72_40, e72_41, e72_44, e72_45, e72_46, e72_47, e72_48, e72_49, e72_50, e72_53, e72_54, e72_55, e72_58, e72_59, e72_60, e72_61, e72_62, e72_63, e72_64, e72_67, e72_68, e72_69, e72_72, e72_73, e72_74, e72_75, e72_76, e72_77, e72_78, e72_81, e72_82, e72_83, e72_86, e72_87, e72_88, e72_89, e72_90, e72_91, e72_92, e72_95, e72_96, e72_97, e72_100, e72_101, e72_102, e72_103, e72_104, e72_105, e72_108, e72_112, e72_113, e72_116, e72_117, e72_118, e72_121, e72_122, e72_124, e72_125, e72_128, e72_131, e72_132, e72_135, e72_136, e72_137, e72_138, e72_141, e72_142, e72_145, e72_146, e72_147, e72_148, e72_149, e72_150, e72_151, e72_154, e72_157, st_g0, st_g1, st_g2, st_g3, st_g4, st_g5, st_g6, st_g7, st_p6, st_p7, st_l0, st_l1, st_l2, st_l3, st_l4, st_l5, st_s0, st_s1, st_s2, st_s3, st_s4, st_s5, st_is, Option.bind_some, Option.toList_some, Option.toList_none, List.cons_append, List.nil_append, true_or, or_true, and_true, true_and, i10, Bool.false_eq_true, if_true, if_false, reduceIte, hW.1, Int32.le_refl]
  | succ f ih =>
    intro k W hk hW
    have e1 : (nI (σ.1 - 1) ≤ nI k) = False := (nI_lep (by omega) (by omega)).trans (eq_false (by omega))
    have hs : shf c k < σ.1 := by unfold shf; split <;> omega
    have b7 := (hb.2 _ hs).2.2.2.2.1
    have g4 := (hW.2.2 k (by omega)).2.2.2.2.1
    rw [if_neg (Nat.lt_irrefl k)] at g4
    have keep : ∀ a, a < σ.1 - 1 → ∀ x, x = hI ((lrm σ c).2 k 7) → (if a = k then x else W.1 4 a) = hI (if a < k + 1 then (lrm σ c).2 a 7 else σ.2 (shf c a) 7) := by
      intro a ha x hx
      by_cases q : a = k
      · subst q
        rw [if_pos rfl, if_pos (by omega), hx]
      · rw [if_neg q, (hW.2.2 a ha).2.2.2.2.1]
        by_cases w : a < k
        · rw [if_pos w, if_pos (by omega)]
        · rw [if_neg w, if_neg (by omega)]
    by_cases q : σ.2 (shf c k) 7 ≤ c + 1
    · have el : (lrm σ c).2 k 7 = σ.2 (shf c k) 7 := by simp [lrm, q]
      obtain ⟨W', g1, g2⟩ := ih (k + 1) W (by omega) ⟨hW.1, hW.2.1, fun a ha => by
        obtain ⟨a0, a1, a2, a3, -, a5⟩ := hW.2.2 a ha
        refine ⟨a0, a1, a2, a3, ?_, a5⟩
        rw [← keep a ha (W.1 4 k) (by rw [g4, el])]
        by_cases w : a = k
        · subst w
          simp
        · simp [w]⟩
      refine ⟨W', g1, ?_⟩
      rw [e72_123]
      simp only [e72_0, e72_1, e72_2, e72_5, e72_8, e72_9, e72_10, e72_12, e72_13, e72_14, e72_15, e72_18, e72_21, e72_22, e72_25, e72_26, e72_27, e72_30, e72_31, e72_32, e72_33, e72_34, e72_35, e72_36, e72_39, e72_40, e72_41, e72_44, e72_45, e72_46, e72_47, e72_48, e72_49, e72_50, e72_53, e72_54, e72_55, e72_58, e72_59, e72_60, e72_61, e72_62, e72_63, e72_64, e72_67, e72_68, e72_69, e72_72, e72_73, e72_74, e72_75, e72_76, e72_77, e72_78, e72_81, e72_82, e72_83, e72_86, e72_87, e72_88, e72_89, e72_90, e72_91, e72_92, e72_95, e72_96, e72_97, e72_100, e72_101, e72_102, e72_103, e72_104, e72_105, e72_108, e72_112, e72_113, e72_116, e72_117, e72_118, e72_121, e72_122, e72_124, e72_125, e72_128, e72_131, e72_132, e72_135, e72_136, e72_137, e72_138, e72_141, e72_142, e72_145, e72_146, e72_147, e72_148, e72_149, e72_150, e72_151, e72_154, e72_157, st_g0, st_g1, st_g2, st_g3, st_g4, st_g5, st_g6, st_g7, st_p6, st_p7, st_l0, st_l1, st_l2, st_l3, st_l4, st_l5, st_s0, st_s1, st_s2, st_s3, st_s4, st_s5, st_is, Option.bind_some, Option.toList_some, Option.toList_none, List.cons_append, List.nil_append, true_or, or_true, and_true, true_and, i10, Bool.false_eq_true, if_true, if_false, reduceIte, hW.1, e1, nI_1, zrd_nI (show k < 12 by omega) (show 12 < 2147483648 by omega), g4, hI_le (show σ.2 (shf c k) 7 < 2147483648 by omega) (show c < 2147483648 by omega), q]
      exact g2
    · obtain ⟨u, hu⟩ : ∃ u, σ.2 (shf c k) 7 = u + 1 := ⟨σ.2 (shf c k) 7 - 1, by omega⟩
      have el : (lrm σ c).2 k 7 = u := by
        simp only [lrm, if_true, if_neg q]
        omega
      have ex : nI u - 1 = hI u := rfl
      obtain ⟨W', g1, g2⟩ := ih (k + 1) (setR W 4 (upd (W.1 4) k (hI u))) (by omega) ⟨hW.1, hW.2.1, fun a ha => by
        obtain ⟨a0, a1, a2, a3, -, a5⟩ := hW.2.2 a ha
        refine ⟨a0, a1, a2, a3, ?_, a5⟩
        rw [← keep a ha (hI u) (by rw [el])]
        simp [setR, upd]⟩
      refine ⟨W', g1, ?_⟩
      have q' := q
      rw [hu] at g4 q'
      rw [hI_s] at g4
      have e2 : (nI u ≤ nI c) = False := (nI_lep (by omega) (by omega)).trans (eq_false (by omega))
      rw [e72_123]
      simp only [e72_0, e72_1, e72_2, e72_5, e72_8, e72_9, e72_10, e72_12, e72_13, e72_14, e72_15, e72_18, e72_21, e72_22, e72_25, e72_26, e72_27, e72_30, e72_31, e72_32, e72_33, e72_34, e72_35, e72_36, e72_39, e72_40, e72_41, e72_44, e72_45, e72_46, e72_47, e72_48, e72_49, e72_50, e72_53, e72_54, e72_55, e72_58, e72_59, e72_60, e72_61, e72_62, e72_63, e72_64, e72_67, e72_68, e72_69, e72_72, e72_73, e72_74, e72_75, e72_76, e72_77, e72_78, e72_81, e72_82, e72_83, e72_86, e72_87, e72_88, e72_89, e72_90, e72_91, e72_92, e72_95, e72_96, e72_97, e72_100, e72_101, e72_102, e72_103, e72_104, e72_105, e72_108, e72_112, e72_113, e72_116, e72_117, e72_118, e72_121, e72_122, e72_124, e72_125, e72_128, e72_131, e72_132, e72_135, e72_136, e72_137, e72_138, e72_141, e72_142, e72_145, e72_146, e72_147, e72_148, e72_149, e72_150, e72_151, e72_154, e72_157, st_g0, st_g1, st_g2, st_g3, st_g4, st_g5, st_g6, st_g7, st_p6, st_p7, st_l0, st_l1, st_l2, st_l3, st_l4, st_l5, st_s0, st_s1, st_s2, st_s3, st_s4, st_s5, st_is, Option.bind_some, Option.toList_some, Option.toList_none, List.cons_append, List.nil_append, true_or, or_true, and_true, true_and, i10, Bool.false_eq_true, if_true, if_false, reduceIte, hW.1, e1, nI_1, zrd_nI (show k < 12 by omega) (show 12 < 2147483648 by omega), g4, e2, ex, zin_T (show k < 12 by omega) (by decide), nI_clamp (show k < 2 ^ 31 by omega)]
      exact g2
theorem s_remove (hR : stR S σ) (hb : bnd σ) (hc : c < σ.1) : ∃ S', stR S' (lrm σ c) ∧ S'.2 1 = S.2 1 ∧ ev (d + 1) 72 0 [some (.ref i), some (.int (nI c)), none] [] (hst h i S) = some (none, hst h i S') := by
  have hn := hb.1
  obtain ⟨W1, g1, g2⟩ := s_remove1 (d := d + 1) (h := h) (i := i) (S := S) (σ := σ) (c := c) hR.1 hn (σ.1 - 1 - c) c S (by omega) (Nat.le_refl _) ⟨rfl, fun a _ r _ => by rw [if_neg (by omega)]⟩
  have hsh : ∀ a, a < σ.1 - 1 → ∀ r, r < 6 → W1.1 r a = S.1 r (shf c a) := by
    intro a ha r hr
    rw [g1.2 a (by omega) r hr]
    unfold shf
    by_cases q : a < c
    · rw [if_neg (by omega), if_pos q]
    · rw [if_pos (by omega), if_neg q]
  obtain ⟨W2, g3, g4⟩ := s_remove2 (d := d + 1) (h := h) (i := i) (S := S) hb hc (σ.1 - 1) 0 (setI W1 0 (nI (σ.1 - 1))) (by omega) ⟨rfl, by rw [setI_2, if_neg (by decide), g1.1], fun a ha => by
    have hs : shf c a < σ.1 := by unfold shf; split <;> omega
    obtain ⟨a0, a1, a2, a3, a4, a5⟩ := hR.2 _ hs
    rw [setI_1, hsh a ha 0 (by omega), hsh a ha 1 (by omega), hsh a ha 2 (by omega), hsh a ha 3 (by omega), hsh a ha 4 (by omega), hsh a ha 5 (by omega)]
    exact ⟨a0, a1, a2, a3, a4, a5⟩⟩
  refine ⟨W2, ⟨g3.1, fun a ha => ?_⟩, g3.2.1, ?_⟩
  · have ha : a < σ.1 - 1 := ha
    obtain ⟨a0, a1, a2, a3, a4, a5⟩ := g3.2.2 a ha
    rw [if_pos ha] at a4
    exact ⟨a0, a1, a2, a3, a4, a5⟩
  · have e0 : W1.2 0 = nI σ.1 := by rw [g1.1]; exact hR.1
    have e1 : nI σ.1 - 1 = nI (σ.1 - 1) := by
      rw [iI_nat, iI_nat, show (1 : Int32) = iI 1 from rfl, iI_sub]
      congr 1
      omega
    simp only [e72_0, e72_1, e72_2, e72_5, e72_8, e72_9, e72_10, e72_12, e72_13, e72_14, e72_15, e72_18, e72_21, e72_22, e72_25, e72_26, e72_27, e72_30, e72_31, e72_32, e72_33, e72_34, e72_35, e72_36, e72_39, e72_40, e72_41, e72_44, e72_45, e72_46, e72_47, e72_48, e72_49, e72_50, e72_53, e72_54, e72_55, e72_58, e72_59, e72_60, e72_61, e72_62, e72_63, e72_64, e72_67, e72_68, e72_69, e72_72, e72_73, e72_74, e72_75, e72_76, e72_77, e72_78, e72_81, e72_82, e72_83, e72_86, e72_87, e72_88, e72_89, e72_90, e72_91, e72_92, e72_95, e72_96, e72_97, e72_100, e72_101, e72_102, e72_103, e72_104, e72_105, e72_108, e72_112, e72_113, e72_116, e72_117, e72_118, e72_121, e72_122, e72_124, e72_125, e72_128, e72_131, e72_132, e72_135, e72_136, e72_137, e72_138, e72_141, e72_142, e72_145, e72_146, e72_147, e72_148, e72_149, e72_150, e72_151, e72_154, e72_157, st_g0, st_g1, st_g2, st_g3, st_g4, st_g5, st_g6, st_g7, st_p6, st_p7, st_l0, st_l1, st_l2, st_l3, st_l4, st_l5, st_s0, st_s1, st_s2, st_s3, st_s4, st_s5, st_is, Option.bind_some, Option.toList_some, Option.toList_none, List.cons_append, List.nil_append, true_or, or_true, and_true, true_and, i10, Bool.false_eq_true, if_true, if_false, reduceIte, s_isCrate_k hR hb hc]
    refine g2.trans ?_
    rw [e72_111]
    simp only [e72_0, e72_1, e72_2, e72_5, e72_8, e72_9, e72_10, e72_12, e72_13, e72_14, e72_15, e72_18, e72_21, e72_22, e72_25, e72_26, e72_27, e72_30, e72_31, e72_32, e72_33, e72_34, e72_35, e72_36, e72_39, e72_40, e72_41, e72_44, e72_45, e72_46, e72_47, e72_48, e72_49, e72_50, e72_53, e72_54, e72_55, e72_58, e72_59, e72_60, e72_61, e72_62, e72_63, e72_64, e72_67, e72_68, e72_69, e72_72, e72_73, e72_74, e72_75, e72_76, e72_77, e72_78, e72_81, e72_82, e72_83, e72_86, e72_87, e72_88, e72_89, e72_90, e72_91, e72_92, e72_95, e72_96, e72_97, e72_100, e72_101, e72_102, e72_103, e72_104, e72_105, e72_108, e72_112, e72_113, e72_116, e72_117, e72_118, e72_121, e72_122, e72_124, e72_125, e72_128, e72_131, e72_132, e72_135, e72_136, e72_137, e72_138, e72_141, e72_142, e72_145, e72_146, e72_147, e72_148, e72_149, e72_150, e72_151, e72_154, e72_157, st_g0, st_g1, st_g2, st_g3, st_g4, st_g5, st_g6, st_g7, st_p6, st_p7, st_l0, st_l1, st_l2, st_l3, st_l4, st_l5, st_s0, st_s1, st_s2, st_s3, st_s4, st_s5, st_is, Option.bind_some, Option.toList_some, Option.toList_none, List.cons_append, List.nil_append, true_or, or_true, and_true, true_and, i10, Bool.false_eq_true, if_true, if_false, reduceIte, e0, e1]
    exact g4
end CHANGE2
