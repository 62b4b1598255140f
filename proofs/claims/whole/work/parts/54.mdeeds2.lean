/-! THE DEEDS OF THE REFERENCE, BREAKING AND LOADING -/
def bkf (f0 : Nat → Int32) (c k : Nat) : Nat → Int32 := fun x => if 2 + 9 * c ≤ x ∧ x < k then (if x + 9 < 110 then f0 (x + 9) else 0) else f0 x
theorem bkf_0 {f0 : Nat → Int32} {c : Nat} : bkf f0 c (2 + 9 * c) = f0 := funext fun x => if_neg (by omega)
theorem bkf_s {f0 : Nat → Int32} {c k : Nat} (hk : 2 + 9 * c ≤ k) : upd (bkf f0 c k) k (if k + 9 < 110 then f0 (k + 9) else 0) = bkf f0 c (k + 1) := by
  funext x
  by_cases q : x = k
  · subst q
    have e : (2 + 9 * c ≤ x ∧ x < x + 1) := ⟨hk, by omega⟩
    simp only [upd, bkf, if_pos e, if_true]
  · simp only [upd, q, if_false]
    unfold bkf
    by_cases z : 2 + 9 * c ≤ x ∧ x < k
    · rw [if_pos z, if_pos (show 2 + 9 * c ≤ x ∧ x < k + 1 by omega)]
    · rw [if_neg z, if_neg (show ¬ (2 + 9 * c ≤ x ∧ x < k + 1) by omega)]
def adj (c u : Nat) : Nat := if u ≤ c + 1 then u else u - 1
/-- the reference's row while holders are told anew -/
def bk2 (σ : mS) (r : Int32) (c : Nat) (g : Nat → Int32) (k : Nat) : Prop := g 0 = nI (σ.1 - 1) ∧ g 1 = r ∧ ∀ a, a < σ.1 - 1 → ∀ j, j < 9 → g (2 + 9 * a + j) = nI (if j = 7 ∧ a < k then adj c (σ.2 (shf c a) 7) else σ.2 (shf c a) j)
theorem bk2_0 {σ : mS} {r : Int32} {c : Nat} {f : Nat → Int32} (hn : σ.1 ≤ 12) (hc : c < σ.1) (h : mrw f 0 σ r) : bk2 σ r c (bkf (upd f 0 (nI (σ.1 - 1))) c 110) 0 := by
  obtain ⟨h1, h2, h3⟩ := h
  refine ⟨?_, ?_, fun a ha j hj => ?_⟩
  · unfold bkf
    rw [if_neg (by omega)]
    simp [upd]
  · unfold bkf
    rw [if_neg (by omega)]
    simp only [upd, Nat.one_ne_zero, if_false]
    exact h2
  · rw [if_neg (by omega)]
    unfold bkf shf
    by_cases z : a < c
    · have e : ¬ 2 + 9 * a + j = 0 := by omega
      rw [if_neg (by omega), if_pos z]
      simp only [upd, e, if_false]
      have := h3 a (by omega) j hj
      rwa [Nat.zero_add] at this
    · have e : ¬ 2 + 9 * a + j + 9 = 0 := by omega
      rw [if_pos (by omega), if_neg z, if_pos (by omega)]
      simp only [upd, e, if_false]
      have := h3 (a + 1) (by omega) j hj
      rw [Nat.zero_add] at this
      rw [show 2 + 9 * a + j + 9 = 2 + 9 * (a + 1) + j by omega]
      exact this
theorem bk2_s {σ : mS} {r : Int32} {c k : Nat} {g : Nat → Int32} (hk : k < σ.1 - 1) (h : bk2 σ r c g k) : bk2 σ r c (upd g (2 + 9 * k + 7) (nI (adj c (σ.2 (shf c k) 7)))) (k + 1) := by
  obtain ⟨h1, h2, h3⟩ := h
  refine ⟨?_, ?_, fun a ha j hj => ?_⟩
  · have e : ¬ 0 = 2 + 9 * k + 7 := by omega
    simp only [upd, e, if_false]
    exact h1
  · have e : ¬ 1 = 2 + 9 * k + 7 := by omega
    simp only [upd, e, if_false]
    exact h2
  · by_cases z : a = k ∧ j = 7
    · obtain ⟨rfl, rfl⟩ := z
      rw [if_pos ⟨rfl, by omega⟩]
      simp [upd]
    · have e : ¬ 2 + 9 * a + j = 2 + 9 * k + 7 := by omega
      simp only [upd, e, if_false]
      rw [h3 a ha j hj]
      congr 1
      by_cases y : j = 7 ∧ a < k
      · rw [if_pos y, if_pos (by omega)]
      · rw [if_neg y, if_neg (by omega)]
theorem bk2_e {σ : mS} {r : Int32} {c : Nat} {g : Nat → Int32} (h : bk2 σ r c g (σ.1 - 1)) : mrw g 0 (lrm σ c) r := by
  obtain ⟨h1, h2, h3⟩ := h
  refine ⟨h1, h2, fun a ha j hj => ?_⟩
  have ha : a < σ.1 - 1 := ha
  rw [Nat.zero_add, h3 a ha j hj]
  congr 1
  show _ = if j = 7 then (if σ.2 (shf c a) 7 ≤ c + 1 then σ.2 (shf c a) 7 else σ.2 (shf c a) 7 - 1) else σ.2 (shf c a) j
  by_cases y : j = 7
  · rw [if_pos ⟨y, ha⟩, if_pos y]
    rfl
  · rw [if_neg (fun z => y z.1), if_neg y]
section MBREAK
variable {d : Nat} {h : zH} {i : Nat} {M : oS} {σ τ : mS} {r : Int32} {e : Nat → mS × Int32} {len c u : Nat} {x y : Int32} {w : Nat → Nat} {m : Nat} {s' : pS}
theorem m_of7r {v : Int32} (hc : c < 12) (hv : M.1 0 (2 + 9 * c + 7) = v) : ev d 133 0 [some (.ref i), some (.int (nI c)), some (.int 7)] [] (hmd h i M) = some (some (.int v), hmd h i M) := by
  have e7 : (2 : Int32) + 9 * nI c + 7 = nI (2 + 9 * c + 7) := m_ix c 7
  simp only [e133_0, e133_1, e133_4, e133_5, e133_7, e133_8, e133_9, e133_10, e133_11, e133_12, e133_13, md_g0, md_g1, md_g2, md_g3, md_g4, md_g5, md_g6, md_g7, md_g8, md_g9, md_g10, md_g11, md_g12, md_g13, md_g14, md_g15, md_g16, md_g17, md_g18, md_p3, md_p5, md_p7, md_p8, md_p9, md_p11, md_p13, md_p15, md_l0, md_l1, md_l2, md_l3, md_l4, md_l5, md_l6, md_l7, md_l8, md_l9, md_l10, md_s0, md_s1, md_s2, md_s3, md_s4, md_s5, md_s6, md_s7, md_s8, md_s9, md_s10, md_is, Option.bind_some, Option.toList_some, Option.toList_none, List.cons_append, List.nil_append, true_or, or_true, and_true, true_and, i10, Bool.false_eq_true, if_true, if_false, reduceIte, e7, zrd_nI (show 2 + 9 * c + 7 < 110 by omega) (show 110 < 2147483648 by decide), hv]
theorem m_brk1 {f0 : Nat → Int32} {z : Option Value} : ∀ (f k : Nat), k + f = 110 → 2 + 9 * c ≤ k → ev d 162 47 [some (.ref i), some (.int (nI c)), z, some (.int (nI k))] [] (hmd h i (setR M 0 (bkf f0 c k))) = ev d 162 87 [some (.ref i), some (.int (nI c)), z, some (.int (nI 110))] [] (hmd h i (setR M 0 (bkf f0 c 110))) := by
  intro f
  induction f with
  | zero =>
    intro k hk h2
    have hk : k = 110 := by omega
    subst hk
    rw [e162_47]
    simp only [e162_0, e162_1, e162_2, e162_5, e162_8, e162_9, e162_10, e162_11, e162_14, e162_15, e162_16, e162_19, e162_20, e162_21, e162_24, e162_25, e162_26, e162_29, e162_30, e162_31, e162_34, e162_35, e162_36, e162_37, e162_38, e162_39, e162_40, e162_41, e162_43, e162_44, e162_45, e162_46, e162_48, e162_50, e162_53, e162_54, e162_57, e162_58, e162_59, e162_61, e162_62, e162_64, e162_67, e162_68, e162_71, e162_72, e162_74, e162_75, e162_76, e162_79, e162_80, e162_81, e162_84, e162_88, e162_89, e162_90, e162_91, e162_94, e162_95, e162_96, e162_99, e162_100, e162_101, e162_103, e162_104, e162_105, e162_107, e162_110, e162_111, e162_112, e162_113, e162_116, e162_117, e162_118, e162_120, e162_123, e162_124, e162_125, e162_128, e162_129, e162_130, e162_132, e162_135, e162_138, e162_141, e162_144, e162_146, e162_147, e162_150, e162_151, e162_152, e162_153, Option.bind_some, Option.toList_some, Option.toList_none, List.cons_append, List.nil_append, true_or, or_true, and_true, true_and, i10, Bool.false_eq_true, if_true, if_false, reduceIte, show ((110 : Int32) ≤ nI 110) = True by decide]
  | succ f ih =>
    intro k hk h2
    have e1 : ((110 : Int32) ≤ nI k) = False := (nI_lep (a := 110) (by omega) (by omega)).trans (eq_false (by omega))
    have e9 : nI k + 9 = nI (k + 9) := nI_add k 9
    have e2 : ((110 : Int32) ≤ nI (k + 9)) = (110 ≤ k + 9) := nI_lep (a := 110) (by omega) (by omega)
    have hr : ∀ f g : Nat → Int32, setR (setR M 0 f) 0 g = setR M 0 g := fun f g => setR_setR M 0 f g
    have g0 : ∀ f, (setR M 0 f).1 0 = f := fun _ => rfl
    have st := bkf_s (f0 := f0) (c := c) (k := k) h2
    rw [e162_47]
    by_cases q : k + 9 < 110
    · rw [if_pos q] at st
      have rd : zrd 110 (bkf f0 c k) (nI (k + 9)) = some (f0 (k + 9)) := by
        rw [zrd_nI q (by decide)]
        unfold bkf
        rw [if_neg (by omega)]
      simp only [e162_0, e162_1, e162_2, e162_5, e162_8, e162_9, e162_10, e162_11, e162_14, e162_15, e162_16, e162_19, e162_20, e162_21, e162_24, e162_25, e162_26, e162_29, e162_30, e162_31, e162_34, e162_35, e162_36, e162_37, e162_38, e162_39, e162_40, e162_41, e162_43, e162_44, e162_45, e162_46, e162_48, e162_50, e162_53, e162_54, e162_57, e162_58, e162_59, e162_61, e162_62, e162_64, e162_67, e162_68, e162_71, e162_72, e162_74, e162_75, e162_76, e162_79, e162_80, e162_81, e162_84, e162_88, e162_89, e162_90, e162_91, e162_94, e162_95, e162_96, e162_99, e162_100, e162_101, e162_103, e162_104, e162_105, e162_107, e162_110, e162_111, e162_112, e162_113, e162_116, e162_117, e162_118, e162_120, e162_123, e162_124, e162_125, e162_128, e162_129, e162_130, e162_132, e162_135, e162_138, e162_141, e162_144, e162_146, e162_147, e162_150, e162_151, e162_152, e162_153, md_g0, md_g1, md_g2, md_g3, md_g4, md_g5, md_g6, md_g7, md_g8, md_g9, md_g10, md_g11, md_g12, md_g13, md_g14, md_g15, md_g16, md_g17, md_g18, md_p3, md_p5, md_p7, md_p8, md_p9, md_p11, md_p13, md_p15, md_l0, md_l1, md_l2, md_l3, md_l4, md_l5, md_l6, md_l7, md_l8, md_l9, md_l10, md_s0, md_s1, md_s2, md_s3, md_s4, md_s5, md_s6, md_s7, md_s8, md_s9, md_s10, md_is, Option.bind_some, Option.toList_some, Option.toList_none, List.cons_append, List.nil_append, true_or, or_true, and_true, true_and, i10, Bool.false_eq_true, if_true, if_false, reduceIte, e1, e9, e2, eq_false (show ¬ 110 ≤ k + 9 by omega), g0, rd, zin_T (show k < 110 by omega) (show 110 < 2147483648 by decide), nI_clamp (show k < 2 ^ 31 by omega), hr, st, nI_1]
      exact ih (k + 1) (by omega) (by omega)
    · rw [if_neg q] at st
      simp only [e162_0, e162_1, e162_2, e162_5, e162_8, e162_9, e162_10, e162_11, e162_14, e162_15, e162_16, e162_19, e162_20, e162_21, e162_24, e162_25, e162_26, e162_29, e162_30, e162_31, e162_34, e162_35, e162_36, e162_37, e162_38, e162_39, e162_40, e162_41, e162_43, e162_44, e162_45, e162_46, e162_48, e162_50, e162_53, e162_54, e162_57, e162_58, e162_59, e162_61, e162_62, e162_64, e162_67, e162_68, e162_71, e162_72, e162_74, e162_75, e162_76, e162_79, e162_80, e162_81, e162_84, e162_88, e162_89, e162_90, e162_91, e162_94, e162_95, e162_96, e162_99, e162_100, e162_101, e162_103, e162_104, e162_105, e162_107, e162_110, e162_111, e162_112, e162_113, e162_116, e162_117, e162_118, e162_120, e162_123, e162_124, e162_125, e162_128, e162_129, e162_130, e162_132, e162_135, e162_138, e162_141, e162_144, e162_146, e162_147, e162_150, e162_151, e162_152, e162_153, md_g0, md_g1, md_g2, md_g3, md_g4, md_g5, md_g6, md_g7, md_g8, md_g9, md_g10, md_g11, md_g12, md_g13, md_g14, md_g15, md_g16, md_g17, md_g18, md_p3, md_p5, md_p7, md_p8, md_p9, md_p11, md_p13, md_p15, md_l0, md_l1, md_l2, md_l3, md_l4, md_l5, md_l6, md_l7, md_l8, md_l9, md_l10, md_s0, md_s1, md_s2, md_s3, md_s4, md_s5, md_s6, md_s7, md_s8, md_s9, md_s10, md_is, Option.bind_some, Option.toList_some, Option.toList_none, List.cons_append, List.nil_append, true_or, or_true, and_true, true_and, i10, Bool.false_eq_true, if_true, if_false, reduceIte, e1, e9, e2, eq_true (show 110 ≤ k + 9 by omega), g0, zin_T (show k < 110 by omega) (show 110 < 2147483648 by decide), nI_clamp (show k < 2 ^ 31 by omega), hr, st, nI_1]
      exact ih (k + 1) (by omega) (by omega)
theorem m_brk2 {z : Option Value} (hb : bnd σ) (hc : c < σ.1) : ∀ (f k : Nat) (g : Nat → Int32), k + f = σ.1 - 1 → bk2 σ r c g k → ∃ g', bk2 σ r c g' (σ.1 - 1) ∧ ev (d + 1) 162 89 [some (.ref i), some (.int (nI c)), z, some (.int (nI k))] [] (hmd h i (setR M 0 g)) = some (some (.int (nI (10 + (σ.1 - 1)))), hmd h i (setR M 0 g')) := by
  have hn := hb.1
  intro f
  induction f with
  | zero =>
    intro k g hk hg
    have hk : k = σ.1 - 1 := by omega
    subst hk
    refine ⟨g, hg, ?_⟩
    have z0 : zrd 110 g 0 = some (nI (σ.1 - 1)) := by
      rw [show (0 : Int32) = nI 0 from rfl, zrd_nI (by decide) (by decide), hg.1]
    have g0 : ∀ f, (setR M 0 f).1 0 = f := fun _ => rfl
    have e10 : (10 : Int32) + nI (σ.1 - 1) = nI (10 + (σ.1 - 1)) := nI_add 10 _
    rw [e162_89]
    simp only [e162_0, e162_1, e162_2, e162_5, e162_8, e162_9, e162_10, e162_11, e162_14, e162_15, e162_16, e162_19, e162_20, e162_21, e162_24, e162_25, e162_26, e162_29, e162_30, e162_31, e162_34, e162_35, e162_36, e162_37, e162_38, e162_39, e162_40, e162_41, e162_43, e162_44, e162_45, e162_46, e162_47, e162_48, e162_50, e162_53, e162_54, e162_57, e162_58, e162_59, e162_61, e162_62, e162_64, e162_67, e162_68, e162_71, e162_72, e162_74, e162_75, e162_76, e162_79, e162_80, e162_81, e162_84, e162_87, e162_88, e162_90, e162_91, e162_94, e162_95, e162_96, e162_99, e162_100, e162_101, e162_103, e162_104, e162_105, e162_107, e162_110, e162_111, e162_112, e162_113, e162_116, e162_117, e162_118, e162_120, e162_123, e162_124, e162_125, e162_128, e162_129, e162_130, e162_132, e162_135, e162_138, e162_141, e162_144, e162_146, e162_147, e162_150, e162_151, e162_152, e162_153, md_g0, md_g1, md_g2, md_g3, md_g4, md_g5, md_g6, md_g7, md_g8, md_g9, md_g10, md_g11, md_g12, md_g13, md_g14, md_g15, md_g16, md_g17, md_g18, md_p3, md_p5, md_p7, md_p8, md_p9, md_p11, md_p13, md_p15, md_l0, md_l1, md_l2, md_l3, md_l4, md_l5, md_l6, md_l7, md_l8, md_l9, md_l10, md_s0, md_s1, md_s2, md_s3, md_s4, md_s5, md_s6, md_s7, md_s8, md_s9, md_s10, md_is, Option.bind_some, Option.toList_some, Option.toList_none, List.cons_append, List.nil_append, true_or, or_true, and_true, true_and, i10, Bool.false_eq_true, if_true, if_false, reduceIte, g0, z0, Int32.le_refl, e10]
  | succ f ih =>
    intro k g hk hg
    have hk2 : k < σ.1 - 1 := by omega
    obtain ⟨g', a1, a2⟩ := ih (k + 1) _ (by omega) (bk2_s hk2 hg)
    refine ⟨g', a1, ?_⟩
    have z0 : zrd 110 g 0 = some (nI (σ.1 - 1)) := by
      rw [show (0 : Int32) = nI 0 from rfl, zrd_nI (by decide) (by decide), hg.1]
    have g0 : ∀ f, (setR M 0 f).1 0 = f := fun _ => rfl
    have hr : ∀ f g : Nat → Int32, setR (setR M 0 f) 0 g = setR M 0 g := fun f g => setR_setR M 0 f g
    have e1 : (nI (σ.1 - 1) ≤ nI k) = False := (nI_lep (by omega) (by omega)).trans (eq_false (by omega))
    have hsh : shf c k < σ.1 := by
      unfold shf
      split <;> omega
    have h7 := (hb.2 _ hsh).2.2.2.2.1
    have hv : (setR M 0 g).1 0 (2 + 9 * k + 7) = nI (σ.2 (shf c k) 7) := by
      have := hg.2.2 k hk2 7 (by decide)
      rw [if_neg (by omega)] at this
      exact this
    have e2 : (nI (σ.2 (shf c k) 7) ≤ nI (c + 1)) = (σ.2 (shf c k) 7 ≤ c + 1) := nI_lep (by omega) (by omega)
    rw [e162_89]
    unfold adj at a2
    by_cases q : σ.2 (shf c k) 7 ≤ c + 1
    · rw [if_pos q] at a2
      simp only [e162_0, e162_1, e162_2, e162_5, e162_8, e162_9, e162_10, e162_11, e162_14, e162_15, e162_16, e162_19, e162_20, e162_21, e162_24, e162_25, e162_26, e162_29, e162_30, e162_31, e162_34, e162_35, e162_36, e162_37, e162_38, e162_39, e162_40, e162_41, e162_43, e162_44, e162_45, e162_46, e162_47, e162_48, e162_50, e162_53, e162_54, e162_57, e162_58, e162_59, e162_61, e162_62, e162_64, e162_67, e162_68, e162_71, e162_72, e162_74, e162_75, e162_76, e162_79, e162_80, e162_81, e162_84, e162_87, e162_88, e162_90, e162_91, e162_94, e162_95, e162_96, e162_99, e162_100, e162_101, e162_103, e162_104, e162_105, e162_107, e162_110, e162_111, e162_112, e162_113, e162_116, e162_117, e162_118, e162_120, e162_123, e162_124, e162_125, e162_128, e162_129, e162_130, e162_132, e162_135, e162_138, e162_141, e162_144, e162_146, e162_147, e162_150, e162_151, e162_152, e162_153, md_g0, md_g1, md_g2, md_g3, md_g4, md_g5, md_g6, md_g7, md_g8, md_g9, md_g10, md_g11, md_g12, md_g13, md_g14, md_g15, md_g16, md_g17, md_g18, md_p3, md_p5, md_p7, md_p8, md_p9, md_p11, md_p13, md_p15, md_l0, md_l1, md_l2, md_l3, md_l4, md_l5, md_l6, md_l7, md_l8, md_l9, md_l10, md_s0, md_s1, md_s2, md_s3, md_s4, md_s5, md_s6, md_s7, md_s8, md_s9, md_s10, md_is, Option.bind_some, Option.toList_some, Option.toList_none, List.cons_append, List.nil_append, true_or, or_true, and_true, true_and, i10, Bool.false_eq_true, if_true, if_false, reduceIte, g0, z0, e1, m_of7r (show k < 12 by omega) hv, nI_1, e2, eq_true q, m_lays7 (show k < 12 by omega), hr]
      exact a2
    · rw [if_neg q] at a2
      obtain ⟨v, hv2⟩ : ∃ v, σ.2 (shf c k) 7 = v + 1 := ⟨σ.2 (shf c k) 7 - 1, by omega⟩
      rw [hv2] at hv e2 a2 q
      rw [Nat.add_sub_cancel] at a2
      simp only [e162_0, e162_1, e162_2, e162_5, e162_8, e162_9, e162_10, e162_11, e162_14, e162_15, e162_16, e162_19, e162_20, e162_21, e162_24, e162_25, e162_26, e162_29, e162_30, e162_31, e162_34, e162_35, e162_36, e162_37, e162_38, e162_39, e162_40, e162_41, e162_43, e162_44, e162_45, e162_46, e162_47, e162_48, e162_50, e162_53, e162_54, e162_57, e162_58, e162_59, e162_61, e162_62, e162_64, e162_67, e162_68, e162_71, e162_72, e162_74, e162_75, e162_76, e162_79, e162_80, e162_81, e162_84, e162_87, e162_88, e162_90, e162_91, e162_94, e162_95, e162_96, e162_99, e162_100, e162_101, e162_103, e162_104, e162_105, e162_107, e162_110, e162_111, e162_112, e162_113, e162_116, e162_117, e162_118, e162_120, e162_123, e162_124, e162_125, e162_128, e162_129, e162_130, e162_132, e162_135, e162_138, e162_141, e162_144, e162_146, e162_147, e162_150, e162_151, e162_152, e162_153, md_g0, md_g1, md_g2, md_g3, md_g4, md_g5, md_g6, md_g7, md_g8, md_g9, md_g10, md_g11, md_g12, md_g13, md_g14, md_g15, md_g16, md_g17, md_g18, md_p3, md_p5, md_p7, md_p8, md_p9, md_p11, md_p13, md_p15, md_l0, md_l1, md_l2, md_l3, md_l4, md_l5, md_l6, md_l7, md_l8, md_l9, md_l10, md_s0, md_s1, md_s2, md_s3, md_s4, md_s5, md_s6, md_s7, md_s8, md_s9, md_s10, md_is, Option.bind_some, Option.toList_some, Option.toList_none, List.cons_append, List.nil_append, true_or, or_true, and_true, true_and, i10, Bool.false_eq_true, if_true, if_false, reduceIte, g0, z0, e1, m_of7r (show k < 12 by omega) hv, nI_1, e2, eq_false q, m_lays7 (show k < 12 by omega), hr, nI_s1]
      exact a2
theorem m_break0 (hR : mdR M σ) (hn : σ.1 ≤ 12) (hz : zin x σ.1 = false) : ev (d + 6) 162 0 [some (.ref i), some (.int x), none, none] [] (hmd h i M) = some (some (.int (-1)), hmd h i M) := by
  simp only [e162_0, e162_1, e162_2, e162_5, e162_8, e162_9, e162_10, e162_11, e162_14, e162_15, e162_16, e162_19, e162_20, e162_21, e162_24, e162_25, e162_26, e162_29, e162_30, e162_31, e162_34, e162_35, e162_36, e162_37, e162_38, e162_39, e162_40, e162_41, e162_43, e162_44, e162_45, e162_46, e162_48, e162_50, e162_53, e162_54, e162_57, e162_58, e162_59, e162_61, e162_62, e162_64, e162_67, e162_68, e162_71, e162_72, e162_74, e162_75, e162_76, e162_79, e162_80, e162_81, e162_84, e162_87, e162_88, e162_90, e162_91, e162_94, e162_95, e162_96, e162_99, e162_100, e162_101, e162_103, e162_104, e162_105, e162_107, e162_110, e162_111, e162_112, e162_113, e162_116, e162_117, e162_118, e162_120, e162_123, e162_124, e162_125, e162_128, e162_129, e162_130, e162_132, e162_135, e162_138, e162_141, e162_144, e162_146, e162_147, e162_150, e162_151, e162_152, e162_153, md_g0, md_g1, md_g2, md_g3, md_g4, md_g5, md_g6, md_g7, md_g8, md_g9, md_g10, md_g11, md_g12, md_g13, md_g14, md_g15, md_g16, md_g17, md_g18, md_p3, md_p5, md_p7, md_p8, md_p9, md_p11, md_p13, md_p15, md_l0, md_l1, md_l2, md_l3, md_l4, md_l5, md_l6, md_l7, md_l8, md_l9, md_l10, md_s0, md_s1, md_s2, md_s3, md_s4, md_s5, md_s6, md_s7, md_s8, md_s9, md_s10, md_is, Option.bind_some, Option.toList_some, Option.toList_none, List.cons_append, List.nil_append, true_or, or_true, and_true, true_and, i10, Bool.false_eq_true, if_true, if_false, reduceIte, m_isC0 hR hn hz]
theorem m_break (hlen : len ≤ 4) (hS : mSt M σ r e len) (hw : wf σ) (hen : ∀ j, j < len → (e j).1.1 ≤ 12) (hc : c < σ.1) : ∃ M', mfK M M' ∧ mSt M' (if rbk σ c = 0 then lrm σ c else σ) (if rbk σ c = 0 then r else r + 1) (he e len (σ, r)) (hl len) ∧ ev (d + 6) 162 0 [some (.ref i), some (.int (nI c)), none, none] [] (hmd h i M) = some (some (.int (if rbk σ c = 0 then nI (10 + (σ.1 - 1)) else nI (rbk σ c))), hmd h i M') := by
  have hb := hw.bnd
  have hn := hb.1
  have hR := mrw_R hS.1
  obtain ⟨M1, a1, a2, a3, -, -, a4⟩ := m_rec (d := d + 4) (h := h) (i := i) hlen hS hn hen
  have hR1 : mdR M1 σ := mdR_eq hR a1
  have h01 : mrw (M1.1 0) 0 σ r := by rw [a1]; exact hS.1
  have rr := m_reasonBreak (d := d + 1) (h := h) (i := i) hR1 hb hc
  have e1 : (nI (rbk σ c) ≤ 0) = (rbk σ c ≤ 0) := nI_lep (b := 0) (by have := rbk_5 (σ := σ) (c := c); omega) (by omega)
  have e2 : (0 < nI (rbk σ c)) = (0 < rbk σ c) := nI_ltp (a := 0) (by omega) (by have := rbk_5 (σ := σ) (c := c); omega)
  by_cases q : rbk σ c = 0
  · obtain ⟨n, hn1⟩ : ∃ n, σ.1 = n + 1 := ⟨σ.1 - 1, by omega⟩
    have z0 : zrd 110 (M1.1 0) 0 = some (nI (n + 1)) := by
      have := m_n hR1
      rwa [hn1] at this
    have l1 := m_brk1 (d := d + 5 + 1) (h := h) (i := i) (M := M1) (c := c) (f0 := upd (M1.1 0) 0 (nI (σ.1 - 1))) (z := some (.int (nI 0))) (110 - (2 + 9 * c)) (2 + 9 * c) (by omega) (Nat.le_refl _)
    rw [bkf_0] at l1
    obtain ⟨g', b1, b2⟩ := m_brk2 (d := d + 5) (h := h) (i := i) (M := M1) (z := some (.int (nI 0))) hb hc (σ.1 - 1) 0 _ (by omega) (bk2_0 hn hc h01)
    have e9 : (2 : Int32) + 9 * nI c = nI (2 + 9 * c) := by
      rw [show (2 : Int32) = nI 2 from rfl, show (9 : Int32) = nI 9 from rfl, pk_mul, nI_add]
    have k1 : σ.1 - 1 = n := by omega
    rw [k1] at l1 b2 b1
    refine ⟨setR M1 0 g', mfK_t a2 mfK_0, ?_, ?_⟩
    · rw [if_pos q, if_pos q]
      exact ⟨bk2_e (by rw [k1]; exact b1), a3⟩
    · rw [if_pos q, k1]
      have zi : zin 0 110 = true := by decide
      have n00 : nI 0 = 0 := rfl
      rw [n00] at l1 b2
      simp only [e162_0, e162_1, e162_2, e162_5, e162_8, e162_9, e162_10, e162_11, e162_14, e162_15, e162_16, e162_19, e162_20, e162_21, e162_24, e162_25, e162_26, e162_29, e162_30, e162_31, e162_34, e162_35, e162_36, e162_37, e162_38, e162_39, e162_40, e162_41, e162_43, e162_44, e162_45, e162_46, e162_48, e162_50, e162_53, e162_54, e162_57, e162_58, e162_59, e162_61, e162_62, e162_64, e162_67, e162_68, e162_71, e162_72, e162_74, e162_75, e162_76, e162_79, e162_80, e162_81, e162_84, e162_88, e162_90, e162_91, e162_94, e162_95, e162_96, e162_99, e162_100, e162_101, e162_103, e162_104, e162_105, e162_107, e162_110, e162_111, e162_112, e162_113, e162_116, e162_117, e162_118, e162_120, e162_123, e162_124, e162_125, e162_128, e162_129, e162_130, e162_132, e162_135, e162_138, e162_141, e162_144, e162_146, e162_147, e162_150, e162_151, e162_152, e162_153, md_g0, md_g1, md_g2, md_g3, md_g4, md_g5, md_g6, md_g7, md_g8, md_g9, md_g10, md_g11, md_g12, md_g13, md_g14, md_g15, md_g16, md_g17, md_g18, md_p3, md_p5, md_p7, md_p8, md_p9, md_p11, md_p13, md_p15, md_l0, md_l1, md_l2, md_l3, md_l4, md_l5, md_l6, md_l7, md_l8, md_l9, md_l10, md_s0, md_s1, md_s2, md_s3, md_s4, md_s5, md_s6, md_s7, md_s8, md_s9, md_s10, md_is, Option.bind_some, Option.toList_some, Option.toList_none, List.cons_append, List.nil_append, true_or, or_true, and_true, true_and, i10, Bool.false_eq_true, if_true, if_false, reduceIte, m_isC1 hR hn hc, a4, rr, q, n00, Int32.le_refl, show ((0 : Int32) < 0) = False by decide, z0, nI_s1, zi, cl0, e9, l1]
      rw [e162_87]
      simp only [e162_88, Option.bind_some, Option.toList_some, Option.toList_none, List.cons_append, List.nil_append, true_or, or_true, and_true, true_and, i10, Bool.false_eq_true, if_true, if_false, reduceIte, b2]
  · refine ⟨_, mfK_t a2 (mfK_0 (f := upd (M1.1 0) 1 (M1.1 0 1 + 1))), ?_, ?_⟩
    · rw [if_neg q, if_neg q]
      exact ⟨mrw_r h01, a3⟩
    · rw [if_neg q]
      simp only [e162_0, e162_1, e162_2, e162_5, e162_8, e162_9, e162_10, e162_11, e162_14, e162_15, e162_16, e162_19, e162_20, e162_21, e162_24, e162_25, e162_26, e162_29, e162_30, e162_31, e162_34, e162_35, e162_36, e162_37, e162_38, e162_39, e162_40, e162_41, e162_43, e162_44, e162_45, e162_46, e162_48, e162_50, e162_53, e162_54, e162_57, e162_58, e162_59, e162_61, e162_62, e162_64, e162_67, e162_68, e162_71, e162_72, e162_74, e162_75, e162_76, e162_79, e162_80, e162_81, e162_84, e162_87, e162_88, e162_90, e162_91, e162_94, e162_95, e162_96, e162_99, e162_100, e162_101, e162_103, e162_104, e162_105, e162_107, e162_110, e162_111, e162_112, e162_113, e162_116, e162_117, e162_118, e162_120, e162_123, e162_124, e162_125, e162_128, e162_129, e162_130, e162_132, e162_135, e162_138, e162_141, e162_144, e162_146, e162_147, e162_150, e162_151, e162_152, e162_153, md_g0, md_g1, md_g2, md_g3, md_g4, md_g5, md_g6, md_g7, md_g8, md_g9, md_g10, md_g11, md_g12, md_g13, md_g14, md_g15, md_g16, md_g17, md_g18, md_p3, md_p5, md_p7, md_p8, md_p9, md_p11, md_p13, md_p15, md_l0, md_l1, md_l2, md_l3, md_l4, md_l5, md_l6, md_l7, md_l8, md_l9, md_l10, md_s0, md_s1, md_s2, md_s3, md_s4, md_s5, md_s6, md_s7, md_s8, md_s9, md_s10, md_is, Option.bind_some, Option.toList_some, Option.toList_none, List.cons_append, List.nil_append, true_or, or_true, and_true, true_and, i10, Bool.false_eq_true, if_true, if_false, reduceIte, m_isC1 hR hn hc, a4, rr, e1, e2, eq_false (show ¬ rbk σ c ≤ 0 by omega), eq_true (show 0 < rbk σ c by omega), m_refuses]
/-! load -/
theorem nsO_bad {M' : oS} (hn : nsO w m 0 s00 M') (hd : rdv m (rnn w m 0 s00) ≠ -4) : M'.2 4 = 0 := by
  rcases hn with ⟨b1, -, -⟩ | ⟨-, s1, b2, -, b4, -⟩
  · exact b1
  · have b2' : rnn w m 0 s00 = (m, some s1) := b2
    rw [b2'] at hd
    unfold rdv at hd
    dsimp only at hd
    rw [if_pos b4] at hd
    exact absurd rfl hd
theorem rdv_ok (hr : rnn w m 0 s00 = (m, some s')) (hc : cmp s' = true) : rdv m (rnn w m 0 s00) = -4 := by
  rw [hr]
  unfold rdv
  dsimp only
  rw [if_pos hc]
theorem nsO_ok {M' : oS} (hn : nsO w m 0 s00 M') (hr : rnn w m 0 s00 = (m, some s')) (hc : cmp s' = true) : M'.2 4 = 1 ∧ psI2 m s' ∧ rwR M' s'.2.2.2.2.2 := by
  rcases hn with ⟨-, -, b3⟩ | ⟨b1, s1, b2, b3, b4, b5⟩
  · exact absurd (rdv_ok hr hc) b3
  · have b2' : rnn w m 0 s00 = (m, some s1) := b2
    rw [hr] at b2'
    cases b2'
    exact ⟨b1, b3, b5⟩
theorem m_loadX (hP : pmR M w m) (hd : rdv m (rnn w m 0 s00) ≠ -4) : ∃ M', mfC M M' ∧ ev (d + 6) 173 0 [some (.ref i), none, none, none, none] [] (hmd h i M) = some (some (.int (-2)), hmd h i M') := by
  obtain ⟨M', a1, a2, a3⟩ := m_areNests (d := d + 2) (h := h) (i := i) hP
  rw [nsO_bad a2 hd] at a3
  refine ⟨M', a1, ?_⟩
  simp only [e173_0, e173_1, e173_4, e173_7, e173_8, e173_11, e173_14, e173_16, e173_17, e173_18, e173_21, e173_22, e173_23, e173_24, e173_27, e173_28, e173_30, e173_33, e173_35, e173_36, e173_37, e173_40, e173_41, e173_44, e173_45, e173_46, e173_47, e173_48, e173_50, e173_51, e173_54, e173_57, e173_59, e173_60, e173_61, e173_62, e173_63, e173_65, e173_67, e173_68, e173_71, e173_72, e173_73, e173_74, e173_75, e173_76, e173_78, e173_79, e173_80, e173_83, e173_84, e173_85, e173_86, e173_88, e173_89, e173_90, e173_93, e173_96, e173_99, e173_100, e173_103, e173_104, e173_106, e173_107, e173_108, e173_111, e173_112, e173_115, e173_116, e173_117, e173_120, e173_121, e173_123, e173_124, e173_125, e173_126, e173_127, e173_128, e173_130, e173_131, e173_132, e173_135, e173_136, e173_137, e173_138, e173_139, e173_140, e173_143, e173_144, e173_145, e173_146, e173_147, e173_148, e173_151, e173_152, e173_153, e173_154, e173_155, e173_157, e173_158, e173_161, e173_162, e173_164, e173_165, e173_166, e173_169, e173_172, e173_175, e173_176, e173_177, e173_180, e173_181, e173_184, e173_185, e173_186, md_g0, md_g1, md_g2, md_g3, md_g4, md_g5, md_g6, md_g7, md_g8, md_g9, md_g10, md_g11, md_g12, md_g13, md_g14, md_g15, md_g16, md_g17, md_g18, md_p3, md_p5, md_p7, md_p8, md_p9, md_p11, md_p13, md_p15, md_l0, md_l1, md_l2, md_l3, md_l4, md_l5, md_l6, md_l7, md_l8, md_l9, md_l10, md_s0, md_s1, md_s2, md_s3, md_s4, md_s5, md_s6, md_s7, md_s8, md_s9, md_s10, md_is, Option.bind_some, Option.toList_some, Option.toList_none, List.cons_append, List.nil_append, true_or, or_true, and_true, true_and, i10, Bool.false_eq_true, if_true, if_false, reduceIte, a3]
theorem m_loadU (hP : pmR M w m) (hr : rnn w m 0 s00 = (m, some s')) (hc : cmp s' = true) (hs : sou s'.2.2.2.2.2 = false) : ∃ M', mfC M M' ∧ ev (d + 6) 173 0 [some (.ref i), none, none, none, none] [] (hmd h i M) = some (some (.int (-2)), hmd h i M') := by
  obtain ⟨M', a1, a2, a3⟩ := m_areNests (d := d + 2) (h := h) (i := i) hP
  obtain ⟨b1, b2, b3⟩ := nsO_ok a2 hr hc
  have df := m_doFit (d := d + 5) (h := h) (i := i) b3 b2.1.1
  rw [bI_f (by rw [hs]; decide)] at df
  rw [b1] at a3
  refine ⟨M', a1, ?_⟩
  simp only [e173_0, e173_1, e173_4, e173_7, e173_8, e173_11, e173_14, e173_16, e173_17, e173_18, e173_21, e173_22, e173_23, e173_24, e173_27, e173_28, e173_30, e173_33, e173_35, e173_36, e173_37, e173_40, e173_41, e173_44, e173_45, e173_46, e173_47, e173_48, e173_50, e173_51, e173_54, e173_57, e173_59, e173_60, e173_61, e173_62, e173_63, e173_65, e173_67, e173_68, e173_71, e173_72, e173_73, e173_74, e173_75, e173_76, e173_78, e173_79, e173_80, e173_83, e173_84, e173_85, e173_86, e173_88, e173_89, e173_90, e173_93, e173_96, e173_99, e173_100, e173_103, e173_104, e173_106, e173_107, e173_108, e173_111, e173_112, e173_115, e173_116, e173_117, e173_120, e173_121, e173_123, e173_124, e173_125, e173_126, e173_127, e173_128, e173_130, e173_131, e173_132, e173_135, e173_136, e173_137, e173_138, e173_139, e173_140, e173_143, e173_144, e173_145, e173_146, e173_147, e173_148, e173_151, e173_152, e173_153, e173_154, e173_155, e173_157, e173_158, e173_161, e173_162, e173_164, e173_165, e173_166, e173_169, e173_172, e173_175, e173_176, e173_177, e173_180, e173_181, e173_184, e173_185, e173_186, md_g0, md_g1, md_g2, md_g3, md_g4, md_g5, md_g6, md_g7, md_g8, md_g9, md_g10, md_g11, md_g12, md_g13, md_g14, md_g15, md_g16, md_g17, md_g18, md_p3, md_p5, md_p7, md_p8, md_p9, md_p11, md_p13, md_p15, md_l0, md_l1, md_l2, md_l3, md_l4, md_l5, md_l6, md_l7, md_l8, md_l9, md_l10, md_s0, md_s1, md_s2, md_s3, md_s4, md_s5, md_s6, md_s7, md_s8, md_s9, md_s10, md_is, Option.bind_some, Option.toList_some, Option.toList_none, List.cons_append, List.nil_append, true_or, or_true, and_true, true_and, i10, Bool.false_eq_true, if_true, if_false, reduceIte, a3, df]
theorem m_loadF (hP : pmR M w m) (hR : mdR M σ) (hn : σ.1 ≤ 12) (hr : rnn w m 0 s00 = (m, some s')) (hc : cmp s' = true) (hs : sou s'.2.2.2.2.2 = true) (h12 : 12 < σ.1 + s'.2.2.2.2.2.1) : ∃ M', mfC M M' ∧ ev (d + 6) 173 0 [some (.ref i), none, none, none, none] [] (hmd h i M) = some (some (.int (-3)), hmd h i M') := by
  obtain ⟨M', a1, a2, a3⟩ := m_areNests (d := d + 2) (h := h) (i := i) hP
  obtain ⟨b1, b2, b3⟩ := nsO_ok a2 hr hc
  have df := m_doFit (d := d + 5) (h := h) (i := i) b3 b2.1.1
  have hnt := b2.1.1.1
  rw [bI_t hs] at df
  rw [b1] at a3
  have z0 : zrd 110 (M'.1 0) 0 = some (nI σ.1) := by
    rw [a1.1 0 (by decide) (by decide)]
    exact m_n hR
  have e1 : nI σ.1 + nI s'.2.2.2.2.2.1 = nI (σ.1 + s'.2.2.2.2.2.1) := nI_add _ _
  have e2 : (nI (σ.1 + s'.2.2.2.2.2.1) ≤ 12) = False := (nI_lep (b := 12) (by omega) (by omega)).trans (eq_false (by omega))
  have e3 : (12 < nI (σ.1 + s'.2.2.2.2.2.1)) = True := (nI_ltp (a := 12) (by omega) (by omega)).trans (eq_true (by omega))
  refine ⟨M', a1, ?_⟩
  simp only [e173_0, e173_1, e173_4, e173_7, e173_8, e173_11, e173_14, e173_16, e173_17, e173_18, e173_21, e173_22, e173_23, e173_24, e173_27, e173_28, e173_30, e173_33, e173_35, e173_36, e173_37, e173_40, e173_41, e173_44, e173_45, e173_46, e173_47, e173_48, e173_50, e173_51, e173_54, e173_57, e173_59, e173_60, e173_61, e173_62, e173_63, e173_65, e173_67, e173_68, e173_71, e173_72, e173_73, e173_74, e173_75, e173_76, e173_78, e173_79, e173_80, e173_83, e173_84, e173_85, e173_86, e173_88, e173_89, e173_90, e173_93, e173_96, e173_99, e173_100, e173_103, e173_104, e173_106, e173_107, e173_108, e173_111, e173_112, e173_115, e173_116, e173_117, e173_120, e173_121, e173_123, e173_124, e173_125, e173_126, e173_127, e173_128, e173_130, e173_131, e173_132, e173_135, e173_136, e173_137, e173_138, e173_139, e173_140, e173_143, e173_144, e173_145, e173_146, e173_147, e173_148, e173_151, e173_152, e173_153, e173_154, e173_155, e173_157, e173_158, e173_161, e173_162, e173_164, e173_165, e173_166, e173_169, e173_172, e173_175, e173_176, e173_177, e173_180, e173_181, e173_184, e173_185, e173_186, md_g0, md_g1, md_g2, md_g3, md_g4, md_g5, md_g6, md_g7, md_g8, md_g9, md_g10, md_g11, md_g12, md_g13, md_g14, md_g15, md_g16, md_g17, md_g18, md_p3, md_p5, md_p7, md_p8, md_p9, md_p11, md_p13, md_p15, md_l0, md_l1, md_l2, md_l3, md_l4, md_l5, md_l6, md_l7, md_l8, md_l9, md_l10, md_s0, md_s1, md_s2, md_s3, md_s4, md_s5, md_s6, md_s7, md_s8, md_s9, md_s10, md_is, Option.bind_some, Option.toList_some, Option.toList_none, List.cons_append, List.nil_append, true_or, or_true, and_true, true_and, i10, Bool.false_eq_true, if_true, if_false, reduceIte, a3, df, z0, b3.1, e1, e2, e3]
theorem m_load (hP : pmR M w m) (hlen : len ≤ 4) (hS : mSt M σ r e len) (hn : σ.1 ≤ 12) (hen : ∀ j, j < len → (e j).1.1 ≤ 12) (hr : rnn w m 0 s00 = (m, some s')) (hc : cmp s' = true) (hs : sou s'.2.2.2.2.2 = true) (h12 : σ.1 + s'.2.2.2.2.2.1 ≤ 12) : ∃ M', M'.1 3 = M.1 3 ∧ M'.2 1 = M.2 1 ∧ pmR M' w 0 ∧ mSt M' (jnd σ s'.2.2.2.2.2) r (he e len (σ, r)) (hl len) ∧ ev (d + 6) 173 0 [some (.ref i), none, none, none, none] [] (hmd h i M) = some (some (.int (nI (σ.1 + s'.2.2.2.2.2.1))), hmd h i M') := by
  obtain ⟨M', a1, a2, a3⟩ := m_areNests (d := d + 2) (h := h) (i := i) hP
  obtain ⟨b1, b2, b3⟩ := nsO_ok a2 hr hc
  have df := m_doFit (d := d + 5) (h := h) (i := i) b3 b2.1.1
  have hnt := b2.1.1.1
  have htw := read_wf hP.2.1 hr b2 hc hs
  rw [bI_t hs] at df
  rw [b1] at a3
  have h0' : M'.1 0 = M.1 0 := a1.1 0 (by decide) (by decide)
  have hS' : mSt M' σ r e len := by
    refine ⟨by rw [h0']; exact hS.1, ?_⟩
    unfold mhi
    rw [a1.1 2 (by decide) (by decide), a1.2 0 (by decide) (by decide) (by decide) (by decide)]
    exact hS.2
  have z0 : zrd 110 (M'.1 0) 0 = some (nI σ.1) := m_n (mrw_R hS'.1)
  obtain ⟨M1, c1, c2, c3, c4, c5, c6⟩ := m_rec (d := d + 4) (h := h) (i := i) hlen hS' hn hen
  have z1 : zrd 110 (M1.1 0) 0 = some (nI σ.1) := by
    rw [c1]
    exact z0
  have hR1 : rwR M1 s'.2.2.2.2.2 := by
    refine ⟨by rw [c5 5 (by decide)]; exact b3.1, fun c hc j hj => ?_⟩
    rw [c4 5 (by decide)]
    exact b3.2 c hc j hj
  have h01 : mrw (M1.1 0) 0 σ r := by rw [c1]; exact hS'.1
  obtain ⟨g', d1, d2⟩ := m_load1 (d := d + 4) (h := h) (i := i) (M := M1) hR1 htw h12 s'.2.2.2.2.2.1 0 (M1.1 0) none none (by omega) (mrw_0 h01)
  rw [setR_self] at d2
  have e1 : nI σ.1 + nI s'.2.2.2.2.2.1 = nI (σ.1 + s'.2.2.2.2.2.1) := nI_add _ _
  have e2 : (nI (σ.1 + s'.2.2.2.2.2.1) ≤ 12) = True := (nI_lep (b := 12) (by omega) (by omega)).trans (eq_true (by omega))
  have e3 : (12 < nI (σ.1 + s'.2.2.2.2.2.1)) = False := (nI_ltp (a := 12) (by omega) (by omega)).trans (eq_false (by omega))
  have n0 : nI 0 = 0 := rfl
  rw [n0] at d2
  refine ⟨setI (setR M1 0 g') 2 0, ?_, ?_, ⟨rfl, Nat.zero_le _, fun k hk => absurd hk (Nat.not_lt_zero k)⟩, ⟨d1, c3⟩, ?_⟩
  · show M1.1 3 = M.1 3
    rw [c4 3 (by decide), a1.1 3 (by decide) (by decide)]
  · show M1.2 1 = M.2 1
    rw [c5 1 (by decide), a1.2 1 (by decide) (by decide) (by decide) (by decide)]
  · simp only [e173_0, e173_1, e173_4, e173_7, e173_8, e173_11, e173_14, e173_16, e173_17, e173_18, e173_21, e173_22, e173_23, e173_24, e173_27, e173_28, e173_30, e173_33, e173_35, e173_36, e173_37, e173_40, e173_41, e173_44, e173_45, e173_46, e173_47, e173_48, e173_50, e173_51, e173_54, e173_57, e173_59, e173_60, e173_61, e173_62, e173_63, e173_65, e173_67, e173_68, e173_71, e173_72, e173_73, e173_74, e173_75, e173_76, e173_78, e173_79, e173_80, e173_83, e173_84, e173_85, e173_86, e173_88, e173_89, e173_90, e173_93, e173_96, e173_99, e173_100, e173_103, e173_104, e173_106, e173_107, e173_108, e173_111, e173_112, e173_115, e173_116, e173_117, e173_120, e173_121, e173_123, e173_124, e173_125, e173_126, e173_127, e173_128, e173_130, e173_131, e173_132, e173_135, e173_136, e173_137, e173_138, e173_139, e173_140, e173_143, e173_144, e173_145, e173_146, e173_147, e173_148, e173_151, e173_152, e173_153, e173_154, e173_155, e173_157, e173_158, e173_161, e173_162, e173_164, e173_165, e173_166, e173_169, e173_172, e173_175, e173_176, e173_177, e173_180, e173_181, e173_184, e173_185, e173_186, md_g0, md_g1, md_g2, md_g3, md_g4, md_g5, md_g6, md_g7, md_g8, md_g9, md_g10, md_g11, md_g12, md_g13, md_g14, md_g15, md_g16, md_g17, md_g18, md_p3, md_p5, md_p7, md_p8, md_p9, md_p11, md_p13, md_p15, md_l0, md_l1, md_l2, md_l3, md_l4, md_l5, md_l6, md_l7, md_l8, md_l9, md_l10, md_s0, md_s1, md_s2, md_s3, md_s4, md_s5, md_s6, md_s7, md_s8, md_s9, md_s10, md_is, Option.bind_some, Option.toList_some, Option.toList_none, List.cons_append, List.nil_append, true_or, or_true, and_true, true_and, i10, Bool.false_eq_true, if_true, if_false, reduceIte, a3, df, z0, b3.1, e1, e2, e3, c6, z1, d2]
end MBREAK
