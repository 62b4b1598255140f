/-! WHERE A CRATE FITS BEST; THE PROPERTIES OF A CRATE -/
theorem z_forIJ {α β J : Type} (F : Nat → α → J → β) (f : Nat → α → α) (I : α → Prop) (R : α → β) {n : Nat} (hs : ∀ k s x, k < n → I s → (∃ y, F k s x = F (k + 1) (f k s) y) ∧ I (f k s)) (fin : ∀ s x, I s → F n s x = R s) (s : α) (x : J) (h0 : I s) : F 0 s x = R (zfold f n s) := by
  have h : ∀ k, k ≤ n → (∃ y, F 0 s x = F k (zfold f k s) y) ∧ I (zfold f k s) := by
    intro k
    induction k with
    | zero => intro _; exact ⟨⟨x, rfl⟩, h0⟩
    | succ k ih =>
      intro hk
      obtain ⟨⟨y, hy⟩, hi⟩ := ih (by omega)
      obtain ⟨⟨z, hz⟩, hj⟩ := hs k (zfold f k s) y (by omega) hi
      exact ⟨⟨z, hy.trans hz⟩, hj⟩
  obtain ⟨⟨y, hy⟩, hi⟩ := h n (Nat.le_refl n)
  rw [hy, fin _ _ hi]
/-- a crate's number as an answer: 0 for none -/
def cB (b : Nat) : Int32 := match b with
  | 0 => -4
  | k + 1 => nI k
def bok (σ : mS) (c k : Nat) (s : Nat × Int) : Prop := (¬ (c = k ∨ c ∈ chn σ k)) ∧ σ.2 c 7 ≠ k + 1 ∧ 0 ≤ lft σ k - (σ.2 c 0 : Int) ∧ (s.1 = 0 ∨ lft σ k - (σ.2 c 0 : Int) < s.2)
def bstep (σ : mS) (c k : Nat) (s : Nat × Int) : Nat × Int := if (¬ (c = k ∨ c ∈ chn σ k)) ∧ σ.2 c 7 ≠ k + 1 ∧ 0 ≤ lft σ k - (σ.2 c 0 : Int) ∧ (s.1 = 0 ∨ lft σ k - (σ.2 c 0 : Int) < s.2) then (k + 1, lft σ k - (σ.2 c 0 : Int)) else s
def bst (σ : mS) (c : Nat) : Nat := (zfold (bstep σ c) σ.1 (0, 0)).1
def bI0 (s : Nat × Int) : Prop := s.1 ≤ 12 ∧ -1000 ≤ s.2 ∧ s.2 ≤ 60
theorem cB_m4 {b : Nat} (hb : b ≤ 12) : (cB b = -4) = (b = 0) := by
  cases b with
  | zero => exact propext ⟨fun _ => rfl, fun _ => rfl⟩
  | succ k =>
    refine propext ⟨fun h => ?_, fun h => by omega⟩
    have h : nI k = -4 := h
    have := congrArg Int32.toInt h
    rw [nI_toInt (by omega)] at this
    have e : Int32.toInt (-4) = -4 := by decide
    rw [e] at this
    omega
section CRATE
variable {d : Nat} {h : zH} {i : Nat} {S M : oS} {σ : mS} {c : Nat}
theorem s_best (hR : stR S σ) (hw : wf σ) (hc : c < σ.1) : ev (d + 3) 59 0 [some (.ref i), some (.int (nI c)), none, none, none, none, none] [] (hst h i S) = some (some (.int (cB (bst σ c))), hst h i S) := by
  have hb := hw.bnd
  have hs1 := (hw.2 c hc).1.1
  have hn := hb.1
  have h0 := hR.1
  have hs := (hb.2 c hc).1
  have h7 := (hb.2 c hc).2.2.2.2.1
  have step : ∀ (k : Nat) (s : Nat × Int) (x : Option Value × Option Value), k < σ.1 → bI0 s → (∃ y : Option Value × Option Value, ev (d + 3) 59 9 [some (.ref i), some (.int (nI c)), some (.int (cB s.1)), some (.int (iI (if s.1 = 0 then 60 else s.2))), some (.int (nI k)), x.1, x.2] [] (hst h i S) = ev (d + 3) 59 9 [some (.ref i), some (.int (nI c)), some (.int (cB (bstep σ c k s).1)), some (.int (iI (if (bstep σ c k s).1 = 0 then 60 else (bstep σ c k s).2))), some (.int (nI (k + 1))), y.1, y.2] [] (hst h i S)) ∧ bI0 (bstep σ c k s) := by
    intro k s x hk hI
    have hlt : (σ.1 ≤ k) = False := eq_false (by omega)
    have hl := lft_b hb hk
    obtain ⟨i1, i2, i3⟩ := hI
    refine ⟨?_, ?_⟩
    · have e1 : (nI k = hI (σ.2 c 7)) = (σ.2 c 7 = k + 1) := by
        rw [← hI_eq (show σ.2 c 7 < 2147483648 by omega) (show k < 2147483648 by omega)]
        exact propext ⟨Eq.symm, Eq.symm⟩
      have e2 : iI (lft σ k) - nI (σ.2 c 0) = iI (lft σ k - (σ.2 c 0 : Int)) := by rw [iI_nat, iI_sub]
      have e3 : (iI (lft σ k - (σ.2 c 0 : Int)) < 0) = (lft σ k - (σ.2 c 0 : Int) < 0) := iI_lt (b := 0) (by omega) (by omega)
      have e4 : (iI (if s.1 = 0 then 60 else s.2) ≤ iI (lft σ k - (σ.2 c 0 : Int))) = ((if s.1 = 0 then 60 else s.2) ≤ lft σ k - (σ.2 c 0 : Int)) := iI_le (by split <;> omega) (by omega)
      rw [e59_9]
      simp only [e59_0, e59_2, e59_3, e59_5, e59_6, e59_7, e59_11, e59_12, e59_15, e59_18, e59_20, e59_21, e59_24, e59_26, e59_27, e59_28, e59_31, e59_34, e59_35, e59_36, e59_38, e59_41, e59_44, e59_45, e59_48, e59_49, e59_51, e59_52, e59_54, e59_57, e59_58, e59_59, e59_62, e59_63, e59_65, e59_67, e59_70, e59_72, e59_75, e59_77, e59_78, e59_81, e59_83, e59_84, e59_86, e59_87, e59_90, e59_93, e59_94, st_g0, st_g1, st_g2, st_g3, st_g4, st_g5, st_g6, st_g7, st_p6, st_p7, st_l0, st_l1, st_l2, st_l3, st_l4, st_l5, st_s0, st_s1, st_s2, st_s3, st_s4, st_s5, st_is, Option.bind_some, Option.toList_some, Option.toList_none, List.cons_append, List.nil_append, true_or, or_true, and_true, true_and, i10, Bool.false_eq_true, if_true, if_false, reduceIte, h0, nI_lep (show σ.1 < 2147483648 by omega) (show k < 2147483648 by omega), hlt, nI_eqp (show k < 2147483648 by omega) (show c < 2147483648 by omega), s_holderOf hR hb hc, e1, s_isAround hR hb hc hk, bI_0, s_roomLeftIn hR hb hk, s_sizeOf hR hb hc, e2, e3, e4, nI_1]
      unfold bstep
      by_cases q1 : k = c
      · have q1' : c = k := q1.symm
        simp [q1]
        exact ⟨_, _, rfl⟩
      · have q1' : ¬ c = k := fun w => q1 w.symm
        by_cases q2 : σ.2 c 7 = k + 1
        · simp [q1, q1', q2]
          exact ⟨_, _, rfl⟩
        · by_cases q3 : c ∈ chn σ k
          · simp [q1, q1', q2, q3]
            exact ⟨_, _, rfl⟩
          · by_cases q4 : lft σ k - (σ.2 c 0 : Int) < 0
            · have q5 : ¬ (σ.2 c 0 : Int) ≤ lft σ k := by omega
              simp [q1, q1', q2, q3, q4, q5]
              exact ⟨_, _, rfl⟩
            · have q5 : (σ.2 c 0 : Int) ≤ lft σ k := by omega
              by_cases q6 : s.1 = 0
              · have q7 : ¬ (60 : Int) ≤ lft σ k - (σ.2 c 0 : Int) := by
                  have r1 := (hw.2 k hk).1.2
                  have r2 := (hw.2 k hk).2.1
                  unfold lft
                  omega
                simp [q1, q1', q2, q3, q4, q5, q6, q7]
                exact ⟨_, _, rfl⟩
              · by_cases q7 : s.2 ≤ lft σ k - (σ.2 c 0 : Int)
                · have q8 : ¬ lft σ k - (σ.2 c 0 : Int) < s.2 := by omega
                  simp [q1, q1', q2, q3, q4, q5, q6, q7, q8]
                  exact ⟨_, _, rfl⟩
                · have q8 : lft σ k - (σ.2 c 0 : Int) < s.2 := by omega
                  simp [q1, q1', q2, q3, q4, q5, q6, q7, q8]
                  exact ⟨_, _, rfl⟩
    · unfold bstep
      split
      · exact ⟨by omega, by dsimp only; omega, by dsimp only; omega⟩
      · exact ⟨i1, i2, i3⟩
  have fin : ∀ (s : Nat × Int) (x : Option Value × Option Value), bI0 s → ev (d + 3) 59 9 [some (.ref i), some (.int (nI c)), some (.int (cB s.1)), some (.int (iI (if s.1 = 0 then 60 else s.2))), some (.int (nI σ.1)), x.1, x.2] [] (hst h i S) = some (some (.int (cB s.1)), hst h i S) := by
    intro s x _
    rw [e59_9]
    simp only [e59_0, e59_2, e59_3, e59_5, e59_6, e59_7, e59_11, e59_12, e59_15, e59_18, e59_20, e59_21, e59_24, e59_26, e59_27, e59_28, e59_31, e59_34, e59_35, e59_36, e59_38, e59_41, e59_44, e59_45, e59_48, e59_49, e59_51, e59_52, e59_54, e59_57, e59_58, e59_59, e59_62, e59_63, e59_65, e59_67, e59_70, e59_72, e59_75, e59_77, e59_78, e59_81, e59_83, e59_84, e59_86, e59_87, e59_90, e59_93, e59_94, st_g0, st_g1, st_g2, st_g3, st_g4, st_g5, st_g6, st_g7, st_p6, st_p7, st_l0, st_l1, st_l2, st_l3, st_l4, st_l5, st_s0, st_s1, st_s2, st_s3, st_s4, st_s5, st_is, Option.bind_some, Option.toList_some, Option.toList_none, List.cons_append, List.nil_append, true_or, or_true, and_true, true_and, i10, Bool.false_eq_true, if_true, if_false, reduceIte, h0, Int32.le_refl]
  simp only [e59_0, e59_2, e59_3, e59_5, e59_6, e59_7, e59_11, e59_12, e59_15, e59_18, e59_20, e59_21, e59_24, e59_26, e59_27, e59_28, e59_31, e59_34, e59_35, e59_36, e59_38, e59_41, e59_44, e59_45, e59_48, e59_49, e59_51, e59_52, e59_54, e59_57, e59_58, e59_59, e59_62, e59_63, e59_65, e59_67, e59_70, e59_72, e59_75, e59_77, e59_78, e59_81, e59_83, e59_84, e59_86, e59_87, e59_90, e59_93, e59_94, st_g0, st_g1, st_g2, st_g3, st_g4, st_g5, st_g6, st_g7, st_p6, st_p7, st_l0, st_l1, st_l2, st_l3, st_l4, st_l5, st_s0, st_s1, st_s2, st_s3, st_s4, st_s5, st_is, Option.bind_some, Option.toList_some, Option.toList_none, List.cons_append, List.nil_append, true_or, or_true, and_true, true_and, i10, Bool.false_eq_true, if_true, if_false, reduceIte, h0]
  exact z_forIJ (fun k (s : Nat × Int) (x : Option Value × Option Value) => ev (d + 3) 59 9 [some (.ref i), some (.int (nI c)), some (.int (cB s.1)), some (.int (iI (if s.1 = 0 then 60 else s.2))), some (.int (nI k)), x.1, x.2] [] (hst h i S)) (bstep σ c) bI0 (fun s => some (some (.int (cB s.1)), hst h i S)) step fin (0, 0) (none, none) ⟨by omega, by dsimp only; omega, by dsimp only; omega⟩
theorem m_best (hR : mdR M σ) (hw : wf σ) (hc : c < σ.1) : ev (d + 3) 179 0 [some (.ref i), some (.int (nI c)), none, none, none, none, none] [] (hmd h i M) = some (some (.int (cB (bst σ c))), hmd h i M) := by
  have hb := hw.bnd
  have hn := hb.1
  have h0 := m_n hR
  have hs := (hb.2 c hc).1
  have h7 := (hb.2 c hc).2.2.2.2.1
  have step : ∀ (k : Nat) (s : Nat × Int) (x : Option Value × Option Value), k < σ.1 → bI0 s → (∃ y : Option Value × Option Value, ev (d + 3) 179 8 [some (.ref i), some (.int (nI c)), some (.int (cB s.1)), some (.int (iI s.2)), some (.int (nI k)), x.1, x.2] [] (hmd h i M) = ev (d + 3) 179 8 [some (.ref i), some (.int (nI c)), some (.int (cB (bstep σ c k s).1)), some (.int (iI (bstep σ c k s).2)), some (.int (nI (k + 1))), y.1, y.2] [] (hmd h i M)) ∧ bI0 (bstep σ c k s) := by
    intro k s x hk hI
    have hlt : (σ.1 ≤ k) = False := eq_false (by omega)
    have hl := lft_b hb hk
    obtain ⟨i1, i2, i3⟩ := hI
    refine ⟨?_, ?_⟩
    · have e1 : (hI (σ.2 c 7) = nI k) = (σ.2 c 7 = k + 1) := hI_eq (by omega) (by omega)
      have e2 : iI (lft σ k) - nI (σ.2 c 0) = iI (lft σ k - (σ.2 c 0 : Int)) := by rw [iI_nat, iI_sub]
      have e3 : (iI (lft σ k - (σ.2 c 0 : Int)) < 0) = (lft σ k - (σ.2 c 0 : Int) < 0) := iI_lt (b := 0) (by omega) (by omega)
      have e4 : (iI s.2 ≤ iI (lft σ k - (σ.2 c 0 : Int))) = (s.2 ≤ lft σ k - (σ.2 c 0 : Int)) := iI_le (by omega) (by omega)
      rw [e179_8]
      simp only [e179_0, e179_2, e179_3, e179_4, e179_5, e179_6, e179_10, e179_11, e179_14, e179_15, e179_16, e179_19, e179_20, e179_22, e179_25, e179_26, e179_27, e179_28, e179_31, e179_32, e179_34, e179_35, e179_36, e179_38, e179_41, e179_44, e179_45, e179_46, e179_49, e179_51, e179_54, e179_56, e179_59, e179_60, e179_62, e179_65, e179_67, e179_68, e179_71, e179_72, e179_75, e179_76, e179_78, e179_80, e179_83, e179_85, e179_88, e179_89, e179_90, e179_92, e179_95, e179_97, e179_100, e179_101, e179_102, e179_105, e179_108, e179_109, md_g0, md_g1, md_g2, md_g3, md_g4, md_g5, md_g6, md_g7, md_g8, md_g9, md_g10, md_g11, md_g12, md_g13, md_g14, md_g15, md_g16, md_g17, md_g18, md_p3, md_p5, md_p7, md_p8, md_p9, md_p11, md_p13, md_p15, md_l0, md_l1, md_l2, md_l3, md_l4, md_l5, md_l6, md_l7, md_l8, md_l9, md_l10, md_s0, md_s1, md_s2, md_s3, md_s4, md_s5, md_s6, md_s7, md_s8, md_s9, md_s10, md_is, Option.bind_some, Option.toList_some, Option.toList_none, List.cons_append, List.nil_append, true_or, or_true, and_true, true_and, i10, Bool.false_eq_true, if_true, if_false, reduceIte, h0, nI_lep (show σ.1 < 2147483648 by omega) (show k < 2147483648 by omega), hlt, m_around hR hb hc, e1, m_holds hR hb hc hk (hw.ends hk), bI_0, m_roomLeft hR hb hk, m_of0 hR hb hc, e2, e3, e4, nI_1, cB_m4 i1]
      unfold bstep
      by_cases q1 : c = k
      · simp [q1]
        exact ⟨_, _, rfl⟩
      · by_cases q2 : σ.2 c 7 = k + 1
        · simp [q1, q2]
          exact ⟨_, _, rfl⟩
        · by_cases q3 : c ∈ chn σ k
          · simp [q1, q2, q3]
            exact ⟨_, _, rfl⟩
          · by_cases q4 : lft σ k - (σ.2 c 0 : Int) < 0
            · have q5 : ¬ (σ.2 c 0 : Int) ≤ lft σ k := by omega
              simp [q1, q2, q3, q4, q5]
              exact ⟨_, _, rfl⟩
            · have q5 : (σ.2 c 0 : Int) ≤ lft σ k := by omega
              by_cases q6 : s.1 = 0
              · simp [q1, q2, q3, q4, q5, q6]
                exact ⟨_, _, rfl⟩
              · by_cases q7 : s.2 ≤ lft σ k - (σ.2 c 0 : Int)
                · have q8 : ¬ lft σ k - (σ.2 c 0 : Int) < s.2 := by omega
                  simp [q1, q2, q3, q4, q5, q6, q7, q8]
                  exact ⟨_, _, rfl⟩
                · have q8 : lft σ k - (σ.2 c 0 : Int) < s.2 := by omega
                  simp [q1, q2, q3, q4, q5, q6, q7, q8]
                  exact ⟨_, _, rfl⟩
    · unfold bstep
      split
      · exact ⟨by omega, by dsimp only; omega, by dsimp only; omega⟩
      · exact ⟨i1, i2, i3⟩
  have fin : ∀ (s : Nat × Int) (x : Option Value × Option Value), bI0 s → ev (d + 3) 179 8 [some (.ref i), some (.int (nI c)), some (.int (cB s.1)), some (.int (iI s.2)), some (.int (nI σ.1)), x.1, x.2] [] (hmd h i M) = some (some (.int (cB s.1)), hmd h i M) := by
    intro s x _
    rw [e179_8]
    simp only [e179_0, e179_2, e179_3, e179_4, e179_5, e179_6, e179_10, e179_11, e179_14, e179_15, e179_16, e179_19, e179_20, e179_22, e179_25, e179_26, e179_27, e179_28, e179_31, e179_32, e179_34, e179_35, e179_36, e179_38, e179_41, e179_44, e179_45, e179_46, e179_49, e179_51, e179_54, e179_56, e179_59, e179_60, e179_62, e179_65, e179_67, e179_68, e179_71, e179_72, e179_75, e179_76, e179_78, e179_80, e179_83, e179_85, e179_88, e179_89, e179_90, e179_92, e179_95, e179_97, e179_100, e179_101, e179_102, e179_105, e179_108, e179_109, md_g0, md_g1, md_g2, md_g3, md_g4, md_g5, md_g6, md_g7, md_g8, md_g9, md_g10, md_g11, md_g12, md_g13, md_g14, md_g15, md_g16, md_g17, md_g18, md_p3, md_p5, md_p7, md_p8, md_p9, md_p11, md_p13, md_p15, md_l0, md_l1, md_l2, md_l3, md_l4, md_l5, md_l6, md_l7, md_l8, md_l9, md_l10, md_s0, md_s1, md_s2, md_s3, md_s4, md_s5, md_s6, md_s7, md_s8, md_s9, md_s10, md_is, Option.bind_some, Option.toList_some, Option.toList_none, List.cons_append, List.nil_append, true_or, or_true, and_true, true_and, i10, Bool.false_eq_true, if_true, if_false, reduceIte, h0, Int32.le_refl]
  simp only [e179_0, e179_2, e179_3, e179_4, e179_5, e179_6, e179_10, e179_11, e179_14, e179_15, e179_16, e179_19, e179_20, e179_22, e179_25, e179_26, e179_27, e179_28, e179_31, e179_32, e179_34, e179_35, e179_36, e179_38, e179_41, e179_44, e179_45, e179_46, e179_49, e179_51, e179_54, e179_56, e179_59, e179_60, e179_62, e179_65, e179_67, e179_68, e179_71, e179_72, e179_75, e179_76, e179_78, e179_80, e179_83, e179_85, e179_88, e179_89, e179_90, e179_92, e179_95, e179_97, e179_100, e179_101, e179_102, e179_105, e179_108, e179_109, md_g0, md_g1, md_g2, md_g3, md_g4, md_g5, md_g6, md_g7, md_g8, md_g9, md_g10, md_g11, md_g12, md_g13, md_g14, md_g15, md_g16, md_g17, md_g18, md_p3, md_p5, md_p7, md_p8, md_p9, md_p11, md_p13, md_p15, md_l0, md_l1, md_l2, md_l3, md_l4, md_l5, md_l6, md_l7, md_l8, md_l9, md_l10, md_s0, md_s1, md_s2, md_s3, md_s4, md_s5, md_s6, md_s7, md_s8, md_s9, md_s10, md_is, Option.bind_some, Option.toList_some, Option.toList_none, List.cons_append, List.nil_append, true_or, or_true, and_true, true_and, i10, Bool.false_eq_true, if_true, if_false, reduceIte, h0]
  exact z_forIJ (fun k (s : Nat × Int) (x : Option Value × Option Value) => ev (d + 3) 179 8 [some (.ref i), some (.int (nI c)), some (.int (cB s.1)), some (.int (iI s.2)), some (.int (nI k)), x.1, x.2] [] (hmd h i M)) (bstep σ c) bI0 (fun s => some (some (.int (cB s.1)), hmd h i M)) step fin (0, 0) (none, none) ⟨by omega, by dsimp only; omega, by dsimp only; omega⟩
/-- what a call reads of a crate -/
def crv (σ : mS) (c w : Nat) : Int32 := match w with
  | 0 => nI (σ.2 c 0)
  | 1 => nI (σ.2 c 1)
  | 2 => nI (σ.2 c 2)
  | 3 => nI (lts σ c)
  | 4 => cB (σ.2 c 7)
  | 5 => nI (dpt σ c)
  | 6 => nI (pil σ c)
  | 7 => nI (lod σ c)
  | 8 => iI (lft σ c)
  | 9 => nI (σ.2 c 8)
  | 10 => iI (eft σ c)
  | 11 => bI (tld σ c = true)
  | 12 => nI (lsn σ c)
  | 13 => cB (bst σ c)
  | _ => nI (rgd σ c)
theorem m_in {x a b : Int32} : ev d 129 0 [some (.int x), some (.int a), some (.int b)] [] h = some (some (.int (bI (a ≤ x ∧ x ≤ b))), h) := by
  simp only [e129_0, e129_1, e129_2, e129_5, e129_6, e129_7, e129_10, e129_11, e129_14, e129_15, Option.bind_some, Option.toList_some, Option.toList_none, List.cons_append, List.nil_append, true_or, or_true, and_true, true_and, i10, Bool.false_eq_true, if_true, if_false, reduceIte]
  by_cases q1 : x < a
  · have q2 : ¬ a ≤ x := Int32.not_le.mpr q1
    simp [q1, q2]; rfl
  · have q2 : a ≤ x := Int32.not_lt.mp q1
    by_cases q3 : b < x
    · have q4 : ¬ x ≤ b := Int32.not_le.mpr q3
      simp [q1, q2, q3, q4]; rfl
    · have q4 : x ≤ b := Int32.not_lt.mp q3
      simp [q1, q2, q3, q4]; rfl
theorem m_isCrate (hR : mdR M σ) {x : Int32} : ev (d + 1) 132 0 [some (.ref i), some (.int x)] [] (hmd h i M) = some (some (.int (bI (0 ≤ x ∧ x ≤ nI σ.1 - 1))), hmd h i M) := by
  have h0 := m_n hR
  simp only [e132_0, e132_1, e132_2, e132_3, e132_6, e132_7, e132_8, e132_9, e132_10, md_g0, md_g1, md_g2, md_g3, md_g4, md_g5, md_g6, md_g7, md_g8, md_g9, md_g10, md_g11, md_g12, md_g13, md_g14, md_g15, md_g16, md_g17, md_g18, md_p3, md_p5, md_p7, md_p8, md_p9, md_p11, md_p13, md_p15, md_l0, md_l1, md_l2, md_l3, md_l4, md_l5, md_l6, md_l7, md_l8, md_l9, md_l10, md_s0, md_s1, md_s2, md_s3, md_s4, md_s5, md_s6, md_s7, md_s8, md_s9, md_s10, md_is, Option.bind_some, Option.toList_some, Option.toList_none, List.cons_append, List.nil_append, true_or, or_true, and_true, true_and, i10, Bool.false_eq_true, if_true, if_false, reduceIte, h0, m_in, e132_13 (bI_01 _)]
theorem zin_le {n : Nat} (hn : n ≤ 12) {x : Int32} : (0 ≤ x ∧ x ≤ nI n - 1) ↔ (zin x n = true) := by
  have e : nI n - 1 = iI ((n : Int) - 1) := by
    rw [iI_nat, show (1 : Int32) = iI 1 by decide, iI_sub]
  rcases zin_cases (c := x) (n := n) (by omega) with ⟨h1, h2⟩ | ⟨h1, h2, h3⟩ | ⟨k, hk, rfl⟩
  · rw [h2]
    exact ⟨fun q => absurd h1 (Int32.not_lt.mpr q.1), fun q => by cases q⟩
  · rw [h3]
    refine ⟨fun q => ?_, fun q => by cases q⟩
    have h4 : nI n ≤ nI n - 1 := Int32.le_trans h2 q.2
    rw [e, iI_nat, iI_le (by omega) (by omega)] at h4
    omega
  · rw [zin_T hk (by omega), e, iI_nat, iI_le (by omega) (by omega)]
    refine ⟨fun _ => rfl, fun _ => ⟨?_, by omega⟩⟩
    rw [show (0 : Int32) = iI 0 by decide, iI_le (by omega) (by omega)]
    omega
theorem m_isCrate_k (hR : mdR M σ) (hb : bnd σ) {k : Nat} (hk : k < σ.1) : ev (d + 1) 132 0 [some (.ref i), some (.int (nI k))] [] (hmd h i M) = some (some (.int 1), hmd h i M) := by
  have hn := hb.1
  rw [m_isCrate hR, bI_t ((zin_le hb.1).mpr (zin_T hk (by omega)))]
theorem m_crate0 (hR : mdR M σ) (hw : wf σ) (hc : c < σ.1) : ev (d + 6) 180 0 [some (.ref i), some (.int (nI c)), some (.int 0)] [] (hmd h i M) = some (some (.int (crv σ c 0)), hmd h i M) := by
  have hb := hw.bnd
  simp only [e180_0, e180_1, e180_2, e180_5, e180_8, e180_9, e180_10, e180_11c0, e180_11c1, e180_11c2, e180_11c3, e180_11c4, e180_11c5, e180_11c6, e180_11c7, e180_11c8, e180_11c9, e180_11c10, e180_11c11, e180_11c12, e180_11c13, e180_11c14, e180_11d, e180_84, e180_85, e180_86, e180_87, e180_90, e180_91, e180_92, e180_93, e180_96, e180_97, e180_98, e180_99, e180_102, e180_105, e180_107, e180_110, e180_111, e180_112, e180_115, e180_116, e180_117, e180_118, e180_121, e180_122, e180_123, e180_124, e180_127, e180_128, e180_129, e180_130, e180_133, e180_134, e180_135, e180_136, e180_139, e180_140, e180_141, e180_142, e180_144, e180_147, e180_148, e180_149, e180_150, e180_153, e180_154, e180_155, e180_156, e180_159, e180_162, e180_163, e180_166, e180_167, e180_168, e180_169, e180_170, e180_173, e180_174, e180_175, e180_176, e180_179, e180_180, e180_181, e180_182, e180_185, e180_186, e180_187, md_g0, md_g1, md_g2, md_g3, md_g4, md_g5, md_g6, md_g7, md_g8, md_g9, md_g10, md_g11, md_g12, md_g13, md_g14, md_g15, md_g16, md_g17, md_g18, md_p3, md_p5, md_p7, md_p8, md_p9, md_p11, md_p13, md_p15, md_l0, md_l1, md_l2, md_l3, md_l4, md_l5, md_l6, md_l7, md_l8, md_l9, md_l10, md_s0, md_s1, md_s2, md_s3, md_s4, md_s5, md_s6, md_s7, md_s8, md_s9, md_s10, md_is, Option.bind_some, Option.toList_some, Option.toList_none, List.cons_append, List.nil_append, true_or, or_true, and_true, true_and, i10, Bool.false_eq_true, if_true, if_false, reduceIte, m_isCrate_k hR hb hc, m_of0 hR hb hc, crv]
theorem m_crate1 (hR : mdR M σ) (hw : wf σ) (hc : c < σ.1) : ev (d + 6) 180 0 [some (.ref i), some (.int (nI c)), some (.int 1)] [] (hmd h i M) = some (some (.int (crv σ c 1)), hmd h i M) := by
  have hb := hw.bnd
  simp only [e180_0, e180_1, e180_2, e180_5, e180_8, e180_9, e180_10, e180_11c0, e180_11c1, e180_11c2, e180_11c3, e180_11c4, e180_11c5, e180_11c6, e180_11c7, e180_11c8, e180_11c9, e180_11c10, e180_11c11, e180_11c12, e180_11c13, e180_11c14, e180_11d, e180_84, e180_85, e180_86, e180_87, e180_90, e180_91, e180_92, e180_93, e180_96, e180_97, e180_98, e180_99, e180_102, e180_105, e180_107, e180_110, e180_111, e180_112, e180_115, e180_116, e180_117, e180_118, e180_121, e180_122, e180_123, e180_124, e180_127, e180_128, e180_129, e180_130, e180_133, e180_134, e180_135, e180_136, e180_139, e180_140, e180_141, e180_142, e180_144, e180_147, e180_148, e180_149, e180_150, e180_153, e180_154, e180_155, e180_156, e180_159, e180_162, e180_163, e180_166, e180_167, e180_168, e180_169, e180_170, e180_173, e180_174, e180_175, e180_176, e180_179, e180_180, e180_181, e180_182, e180_185, e180_186, e180_187, md_g0, md_g1, md_g2, md_g3, md_g4, md_g5, md_g6, md_g7, md_g8, md_g9, md_g10, md_g11, md_g12, md_g13, md_g14, md_g15, md_g16, md_g17, md_g18, md_p3, md_p5, md_p7, md_p8, md_p9, md_p11, md_p13, md_p15, md_l0, md_l1, md_l2, md_l3, md_l4, md_l5, md_l6, md_l7, md_l8, md_l9, md_l10, md_s0, md_s1, md_s2, md_s3, md_s4, md_s5, md_s6, md_s7, md_s8, md_s9, md_s10, md_is, Option.bind_some, Option.toList_some, Option.toList_none, List.cons_append, List.nil_append, true_or, or_true, and_true, true_and, i10, Bool.false_eq_true, if_true, if_false, reduceIte, m_isCrate_k hR hb hc, m_of1 hR hb hc, crv]
theorem m_crate2 (hR : mdR M σ) (hw : wf σ) (hc : c < σ.1) : ev (d + 6) 180 0 [some (.ref i), some (.int (nI c)), some (.int 2)] [] (hmd h i M) = some (some (.int (crv σ c 2)), hmd h i M) := by
  have hb := hw.bnd
  simp only [e180_0, e180_1, e180_2, e180_5, e180_8, e180_9, e180_10, e180_11c0, e180_11c1, e180_11c2, e180_11c3, e180_11c4, e180_11c5, e180_11c6, e180_11c7, e180_11c8, e180_11c9, e180_11c10, e180_11c11, e180_11c12, e180_11c13, e180_11c14, e180_11d, e180_84, e180_85, e180_86, e180_87, e180_90, e180_91, e180_92, e180_93, e180_96, e180_97, e180_98, e180_99, e180_102, e180_105, e180_107, e180_110, e180_111, e180_112, e180_115, e180_116, e180_117, e180_118, e180_121, e180_122, e180_123, e180_124, e180_127, e180_128, e180_129, e180_130, e180_133, e180_134, e180_135, e180_136, e180_139, e180_140, e180_141, e180_142, e180_144, e180_147, e180_148, e180_149, e180_150, e180_153, e180_154, e180_155, e180_156, e180_159, e180_162, e180_163, e180_166, e180_167, e180_168, e180_169, e180_170, e180_173, e180_174, e180_175, e180_176, e180_179, e180_180, e180_181, e180_182, e180_185, e180_186, e180_187, md_g0, md_g1, md_g2, md_g3, md_g4, md_g5, md_g6, md_g7, md_g8, md_g9, md_g10, md_g11, md_g12, md_g13, md_g14, md_g15, md_g16, md_g17, md_g18, md_p3, md_p5, md_p7, md_p8, md_p9, md_p11, md_p13, md_p15, md_l0, md_l1, md_l2, md_l3, md_l4, md_l5, md_l6, md_l7, md_l8, md_l9, md_l10, md_s0, md_s1, md_s2, md_s3, md_s4, md_s5, md_s6, md_s7, md_s8, md_s9, md_s10, md_is, Option.bind_some, Option.toList_some, Option.toList_none, List.cons_append, List.nil_append, true_or, or_true, and_true, true_and, i10, Bool.false_eq_true, if_true, if_false, reduceIte, m_isCrate_k hR hb hc, m_of2 hR hb hc, crv]
theorem m_crate3 (hR : mdR M σ) (hw : wf σ) (hc : c < σ.1) : ev (d + 6) 180 0 [some (.ref i), some (.int (nI c)), some (.int 3)] [] (hmd h i M) = some (some (.int (crv σ c 3)), hmd h i M) := by
  have hb := hw.bnd
  simp only [e180_0, e180_1, e180_2, e180_5, e180_8, e180_9, e180_10, e180_11c0, e180_11c1, e180_11c2, e180_11c3, e180_11c4, e180_11c5, e180_11c6, e180_11c7, e180_11c8, e180_11c9, e180_11c10, e180_11c11, e180_11c12, e180_11c13, e180_11c14, e180_11d, e180_84, e180_85, e180_86, e180_87, e180_90, e180_91, e180_92, e180_93, e180_96, e180_97, e180_98, e180_99, e180_102, e180_105, e180_107, e180_110, e180_111, e180_112, e180_115, e180_116, e180_117, e180_118, e180_121, e180_122, e180_123, e180_124, e180_127, e180_128, e180_129, e180_130, e180_133, e180_134, e180_135, e180_136, e180_139, e180_140, e180_141, e180_142, e180_144, e180_147, e180_148, e180_149, e180_150, e180_153, e180_154, e180_155, e180_156, e180_159, e180_162, e180_163, e180_166, e180_167, e180_168, e180_169, e180_170, e180_173, e180_174, e180_175, e180_176, e180_179, e180_180, e180_181, e180_182, e180_185, e180_186, e180_187, md_g0, md_g1, md_g2, md_g3, md_g4, md_g5, md_g6, md_g7, md_g8, md_g9, md_g10, md_g11, md_g12, md_g13, md_g14, md_g15, md_g16, md_g17, md_g18, md_p3, md_p5, md_p7, md_p8, md_p9, md_p11, md_p13, md_p15, md_l0, md_l1, md_l2, md_l3, md_l4, md_l5, md_l6, md_l7, md_l8, md_l9, md_l10, md_s0, md_s1, md_s2, md_s3, md_s4, md_s5, md_s6, md_s7, md_s8, md_s9, md_s10, md_is, Option.bind_some, Option.toList_some, Option.toList_none, List.cons_append, List.nil_append, true_or, or_true, and_true, true_and, i10, Bool.false_eq_true, if_true, if_false, reduceIte, m_isCrate_k hR hb hc, m_letters hR hb hc, crv]
theorem m_crate4 (hR : mdR M σ) (hw : wf σ) (hc : c < σ.1) : ev (d + 6) 180 0 [some (.ref i), some (.int (nI c)), some (.int 4)] [] (hmd h i M) = some (some (.int (crv σ c 4)), hmd h i M) := by
  have hb := hw.bnd
  have h7 := (hb.2 c hc).2.2.2.2.1
  have hn := hb.1
  simp only [e180_0, e180_1, e180_2, e180_5, e180_8, e180_9, e180_10, e180_11c0, e180_11c1, e180_11c2, e180_11c3, e180_11c4, e180_11c5, e180_11c6, e180_11c7, e180_11c8, e180_11c9, e180_11c10, e180_11c11, e180_11c12, e180_11c13, e180_11c14, e180_11d, e180_84, e180_85, e180_86, e180_87, e180_90, e180_91, e180_92, e180_93, e180_96, e180_97, e180_98, e180_99, e180_102, e180_105, e180_107, e180_110, e180_111, e180_112, e180_115, e180_116, e180_117, e180_118, e180_121, e180_122, e180_123, e180_124, e180_127, e180_128, e180_129, e180_130, e180_133, e180_134, e180_135, e180_136, e180_139, e180_140, e180_141, e180_142, e180_144, e180_147, e180_148, e180_149, e180_150, e180_153, e180_154, e180_155, e180_156, e180_159, e180_162, e180_163, e180_166, e180_167, e180_168, e180_169, e180_170, e180_173, e180_174, e180_175, e180_176, e180_179, e180_180, e180_181, e180_182, e180_185, e180_186, e180_187, md_g0, md_g1, md_g2, md_g3, md_g4, md_g5, md_g6, md_g7, md_g8, md_g9, md_g10, md_g11, md_g12, md_g13, md_g14, md_g15, md_g16, md_g17, md_g18, md_p3, md_p5, md_p7, md_p8, md_p9, md_p11, md_p13, md_p15, md_l0, md_l1, md_l2, md_l3, md_l4, md_l5, md_l6, md_l7, md_l8, md_l9, md_l10, md_s0, md_s1, md_s2, md_s3, md_s4, md_s5, md_s6, md_s7, md_s8, md_s9, md_s10, md_is, Option.bind_some, Option.toList_some, Option.toList_none, List.cons_append, List.nil_append, true_or, or_true, and_true, true_and, i10, Bool.false_eq_true, if_true, if_false, reduceIte, m_isCrate_k hR hb hc, m_around hR hb hc, crv]
  cases q : σ.2 c 7 with
  | zero => rw [hI_0]; rfl
  | succ k =>
    rw [hI_s, if_pos (Int32.not_lt.mp (nI_pos (by omega)))]
    rfl
theorem m_crate5 (hR : mdR M σ) (hw : wf σ) (hc : c < σ.1) : ev (d + 6) 180 0 [some (.ref i), some (.int (nI c)), some (.int 5)] [] (hmd h i M) = some (some (.int (crv σ c 5)), hmd h i M) := by
  have hb := hw.bnd
  simp only [e180_0, e180_1, e180_2, e180_5, e180_8, e180_9, e180_10, e180_11c0, e180_11c1, e180_11c2, e180_11c3, e180_11c4, e180_11c5, e180_11c6, e180_11c7, e180_11c8, e180_11c9, e180_11c10, e180_11c11, e180_11c12, e180_11c13, e180_11c14, e180_11d, e180_84, e180_85, e180_86, e180_87, e180_90, e180_91, e180_92, e180_93, e180_96, e180_97, e180_98, e180_99, e180_102, e180_105, e180_107, e180_110, e180_111, e180_112, e180_115, e180_116, e180_117, e180_118, e180_121, e180_122, e180_123, e180_124, e180_127, e180_128, e180_129, e180_130, e180_133, e180_134, e180_135, e180_136, e180_139, e180_140, e180_141, e180_142, e180_144, e180_147, e180_148, e180_149, e180_150, e180_153, e180_154, e180_155, e180_156, e180_159, e180_162, e180_163, e180_166, e180_167, e180_168, e180_169, e180_170, e180_173, e180_174, e180_175, e180_176, e180_179, e180_180, e180_181, e180_182, e180_185, e180_186, e180_187, md_g0, md_g1, md_g2, md_g3, md_g4, md_g5, md_g6, md_g7, md_g8, md_g9, md_g10, md_g11, md_g12, md_g13, md_g14, md_g15, md_g16, md_g17, md_g18, md_p3, md_p5, md_p7, md_p8, md_p9, md_p11, md_p13, md_p15, md_l0, md_l1, md_l2, md_l3, md_l4, md_l5, md_l6, md_l7, md_l8, md_l9, md_l10, md_s0, md_s1, md_s2, md_s3, md_s4, md_s5, md_s6, md_s7, md_s8, md_s9, md_s10, md_is, Option.bind_some, Option.toList_some, Option.toList_none, List.cons_append, List.nil_append, true_or, or_true, and_true, true_and, i10, Bool.false_eq_true, if_true, if_false, reduceIte, m_isCrate_k hR hb hc, m_depthOf hR hb hc (hw.ends hc), crv]
theorem m_crate6 (hR : mdR M σ) (hw : wf σ) (hc : c < σ.1) : ev (d + 6) 180 0 [some (.ref i), some (.int (nI c)), some (.int 6)] [] (hmd h i M) = some (some (.int (crv σ c 6)), hmd h i M) := by
  have hb := hw.bnd
  simp only [e180_0, e180_1, e180_2, e180_5, e180_8, e180_9, e180_10, e180_11c0, e180_11c1, e180_11c2, e180_11c3, e180_11c4, e180_11c5, e180_11c6, e180_11c7, e180_11c8, e180_11c9, e180_11c10, e180_11c11, e180_11c12, e180_11c13, e180_11c14, e180_11d, e180_84, e180_85, e180_86, e180_87, e180_90, e180_91, e180_92, e180_93, e180_96, e180_97, e180_98, e180_99, e180_102, e180_105, e180_107, e180_110, e180_111, e180_112, e180_115, e180_116, e180_117, e180_118, e180_121, e180_122, e180_123, e180_124, e180_127, e180_128, e180_129, e180_130, e180_133, e180_134, e180_135, e180_136, e180_139, e180_140, e180_141, e180_142, e180_144, e180_147, e180_148, e180_149, e180_150, e180_153, e180_154, e180_155, e180_156, e180_159, e180_162, e180_163, e180_166, e180_167, e180_168, e180_169, e180_170, e180_173, e180_174, e180_175, e180_176, e180_179, e180_180, e180_181, e180_182, e180_185, e180_186, e180_187, md_g0, md_g1, md_g2, md_g3, md_g4, md_g5, md_g6, md_g7, md_g8, md_g9, md_g10, md_g11, md_g12, md_g13, md_g14, md_g15, md_g16, md_g17, md_g18, md_p3, md_p5, md_p7, md_p8, md_p9, md_p11, md_p13, md_p15, md_l0, md_l1, md_l2, md_l3, md_l4, md_l5, md_l6, md_l7, md_l8, md_l9, md_l10, md_s0, md_s1, md_s2, md_s3, md_s4, md_s5, md_s6, md_s7, md_s8, md_s9, md_s10, md_is, Option.bind_some, Option.toList_some, Option.toList_none, List.cons_append, List.nil_append, true_or, or_true, and_true, true_and, i10, Bool.false_eq_true, if_true, if_false, reduceIte, m_isCrate_k hR hb hc, m_pile hR hb hc, crv]
theorem m_crate7 (hR : mdR M σ) (hw : wf σ) (hc : c < σ.1) : ev (d + 6) 180 0 [some (.ref i), some (.int (nI c)), some (.int 7)] [] (hmd h i M) = some (some (.int (crv σ c 7)), hmd h i M) := by
  have hb := hw.bnd
  simp only [e180_0, e180_1, e180_2, e180_5, e180_8, e180_9, e180_10, e180_11c0, e180_11c1, e180_11c2, e180_11c3, e180_11c4, e180_11c5, e180_11c6, e180_11c7, e180_11c8, e180_11c9, e180_11c10, e180_11c11, e180_11c12, e180_11c13, e180_11c14, e180_11d, e180_84, e180_85, e180_86, e180_87, e180_90, e180_91, e180_92, e180_93, e180_96, e180_97, e180_98, e180_99, e180_102, e180_105, e180_107, e180_110, e180_111, e180_112, e180_115, e180_116, e180_117, e180_118, e180_121, e180_122, e180_123, e180_124, e180_127, e180_128, e180_129, e180_130, e180_133, e180_134, e180_135, e180_136, e180_139, e180_140, e180_141, e180_142, e180_144, e180_147, e180_148, e180_149, e180_150, e180_153, e180_154, e180_155, e180_156, e180_159, e180_162, e180_163, e180_166, e180_167, e180_168, e180_169, e180_170, e180_173, e180_174, e180_175, e180_176, e180_179, e180_180, e180_181, e180_182, e180_185, e180_186, e180_187, md_g0, md_g1, md_g2, md_g3, md_g4, md_g5, md_g6, md_g7, md_g8, md_g9, md_g10, md_g11, md_g12, md_g13, md_g14, md_g15, md_g16, md_g17, md_g18, md_p3, md_p5, md_p7, md_p8, md_p9, md_p11, md_p13, md_p15, md_l0, md_l1, md_l2, md_l3, md_l4, md_l5, md_l6, md_l7, md_l8, md_l9, md_l10, md_s0, md_s1, md_s2, md_s3, md_s4, md_s5, md_s6, md_s7, md_s8, md_s9, md_s10, md_is, Option.bind_some, Option.toList_some, Option.toList_none, List.cons_append, List.nil_append, true_or, or_true, and_true, true_and, i10, Bool.false_eq_true, if_true, if_false, reduceIte, m_isCrate_k hR hb hc, m_loadOf hR hb hc (fun x hx => hw.ends hx) (hw.irr hc), crv]
theorem m_crate8 (hR : mdR M σ) (hw : wf σ) (hc : c < σ.1) : ev (d + 6) 180 0 [some (.ref i), some (.int (nI c)), some (.int 8)] [] (hmd h i M) = some (some (.int (crv σ c 8)), hmd h i M) := by
  have hb := hw.bnd
  simp only [e180_0, e180_1, e180_2, e180_5, e180_8, e180_9, e180_10, e180_11c0, e180_11c1, e180_11c2, e180_11c3, e180_11c4, e180_11c5, e180_11c6, e180_11c7, e180_11c8, e180_11c9, e180_11c10, e180_11c11, e180_11c12, e180_11c13, e180_11c14, e180_11d, e180_84, e180_85, e180_86, e180_87, e180_90, e180_91, e180_92, e180_93, e180_96, e180_97, e180_98, e180_99, e180_102, e180_105, e180_107, e180_110, e180_111, e180_112, e180_115, e180_116, e180_117, e180_118, e180_121, e180_122, e180_123, e180_124, e180_127, e180_128, e180_129, e180_130, e180_133, e180_134, e180_135, e180_136, e180_139, e180_140, e180_141, e180_142, e180_144, e180_147, e180_148, e180_149, e180_150, e180_153, e180_154, e180_155, e180_156, e180_159, e180_162, e180_163, e180_166, e180_167, e180_168, e180_169, e180_170, e180_173, e180_174, e180_175, e180_176, e180_179, e180_180, e180_181, e180_182, e180_185, e180_186, e180_187, md_g0, md_g1, md_g2, md_g3, md_g4, md_g5, md_g6, md_g7, md_g8, md_g9, md_g10, md_g11, md_g12, md_g13, md_g14, md_g15, md_g16, md_g17, md_g18, md_p3, md_p5, md_p7, md_p8, md_p9, md_p11, md_p13, md_p15, md_l0, md_l1, md_l2, md_l3, md_l4, md_l5, md_l6, md_l7, md_l8, md_l9, md_l10, md_s0, md_s1, md_s2, md_s3, md_s4, md_s5, md_s6, md_s7, md_s8, md_s9, md_s10, md_is, Option.bind_some, Option.toList_some, Option.toList_none, List.cons_append, List.nil_append, true_or, or_true, and_true, true_and, i10, Bool.false_eq_true, if_true, if_false, reduceIte, m_isCrate_k hR hb hc, m_roomLeft hR hb hc, crv]
theorem m_crate9 (hR : mdR M σ) (hw : wf σ) (hc : c < σ.1) : ev (d + 6) 180 0 [some (.ref i), some (.int (nI c)), some (.int 9)] [] (hmd h i M) = some (some (.int (crv σ c 9)), hmd h i M) := by
  have hb := hw.bnd
  simp only [e180_0, e180_1, e180_2, e180_5, e180_8, e180_9, e180_10, e180_11c0, e180_11c1, e180_11c2, e180_11c3, e180_11c4, e180_11c5, e180_11c6, e180_11c7, e180_11c8, e180_11c9, e180_11c10, e180_11c11, e180_11c12, e180_11c13, e180_11c14, e180_11d, e180_84, e180_85, e180_86, e180_87, e180_90, e180_91, e180_92, e180_93, e180_96, e180_97, e180_98, e180_99, e180_102, e180_105, e180_107, e180_110, e180_111, e180_112, e180_115, e180_116, e180_117, e180_118, e180_121, e180_122, e180_123, e180_124, e180_127, e180_128, e180_129, e180_130, e180_133, e180_134, e180_135, e180_136, e180_139, e180_140, e180_141, e180_142, e180_144, e180_147, e180_148, e180_149, e180_150, e180_153, e180_154, e180_155, e180_156, e180_159, e180_162, e180_163, e180_166, e180_167, e180_168, e180_169, e180_170, e180_173, e180_174, e180_175, e180_176, e180_179, e180_180, e180_181, e180_182, e180_185, e180_186, e180_187, md_g0, md_g1, md_g2, md_g3, md_g4, md_g5, md_g6, md_g7, md_g8, md_g9, md_g10, md_g11, md_g12, md_g13, md_g14, md_g15, md_g16, md_g17, md_g18, md_p3, md_p5, md_p7, md_p8, md_p9, md_p11, md_p13, md_p15, md_l0, md_l1, md_l2, md_l3, md_l4, md_l5, md_l6, md_l7, md_l8, md_l9, md_l10, md_s0, md_s1, md_s2, md_s3, md_s4, md_s5, md_s6, md_s7, md_s8, md_s9, md_s10, md_is, Option.bind_some, Option.toList_some, Option.toList_none, List.cons_append, List.nil_append, true_or, or_true, and_true, true_and, i10, Bool.false_eq_true, if_true, if_false, reduceIte, m_isCrate_k hR hb hc, m_of8 hR hb hc, crv]
theorem m_crate10 (hR : mdR M σ) (hw : wf σ) (hc : c < σ.1) : ev (d + 6) 180 0 [some (.ref i), some (.int (nI c)), some (.int 10)] [] (hmd h i M) = some (some (.int (crv σ c 10)), hmd h i M) := by
  have hb := hw.bnd
  simp only [e180_0, e180_1, e180_2, e180_5, e180_8, e180_9, e180_10, e180_11c0, e180_11c1, e180_11c2, e180_11c3, e180_11c4, e180_11c5, e180_11c6, e180_11c7, e180_11c8, e180_11c9, e180_11c10, e180_11c11, e180_11c12, e180_11c13, e180_11c14, e180_11d, e180_84, e180_85, e180_86, e180_87, e180_90, e180_91, e180_92, e180_93, e180_96, e180_97, e180_98, e180_99, e180_102, e180_105, e180_107, e180_110, e180_111, e180_112, e180_115, e180_116, e180_117, e180_118, e180_121, e180_122, e180_123, e180_124, e180_127, e180_128, e180_129, e180_130, e180_133, e180_134, e180_135, e180_136, e180_139, e180_140, e180_141, e180_142, e180_144, e180_147, e180_148, e180_149, e180_150, e180_153, e180_154, e180_155, e180_156, e180_159, e180_162, e180_163, e180_166, e180_167, e180_168, e180_169, e180_170, e180_173, e180_174, e180_175, e180_176, e180_179, e180_180, e180_181, e180_182, e180_185, e180_186, e180_187, md_g0, md_g1, md_g2, md_g3, md_g4, md_g5, md_g6, md_g7, md_g8, md_g9, md_g10, md_g11, md_g12, md_g13, md_g14, md_g15, md_g16, md_g17, md_g18, md_p3, md_p5, md_p7, md_p8, md_p9, md_p11, md_p13, md_p15, md_l0, md_l1, md_l2, md_l3, md_l4, md_l5, md_l6, md_l7, md_l8, md_l9, md_l10, md_s0, md_s1, md_s2, md_s3, md_s4, md_s5, md_s6, md_s7, md_s8, md_s9, md_s10, md_is, Option.bind_some, Option.toList_some, Option.toList_none, List.cons_append, List.nil_append, true_or, or_true, and_true, true_and, i10, Bool.false_eq_true, if_true, if_false, reduceIte, m_isCrate_k hR hb hc, m_effortTo hR hw hc, crv]
theorem m_crate11 (hR : mdR M σ) (hw : wf σ) (hc : c < σ.1) : ev (d + 6) 180 0 [some (.ref i), some (.int (nI c)), some (.int 11)] [] (hmd h i M) = some (some (.int (crv σ c 11)), hmd h i M) := by
  have hb := hw.bnd
  simp only [e180_0, e180_1, e180_2, e180_5, e180_8, e180_9, e180_10, e180_11c0, e180_11c1, e180_11c2, e180_11c3, e180_11c4, e180_11c5, e180_11c6, e180_11c7, e180_11c8, e180_11c9, e180_11c10, e180_11c11, e180_11c12, e180_11c13, e180_11c14, e180_11d, e180_84, e180_85, e180_86, e180_87, e180_90, e180_91, e180_92, e180_93, e180_96, e180_97, e180_98, e180_99, e180_102, e180_105, e180_107, e180_110, e180_111, e180_112, e180_115, e180_116, e180_117, e180_118, e180_121, e180_122, e180_123, e180_124, e180_127, e180_128, e180_129, e180_130, e180_133, e180_134, e180_135, e180_136, e180_139, e180_140, e180_141, e180_142, e180_144, e180_147, e180_148, e180_149, e180_150, e180_153, e180_154, e180_155, e180_156, e180_159, e180_162, e180_163, e180_166, e180_167, e180_168, e180_169, e180_170, e180_173, e180_174, e180_175, e180_176, e180_179, e180_180, e180_181, e180_182, e180_185, e180_186, e180_187, md_g0, md_g1, md_g2, md_g3, md_g4, md_g5, md_g6, md_g7, md_g8, md_g9, md_g10, md_g11, md_g12, md_g13, md_g14, md_g15, md_g16, md_g17, md_g18, md_p3, md_p5, md_p7, md_p8, md_p9, md_p11, md_p13, md_p15, md_l0, md_l1, md_l2, md_l3, md_l4, md_l5, md_l6, md_l7, md_l8, md_l9, md_l10, md_s0, md_s1, md_s2, md_s3, md_s4, md_s5, md_s6, md_s7, md_s8, md_s9, md_s10, md_is, Option.bind_some, Option.toList_some, Option.toList_none, List.cons_append, List.nil_append, true_or, or_true, and_true, true_and, i10, Bool.false_eq_true, if_true, if_false, reduceIte, m_isCrate_k hR hb hc, m_isTold hR hb hc (fun x hx => hw.ends hx), bI_0, crv]
  cases q : tld σ c with
  | false => simp [bI]
  | true => simp [bI]
theorem m_crate12 (hR : mdR M σ) (hw : wf σ) (hc : c < σ.1) : ev (d + 6) 180 0 [some (.ref i), some (.int (nI c)), some (.int 12)] [] (hmd h i M) = some (some (.int (crv σ c 12)), hmd h i M) := by
  have hb := hw.bnd
  simp only [e180_0, e180_1, e180_2, e180_5, e180_8, e180_9, e180_10, e180_11c0, e180_11c1, e180_11c2, e180_11c3, e180_11c4, e180_11c5, e180_11c6, e180_11c7, e180_11c8, e180_11c9, e180_11c10, e180_11c11, e180_11c12, e180_11c13, e180_11c14, e180_11d, e180_84, e180_85, e180_86, e180_87, e180_90, e180_91, e180_92, e180_93, e180_96, e180_97, e180_98, e180_99, e180_102, e180_105, e180_107, e180_110, e180_111, e180_112, e180_115, e180_116, e180_117, e180_118, e180_121, e180_122, e180_123, e180_124, e180_127, e180_128, e180_129, e180_130, e180_133, e180_134, e180_135, e180_136, e180_139, e180_140, e180_141, e180_142, e180_144, e180_147, e180_148, e180_149, e180_150, e180_153, e180_154, e180_155, e180_156, e180_159, e180_162, e180_163, e180_166, e180_167, e180_168, e180_169, e180_170, e180_173, e180_174, e180_175, e180_176, e180_179, e180_180, e180_181, e180_182, e180_185, e180_186, e180_187, md_g0, md_g1, md_g2, md_g3, md_g4, md_g5, md_g6, md_g7, md_g8, md_g9, md_g10, md_g11, md_g12, md_g13, md_g14, md_g15, md_g16, md_g17, md_g18, md_p3, md_p5, md_p7, md_p8, md_p9, md_p11, md_p13, md_p15, md_l0, md_l1, md_l2, md_l3, md_l4, md_l5, md_l6, md_l7, md_l8, md_l9, md_l10, md_s0, md_s1, md_s2, md_s3, md_s4, md_s5, md_s6, md_s7, md_s8, md_s9, md_s10, md_is, Option.bind_some, Option.toList_some, Option.toList_none, List.cons_append, List.nil_append, true_or, or_true, and_true, true_and, i10, Bool.false_eq_true, if_true, if_false, reduceIte, m_isCrate_k hR hb hc, m_lettersSeen hR hb hc (hw.ends hc), crv]
theorem m_crate13 (hR : mdR M σ) (hw : wf σ) (hc : c < σ.1) : ev (d + 6) 180 0 [some (.ref i), some (.int (nI c)), some (.int 13)] [] (hmd h i M) = some (some (.int (crv σ c 13)), hmd h i M) := by
  have hb := hw.bnd
  simp only [e180_0, e180_1, e180_2, e180_5, e180_8, e180_9, e180_10, e180_11c0, e180_11c1, e180_11c2, e180_11c3, e180_11c4, e180_11c5, e180_11c6, e180_11c7, e180_11c8, e180_11c9, e180_11c10, e180_11c11, e180_11c12, e180_11c13, e180_11c14, e180_11d, e180_84, e180_85, e180_86, e180_87, e180_90, e180_91, e180_92, e180_93, e180_96, e180_97, e180_98, e180_99, e180_102, e180_105, e180_107, e180_110, e180_111, e180_112, e180_115, e180_116, e180_117, e180_118, e180_121, e180_122, e180_123, e180_124, e180_127, e180_128, e180_129, e180_130, e180_133, e180_134, e180_135, e180_136, e180_139, e180_140, e180_141, e180_142, e180_144, e180_147, e180_148, e180_149, e180_150, e180_153, e180_154, e180_155, e180_156, e180_159, e180_162, e180_163, e180_166, e180_167, e180_168, e180_169, e180_170, e180_173, e180_174, e180_175, e180_176, e180_179, e180_180, e180_181, e180_182, e180_185, e180_186, e180_187, md_g0, md_g1, md_g2, md_g3, md_g4, md_g5, md_g6, md_g7, md_g8, md_g9, md_g10, md_g11, md_g12, md_g13, md_g14, md_g15, md_g16, md_g17, md_g18, md_p3, md_p5, md_p7, md_p8, md_p9, md_p11, md_p13, md_p15, md_l0, md_l1, md_l2, md_l3, md_l4, md_l5, md_l6, md_l7, md_l8, md_l9, md_l10, md_s0, md_s1, md_s2, md_s3, md_s4, md_s5, md_s6, md_s7, md_s8, md_s9, md_s10, md_is, Option.bind_some, Option.toList_some, Option.toList_none, List.cons_append, List.nil_append, true_or, or_true, and_true, true_and, i10, Bool.false_eq_true, if_true, if_false, reduceIte, m_isCrate_k hR hb hc, m_best hR hw hc, crv]
theorem m_crate14 (hR : mdR M σ) (hw : wf σ) (hc : c < σ.1) : ev (d + 6) 180 0 [some (.ref i), some (.int (nI c)), some (.int 14)] [] (hmd h i M) = some (some (.int (crv σ c 14)), hmd h i M) := by
  have hb := hw.bnd
  simp only [e180_0, e180_1, e180_2, e180_5, e180_8, e180_9, e180_10, e180_11c0, e180_11c1, e180_11c2, e180_11c3, e180_11c4, e180_11c5, e180_11c6, e180_11c7, e180_11c8, e180_11c9, e180_11c10, e180_11c11, e180_11c12, e180_11c13, e180_11c14, e180_11d, e180_84, e180_85, e180_86, e180_87, e180_90, e180_91, e180_92, e180_93, e180_96, e180_97, e180_98, e180_99, e180_102, e180_105, e180_107, e180_110, e180_111, e180_112, e180_115, e180_116, e180_117, e180_118, e180_121, e180_122, e180_123, e180_124, e180_127, e180_128, e180_129, e180_130, e180_133, e180_134, e180_135, e180_136, e180_139, e180_140, e180_141, e180_142, e180_144, e180_147, e180_148, e180_149, e180_150, e180_153, e180_154, e180_155, e180_156, e180_159, e180_162, e180_163, e180_166, e180_167, e180_168, e180_169, e180_170, e180_173, e180_174, e180_175, e180_176, e180_179, e180_180, e180_181, e180_182, e180_185, e180_186, e180_187, md_g0, md_g1, md_g2, md_g3, md_g4, md_g5, md_g6, md_g7, md_g8, md_g9, md_g10, md_g11, md_g12, md_g13, md_g14, md_g15, md_g16, md_g17, md_g18, md_p3, md_p5, md_p7, md_p8, md_p9, md_p11, md_p13, md_p15, md_l0, md_l1, md_l2, md_l3, md_l4, md_l5, md_l6, md_l7, md_l8, md_l9, md_l10, md_s0, md_s1, md_s2, md_s3, md_s4, md_s5, md_s6, md_s7, md_s8, md_s9, md_s10, md_is, Option.bind_some, Option.toList_some, Option.toList_none, List.cons_append, List.nil_append, true_or, or_true, and_true, true_and, i10, Bool.false_eq_true, if_true, if_false, reduceIte, m_isCrate_k hR hb hc, m_reasonGround hR hb hc, crv]
end CRATE
/-- sums as the machine makes them -/
def sI (f : Nat → Int32) : Nat → Int32
  | 0 => 0
  | n + 1 => sI f n + f n
theorem zfold_sI {f : Nat → Int32} {n : Nat} {s : Int32} : zfold (fun k s => s + f k) n s = s + sI f n := by
  induction n with
  | zero => rw [zfold, sI, Int32.add_zero]
  | succ n ih => rw [zfold, ih, sI, Int32.add_assoc]
theorem sI_cong {p q : Nat → Int32} : ∀ {n : Nat}, (∀ k, k < n → p k = q k) → sI p n = sI q n
  | 0, _ => rfl
  | n + 1, h => by rw [sI, sI, sI_cong (fun k hk => h k (by omega)), h n (by omega)]
theorem sI_nI {f : Nat → Nat} : ∀ {n : Nat}, sI (fun k => nI (f k)) n = nI (sm f n)
  | 0 => rfl
  | n + 1 => by rw [sI, sI_nI, sm, iI_nat, iI_nat, iI_nat, iI_add]; congr 1
theorem sI_iI {f : Nat → Int} : ∀ {n : Nat}, sI (fun k => iI (f k)) n = iI (si f n)
  | 0 => rfl
  | n + 1 => by rw [sI, sI_iI, si, iI_add]
section SUM
variable {d : Nat} {h : zH} {i : Nat} {S M : oS} {σ : mS} {c : Nat}
theorem m_sum (hR : mdR M σ) (hb : bnd σ) {w : Int32} {f : Nat → Int32} (hf : ∀ k, k < σ.1 → ev (d + 6) 180 0 [some (.ref i), some (.int (nI k)), some (.int w)] [] (hmd h i M) = some (some (.int (f k)), hmd h i M))  : ev (d + 7) 192 0 [some (.ref i), some (.int w), none, none] [] (hmd h i M) = some (some (.int (sI f σ.1)), hmd h i M) := by
  have hn := hb.1
  have h0 := m_n hR
  have step : ∀ (k : Nat) (s : Int32), k < σ.1 → ev (d + 7) 192 4 [some (.ref i), some (.int w), some (.int s), some (.int (nI k))] [] (hmd h i M) = ev (d + 7) 192 4 [some (.ref i), some (.int w), some (.int (s + f k)), some (.int (nI (k + 1)))] [] (hmd h i M) := by
    intro k s hk
    have hlt : (σ.1 ≤ k) = False := eq_false (by omega)
    rw [e192_4]
    simp only [e192_0, e192_1, e192_2, e192_3, e192_5, e192_6, e192_9, e192_10, e192_11, e192_14, e192_15, e192_16, e192_17, e192_18, e192_21, e192_22, e192_23, e192_26, e192_29, e192_30, md_g0, md_g1, md_g2, md_g3, md_g4, md_g5, md_g6, md_g7, md_g8, md_g9, md_g10, md_g11, md_g12, md_g13, md_g14, md_g15, md_g16, md_g17, md_g18, md_p3, md_p5, md_p7, md_p8, md_p9, md_p11, md_p13, md_p15, md_l0, md_l1, md_l2, md_l3, md_l4, md_l5, md_l6, md_l7, md_l8, md_l9, md_l10, md_s0, md_s1, md_s2, md_s3, md_s4, md_s5, md_s6, md_s7, md_s8, md_s9, md_s10, md_is, Option.bind_some, Option.toList_some, Option.toList_none, List.cons_append, List.nil_append, true_or, or_true, and_true, true_and, i10, Bool.false_eq_true, if_true, if_false, reduceIte, h0, nI_lep (show σ.1 < 2147483648 by omega) (show k < 2147483648 by omega), hlt, nI_1, hf k hk]
    
  have fin : ∀ s : Int32, ev (d + 7) 192 4 [some (.ref i), some (.int w), some (.int s), some (.int (nI σ.1))] [] (hmd h i M) = some (some (.int (s)), hmd h i M) := by
    intro s
    rw [e192_4]
    simp only [e192_0, e192_1, e192_2, e192_3, e192_5, e192_6, e192_9, e192_10, e192_11, e192_14, e192_15, e192_16, e192_17, e192_18, e192_21, e192_22, e192_23, e192_26, e192_29, e192_30, md_g0, md_g1, md_g2, md_g3, md_g4, md_g5, md_g6, md_g7, md_g8, md_g9, md_g10, md_g11, md_g12, md_g13, md_g14, md_g15, md_g16, md_g17, md_g18, md_p3, md_p5, md_p7, md_p8, md_p9, md_p11, md_p13, md_p15, md_l0, md_l1, md_l2, md_l3, md_l4, md_l5, md_l6, md_l7, md_l8, md_l9, md_l10, md_s0, md_s1, md_s2, md_s3, md_s4, md_s5, md_s6, md_s7, md_s8, md_s9, md_s10, md_is, Option.bind_some, Option.toList_some, Option.toList_none, List.cons_append, List.nil_append, true_or, or_true, and_true, true_and, i10, Bool.false_eq_true, if_true, if_false, reduceIte, h0, Int32.le_refl]
  simp only [e192_0, e192_1, e192_2, e192_3, e192_5, e192_6, e192_9, e192_10, e192_11, e192_14, e192_15, e192_16, e192_17, e192_18, e192_21, e192_22, e192_23, e192_26, e192_29, e192_30, md_g0, md_g1, md_g2, md_g3, md_g4, md_g5, md_g6, md_g7, md_g8, md_g9, md_g10, md_g11, md_g12, md_g13, md_g14, md_g15, md_g16, md_g17, md_g18, md_p3, md_p5, md_p7, md_p8, md_p9, md_p11, md_p13, md_p15, md_l0, md_l1, md_l2, md_l3, md_l4, md_l5, md_l6, md_l7, md_l8, md_l9, md_l10, md_s0, md_s1, md_s2, md_s3, md_s4, md_s5, md_s6, md_s7, md_s8, md_s9, md_s10, md_is, Option.bind_some, Option.toList_some, Option.toList_none, List.cons_append, List.nil_append, true_or, or_true, and_true, true_and, i10, Bool.false_eq_true, if_true, if_false, reduceIte, h0]
  have main := z_for (fun (k : Nat) (s : Int32) => ev (d + 7) 192 4 [some (.ref i), some (.int w), some (.int s), some (.int (nI k))] [] (hmd h i M)) (fun (k : Nat) (s : Int32) => s + f k) (n := σ.1) (s := 0) (fun k s hk => step k s hk)
  rw [zfold_sI, Int32.zero_add, fin] at main
  exact main
end SUM
