/-! WHERE A CRATE FITS BEST; THE PROPERTIES OF A CRATE -/
theorem z_forIJ {α β J : Type} (F : Nat → α → J → β) (f : Nat → α → α) (I : α → Prop) (R : α → β) {n : Nat} (hs : ∀ k s x, k < n → I s → (∃ y, F k s x = F (k + 1) (f k s) y) ∧ I (f k s)) (fin : ∀ s x, I s → F n s x = R s) (s : α) (x : J) (h0 : I s) : F 0 s x = R (zfold f n s) := by
  have h : ∀ k, k ≤ n → (∃ y, F 0 s x = F k (zfold f k s) y) ∧ I (zfold f k s) := by
    intro k
    induction k with
    | zero => intro _; exact ⟨⟨x, rfl⟩, h0⟩
    | succ k ih =>
      intro hk
      obtain ⟨⟨y, hy⟩, hi⟩ := ih (by omega)
      obtain ⟨⟨z, hz⟩, hj⟩ := hs k (zfold f k s) y (by omega) hi
      exact ⟨⟨z, hy.trans hz⟩, hj⟩
  obtain ⟨⟨y, hy⟩, hi⟩ := h n (Nat.le_refl n)
  rw [hy, fin _ _ hi]
/-- a crate's number as an answer: 0 for none -/
def cB (b : Nat) : Int32 := match b with
  | 0 => -4
  | k + 1 => nI k
def bok (σ : mS) (c k : Nat) (s : Nat × Int) : Prop := (¬ (c = k ∨ c ∈ chn σ k)) ∧ σ.2 c 7 ≠ k + 1 ∧ 0 ≤ lft σ k - (σ.2 c 0 : Int) ∧ (s.1 = 0 ∨ lft σ k - (σ.2 c 0 : Int) < s.2)
def bstep (σ : mS) (c k : Nat) (s : Nat × Int) : Nat × Int := if (¬ (c = k ∨ c ∈ chn σ k)) ∧ σ.2 c 7 ≠ k + 1 ∧ 0 ≤ lft σ k - (σ.2 c 0 : Int) ∧ (s.1 = 0 ∨ lft σ k - (σ.2 c 0 : Int) < s.2) then (k + 1, lft σ k - (σ.2 c 0 : Int)) else s
def bst (σ : mS) (c : Nat) : Nat := (zfold (bstep σ c) σ.1 (0, 0)).1
def bI0 (s : Nat × Int) : Prop := s.1 ≤ 12 ∧ -1000 ≤ s.2 ∧ s.2 ≤ 60
theorem cB_m4 {b : Nat} (hb : b ≤ 12) : (cB b = -4) = (b = 0) := by
  cases b with
  | zero => exact propext ⟨fun _ => rfl, fun _ => rfl⟩
  | succ k =>
    refine propext ⟨fun h => ?_, fun h => by omega⟩
    have h : nI k = -4 := h
    have := congrArg Int32.toInt h
    rw [nI_toInt (by omega)] at this
    have e : Int32.toInt (-4) = -4 := by decide
    rw [e] at this
    omega
section CRATE
variable {d : Nat} {h : zH} {i : Nat} {S M : oS} {σ : mS} {c : Nat}
theorem s_best (hR : stR S σ) (hw : wf σ) (hc : c < σ.1) : ev (d + 3) 59 0 [some (.ref i), some (.int (nI c)), none, none, none, none, none] [] (hst h i S) = some (some (.int (cB (bst σ c))), hst h i S) := by
  have hb := hw.bnd
  have hs1 := (hw.2 c hc).1.1
  have hn := hb.1
  have h0 := hR.1
  have hs := (hb.2 c hc).1
  have h7 := (hb.2 c hc).2.2.2.2.1
  have step : ∀ (k : Nat) (s : Nat × Int) (x : Option Value × Option Value), k < σ.1 → bI0 s → (∃ y : Option Value × Option Value, ev (d + 3) 59 9 [some (.ref i), some (.int (nI c)), some (.int (cB s.1)), some (.int (iI (if s.1 = 0 then 60 else s.2))), some (.int (nI k)), x.1, x.2] [] (hst h i S) = ev (d + 3) 59 9 [some (.ref i), some (.int (nI c)), some (.int (cB (bstep σ c k s).1)), some (.int (iI (if (bstep σ c k s).1 = 0 then 60 else (bstep σ c k s).2))), some (.int (nI (k + 1))), y.1, y.2] [] (hst h i S)) ∧ bI0 (bstep σ c k s) := by
    intro k s x hk hI
    have hlt : (σ.1 ≤ k) = False := eq_false (by omega)
    have hl := lft_b hb hk
    obtain ⟨i1, i2, i3⟩ := hI
    refine ⟨?_, ?_⟩
    · have e1 : (nI k = hI (σ.2 c 7)) = (σ.2 c 7 = k + 1) := by
        rw [← hI_eq (show σ.2 c 7 < 2147483648 by omega) (show k < 2147483648 by omega)]
        exact propext ⟨Eq.symm, Eq.symm⟩
      have e2 : iI (lft σ k) - nI (σ.2 c 0) = iI (lft σ k - (σ.2 c 0 : Int)) := by rw [iI_nat, iI_sub]
      have e3 : (iI (lft σ k - (σ.2 c 0 : Int)) < 0) = (lft σ k - (σ.2 c 0 : Int) < 0) := iI_lt (b := 0) (by omega) (by omega)
      have e4 : (iI (if s.1 = 0 then 60 else s.2) ≤ iI (lft σ k - (σ.2 c 0 : Int))) = ((if s.1 = 0 then 60 else s.2) ≤ lft σ k - (σ.2 c 0 : Int)) := iI_le (by split <;> omega) (by omega)
      rw [e59_9]
      simp only [e59_0, e59_2, e59_3, e59_5, e59_6, e59_7, e59_11, e59_12, e59_15, e59_18, e59_20, e59_21, e59_24, e59_26, e59_27, e59_28, e59_31, e59_34, e59_35, e59_36, e59_38, e59_41, e59_44, e59_45, e59_48, e59_49, e59_51, e59_52, e59_54, e59_57, e59_58, e59_59, e59_62, e59_63, e59_65, e59_67, e59_70, e59_72, e59_75, e59_77, e59_78, e59_81, e59_83, e59_84, e59_86, e59_87, e59_90, e59_93, e59_94, st_g0, st_g1, st_g2, st_g3, st_g4, st_g5, st_g6, st_g7, st_p6, st_p7, st_l0, st_l1, st_l2, st_l3, st_l4, st_l5, st_s0, st_s1, st_s2, st_s3, st_s4, st_s5, st_is, Option.bind_some, Option.toList_some, Option.toList_none, List.cons_append, List.nil_append, true_or, or_true, and_true, true_and, i10, Bool.false_eq_true, if_true, if_false, reduceIte, h0, nI_lep (show σ.1 < 2147483648 by omega) (show k < 2147483648 by omega), hlt, nI_eqp (show k < 2147483648 by omega) (show c < 2147483648 by omega), s_holderOf hR hb hc, e1, s_isAround hR hb hc hk, bI_0, s_roomLeftIn hR hb hk, s_sizeOf hR hb hc, e2, e3, e4, nI_1]
      unfold bstep
      by_cases q1 : k = c
      · have q1' : c = k := q1.symm
        simp [q1]
        exact ⟨_, _, rfl⟩
      · have q1' : ¬ c = k := fun w => q1 w.symm
        by_cases q2 : σ.2 c 7 = k + 1
        · simp [q1, q1', q2]
          exact ⟨_, _, rfl⟩
        · by_cases q3 : c ∈ chn σ k
          · simp [q1, q1', q2, q3]
            exact ⟨_, _, rfl⟩
          · by_cases q4 : lft σ k - (σ.2 c 0 : Int) < 0
            · have q5 : ¬ (σ.2 c 0 : Int) ≤ lft σ k := by omega
              simp [q1, q1', q2, q3, q4, q5]
              exact ⟨_, _, rfl⟩
            · have q5 : (σ.2 c 0 : Int) ≤ lft σ k := by omega
              by_cases q6 : s.1 = 0
              · have q7 : ¬ (60 : Int) ≤ lft σ k - (σ.2 c 0 : Int) := by
                  have r1 := (hw.2 k hk).1.2
                  have r2 := (hw.2 k hk).2.1
                  unfold lft
                  omega
                simp [q1, q1', q2, q3, q4, q5, q6, q7]
                exact ⟨_, _, rfl⟩
              · by_cases q7 : s.2 ≤ lft σ k - (σ.2 c 0 : Int)
                · have q8 : ¬ lft σ k - (σ.2 c 0 : Int) < s.2 := by omega
                  simp [q1, q1', q2, q3, q4, q5, q6, q7, q8]
                  exact ⟨_, _, rfl⟩
                · have q8 : lft σ k - (σ.2 c 0 : Int) < s.2 := by omega
                  simp [q1, q1', q2, q3, q4, q5, q6, q7, q8]
                  exact ⟨_, _, rfl⟩
    · unfold bstep
      split
      · exact ⟨by omega, by dsimp only; omega, by dsimp only; omega⟩
      · exact ⟨i1, i2, i3⟩
  have fin : ∀ (s : Nat × Int) (x : Option Value × Option Value), bI0 s → ev (d + 3) 59 9 [some (.ref i), some (.int (nI c)), some (.int (cB s.1)), some (.int (iI (if s.1 = 0 then 60 else s.2))), some (.int (nI σ.1)), x.1, x.2] [] (hst h i S) = some (some (.int (cB s.1)), hst h i S) := by
    intro s x _
    rw [e59_9]
    simp only [e59_0, e59_2, e59_3, e59_5, e59_6, e59_7, e59_11, e59_12, e59_15, e59_18, e59_20, e59_21, e59_24, e59_26, e59_27, e59_28, e59_31, e59_34, e59_35, e59_36, e59_38, e59_41, e59_44, e59_45, e59_48, e59_49, e59_51, e59_52, e59_54, e59_57, e59_58, e59_59, e59_62, e59_63, e59_65, e59_67, e59_70, e59_72, e59_75, e59_77, e59_78, e59_81, e59_83, e59_84, e59_86, e59_87, e59_90, e59_93, e59_94, st_g0, st_g1, st_g2, st_g3, st_g4, st_g5, st_g6, st_g7, st_p6, st_p7, st_l0, st_l1, st_l2, st_l3, st_l4, st_l5, st_s0, st_s1, st_s2, st_s3, st_s4, st_s5, st_is, Option.bind_some, Option.toList_some, Option.toList_none, List.cons_append, List.nil_append, true_or, or_true, and_true, true_and, i10, Bool.false_eq_true, if_true, if_false, reduceIte, h0, Int32.le_refl]
  simp only [e59_0, e59_2, e59_3, e59_5, e59_6, e59_7, e59_11, e59_12, e59_15, e59_18, e59_20, e59_21, e59_24, e59_26, e59_27, e59_28, e59_31, e59_34, e59_35, e59_36, e59_38, e59_41, e59_44, e59_45, e59_48, e59_49, e59_51, e59_52, e59_54, e59_57, e59_58, e59_59, e59_62, e59_63, e59_65, e59_67, e59_70, e59_72, e59_75, e59_77, e59_78, e59_81, e59_83, e59_84, e59_86, e59_87, e59_90, e59_93, e59_94, st_g0, st_g1, st_g2, st_g3, st_g4, st_g5, st_g6, st_g7, st_p6, st_p7, st_l0, st_l1, st_l2, st_l3, st_l4, st_l5, st_s0, st_s1, st_s2, st_s3, st_s4, st_s5, st_is, Option.bind_some, Option.toList_some, Option.toList_none, List.cons_append, List.nil_append, true_or, or_true, and_true, true_and, i10, Bool.false_eq_true, if_true, if_false, reduceIte, h0]
  exact z_forIJ (fun k (s : Nat × Int) (x : Option Value × Option Value) => ev (d + 3) 59 9 [some (.ref i), some (.int (nI c)), some (.int (cB s.1)), some (.int (iI (if s.1 = 0 then 60 else s.2))), some (.int (nI k)), x.1, x.2] [] (hst h i S)) (bstep σ c) bI0 (fun s => some (some (.int (cB s.1)), hst h i S)) step fin (0, 0) (none, none) ⟨by omega, by dsimp only; omega, by dsimp only; omega⟩
/-- what a call reads of a crate -/
def crv (σ : mS) (c w : Nat) : Int32 := match w with
  | 0 => nI (σ.2 c 0)
  | 1 => nI (σ.2 c 1)
  | 2 => nI (σ.2 c 2)
  | 3 => nI (lts σ c)
  | 4 => cB (σ.2 c 7)
  | 5 => nI (dpt σ c)
  | 6 => nI (pil σ c)
  | 7 => nI (lod σ c)
  | 8 => iI (lft σ c)
  | 9 => nI (σ.2 c 8)
  | 10 => iI (eft σ c)
  | 11 => bI (tld σ c = true)
  | 12 => nI (lsn σ c)
  | 13 => cB (bst σ c)
  | _ => nI (rgd σ c)
theorem zin_le {n : Nat} (hn : n ≤ 12) {x : Int32} : (0 ≤ x ∧ x ≤ nI n - 1) ↔ (zin x n = true) := by
  have e : nI n - 1 = iI ((n : Int) - 1) := by
    rw [iI_nat, show (1 : Int32) = iI 1 by decide, iI_sub]
  rcases zin_cases (c := x) (n := n) (by omega) with ⟨h1, h2⟩ | ⟨h1, h2, h3⟩ | ⟨k, hk, rfl⟩
  · rw [h2]
    exact ⟨fun q => absurd h1 (Int32.not_lt.mpr q.1), fun q => by cases q⟩
  · rw [h3]
    refine ⟨fun q => ?_, fun q => by cases q⟩
    have h4 : nI n ≤ nI n - 1 := Int32.le_trans h2 q.2
    rw [e, iI_nat, iI_le (by omega) (by omega)] at h4
    omega
  · rw [zin_T hk (by omega), e, iI_nat, iI_le (by omega) (by omega)]
    refine ⟨fun _ => rfl, fun _ => ⟨?_, by omega⟩⟩
    rw [show (0 : Int32) = iI 0 by decide, iI_le (by omega) (by omega)]
    omega
end CRATE
/-- sums as the machine makes them -/
def sI (f : Nat → Int32) : Nat → Int32
  | 0 => 0
  | n + 1 => sI f n + f n
theorem zfold_sI {f : Nat → Int32} {n : Nat} {s : Int32} : zfold (fun k s => s + f k) n s = s + sI f n := by
  induction n with
  | zero => rw [zfold, sI, Int32.add_zero]
  | succ n ih => rw [zfold, ih, sI, Int32.add_assoc]
theorem sI_cong {p q : Nat → Int32} : ∀ {n : Nat}, (∀ k, k < n → p k = q k) → sI p n = sI q n
  | 0, _ => rfl
  | n + 1, h => by rw [sI, sI, sI_cong (fun k hk => h k (by omega)), h n (by omega)]
theorem sI_nI {f : Nat → Nat} : ∀ {n : Nat}, sI (fun k => nI (f k)) n = nI (sm f n)
  | 0 => rfl
  | n + 1 => by rw [sI, sI_nI, sm, iI_nat, iI_nat, iI_nat, iI_add]; congr 1
theorem sI_iI {f : Nat → Int} : ∀ {n : Nat}, sI (fun k => iI (f k)) n = iI (si f n)
  | 0 => rfl
  | n + 1 => by rw [sI, sI_iI, si, iI_add]
section SUM
variable {d : Nat} {h : zH} {i : Nat} {S M : oS} {σ : mS} {c : Nat}
end SUM
