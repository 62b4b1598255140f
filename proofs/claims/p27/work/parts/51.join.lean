/-! CRATES THAT WERE READ, BEHIND THOSE THAT ARE THERE -/
def jnd (σ τ : mS) : mS := (σ.1 + τ.1, fun a b => if a < σ.1 then σ.2 a b else if b = 7 then (if τ.2 (a - σ.1) 7 = 0 then 0 else σ.1 + τ.2 (a - σ.1) 7) else τ.2 (a - σ.1) b)
theorem jnd_lo {σ τ : mS} {a b : Nat} (h : a < σ.1) : (jnd σ τ).2 a b = σ.2 a b := if_pos h
theorem jnd_hi {σ τ : mS} {a b : Nat} (hb : b ≠ 7) : (jnd σ τ).2 (σ.1 + a) b = τ.2 a b := by
  show (if σ.1 + a < σ.1 then _ else if b = 7 then _ else τ.2 (σ.1 + a - σ.1) b) = _
  rw [if_neg (by omega), if_neg hb, Nat.add_sub_cancel_left]
theorem jnd_7 {σ τ : mS} {a : Nat} : (jnd σ τ).2 (σ.1 + a) 7 = if τ.2 a 7 = 0 then 0 else σ.1 + τ.2 a 7 := by
  show (if σ.1 + a < σ.1 then _ else if 7 = 7 then (if τ.2 (σ.1 + a - σ.1) 7 = 0 then 0 else σ.1 + τ.2 (σ.1 + a - σ.1) 7) else _) = _
  rw [if_neg (by omega), if_pos rfl, Nat.add_sub_cancel_left]
theorem ct_plus {p : Nat → Bool} {n : Nat} : ∀ {m : Nat}, ct p (n + m) = ct p n + ct (fun a => p (n + a)) m
  | 0 => rfl
  | m + 1 => by
    show ct p (n + m) + _ = ct p n + (ct _ m + _)
    rw [ct_plus (m := m), Nat.add_assoc]
    rfl
theorem sm_plus {f : Nat → Nat} {n : Nat} : ∀ {m : Nat}, sm f (n + m) = sm f n + sm (fun a => f (n + a)) m
  | 0 => rfl
  | m + 1 => by
    show sm f (n + m) + _ = sm f n + (sm _ m + _)
    rw [sm_plus (m := m), Nat.add_assoc]
    rfl
theorem ct_none {p : Nat → Bool} : ∀ {n : Nat}, (∀ k, k < n → p k = false) → ct p n = 0
  | 0, _ => rfl
  | n + 1, h => by
    rw [ct, ct_none (fun k hk => h k (by omega)), h n (by omega)]
    rfl
section JOIN
variable {σ τ : mS}
theorem jnd_e {a b : Nat} (h : a < (jnd σ τ).1) (hn : ¬ a < σ.1) : ∃ k, k < τ.1 ∧ a = σ.1 + k := by
  have h : a < σ.1 + τ.1 := h
  exact ⟨a - σ.1, by omega, by omega⟩
theorem pil_lo (hw : wf σ) {k : Nat} (hk : k < σ.1) : pil (jnd σ τ) k = pil σ k := by
  unfold pil
  show ct _ (σ.1 + τ.1) = _
  rw [ct_plus, ct_none (n := τ.1) (p := fun a => decide ((jnd σ τ).2 (σ.1 + a) 7 = k + 1)) (fun a ha => decide_eq_false (by rw [jnd_7]; split <;> omega)), Nat.add_zero]
  exact ct_cong (fun c hc => by rw [jnd_lo hc])
theorem pil_hi (hw : wf σ) {k : Nat} : pil (jnd σ τ) (σ.1 + k) = pil τ k := by
  unfold pil
  show ct _ (σ.1 + τ.1) = _
  rw [ct_plus, ct_none (fun a ha => decide_eq_false (by have := (hw.2 a ha).2.2.2.2.2.1; rw [jnd_lo ha]; omega)), Nat.zero_add]
  refine ct_cong (fun c hc => ?_)
  rw [jnd_7]
  split
  · rw [decide_eq_false (by omega), decide_eq_false (by omega)]
  · exact decide_eq_decide.mpr (by omega)
theorem pis_lo (hw : wf σ) {k : Nat} (hk : k < σ.1) : pis (jnd σ τ) k = pis σ k := by
  unfold pis
  show sm _ (σ.1 + τ.1) = _
  rw [sm_plus, sm_zero (n := τ.1) (f := fun a => if (jnd σ τ).2 (σ.1 + a) 7 = k + 1 then (jnd σ τ).2 (σ.1 + a) 0 else 0) (fun a ha => if_neg (by rw [jnd_7]; split <;> omega)), Nat.add_zero]
  exact sm_cong (fun c hc => by rw [jnd_lo hc, jnd_lo hc])
theorem pis_hi (hw : wf σ) {k : Nat} : pis (jnd σ τ) (σ.1 + k) = pis τ k := by
  unfold pis
  show sm _ (σ.1 + τ.1) = _
  rw [sm_plus, sm_zero (fun a ha => if_neg (by have := (hw.2 a ha).2.2.2.2.2.1; rw [jnd_lo ha]; omega)), Nat.zero_add]
  refine sm_cong (fun c hc => ?_)
  rw [jnd_7, jnd_hi (by decide)]
  split
  · rw [if_neg (by omega), if_neg (by omega)]
  · by_cases z : τ.2 c 7 = k + 1
    · rw [if_pos (by omega), if_pos z]
    · rw [if_neg (by omega), if_neg z]
theorem jnd_wf (hw : wf σ) (ht : wf τ) (hn : σ.1 + τ.1 ≤ 12) : wf (jnd σ τ) := by
  refine ⟨hn, fun c hc => ?_⟩
  by_cases q : c < σ.1
  · have e : (jnd σ τ).2 c = σ.2 c := funext fun b => jnd_lo q
    obtain ⟨w1, w2, w3, w4, w5, w6, w7, w8, w9, w10⟩ := hw.2 c q
    unfold wfc
    rw [e, pis_lo hw q]
    refine ⟨w1, w2, w3, w4, w5, ?_, w7, fun k hk => ?_, w9, fun x hx hne h0 h7 => ?_⟩
    · show _ ≤ σ.1 + τ.1
      omega
    · rw [pil_lo hw (by omega)]
      exact w8 k hk
    · by_cases y : x < σ.1
      · rw [jnd_lo y] at h7 ⊢
        exact w10 x y hne h0 h7
      · obtain ⟨k, hk, rfl⟩ := jnd_e (b := 0) hx y
        rw [jnd_7] at h7
        split at h7 <;> omega
  · obtain ⟨k, hk, rfl⟩ := jnd_e (b := 0) hc q
    obtain ⟨w1, w2, w3, w4, w5, w6, w7, w8, w9, w10⟩ := ht.2 k hk
    unfold wfc
    rw [pis_hi hw, jnd_hi (b := 0) (by decide), jnd_hi (b := 1) (by decide), jnd_hi (b := 2) (by decide), jnd_hi (b := 8) (by decide), jnd_7]
    refine ⟨w1, w2, w3, ?_, fun p hp => ?_, ?_, fun z => ?_, fun j hj => ?_, w9, fun x hx hne h0 h7 => ?_⟩
    · unfold lok at w4 ⊢
      rw [jnd_hi (by decide), jnd_hi (by decide), jnd_hi (by decide), jnd_hi (by decide)]
      exact w4
    · rw [jnd_hi (by omega)]
      exact w5 p hp
    · show _ ≤ σ.1 + τ.1
      split <;> omega
    · split at z
      · exact w7 ‹_›
      · omega
    · split at hj
      · omega
      · obtain ⟨y, rfl⟩ : ∃ y, j = σ.1 + y := ⟨σ.1 + τ.2 k 7 - 1 - σ.1 + (j - (σ.1 + τ.2 k 7 - 1)), by omega⟩
        rw [pil_hi hw]
        exact w8 y (by omega)
    · by_cases y : x < σ.1
      · have := (hw.2 x y).2.2.2.2.2.1
        rw [jnd_lo y] at h7
        by_cases z : τ.2 k 7 = 0
        · rw [if_pos z] at h0
          exact absurd rfl h0
        · rw [if_neg z] at h7
          omega
      · obtain ⟨j, hj, rfl⟩ := jnd_e (b := 0) hx y
        rw [jnd_hi (by decide)]
        rw [jnd_7] at h7
        refine w10 j hj (by omega) ?_ ?_
        · intro z
          rw [if_pos z] at h0
          exact h0 rfl
        · split at h7
          · split at h7 <;> omega
          · split at h7 <;> omega
/-- the first k of them -/
theorem jnd_0 {F : Nat → Nat → Nat} : (jnd σ (0, F)).1 = σ.1 := Nat.add_zero _
theorem jnd_k {k : Nat} {F : Nat → Nat → Nat} : addd (jnd σ (k, F)) ((jnd σ (k, F)).2 (σ.1 + k)) = jnd σ (k + 1, F) := by
  refine Prod.ext (show σ.1 + k + 1 = σ.1 + (k + 1) by omega) (funext fun a => funext fun b => ?_)
  show (if a = σ.1 + k then (jnd σ (k, F)).2 (σ.1 + k) b else (jnd σ (k, F)).2 a b) = (jnd σ (k, F)).2 a b
  by_cases z : a = σ.1 + k
  · rw [if_pos z, z]
  · rw [if_neg z]
end JOIN
theorem stR_0 {S : oS} {σ : mS} {F : Nat → Nat → Nat} (hR : stR S σ) : stR S (jnd σ (0, F)) := by
  refine ⟨hR.1, fun c hc => ?_⟩
  have hc : c < σ.1 := hc
  have e : (jnd σ (0, F)).2 c = σ.2 c := funext fun b => jnd_lo hc
  rw [e]
  exact hR.2 c hc
theorem hst_comm {h : zH} {i v : Nat} {S F : oS} (hd : v + 7 ≤ i ∨ i + 7 ≤ v) : hst (hst h v F) i S = hst (hst h i S) v F := hrg_comm (by rw [st_len, st_len]; exact hd)
section ADDALL
variable {d : Nat} {h : zH} {v i : Nat} {S F M : oS} {σ τ : mS} {r : Int32}
theorem s_addAll (hd : v + 7 ≤ i ∨ i + 7 ≤ v) (hR : stR S σ) (hF : stR F τ) (ht : wf τ) (hn : σ.1 + τ.1 ≤ 12) : ∃ S', stR S' (jnd σ τ) ∧ S'.2 1 = S.2 1 ∧ ev (d + 3) 73 0 [some (.ref i), some (.ref v), none, none, none] [] (hst (hst h v F) i S) = some (none, hst (hst h v F) i S') := by
  have hbt := ht.bnd
  have h0F := hF.1
  have og : ∀ (T : oS) (k : Nat), k < τ.1 → ev (d + 2) 47 0 [some (.ref v), some (.int (nI k))] [] (hst (hst h v F) i T) = some (some (.int (bI (τ.2 k 7 = 0))), hst (hst h v F) i T) := fun T k hk => by
    rw [hst_comm hd]
    exact s_isOnGround hF hbt hk
  have main : ∀ (f k : Nat) (T : oS) (x : Option Value), k + f = τ.1 → stR T (jnd σ (k, τ.2)) → T.2 1 = S.2 1 → ∃ S', stR S' (jnd σ τ) ∧ S'.2 1 = S.2 1 ∧ ev (d + 3) 73 7 [some (.ref i), some (.ref v), some (.int (nI σ.1)), some (.int (nI k)), x] [] (hst (hst h v F) i T) = some (none, hst (hst h v F) i S') := by
    intro f
    induction f with
    | zero =>
      intro k T x hk hT h1
      have hk : k = τ.1 := by omega
      subst hk
      refine ⟨T, hT, h1, ?_⟩
      rw [e73_7]
      simp only [e73_0, e73_1, e73_4, e73_5, e73_6, e73_8, e73_9, e73_12, e73_15, e73_16, e73_17, e73_20, e73_21, e73_22, e73_23, e73_26, e73_27, e73_28, e73_29, e73_32, e73_33, e73_34, e73_35, e73_38, e73_39, e73_40, e73_43, e73_45, e73_46, e73_48, e73_51, e73_54, e73_55, e73_56, e73_59, e73_62, e73_63, e73_66, e73_68, e73_69, e73_70, e73_73, e73_74, e73_75, e73_76, e73_77, e73_78, e73_81, e73_83, e73_84, e73_87, e73_88, e73_89, e73_90, e73_93, e73_96, st_g0, st_g1, st_g2, st_g3, st_g4, st_g5, st_g6, st_g7, st_p6, st_p7, st_l0, st_l1, st_l2, st_l3, st_l4, st_l5, st_s0, st_s1, st_s2, st_s3, st_s4, st_s5, st_is, st_is_st hd, st_g0_st hd, st_g1_st hd, st_g2_st hd, st_g3_st hd, st_g4_st hd, st_g5_st hd, st_g6_st hd, st_p6_st hd, st_g7_st hd, st_p7_st hd, st_l0_st hd, st_s0_st hd, st_l1_st hd, st_s1_st hd, st_l2_st hd, st_s2_st hd, st_l3_st hd, st_s3_st hd, st_l4_st hd, st_s4_st hd, st_l5_st hd, st_s5_st hd, Option.bind_some, Option.toList_some, Option.toList_none, List.cons_append, List.nil_append, true_or, or_true, and_true, true_and, i10, Bool.false_eq_true, if_true, if_false, reduceIte, h0F, Int32.le_refl]
    | succ f ih =>
      intro k T x hk hT h1
      have hk2 : k < τ.1 := by omega
      have e1 : (nI τ.1 ≤ nI k) = False := (nI_lep (by omega) (by omega)).trans (eq_false (by omega))
      obtain ⟨f0, f1, f2, f3, f4, f5⟩ := hF.2 k hk2
      have h7 := (hbt.2 k hk2).2.2.2.2.1
      have h12 : (jnd σ (k, τ.2)).1 < 12 := by
        show σ.1 + k < 12
        omega
      have ad := s_addE (d := d) (h := hst h v F) (i := i) hT h12 (x0 := nI (τ.2 k 0)) (x1 := nI (τ.2 k 1)) (x2 := nI (τ.2 k 2)) (x3 := nI (lbl (τ.2 k)))
      have e12 : (jnd σ (k, τ.2)).1 = σ.1 + k := rfl
      rw [e12] at ad
      have isc : ev (d + 2) 37 0 [some (.ref i), some (.int (nI (σ.1 + k)))] [] (hst (hst h v F) i (lfS (adS T (σ.1 + k) (nI (τ.2 k 0)) (nI (τ.2 k 1)) (nI (τ.2 k 2)) (nI (lbl (τ.2 k)))) (σ.1 + k))) = some (some (.int 1), hst (hst h v F) i (lfS (adS T (σ.1 + k) (nI (τ.2 k 0)) (nI (τ.2 k 1)) (nI (τ.2 k 2)) (nI (lbl (τ.2 k)))) (σ.1 + k))) := by
        rw [s_isCrate (n := σ.1 + k + 1) rfl (by omega), s_zi (by omega) (by omega)]
      have un : ∀ a, a < σ.1 + k → ∀ (f : Nat → Int32) (x : Int32), upd f (σ.1 + k) x a = f a := fun a ha f x => by
        have : ¬ a = σ.1 + k := by omega
        simp [upd, this]
      have A7 : (jnd σ (k, τ.2)).2 (σ.1 + k) 7 = if τ.2 k 7 = 0 then 0 else σ.1 + τ.2 k 7 := jnd_7
      have A8 : (jnd σ (k, τ.2)).2 (σ.1 + k) 8 = τ.2 k 8 := jnd_hi (by decide)
      have Aj : ∀ j, j < 7 → (jnd σ (k, τ.2)).2 (σ.1 + k) j = τ.2 k j := fun j hj => jnd_hi (by omega)
      have Al : lbl ((jnd σ (k, τ.2)).2 (σ.1 + k)) = lbl (τ.2 k) := by
        unfold lbl
        rw [Aj 3 (by decide), Aj 4 (by decide), Aj 5 (by decide), Aj 6 (by decide)]
      by_cases z : τ.2 k 7 = 0
      · have g8 : τ.2 k 8 = 0 := (ht.2 k hk2).2.2.2.2.2.2.1 z
        have hT2 : stR (lfS (adS T (σ.1 + k) (nI (τ.2 k 0)) (nI (τ.2 k 1)) (nI (τ.2 k 2)) (nI (lbl (τ.2 k)))) (σ.1 + k)) (jnd σ (k + 1, τ.2)) := by
          rw [← jnd_k]
          refine stR_add hT rfl (fun a ha r => ?_) ?_
          · have ha : a < σ.1 + k := ha
            by_cases q5 : r = 5
            · subst q5; simp [lfS, adS, setR, setI, un a ha]
            by_cases q4 : r = 4
            · subst q4; simp [lfS, adS, setR, setI, un a ha]
            by_cases q3 : r = 3
            · subst q3; simp [lfS, adS, setR, setI, un a ha]
            by_cases q2 : r = 2
            · subst q2; simp [lfS, adS, setR, setI, un a ha]
            by_cases q1 : r = 1
            · subst q1; simp [lfS, adS, setR, setI, un a ha]
            by_cases q0 : r = 0
            · subst q0; simp [lfS, adS, setR, setI, un a ha]
            simp [lfS, adS, setR, setI, q0, q1, q2, q3, q4, q5]
          · rw [A7, A8, Al, Aj 0 (by decide), Aj 1 (by decide), Aj 2 (by decide), if_pos z, g8]
            refine ⟨?_, ?_, ?_, ?_, ?_, ?_⟩ <;> simp [lfS, adS, setR, setI, upd, e12, hI_0] <;> rfl
        obtain ⟨S', a1, a2, a3⟩ := ih (k + 1) _ (some (.int (nI (σ.1 + k)))) (by omega) hT2 h1
        refine ⟨S', a1, a2, ?_⟩
        rw [e73_7]
        have ogk := og (lfS (adS T (σ.1 + k) (nI (τ.2 k 0)) (nI (τ.2 k 1)) (nI (τ.2 k 2)) (nI (lbl (τ.2 k)))) (σ.1 + k)) k hk2
        rw [bI_t z] at ogk
        simp only [e73_0, e73_1, e73_4, e73_5, e73_6, e73_8, e73_9, e73_12, e73_15, e73_16, e73_17, e73_20, e73_21, e73_22, e73_23, e73_26, e73_27, e73_28, e73_29, e73_32, e73_33, e73_34, e73_35, e73_38, e73_39, e73_40, e73_43, e73_45, e73_46, e73_48, e73_51, e73_54, e73_55, e73_56, e73_59, e73_62, e73_63, e73_66, e73_68, e73_69, e73_70, e73_73, e73_74, e73_75, e73_76, e73_77, e73_78, e73_81, e73_83, e73_84, e73_87, e73_88, e73_89, e73_90, e73_93, e73_96, st_g0, st_g1, st_g2, st_g3, st_g4, st_g5, st_g6, st_g7, st_p6, st_p7, st_l0, st_l1, st_l2, st_l3, st_l4, st_l5, st_s0, st_s1, st_s2, st_s3, st_s4, st_s5, st_is, st_is_st hd, st_g0_st hd, st_g1_st hd, st_g2_st hd, st_g3_st hd, st_g4_st hd, st_g5_st hd, st_g6_st hd, st_p6_st hd, st_g7_st hd, st_p7_st hd, st_l0_st hd, st_s0_st hd, st_l1_st hd, st_s1_st hd, st_l2_st hd, st_s2_st hd, st_l3_st hd, st_s3_st hd, st_l4_st hd, st_s4_st hd, st_l5_st hd, st_s5_st hd, Option.bind_some, Option.toList_some, Option.toList_none, List.cons_append, List.nil_append, true_or, or_true, and_true, true_and, i10, Bool.false_eq_true, if_true, if_false, reduceIte, h0F, e1, zrd_nI (show k < 12 by omega) (show 12 < 2147483648 by decide), f0, f1, f2, f3, ad, isc, ogk, nI_1]
        exact a3
      · obtain ⟨u, hu⟩ : ∃ u, τ.2 k 7 = u + 1 := ⟨τ.2 k 7 - 1, by omega⟩
        rw [hu, hI_s] at f4
        have esum : nI σ.1 + nI u = nI (σ.1 + u) := nI_add _ _
        have hh : hI (σ.1 + (u + 1)) = nI (σ.1 + u) := hI_s _
        have hT2 : stR (setR (setR (lfS (adS T (σ.1 + k) (nI (τ.2 k 0)) (nI (τ.2 k 1)) (nI (τ.2 k 2)) (nI (lbl (τ.2 k)))) (σ.1 + k)) 4 (upd ((lfS (adS T (σ.1 + k) (nI (τ.2 k 0)) (nI (τ.2 k 1)) (nI (τ.2 k 2)) (nI (lbl (τ.2 k)))) (σ.1 + k)).1 4) (σ.1 + k) (nI (σ.1 + u)))) 5 (upd ((setR (lfS (adS T (σ.1 + k) (nI (τ.2 k 0)) (nI (τ.2 k 1)) (nI (τ.2 k 2)) (nI (lbl (τ.2 k)))) (σ.1 + k)) 4 (upd ((lfS (adS T (σ.1 + k) (nI (τ.2 k 0)) (nI (τ.2 k 1)) (nI (τ.2 k 2)) (nI (lbl (τ.2 k)))) (σ.1 + k)).1 4) (σ.1 + k) (nI (σ.1 + u)))).1 5) (σ.1 + k) (nI (τ.2 k 8)))) (jnd σ (k + 1, τ.2)) := by
          rw [← jnd_k]
          refine stR_add hT rfl (fun a ha r => ?_) ?_
          · have ha : a < σ.1 + k := ha
            by_cases q5 : r = 5
            · subst q5; simp [lfS, adS, setR, setI, un a ha]
            by_cases q4 : r = 4
            · subst q4; simp [lfS, adS, setR, setI, un a ha]
            by_cases q3 : r = 3
            · subst q3; simp [lfS, adS, setR, setI, un a ha]
            by_cases q2 : r = 2
            · subst q2; simp [lfS, adS, setR, setI, un a ha]
            by_cases q1 : r = 1
            · subst q1; simp [lfS, adS, setR, setI, un a ha]
            by_cases q0 : r = 0
            · subst q0; simp [lfS, adS, setR, setI, un a ha]
            simp [lfS, adS, setR, setI, q0, q1, q2, q3, q4, q5]
          · rw [A7, A8, Al, Aj 0 (by decide), Aj 1 (by decide), Aj 2 (by decide), if_neg z, hu, hh]
            refine ⟨?_, ?_, ?_, ?_, ?_, ?_⟩ <;> simp [lfS, adS, setR, setI, upd, e12]
        obtain ⟨S', a1, a2, a3⟩ := ih (k + 1) _ (some (.int (nI (σ.1 + k)))) (by omega) hT2 h1
        refine ⟨S', a1, a2, ?_⟩
        rw [e73_7]
        have ogk := og (lfS (adS T (σ.1 + k) (nI (τ.2 k 0)) (nI (τ.2 k 1)) (nI (τ.2 k 2)) (nI (lbl (τ.2 k)))) (σ.1 + k)) k hk2
        rw [bI_f z] at ogk
        simp only [e73_0, e73_1, e73_4, e73_5, e73_6, e73_8, e73_9, e73_12, e73_15, e73_16, e73_17, e73_20, e73_21, e73_22, e73_23, e73_26, e73_27, e73_28, e73_29, e73_32, e73_33, e73_34, e73_35, e73_38, e73_39, e73_40, e73_43, e73_45, e73_46, e73_48, e73_51, e73_54, e73_55, e73_56, e73_59, e73_62, e73_63, e73_66, e73_68, e73_69, e73_70, e73_73, e73_74, e73_75, e73_76, e73_77, e73_78, e73_81, e73_83, e73_84, e73_87, e73_88, e73_89, e73_90, e73_93, e73_96, st_g0, st_g1, st_g2, st_g3, st_g4, st_g5, st_g6, st_g7, st_p6, st_p7, st_l0, st_l1, st_l2, st_l3, st_l4, st_l5, st_s0, st_s1, st_s2, st_s3, st_s4, st_s5, st_is, st_is_st hd, st_g0_st hd, st_g1_st hd, st_g2_st hd, st_g3_st hd, st_g4_st hd, st_g5_st hd, st_g6_st hd, st_p6_st hd, st_g7_st hd, st_p7_st hd, st_l0_st hd, st_s0_st hd, st_l1_st hd, st_s1_st hd, st_l2_st hd, st_s2_st hd, st_l3_st hd, st_s3_st hd, st_l4_st hd, st_s4_st hd, st_l5_st hd, st_s5_st hd, Option.bind_some, Option.toList_some, Option.toList_none, List.cons_append, List.nil_append, true_or, or_true, and_true, true_and, i10, Bool.false_eq_true, if_true, if_false, reduceIte, h0F, e1, zrd_nI (show k < 12 by omega) (show 12 < 2147483648 by decide), f0, f1, f2, f3, ad, isc, ogk, f4, f5, esum, zin_T (show σ.1 + k < 12 by omega) (show 12 < 2147483648 by decide), nI_clamp (show σ.1 + k < 2 ^ 31 by omega), nI_1]
        exact a3
  obtain ⟨S', a1, a2, a3⟩ := main τ.1 0 S none (by omega) (stR_0 hR) rfl
  refine ⟨S', a1, a2, ?_⟩
  simp only [e73_0, e73_1, e73_4, e73_5, e73_6, e73_8, e73_9, e73_12, e73_15, e73_16, e73_17, e73_20, e73_21, e73_22, e73_23, e73_26, e73_27, e73_28, e73_29, e73_32, e73_33, e73_34, e73_35, e73_38, e73_39, e73_40, e73_43, e73_45, e73_46, e73_48, e73_51, e73_54, e73_55, e73_56, e73_59, e73_62, e73_63, e73_66, e73_68, e73_69, e73_70, e73_73, e73_74, e73_75, e73_76, e73_77, e73_78, e73_81, e73_83, e73_84, e73_87, e73_88, e73_89, e73_90, e73_93, e73_96, st_g0, st_g1, st_g2, st_g3, st_g4, st_g5, st_g6, st_g7, st_p6, st_p7, st_l0, st_l1, st_l2, st_l3, st_l4, st_l5, st_s0, st_s1, st_s2, st_s3, st_s4, st_s5, st_is, st_is_st hd, st_g0_st hd, st_g1_st hd, st_g2_st hd, st_g3_st hd, st_g4_st hd, st_g5_st hd, st_g6_st hd, st_p6_st hd, st_g7_st hd, st_p7_st hd, st_l0_st hd, st_s0_st hd, st_l1_st hd, st_s1_st hd, st_l2_st hd, st_s2_st hd, st_l3_st hd, st_s3_st hd, st_l4_st hd, st_s4_st hd, st_l5_st hd, st_s5_st hd, Option.bind_some, Option.toList_some, Option.toList_none, List.cons_append, List.nil_append, true_or, or_true, and_true, true_and, i10, Bool.false_eq_true, if_true, if_false, reduceIte, hR.1]
  exact a3
def l4f (f : Nat → Int32) (n : Nat) (l0 l1 l2 l3 : Int32) : Nat → Int32 := upd (upd (upd (upd f (2 + 9 * n + 3) l0) (2 + 9 * n + 4) l1) (2 + 9 * n + 5) l2) (2 + 9 * n + 6) l3
theorem l4f_o {f : Nat → Int32} {n y : Nat} {l0 l1 l2 l3 : Int32} (hy : y < 2 + 9 * n) : l4f f n l0 l1 l2 l3 y = f y := by
  have h0 : ¬ y = 2 + 9 * n + 3 := by omega
  have h1 : ¬ y = 2 + 9 * n + 4 := by omega
  have h2 : ¬ y = 2 + 9 * n + 5 := by omega
  have h3 : ¬ y = 2 + 9 * n + 6 := by omega
  simp only [l4f, upd, h0, h1, h2, h3, if_false]
end ADDALL
