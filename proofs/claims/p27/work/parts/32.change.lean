/-! CHANGES OF A STOCK -/
/-- an attribute written -/
def sa (σ : mS) (c j x : Nat) : mS := (σ.1, fun a b => if a = c ∧ b = j then x else σ.2 a b)
theorem sa_1 {σ : mS} {c j x : Nat} : (sa σ c j x).1 = σ.1 := rfl
theorem sa_2 {σ : mS} {c j x a b : Nat} : (sa σ c j x).2 a b = if a = c ∧ b = j then x else σ.2 a b := rfl
theorem stR_h {S : oS} {σ : mS} (hR : stR S σ) (c u : Nat) : stR (setR S 4 (upd (S.1 4) c (hI u))) (sa σ c 7 u) := by
  refine ⟨hR.1, fun a ha => ?_⟩
  obtain ⟨h0, h1, h2, h3, h4, h5⟩ := hR.2 a ha
  by_cases q : a = c
  · subst q
    simp [setR, upd, sa, h0, h1, h2, h3, h5, lbl]
  · simp [setR, upd, sa, q, h0, h1, h2, h3, h4, h5, lbl]
theorem stR_p {S : oS} {σ : mS} (hR : stR S σ) (c u : Nat) : stR (setR S 5 (upd (S.1 5) c (nI u))) (sa σ c 8 u) := by
  refine ⟨hR.1, fun a ha => ?_⟩
  obtain ⟨h0, h1, h2, h3, h4, h5⟩ := hR.2 a ha
  by_cases q : a = c
  · subst q
    simp [setR, upd, sa, h0, h1, h2, h3, h4, lbl]
  · simp [setR, upd, sa, q, h0, h1, h2, h3, h4, h5, lbl]
theorem stR_g {S : oS} {σ : mS} (hR : stR S σ) (c u : Nat) : stR (setR S 2 (upd (S.1 2) c (nI u))) (sa σ c 2 u) := by
  refine ⟨hR.1, fun a ha => ?_⟩
  obtain ⟨h0, h1, h2, h3, h4, h5⟩ := hR.2 a ha
  by_cases q : a = c
  · subst q
    simp [setR, upd, sa, h0, h1, h3, h4, h5, lbl]
  · simp [setR, upd, sa, q, h0, h1, h2, h3, h4, h5, lbl]
theorem bnd_h {σ : mS} (hb : bnd σ) {c u : Nat} (hu : u ≤ σ.1) : bnd (sa σ c 7 u) := by
  refine ⟨hb.1, fun a ha => ?_⟩
  obtain ⟨h0, h1, h2, h3, h4, h5⟩ := hb.2 a ha
  refine ⟨by simp [sa, h0], by simp [sa, h1], by simp [sa, h2], fun p hp => ?_, ?_, by simp [sa, h5]⟩
  · have : ¬ 3 + p = 7 := by omega
    simp [sa, this, h3 p hp]
  · rw [sa_2]
    split
    · exact hu
    · exact h4
theorem bnd_p {σ : mS} (hb : bnd σ) {c u : Nat} (hu : u ≤ 12) : bnd (sa σ c 8 u) := by
  refine ⟨hb.1, fun a ha => ?_⟩
  obtain ⟨h0, h1, h2, h3, h4, h5⟩ := hb.2 a ha
  refine ⟨by simp [sa, h0], by simp [sa, h1], by simp [sa, h2], fun p hp => ?_, by simp [sa, h4], ?_⟩
  · have : ¬ 3 + p = 8 := by omega
    simp [sa, this, h3 p hp]
  · rw [sa_2]
    split
    · exact hu
    · exact h5
/-- a crate on the ground -/
def gnd (σ : mS) (c : Nat) : mS := sa (sa σ c 7 0) c 8 0
/-- a crate laid into another -/
def laid (σ : mS) (c k : Nat) : mS := sa (sa (gnd σ c) c 8 (pil (gnd σ c) k)) c 7 (k + 1)
def tnd (g : Nat) : Nat := (g * 2 + g / 8) % 16
theorem tnd_e : ∀ g, g < 16 → (nI g <<< (1 &&& 31) ||| nI g >>> (3 &&& 31)) &&& 15 = nI (tnd g) := by decide
def adS (S : oS) (n : Nat) (x0 x1 x2 x3 : Int32) : oS := setR (setR (setR (setR (setI S 0 (nI (n + 1))) 0 (upd (S.1 0) n x0)) 1 (upd (S.1 1) n x1)) 2 (upd (S.1 2) n x2)) 3 (upd (S.1 3) n x3)
def lfS (T : oS) (c : Nat) : oS := setR (setR T 4 (upd (T.1 4) c (-1))) 5 (upd (T.1 5) c 0)
/-- a crate added -/
def addd (σ : mS) (A : Nat → Nat) : mS := (σ.1 + 1, fun a b => if a = σ.1 then A b else σ.2 a b)
def lyS (S : oS) (c p k : Nat) : oS := setR (setR (lfS S c) 5 (upd ((lfS S c).1 5) c (nI p))) 4 (upd ((setR (lfS S c) 5 (upd ((lfS S c).1 5) c (nI p))).1 4) c (nI k))
section CHANGE
variable {d : Nat} {h : zH} {v i : Nat} {V S M : oS} {σ τ : mS} {c : Nat}
theorem s_isCrate_k (hR : stR S σ) (hb : bnd σ) (hc : c < σ.1) : ev d 37 0 [some (.ref i), some (.int (nI c))] [] (hst h i S) = some (some (.int 1), hst h i S) := by
  have hn := hb.1
  rw [s_isCrate hR.1 (by omega), s_zi hc (by omega)]
theorem s_lift (hR : stR S σ) (hb : bnd σ) (hc : c < σ.1) : ev (d + 1) 69 0 [some (.ref i), some (.int (nI c))] [] (hst h i S) = some (none, hst h i (setR (setR S 4 (upd (S.1 4) c (-1))) 5 (upd (S.1 5) c 0))) := by
  have hn := hb.1
  simp only [e69_0, e69_1, e69_2, e69_5, e69_8, e69_9, e69_12, e69_13, e69_14, e69_15, e69_16, e69_19, e69_20, e69_21, e69_22, st_g0, st_g1, st_g2, st_g3, st_g4, st_g5, st_g6, st_g7, st_p6, st_p7, st_l0, st_l1, st_l2, st_l3, st_l4, st_l5, st_s0, st_s1, st_s2, st_s3, st_s4, st_s5, st_is, Option.bind_some, Option.toList_some, Option.toList_none, List.cons_append, List.nil_append, true_or, or_true, and_true, true_and, i10, Bool.false_eq_true, if_true, if_false, reduceIte, s_isCrate_k hR hb hc, zin_T (show c < 12 by omega) (by decide), nI_clamp (show c < 2 ^ 31 by omega)]
  rfl
theorem stR_lift (hR : stR S σ) (c : Nat) : stR (setR (setR S 4 (upd (S.1 4) c (-1))) 5 (upd (S.1 5) c 0)) (gnd σ c) := stR_p (stR_h hR c 0) c 0
theorem bnd_gnd (hb : bnd σ) (c : Nat) : bnd (gnd σ c) := bnd_p (bnd_h hb (Nat.zero_le _)) (by omega)
theorem s_layE (hR : stR S σ) (hb : bnd σ) (hc : c < σ.1) {k : Nat} (hk : k < σ.1) : ev (d + 2) 70 0 [some (.ref i), some (.int (nI c)), some (.int (nI k))] [] (hst h i S) = some (none, hst h i (lyS S c (pil (gnd σ c) k) k)) := by
  have hn := hb.1
  have hR1 := stR_lift hR c
  have hb1 := bnd_gnd hb c
  unfold lyS lfS
  simp only [e70_0, e70_1, e70_2, e70_5, e70_8, e70_9, e70_10, e70_13, e70_16, e70_17, e70_18, e70_21, e70_22, e70_25, e70_26, e70_27, e70_28, e70_31, e70_32, e70_33, e70_36, e70_37, e70_38, e70_39, st_g0, st_g1, st_g2, st_g3, st_g4, st_g5, st_g6, st_g7, st_p6, st_p7, st_l0, st_l1, st_l2, st_l3, st_l4, st_l5, st_s0, st_s1, st_s2, st_s3, st_s4, st_s5, st_is, Option.bind_some, Option.toList_some, Option.toList_none, List.cons_append, List.nil_append, true_or, or_true, and_true, true_and, i10, Bool.false_eq_true, if_true, if_false, reduceIte, s_isCrate_k hR hb hc, s_isCrate_k hR hb hk, s_lift hR hb hc, s_pileOf hR1 hb1 (show k < (gnd σ c).1 from hk), zin_T (show c < 12 by omega) (by decide), nI_clamp (show c < 2 ^ 31 by omega)]
theorem stR_lay (hR : stR S σ) (c k : Nat) : stR (lyS S c (pil (gnd σ c) k) k) (laid σ c k) := by
  have := stR_h (stR_p (stR_lift hR c) c (pil (gnd σ c) k)) c (k + 1)
  rw [hI_s] at this
  exact this
theorem s_lay (hR : stR S σ) (hb : bnd σ) (hc : c < σ.1) {k : Nat} (hk : k < σ.1) : ∃ S', stR S' (laid σ c k) ∧ S'.2 1 = S.2 1 ∧ ev (d + 2) 70 0 [some (.ref i), some (.int (nI c)), some (.int (nI k))] [] (hst h i S) = some (none, hst h i S') := ⟨_, stR_lay hR c k, rfl, s_layE hR hb hc hk⟩
theorem s_turnSlats (hR : stR S σ) (hb : bnd σ) (hc : c < σ.1) : ev (d + 1) 71 0 [some (.ref i), some (.int (nI c)), none] [] (hst h i S) = some (none, hst h i (setR S 2 (upd (S.1 2) c (nI (tnd (σ.2 c 2)))))) := by
  have hn := hb.1
  have h2 := (hb.2 c hc).2.2.1
  obtain ⟨-, -, g2, -⟩ := hR.2 c hc
  simp only [e71_0, e71_1, e71_2, e71_5, e71_8, e71_9, e71_12, e71_13, e71_14, e71_15, e71_16, e71_19, e71_20, e71_21, e71_22, e71_23, e71_24, e71_25, e71_26, e71_27, e71_29, e71_30, e71_31, st_g0, st_g1, st_g2, st_g3, st_g4, st_g5, st_g6, st_g7, st_p6, st_p7, st_l0, st_l1, st_l2, st_l3, st_l4, st_l5, st_s0, st_s1, st_s2, st_s3, st_s4, st_s5, st_is, Option.bind_some, Option.toList_some, Option.toList_none, List.cons_append, List.nil_append, true_or, or_true, and_true, true_and, i10, Bool.false_eq_true, if_true, if_false, reduceIte, s_isCrate_k hR hb hc, zin_T (show c < 12 by omega) (by decide), nI_clamp (show c < 2 ^ 31 by omega), zrd_nI (show c < 12 by omega) (show 12 < 2147483648 by omega), g2, tnd_e _ (show σ.2 c 2 < 16 by omega)]
theorem s_countRefusal : ev d 74 0 [some (.ref i)] [] (hst h i S) = some (none, hst h i (setI S 1 (S.2 1 + 1))) := by
  simp only [e74_0, e74_1, e74_2, e74_5, e74_6, e74_7, e74_10, st_g0, st_g1, st_g2, st_g3, st_g4, st_g5, st_g6, st_g7, st_p6, st_p7, st_l0, st_l1, st_l2, st_l3, st_l4, st_l5, st_s0, st_s1, st_s2, st_s3, st_s4, st_s5, st_is, Option.bind_some, Option.toList_some, Option.toList_none, List.cons_append, List.nil_append, true_or, or_true, and_true, true_and, i10, Bool.false_eq_true, if_true, if_false, reduceIte]
theorem s_empty : ev d 75 0 [some (.ref i)] [] (hst h i S) = some (none, hst h i (setI S 0 0)) := by
  simp only [e75_0, e75_1, e75_2, e75_5, st_g0, st_g1, st_g2, st_g3, st_g4, st_g5, st_g6, st_g7, st_p6, st_p7, st_l0, st_l1, st_l2, st_l3, st_l4, st_l5, st_s0, st_s1, st_s2, st_s3, st_s4, st_s5, st_is, Option.bind_some, Option.toList_some, Option.toList_none, List.cons_append, List.nil_append, true_or, or_true, and_true, true_and, i10, Bool.false_eq_true, if_true, if_false, reduceIte]
theorem s_addE (hR : stR S σ) (hc : σ.1 < 12) {x0 x1 x2 x3 : Int32} : ev (d + 2) 68 0 [some (.ref i), some (.int x0), some (.int x1), some (.int x2), some (.int x3), none] [] (hst h i S) = some (some (.int (nI σ.1)), hst h i (lfS (adS S σ.1 x0 x1 x2 x3) σ.1)) := by
  have h0 := hR.1
  have e1 : ((12 : Int32) ≤ nI σ.1) = False := (nI_lep (a := 12) (by omega) (by omega)).trans (eq_false (by omega))
  have e2 : (nI σ.1 < (12 : Int32)) = True := (nI_ltp (b := 12) (by omega) (by omega)).trans (eq_true (by omega))
  have hlift : ∀ (T : oS), T.2 0 = nI (σ.1 + 1) → ev (d + 1) 69 0 [some (.ref i), some (.int (nI σ.1))] [] (hst h i T) = some (none, hst h i (lfS T σ.1)) := by
    intro T hT
    have hi : ev d 37 0 [some (.ref i), some (.int (nI σ.1))] [] (hst h i T) = some (some (.int 1), hst h i T) := by
      rw [s_isCrate hT (by omega), s_zi (by omega) (by omega)]
    simp only [e69_0, e69_1, e69_2, e69_5, e69_8, e69_9, e69_12, e69_13, e69_14, e69_15, e69_16, e69_19, e69_20, e69_21, e69_22, st_g0, st_g1, st_g2, st_g3, st_g4, st_g5, st_g6, st_g7, st_p6, st_p7, st_l0, st_l1, st_l2, st_l3, st_l4, st_l5, st_s0, st_s1, st_s2, st_s3, st_s4, st_s5, st_is, Option.bind_some, Option.toList_some, Option.toList_none, List.cons_append, List.nil_append, true_or, or_true, and_true, true_and, i10, Bool.false_eq_true, if_true, if_false, reduceIte, hi, zin_T (show σ.1 < 12 by omega) (by decide), nI_clamp (show σ.1 < 2 ^ 31 by omega)]
    rfl
  have hl := hlift (adS S σ.1 x0 x1 x2 x3) rfl
  simp only [e68_0, e68_1, e68_4, e68_6, e68_9, e68_11, e68_12, e68_13, e68_16, e68_18, e68_19, e68_20, e68_23, e68_24, e68_25, e68_28, e68_29, e68_32, e68_34, e68_35, e68_36, e68_37, e68_40, e68_42, e68_43, e68_44, e68_45, e68_48, e68_50, e68_51, e68_52, e68_53, e68_56, e68_58, e68_60, e68_61, e68_62, e68_64, e68_67, e68_69, st_g0, st_g1, st_g2, st_g3, st_g4, st_g5, st_g6, st_g7, st_p6, st_p7, st_l0, st_l1, st_l2, st_l3, st_l4, st_l5, st_s0, st_s1, st_s2, st_s3, st_s4, st_s5, st_is, Option.bind_some, Option.toList_some, Option.toList_none, List.cons_append, List.nil_append, true_or, or_true, and_true, true_and, i10, Bool.false_eq_true, if_true, if_false, reduceIte, h0, e1, e2, nI_1, zin_T (show σ.1 < 12 by omega) (by decide), nI_clamp (show σ.1 < 2 ^ 31 by omega)]
  have hl2 : ∀ (K : Option Value × zH → Option (Option Value × zH)) T, T = adS S σ.1 x0 x1 x2 x3 → (ev (d + 1) 69 0 [some (.ref i), some (.int (nI σ.1))] [] (hst h i T)).bind K = K (none, hst h i (lfS (adS S σ.1 x0 x1 x2 x3) σ.1)) := by
    intro K T hT
    rw [hT, hl]
    rfl
  refine (hl2 _ _ rfl).trans ?_
  simp only [e68_0, e68_1, e68_4, e68_6, e68_9, e68_11, e68_12, e68_13, e68_16, e68_18, e68_19, e68_20, e68_23, e68_24, e68_25, e68_28, e68_29, e68_32, e68_34, e68_35, e68_36, e68_37, e68_40, e68_42, e68_43, e68_44, e68_45, e68_48, e68_50, e68_51, e68_52, e68_53, e68_56, e68_58, e68_60, e68_61, e68_62, e68_64, e68_67, e68_69, Option.bind_some, Option.toList_some, Option.toList_none, List.cons_append, List.nil_append, true_or, or_true, and_true, true_and, i10, Bool.false_eq_true, if_true, if_false, reduceIte]
theorem s_add (hR : stR S σ) (hb : bnd σ) (hc : σ.1 < 12) {x0 x1 x2 x3 : Int32} : ∃ S', S'.2 1 = S.2 1 ∧ S'.2 0 = nI (σ.1 + 1) ∧ (∀ a, a < σ.1 → ∀ r, S'.1 r a = S.1 r a) ∧ (S'.1 0 σ.1 = x0 ∧ S'.1 1 σ.1 = x1 ∧ S'.1 2 σ.1 = x2 ∧ S'.1 3 σ.1 = x3 ∧ S'.1 4 σ.1 = -1 ∧ S'.1 5 σ.1 = 0) ∧ ev (d + 2) 68 0 [some (.ref i), some (.int x0), some (.int x1), some (.int x2), some (.int x3), none] [] (hst h i S) = some (some (.int (nI σ.1)), hst h i S') := by
  refine ⟨lfS (adS S σ.1 x0 x1 x2 x3) σ.1, rfl, rfl, ?_, ?_, ?_⟩
  · intro a ha r
    have : ¬ a = σ.1 := by omega
    have un : ∀ (f : Nat → Int32) (x : Int32), upd f σ.1 x a = f a := fun f x => by simp [upd, this]
    by_cases q5 : r = 5
    · subst q5; simp [lfS, adS, setR, setI, un]
    by_cases q4 : r = 4
    · subst q4; simp [lfS, adS, setR, setI, un]
    by_cases q3 : r = 3
    · subst q3; simp [lfS, adS, setR, setI, un]
    by_cases q2 : r = 2
    · subst q2; simp [lfS, adS, setR, setI, un]
    by_cases q1 : r = 1
    · subst q1; simp [lfS, adS, setR, setI, un]
    by_cases q0 : r = 0
    · subst q0; simp [lfS, adS, setR, setI, un]
    simp [lfS, adS, setR, setI, q0, q1, q2, q3, q4, q5]
  · simp [lfS, adS, setR, setI, upd]
  · exact s_addE hR hc
theorem stR_add {S' : oS} (hR : stR S σ) {A : Nat → Nat} (h0 : S'.2 0 = nI (σ.1 + 1)) (h1 : ∀ a, a < σ.1 → ∀ r, S'.1 r a = S.1 r a) (h2 : S'.1 0 σ.1 = nI (A 0) ∧ S'.1 1 σ.1 = nI (A 1) ∧ S'.1 2 σ.1 = nI (A 2) ∧ S'.1 3 σ.1 = nI (lbl A) ∧ S'.1 4 σ.1 = hI (A 7) ∧ S'.1 5 σ.1 = nI (A 8)) : stR S' (addd σ A) := by
  refine ⟨h0, fun a ha => ?_⟩
  have ha : a < σ.1 + 1 := ha
  by_cases q : a = σ.1
  · subst q
    simp only [addd, if_true]
    exact h2
  · simp only [addd, q, if_false, h1 a (by omega)]
    exact hR.2 a (by omega)
end CHANGE
