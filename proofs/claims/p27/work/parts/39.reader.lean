/-! THE READER OF THE CLASS, AS A MACHINE -/
/-- part, signs, value, latest, inside (coded), found -/
abbrev pS : Type := Nat × Nat × Nat × Nat × Nat × mS
def zA : Nat → Nat := fun _ => 0
def rBeg (s : pS) (p : Nat) : pS := (p, 0, 0, s.2.2.2.1, s.2.2.2.2.1, s.2.2.2.2.2)
/-- a crate begun -/
def bgn (τ : mS) (u : Nat) : mS := match u with
  | 0 => addd τ zA
  | k + 1 => laid (addd τ zA) τ.1 k
def sLet (s : pS) (c : Nat) : Option pS :=
  if 65 ≤ c ∧ c ≤ 90 ∧ s.2.1 < 4 then
    if s.2.1 = 0 then some (s.1, 1, s.2.2.1 + (c - 64), s.2.2.2.2.2.1, s.2.2.2.2.1, sa (bgn s.2.2.2.2.2 s.2.2.2.2.1) s.2.2.2.2.2.1 3 (c - 64))
    else some (s.1, s.2.1 + 1, s.2.2.1 + (c - 64) * 27 ^ s.2.1, s.2.2.2.1, s.2.2.2.2.1, sa s.2.2.2.2.2 s.2.2.2.1 (3 + s.2.1) (c - 64))
  else none
def sMrk (s : pS) (c k p : Nat) : Option pS := if c = k ∧ s.2.1 ≠ 0 then some (rBeg s p) else none
def sDig (s : pS) (c lo hi : Nat) : Option pS :=
  if 48 ≤ c ∧ c ≤ 57 ∧ (if s.2.1 = 0 then lo ≤ s.2.2.1 * 10 + (c - 48) else 0 < s.2.2.1 ∧ s.2.2.1 * 10 + (c - 48) ≤ hi) then
    some (s.1, s.2.1 + 1, s.2.2.1 * 10 + (c - 48), s.2.2.2.1, s.2.2.2.2.1, sa s.2.2.2.2.2 s.2.2.2.1 (s.1 - 1) (s.2.2.1 * 10 + (c - 48)))
  else none
def sOpn (s : pS) (c : Nat) : Option pS := if c = 91 ∧ s.2.1 ≠ 0 then some (0, 0, 0, s.2.2.2.1, s.2.2.2.1 + 1, s.2.2.2.2.2) else none
def sBeh (s : pS) (c : Nat) : Option pS := match s.2.2.2.2.1 with
  | 0 => sLet (rBeg s 0) c
  | k + 1 => if c = 93 then some (4, 0, 0, s.2.2.2.1, s.2.2.2.2.2.2 k 7, s.2.2.2.2.2) else sLet (rBeg s 0) c
def stp (s : pS) (c : Nat) : Option pS := match s.1 with
  | 0 => (sLet s c).or (sMrk s c 115 1)
  | 1 => (sDig s c 1 60).or (sMrk s c 114 2)
  | 2 => (sDig s c 0 59).or (sMrk s c 103 3)
  | 3 => ((sDig s c 0 15).or (sOpn s c)).or (if s.2.1 = 0 then none else sBeh s c)
  | _ => sBeh s c
def psR (R F : oS) (s : pS) : Prop := R.2 0 = nI s.1 ∧ R.2 1 = nI s.2.1 ∧ R.2 2 = nI s.2.2.1 ∧ ((s.1 ≠ 0 ∨ s.2.1 ≠ 0) → R.2 3 = nI s.2.2.2.1) ∧ R.2 4 = hI s.2.2.2.2.1 ∧ stR F s.2.2.2.2.2
def prg (p g : Nat) : Nat := match p with
  | 0 => if g = 0 then 7 else 1
  | 1 => if g = 0 then 2 else 3
  | 2 => if g = 0 then 4 else 5
  | 3 => if g = 0 then 6 else 7
  | _ => 7
def psI (p : Nat) (s : pS) : Prop := bnd s.2.2.2.2.2 ∧ s.1 ≤ 4 ∧ s.2.1 ≤ 4 ∧ s.2.2.2.2.1 ≤ s.2.2.2.2.2.1 ∧ s.2.2.1 < 600000 ∧ ((s.1 ≠ 0 ∨ s.2.1 ≠ 0) → s.2.2.2.1 < s.2.2.2.2.2.1) ∧ (s.1 = 0 → s.2.2.1 = if s.2.1 = 0 then 0 else lbl (s.2.2.2.2.2.2 s.2.2.2.1)) ∧ (s.1 = 0 → s.2.1 ≠ 0 → ∀ q, s.2.1 ≤ q → q < 4 → s.2.2.2.2.2.2 s.2.2.2.1 (3 + q) = 0) ∧ 7 * s.2.2.2.2.2.1 + prg s.1 s.2.1 ≤ p + 7
theorem stR_lab {S : oS} {σ : mS} (hR : stR S σ) {c q u : Nat} (hq : q < 4) : stR (setR S 3 (upd (S.1 3) c (nI (lbl ((sa σ c (3 + q) u).2 c))))) (sa σ c (3 + q) u) := by
  refine ⟨hR.1, fun a ha => ?_⟩
  obtain ⟨h0, h1, h2, h3, h4, h5⟩ := hR.2 a ha
  have n0 : ¬ 0 = 3 + q := by omega
  have n1 : ¬ 1 = 3 + q := by omega
  have n2 : ¬ 2 = 3 + q := by omega
  have n7 : ¬ 7 = 3 + q := by omega
  have n8 : ¬ 8 = 3 + q := by omega
  by_cases w : a = c
  · subst w
    simp [setR, upd, sa, h0, h1, h2, h4, h5, n0, n1, n2, n7, n8]
  · simp [setR, upd, sa, w, h0, h1, h2, h3, h4, h5, lbl]
theorem lbl_set {σ : mS} {c q u : Nat} (hq : q < 4) (h0 : σ.2 c (3 + q) = 0) : lbl ((sa σ c (3 + q) u).2 c) = lbl (σ.2 c) + u * 27 ^ q := by
  have h4 : q = 0 ∨ q = 1 ∨ q = 2 ∨ q = 3 := by omega
  rcases h4 with w | w | w | w <;> subst w <;> simp [lbl, sa] at h0 ⊢ <;> rw [h0] <;> omega
section READER
variable {d : Nat} {h : zH} {v i : Nat} {R F S : oS} {σ : mS} {s : pS} {c p : Nat}
theorem s_setLabel (hR : stR S σ) (hb : bnd σ) (hc : c < σ.1) {x : Int32} : ev (d + 1) 76 0 [some (.ref i), some (.int (nI c)), some (.int x)] [] (hst h i S) = some (none, hst h i (setR S 3 (upd (S.1 3) c x))) := by
  have hn := hb.1
  simp only [e76_0, e76_1, e76_2, e76_5, e76_8, e76_9, e76_12, e76_13, e76_14, e76_15, st_g0, st_g1, st_g2, st_g3, st_g4, st_g5, st_g6, st_g7, st_p6, st_p7, st_l0, st_l1, st_l2, st_l3, st_l4, st_l5, st_s0, st_s1, st_s2, st_s3, st_s4, st_s5, st_is, Option.bind_some, Option.toList_some, Option.toList_none, List.cons_append, List.nil_append, true_or, or_true, and_true, true_and, i10, Bool.false_eq_true, if_true, if_false, reduceIte, s_isCrate_k hR hb hc, zin_T (show c < 12 by omega) (by decide), nI_clamp (show c < 2 ^ 31 by omega)]
theorem s_setSize (hR : stR S σ) (hb : bnd σ) (hc : c < σ.1) {x : Int32} : ev (d + 1) 77 0 [some (.ref i), some (.int (nI c)), some (.int x)] [] (hst h i S) = some (none, hst h i (setR S 0 (upd (S.1 0) c x))) := by
  have hn := hb.1
  simp only [e77_0, e77_1, e77_2, e77_5, e77_8, e77_9, e77_12, e77_13, e77_14, e77_15, st_g0, st_g1, st_g2, st_g3, st_g4, st_g5, st_g6, st_g7, st_p6, st_p7, st_l0, st_l1, st_l2, st_l3, st_l4, st_l5, st_s0, st_s1, st_s2, st_s3, st_s4, st_s5, st_is, Option.bind_some, Option.toList_some, Option.toList_none, List.cons_append, List.nil_append, true_or, or_true, and_true, true_and, i10, Bool.false_eq_true, if_true, if_false, reduceIte, s_isCrate_k hR hb hc, zin_T (show c < 12 by omega) (by decide), nI_clamp (show c < 2 ^ 31 by omega)]
theorem s_setRoom (hR : stR S σ) (hb : bnd σ) (hc : c < σ.1) {x : Int32} : ev (d + 1) 78 0 [some (.ref i), some (.int (nI c)), some (.int x)] [] (hst h i S) = some (none, hst h i (setR S 1 (upd (S.1 1) c x))) := by
  have hn := hb.1
  simp only [e78_0, e78_1, e78_2, e78_5, e78_8, e78_9, e78_12, e78_13, e78_14, e78_15, st_g0, st_g1, st_g2, st_g3, st_g4, st_g5, st_g6, st_g7, st_p6, st_p7, st_l0, st_l1, st_l2, st_l3, st_l4, st_l5, st_s0, st_s1, st_s2, st_s3, st_s4, st_s5, st_is, Option.bind_some, Option.toList_some, Option.toList_none, List.cons_append, List.nil_append, true_or, or_true, and_true, true_and, i10, Bool.false_eq_true, if_true, if_false, reduceIte, s_isCrate_k hR hb hc, zin_T (show c < 12 by omega) (by decide), nI_clamp (show c < 2 ^ 31 by omega)]
theorem s_setGaps (hR : stR S σ) (hb : bnd σ) (hc : c < σ.1) {x : Int32} : ev (d + 1) 79 0 [some (.ref i), some (.int (nI c)), some (.int x)] [] (hst h i S) = some (none, hst h i (setR S 2 (upd (S.1 2) c x))) := by
  have hn := hb.1
  simp only [e79_0, e79_1, e79_2, e79_5, e79_8, e79_9, e79_12, e79_13, e79_14, e79_15, st_g0, st_g1, st_g2, st_g3, st_g4, st_g5, st_g6, st_g7, st_p6, st_p7, st_l0, st_l1, st_l2, st_l3, st_l4, st_l5, st_s0, st_s1, st_s2, st_s3, st_s4, st_s5, st_is, Option.bind_some, Option.toList_some, Option.toList_none, List.cons_append, List.nil_append, true_or, or_true, and_true, true_and, i10, Bool.false_eq_true, if_true, if_false, reduceIte, s_isCrate_k hR hb hc, zin_T (show c < 12 by omega) (by decide), nI_clamp (show c < 2 ^ 31 by omega)]
theorem r_begin {k : Int32} : ev d 15 0 [some (.ref v), some (.int k)] [] (hst (hrd h v R) (v + 1) F) = some (none, hst (hrd h v (setI (setI (setI R 0 k) 1 0) 2 0)) (v + 1) F) := by
  have hd : v + 1 ≤ v + 1 ∨ v + 1 + 7 ≤ v := Or.inl (Nat.le_refl _)
  simp only [e15_0, e15_1, e15_2, e15_5, e15_6, e15_7, e15_10, e15_11, e15_12, e15_15, rd_is_st hd, rd_g0_st hd, rd_g1_st hd, rd_p1_st hd, rd_g2_st hd, rd_p2_st hd, rd_g3_st hd, rd_p3_st hd, rd_g4_st hd, rd_p4_st hd, rd_g5_st hd, rd_p5_st hd, Option.bind_some, Option.toList_some, Option.toList_none, List.cons_append, List.nil_append, true_or, or_true, and_true, true_and, i10, Bool.false_eq_true, if_true, if_false, reduceIte]
theorem psR_beg {k : Nat} (hs : psR R F s) (hk : k = 0 ∨ s.1 ≠ 0 ∨ s.2.1 ≠ 0) : psR (setI (setI (setI R 0 (nI k)) 1 0) 2 0) F (rBeg s k) := by
  obtain ⟨h1, h2, h3, h4, h5, h6⟩ := hs
  refine ⟨by simp [setI, rBeg], by simp [setI, rBeg]; rfl, by simp [setI, rBeg]; rfl, fun w => ?_, by simp [setI, rBeg, h5], h6⟩
  have := h4 (by
    rcases hk with q | q | q
    · subst q
      simp [rBeg] at w
    · exact Or.inl q
    · exact Or.inr q)
  simp [setI, rBeg, this]
theorem r_weight {g : Nat} (hg : g < 4) : ev d 18 0 [some (.int (nI g)), none, none] [] h = some (some (.int (nI (27 ^ g))), h) := by
  have main := z_for (fun (k s : Nat) => ev d 18 4 [some (.int (nI g)), some (.int (nI s)), some (.int (nI k))] [] h) (fun _ s => s * 27) (n := g) (s := 1) (fun k s hk => by
    have e1 : (nI g ≤ nI k) = False := (nI_lep (by omega) (by omega)).trans (eq_false (by omega))
    have e2 : ((4 : Int32) ≤ nI k) = False := (nI_lep (a := 4) (by omega) (by omega)).trans (eq_false (by omega))
    have e3 : nI s * (27 : Int32) = nI (s * 27) := pk_mul s 27
    show ev d 18 4 _ _ _ = ev d 18 4 _ _ _
    rw [e18_4]
    simp only [e18_0, e18_1, e18_2, e18_3, e18_5, e18_6, e18_9, e18_10, e18_11, e18_14, e18_15, e18_17, e18_18, e18_19, e18_22, e18_25, e18_26, Option.bind_some, Option.toList_some, Option.toList_none, List.cons_append, List.nil_append, true_or, or_true, and_true, true_and, i10, Bool.false_eq_true, if_true, if_false, reduceIte, e1, e2, e3, nI_1])
  have ez : ∀ g, zfold (fun _ s => s * 27) g 1 = 27 ^ g := by
    intro g
    induction g with
    | zero => rfl
    | succ g ih => rw [zfold, ih, Nat.pow_succ]
  rw [ez] at main
  simp only [e18_0, e18_1, e18_2, e18_3, e18_5, e18_6, e18_9, e18_10, e18_11, e18_14, e18_15, e18_17, e18_18, e18_19, e18_22, e18_25, e18_26, Option.bind_some, Option.toList_some, Option.toList_none, List.cons_append, List.nil_append, true_or, or_true, and_true, true_and, i10, Bool.false_eq_true, if_true, if_false, reduceIte]
  refine main.trans ?_
  show ev d 18 4 _ _ _ = _
  rw [e18_4]
  simp only [e18_0, e18_1, e18_2, e18_3, e18_5, e18_6, e18_9, e18_10, e18_11, e18_14, e18_15, e18_17, e18_18, e18_19, e18_22, e18_25, e18_26, Option.bind_some, Option.toList_some, Option.toList_none, List.cons_append, List.nil_append, true_or, or_true, and_true, true_and, i10, Bool.false_eq_true, if_true, if_false, reduceIte, Int32.le_refl]
theorem r_mark (hs : psR R F s) (hJ : psI p s) {k q : Nat} (hc : c < 128) (hk : k < 128) {x y : Int32} (hx : x = nI k) (hy : y = nI q) : ∃ R', psR R' F ((sMrk s c k q).getD s) ∧ ev (d + 1) 19 0 [some (.ref v), some (.int (nI c)), some (.int x), some (.int y)] [] (hst (hrd h v R) (v + 1) F) = some (some (.int (bI ((sMrk s c k q).isSome = true))), hst (hrd h v R') (v + 1) F) := by
  have hd : v + 1 ≤ v + 1 ∨ v + 1 + 7 ≤ v := Or.inl (Nat.le_refl _)
  have hg := hJ.2.2.1
  have e1 : (nI c = nI k) = (c = k) := nI_eqp (by omega) (by omega)
  have e2 : (nI s.2.1 = 0) = (s.2.1 = 0) := nI_eqp (b := 0) (by omega) (by omega)
  subst hx hy
  unfold sMrk
  by_cases q1 : c = k
  · by_cases q2 : s.2.1 = 0
    · refine ⟨R, by simpa [q2] using hs, ?_⟩
      rw [if_neg (fun z => z.2 q2), bI_f (by simp)]
      simp only [e19_0, e19_1, e19_2, e19_5, e19_6, e19_9, e19_12, e19_13, e19_14, e19_15, e19_16, e19_19, e19_20, rd_is_st hd, rd_g0_st hd, rd_g1_st hd, rd_p1_st hd, rd_g2_st hd, rd_p2_st hd, rd_g3_st hd, rd_p3_st hd, rd_g4_st hd, rd_p4_st hd, rd_g5_st hd, rd_p5_st hd, Option.bind_some, Option.toList_some, Option.toList_none, List.cons_append, List.nil_append, true_or, or_true, and_true, true_and, i10, Bool.false_eq_true, if_true, if_false, reduceIte, e1, e2, hs.2.1, eq_true q1, eq_true q2]
    · refine ⟨setI (setI (setI R 0 (nI q)) 1 0) 2 0, ?_, ?_⟩
      · rw [if_pos ⟨q1, q2⟩]
        exact psR_beg hs (Or.inr (Or.inr q2))
      · rw [if_pos ⟨q1, q2⟩, bI_t (by simp)]
        simp only [e19_0, e19_1, e19_2, e19_5, e19_6, e19_9, e19_12, e19_13, e19_14, e19_15, e19_16, e19_19, e19_20, rd_is_st hd, rd_g0_st hd, rd_g1_st hd, rd_p1_st hd, rd_g2_st hd, rd_p2_st hd, rd_g3_st hd, rd_p3_st hd, rd_g4_st hd, rd_p4_st hd, rd_g5_st hd, rd_p5_st hd, Option.bind_some, Option.toList_some, Option.toList_none, List.cons_append, List.nil_append, true_or, or_true, and_true, true_and, i10, Bool.false_eq_true, if_true, if_false, reduceIte, e1, e2, hs.2.1, eq_true q1, eq_false q2, r_begin]
  · refine ⟨R, by simpa [q1] using hs, ?_⟩
    rw [if_neg (fun z => q1 z.1), bI_f (by simp)]
    simp only [e19_0, e19_1, e19_2, e19_5, e19_6, e19_9, e19_12, e19_13, e19_14, e19_15, e19_16, e19_19, e19_20, rd_is_st hd, rd_g0_st hd, rd_g1_st hd, rd_p1_st hd, rd_g2_st hd, rd_p2_st hd, rd_g3_st hd, rd_p3_st hd, rd_g4_st hd, rd_p4_st hd, rd_g5_st hd, rd_p5_st hd, Option.bind_some, Option.toList_some, Option.toList_none, List.cons_append, List.nil_append, true_or, or_true, and_true, true_and, i10, Bool.false_eq_true, if_true, if_false, reduceIte, e1, eq_false q1]
theorem bnd_add {τ : mS} (hb : bnd τ) (hn : τ.1 < 12) : bnd (addd τ zA) := by
  refine ⟨hn, fun a ha => ?_⟩
  have ha : a < τ.1 + 1 := ha
  by_cases q : a = τ.1
  · have e : (addd τ zA).2 a = zA := by
      funext b
      exact if_pos q
    rw [e]
    exact ⟨Nat.zero_le _, Nat.zero_le _, Nat.zero_le _, fun _ _ => Nat.zero_le _, Nat.zero_le _, Nat.zero_le _⟩
  · have e : (addd τ zA).2 a = τ.2 a := by
      funext b
      exact if_neg q
    rw [e]
    obtain ⟨h0, h1, h2, h3, h4, h5⟩ := hb.2 a (by omega)
    exact ⟨h0, h1, h2, h3, Nat.le_succ_of_le h4, h5⟩
theorem bnd_laid {τ : mS} (hb : bnd τ) {c k : Nat} (hk : k < τ.1) : bnd (laid τ c k) := bnd_h (bnd_p (bnd_gnd hb c) (pil_le (bnd_gnd hb c))) hk
theorem bgn_1 {τ : mS} {u : Nat} : (bgn τ u).1 = τ.1 + 1 := by cases u <;> rfl
theorem bnd_bgn {τ : mS} (hb : bnd τ) (hn : τ.1 < 12) {u : Nat} (hu : u ≤ τ.1) : bnd (bgn τ u) := by
  cases u with
  | zero => exact bnd_add hb hn
  | succ k => exact bnd_laid (bnd_add hb hn) (show k < τ.1 + 1 by omega)
theorem bgn_l {τ : mS} {u q : Nat} (hq : q < 7) : (bgn τ u).2 τ.1 q = 0 := by
  cases u with
  | zero => exact if_pos rfl
  | succ k =>
    show (laid (addd τ zA) τ.1 k).2 τ.1 q = 0
    rw [laid_2, if_neg (by omega), if_neg (by omega)]
    exact if_pos rfl
theorem s_lay_no (hR : stR S σ) (hb : bnd σ) (hc : c < σ.1) : ev (d + 2) 70 0 [some (.ref i), some (.int (nI c)), some (.int (-1))] [] (hst h i S) = some (none, hst h i S) := by
  have hn := hb.1
  have e : ev (d + 1) 37 0 [some (.ref i), some (.int (-1))] [] (hst h i S) = some (some (.int 0), hst h i S) := by
    rw [s_isCrate hR.1 (by omega), bI_f (by unfold zin; simp)]
  simp only [e70_0, e70_1, e70_2, e70_5, e70_8, e70_9, e70_10, e70_13, e70_16, e70_17, e70_18, e70_21, e70_22, e70_25, e70_26, e70_27, e70_28, e70_31, e70_32, e70_33, e70_36, e70_37, e70_38, e70_39, st_g0, st_g1, st_g2, st_g3, st_g4, st_g5, st_g6, st_g7, st_p6, st_p7, st_l0, st_l1, st_l2, st_l3, st_l4, st_l5, st_s0, st_s1, st_s2, st_s3, st_s4, st_s5, st_is, Option.bind_some, Option.toList_some, Option.toList_none, List.cons_append, List.nil_append, true_or, or_true, and_true, true_and, i10, Bool.false_eq_true, if_true, if_false, reduceIte, s_isCrate_k hR hb hc, e]
/-- the stock after a crate was begun -/
def bgS (F : oS) (τ : mS) (u : Nat) : oS := match u with
  | 0 => lfS (adS F τ.1 0 0 0 0) τ.1
  | k + 1 => lyS (lfS (adS F τ.1 0 0 0 0) τ.1) τ.1 (pil (gnd (addd τ zA) τ.1) k) k
theorem stR_bg1 {F : oS} {τ : mS} (hR : stR F τ) (hn : τ.1 < 12) (hb : bnd τ) : stR (lfS (adS F τ.1 0 0 0 0) τ.1) (addd τ zA) := by
  have un : ∀ a, a < τ.1 → ∀ (f : Nat → Int32) (x : Int32), upd f τ.1 x a = f a := fun a ha f x => by
    have : ¬ a = τ.1 := by omega
    simp [upd, this]
  refine stR_add hR rfl (fun a ha r => ?_) ?_
  · by_cases q5 : r = 5
    · subst q5; simp [lfS, adS, setR, setI, un a ha]
    by_cases q4 : r = 4
    · subst q4; simp [lfS, adS, setR, setI, un a ha]
    by_cases q3 : r = 3
    · subst q3; simp [lfS, adS, setR, setI, un a ha]
    by_cases q2 : r = 2
    · subst q2; simp [lfS, adS, setR, setI, un a ha]
    by_cases q1 : r = 1
    · subst q1; simp [lfS, adS, setR, setI, un a ha]
    by_cases q0 : r = 0
    · subst q0; simp [lfS, adS, setR, setI, un a ha]
    simp [lfS, adS, setR, setI, q0, q1, q2, q3, q4, q5]
  · refine ⟨?_, ?_, ?_, ?_, ?_, ?_⟩ <;> simp [lfS, adS, setR, setI, upd, zA, lbl, hI_0] <;> rfl
theorem stR_bg {F : oS} {τ : mS} (hR : stR F τ) (hb : bnd τ) (hn : τ.1 < 12) {u : Nat} : stR (bgS F τ u) (bgn τ u) := by
  cases u with
  | zero => exact stR_bg1 hR hn hb
  | succ k => exact stR_lay (stR_bg1 hR hn hb) τ.1 k
theorem s_bgL {F : oS} {τ : mS} (hR : stR F τ) (hb : bnd τ) (hn : τ.1 < 12) {u : Nat} (hu : u ≤ τ.1) : ev (d + 2) 70 0 [some (.ref i), some (.int (nI τ.1)), some (.int (hI u))] [] (hst h i (lfS (adS F τ.1 0 0 0 0) τ.1)) = some (none, hst h i (bgS F τ u)) := by
  have hR1 := stR_bg1 hR hn hb
  have hb1 := bnd_add hb hn
  cases u with
  | zero =>
    rw [hI_0]
    exact s_lay_no hR1 hb1 (show τ.1 < τ.1 + 1 by omega)
  | succ k =>
    rw [hI_s]
    exact s_layE hR1 hb1 (show τ.1 < τ.1 + 1 by omega) (show k < τ.1 + 1 by omega)
theorem r_letter (hs : psR R F s) (hJ : psI p s) (hp : p < 80) (h0 : s.1 = 0) (hc : c < 128) : ∃ R' F', psR R' F' ((sLet s c).getD s) ∧ ev (d + 3) 17 0 [some (.ref v), some (.int (nI c))] [] (hst (hrd h v R) (v + 1) F) = some (some (.int (bI ((sLet s c).isSome = true))), hst (hrd h v R') (v + 1) F') := by
  have hd : v + 1 ≤ v + 1 ∨ v + 1 + 7 ≤ v := Or.inl (Nat.le_refl _)
  obtain ⟨part, sg, vl, la, ins, τ⟩ := s
  obtain ⟨k1, k2, k3, k4, k5, k6⟩ := hs
  obtain ⟨i1, i2, i3, i4, i5, i6, i7, i8, i9⟩ := hJ
  dsimp only at k1 k2 k3 k4 k5 k6 i1 i2 i3 i4 i5 i6 i7 i8 i9 h0
  subst h0
  have hn := i1.1
  have e1 : (nI c < (65 : Int32)) = (c < 65) := nI_ltp (b := 65) (by omega) (by omega)
  have e2 : ((90 : Int32) < nI c) = (90 < c) := nI_ltp (a := 90) (by omega) (by omega)
  have e3 : (nI sg < (4 : Int32)) = (sg < 4) := nI_ltp (b := 4) (by omega) (by omega)
  have e4 : (nI sg = 0) = (sg = 0) := nI_eqp (b := 0) (by omega) (by omega)
  unfold sLet
  dsimp only
  by_cases q : 65 ≤ c ∧ c ≤ 90 ∧ sg < 4
  · have n1 : (c < 65) = False := eq_false (by omega)
    have n2 : (90 < c) = False := eq_false (by omega)
    have n3 : (sg < 4) = True := eq_true (by omega)
    have ec : nI c - 65 + 1 = nI (c - 64) := by
      rw [show (65 : Int32) = iI 65 from rfl, show (1 : Int32) = iI 1 from rfl, iI_nat, iI_nat, iI_sub, iI_add]
      congr 1
      omega
    rw [if_pos q]
    by_cases w : sg = 0
    · subst w
      have hn12 : τ.1 < 12 := by
        have : prg 0 0 = 7 := rfl
        omega
      have hv : vl = 0 := by
        have := i7 rfl
        rw [if_pos rfl] at this
        exact this
      subst hv
      have hadd := s_addE (d := d) (h := hrd h v R) (i := v + 1) k6 hn12 (x0 := 0) (x1 := 0) (x2 := 0) (x3 := 0)
      have hlay := s_bgL (d := d) (h := hrd h v (setI R 3 (nI τ.1))) (i := v + 1) k6 i1 hn12 (u := ins) i4
      have hR2 := stR_bg k6 i1 hn12 (u := ins)
      have hb2 := bnd_bgn i1 hn12 i4
      have hla : τ.1 < (bgn τ ins).1 := by rw [bgn_1]; omega
      have hlb : nI 0 + nI (c - 64) * nI (27 ^ 0) = nI (lbl ((sa (bgn τ ins) τ.1 (3 + 0) (c - 64)).2 τ.1)) := by
        rw [pk_mul, nI_add, lbl_set (by decide) (bgn_l (by decide))]
        congr 1
        have : lbl ((bgn τ ins).2 τ.1) = 0 := by
          unfold lbl
          rw [bgn_l (by decide), bgn_l (by decide), bgn_l (by decide), bgn_l (by decide)]
        rw [this]
      have hlv : lbl ((sa (bgn τ ins) τ.1 (3 + 0) (c - 64)).2 τ.1) = 0 + (c - 64) := by
        rw [lbl_set (by decide) (bgn_l (by decide))]
        have : lbl ((bgn τ ins).2 τ.1) = 0 := by
          unfold lbl
          rw [bgn_l (by decide), bgn_l (by decide), bgn_l (by decide), bgn_l (by decide)]
        rw [this, Nat.pow_zero, Nat.mul_one]
      have hset : ∀ (g : zH) (x : Int32), ev (d + 2) 76 0 [some (.ref (v + 1)), some (.int (nI τ.1)), some (.int x)] [] (hst g (v + 1) (bgS F τ ins)) = some (none, hst g (v + 1) (setR (bgS F τ ins) 3 (upd ((bgS F τ ins).1 3) τ.1 x))) := fun g x => s_setLabel hR2 hb2 hla
      refine ⟨setI (setI (setI R 3 (nI τ.1)) 2 (nI (lbl ((sa (bgn τ ins) τ.1 (3 + 0) (c - 64)).2 τ.1)))) 1 (nI 1), setR (bgS F τ ins) 3 (upd ((bgS F τ ins).1 3) τ.1 (nI (lbl ((sa (bgn τ ins) τ.1 (3 + 0) (c - 64)).2 τ.1)))), ?_, ?_⟩
      · rw [if_pos rfl]
        refine ⟨by simp [setI, k1], by simp [setI], by simp only [Option.getD_some]; rw [← hlv]; simp [setI], fun _ => by simp [setI], by simp [setI, k5], ?_⟩
        exact stR_lab hR2 (by decide)
      · rw [if_pos rfl, bI_t (by simp)]
        have w0 := r_weight (d := d + 2) (h := hst (hrd h v (setI R 3 (nI τ.1))) (v + 1) (bgS F τ ins)) (g := 0) (by decide)
        have g1 : (setI R 3 (nI τ.1)).2 1 = nI 0 := by simp [setI, k2]
        have g2 : (setI R 3 (nI τ.1)).2 2 = nI 0 := by simp [setI, k3]
        have g3 : (setI R 3 (nI τ.1)).2 3 = nI τ.1 := by simp [setI]
        have g4 : (setI R 3 (nI τ.1)).2 4 = hI ins := by simp [setI, k5]
        have t1 : ∀ x y, (setI (setI (setI R 3 (nI τ.1)) 2 x) 1 y).2 3 = nI τ.1 := fun _ _ => by simp [setI]
        have t2 : ∀ x y, (setI (setI (setI R 3 (nI τ.1)) 2 x) 1 y).2 2 = x := fun _ _ => by simp [setI]
        have t3 : ∀ x, (setI (setI R 3 (nI τ.1)) 2 x).2 1 = nI 0 := fun _ => by simp [setI, k2]
        have e5 : (nI 0 = 0) = True := by decide
        simp only [e17_0, e17_1, e17_3, e17_6, e17_7, e17_9, e17_12, e17_13, e17_16, e17_17, e17_20, e17_21, e17_22, e17_23, e17_26, e17_29, e17_30, e17_31, e17_34, e17_35, e17_36, e17_37, e17_38, e17_41, e17_44, e17_45, e17_48, e17_49, e17_52, e17_53, e17_56, e17_59, e17_60, e17_61, e17_64, e17_65, e17_67, e17_68, e17_69, e17_70, e17_71, e17_74, e17_77, e17_78, e17_79, e17_82, e17_83, e17_84, e17_87, e17_88, e17_89, e17_92, e17_93, e17_96, e17_97, e17_100, e17_101, e17_104, e17_107, e17_108, st_g0, st_g1, st_g2, st_g3, st_g4, st_g5, st_g6, st_g7, st_p6, st_p7, st_l0, st_l1, st_l2, st_l3, st_l4, st_l5, st_s0, st_s1, st_s2, st_s3, st_s4, st_s5, st_is, rd_is_st hd, rd_g0_st hd, rd_g1_st hd, rd_p1_st hd, rd_g2_st hd, rd_p2_st hd, rd_g3_st hd, rd_p3_st hd, rd_g4_st hd, rd_p4_st hd, rd_g5_st hd, rd_p5_st hd, Option.bind_some, Option.toList_some, Option.toList_none, List.cons_append, List.nil_append, true_or, or_true, and_true, true_and, i10, Bool.false_eq_true, if_true, if_false, reduceIte, e1, e2, e3, n1, n2, n3, e5, k2, hadd, k5, hlay, g1, g2, g3, g4, ec, w0, hlb, t1, t2, t3, nI_1, hset]
    · have hla := i6 (Or.inr w)
      have hv := i7 rfl
      rw [if_neg w] at hv
      have hz := i8 rfl w sg (Nat.le_refl _) q.2.2
      have hlb : nI vl + nI (c - 64) * nI (27 ^ sg) = nI (lbl ((sa τ la (3 + sg) (c - 64)).2 la)) := by
        rw [pk_mul, nI_add, lbl_set q.2.2 hz, ← hv]
      have hlv : lbl ((sa τ la (3 + sg) (c - 64)).2 la) = vl + (c - 64) * 27 ^ sg := by
        rw [lbl_set q.2.2 hz, ← hv]
      have hset : ∀ (g : zH) (x : Int32), ev (d + 2) 76 0 [some (.ref (v + 1)), some (.int (nI la)), some (.int x)] [] (hst g (v + 1) F) = some (none, hst g (v + 1) (setR F 3 (upd (F.1 3) la x))) := fun g x => s_setLabel k6 i1 hla
      have k4' := k4 (Or.inr w)
      refine ⟨setI (setI R 2 (nI (lbl ((sa τ la (3 + sg) (c - 64)).2 la)))) 1 (nI (sg + 1)), setR F 3 (upd (F.1 3) la (nI (lbl ((sa τ la (3 + sg) (c - 64)).2 la)))), ?_, ?_⟩
      · rw [if_neg w]
        refine ⟨by simp [setI, k1], by simp [setI], by simp only [Option.getD_some]; rw [← hlv]; simp [setI], fun _ => by simp [setI, k4'], by simp [setI, k5], ?_⟩
        exact stR_lab k6 q.2.2
      · rw [if_neg w, bI_t (by simp)]
        have w0 := r_weight (d := d + 2) (h := hst (hrd h v R) (v + 1) F) (g := sg) q.2.2
        have t1 : ∀ x y, (setI (setI R 2 x) 1 y).2 3 = nI la := fun _ _ => by simp [setI, k4']
        have t2 : ∀ x y, (setI (setI R 2 x) 1 y).2 2 = x := fun _ _ => by simp [setI]
        have t3 : ∀ x, (setI R 2 x).2 1 = nI sg := fun _ => by simp [setI, k2]
        simp only [e17_0, e17_1, e17_3, e17_6, e17_7, e17_9, e17_12, e17_13, e17_16, e17_17, e17_20, e17_21, e17_22, e17_23, e17_26, e17_29, e17_30, e17_31, e17_34, e17_35, e17_36, e17_37, e17_38, e17_41, e17_44, e17_45, e17_48, e17_49, e17_52, e17_53, e17_56, e17_59, e17_60, e17_61, e17_64, e17_65, e17_67, e17_68, e17_69, e17_70, e17_71, e17_74, e17_77, e17_78, e17_79, e17_82, e17_83, e17_84, e17_87, e17_88, e17_89, e17_92, e17_93, e17_96, e17_97, e17_100, e17_101, e17_104, e17_107, e17_108, st_g0, st_g1, st_g2, st_g3, st_g4, st_g5, st_g6, st_g7, st_p6, st_p7, st_l0, st_l1, st_l2, st_l3, st_l4, st_l5, st_s0, st_s1, st_s2, st_s3, st_s4, st_s5, st_is, rd_is_st hd, rd_g0_st hd, rd_g1_st hd, rd_p1_st hd, rd_g2_st hd, rd_p2_st hd, rd_g3_st hd, rd_p3_st hd, rd_g4_st hd, rd_p4_st hd, rd_g5_st hd, rd_p5_st hd, Option.bind_some, Option.toList_some, Option.toList_none, List.cons_append, List.nil_append, true_or, or_true, and_true, true_and, i10, Bool.false_eq_true, if_true, if_false, reduceIte, e1, e2, e3, n1, n2, n3, e4, eq_false w, k2, k3, ec, w0, hlb, t1, t2, t3, nI_1, hset]
  · rw [if_neg q]
    refine ⟨R, F, ⟨k1, k2, k3, k4, k5, k6⟩, ?_⟩
    rw [bI_f (by simp)]
    simp only [e17_0, e17_1, e17_3, e17_6, e17_7, e17_9, e17_12, e17_13, e17_16, e17_17, e17_20, e17_21, e17_22, e17_23, e17_26, e17_29, e17_30, e17_31, e17_34, e17_35, e17_36, e17_37, e17_38, e17_41, e17_44, e17_45, e17_48, e17_49, e17_52, e17_53, e17_56, e17_59, e17_60, e17_61, e17_64, e17_65, e17_67, e17_68, e17_69, e17_70, e17_71, e17_74, e17_77, e17_78, e17_79, e17_82, e17_83, e17_84, e17_87, e17_88, e17_89, e17_92, e17_93, e17_96, e17_97, e17_100, e17_101, e17_104, e17_107, e17_108, rd_is_st hd, rd_g0_st hd, rd_g1_st hd, rd_p1_st hd, rd_g2_st hd, rd_p2_st hd, rd_g3_st hd, rd_p3_st hd, rd_g4_st hd, rd_p4_st hd, rd_g5_st hd, rd_p5_st hd, Option.bind_some, Option.toList_some, Option.toList_none, List.cons_append, List.nil_append, true_or, or_true, and_true, true_and, i10, Bool.false_eq_true, if_true, if_false, reduceIte, e1, e2, e3, k2]
    by_cases q1 : c < 65
    · simp [q1]
    · by_cases q2 : 90 < c
      · simp [q1, q2]
      · have q3 : ¬ sg < 4 := by omega
        simp [q1, q2, q3]
theorem stR_n {S : oS} {σ : mS} (hR : stR S σ) (c : Nat) {j u : Nat} (hj : j < 3) : stR (setR S j (upd (S.1 j) c (nI u))) (sa σ c j u) := by
  refine ⟨hR.1, fun a ha => ?_⟩
  obtain ⟨h0, h1, h2, h3, h4, h5⟩ := hR.2 a ha
  have j3 : j = 0 ∨ j = 1 ∨ j = 2 := by omega
  by_cases w : a = c
  · subst w
    rcases j3 with q | q | q <;> subst q <;> simp [setR, upd, sa, h0, h1, h2, h3, h4, h5, lbl]
  · rcases j3 with q | q | q <;> subst q <;> simp [setR, upd, sa, w, h0, h1, h2, h3, h4, h5, lbl]
theorem r_digit (hs : psR R F s) (hJ : psI p s) (hp : 1 ≤ s.1 ∧ s.1 ≤ 3) (hv : s.2.2.1 ≤ 60) (hc : c < 128) {lo hi : Nat} {x y : Int32} (hx : x = nI lo) (hy : y = nI hi) (hlo : lo ≤ 1) (hhi : hi ≤ 60) : ∃ R' F', psR R' F' ((sDig s c lo hi).getD s) ∧ ev (d + 3) 20 0 [some (.ref v), some (.int (nI c)), some (.int x), some (.int y), none, none] [] (hst (hrd h v R) (v + 1) F) = some (some (.int (bI ((sDig s c lo hi).isSome = true))), hst (hrd h v R') (v + 1) F') := by
  have hd : v + 1 ≤ v + 1 ∨ v + 1 + 7 ≤ v := Or.inl (Nat.le_refl _)
  obtain ⟨part, sg, vl, la, ins, τ⟩ := s
  obtain ⟨k1, k2, k3, k4, k5, k6⟩ := hs
  obtain ⟨i1, i2, i3, i4, i5, i6, i7, i8, i9⟩ := hJ
  dsimp only at k1 k2 k3 k4 k5 k6 i1 i2 i3 i4 i5 i6 i7 i8 i9 hp hv
  subst hx hy
  have hn := i1.1
  have hla := i6 (Or.inl (by omega))
  have k4' := k4 (Or.inl (by omega))
  have e1 : (nI c < (48 : Int32)) = (c < 48) := nI_ltp (b := 48) (by omega) (by omega)
  have e2 : ((57 : Int32) < nI c) = (57 < c) := nI_ltp (a := 57) (by omega) (by omega)
  have e2' : (nI c ≤ (57 : Int32)) = (c ≤ 57) := nI_lep (b := 57) (by omega) (by omega)
  have e4 : (nI sg = 0) = (sg = 0) := nI_eqp (b := 0) (by omega) (by omega)
  have e5 : (nI vl ≤ 0) = (vl ≤ 0) := nI_lep (b := 0) (by omega) (by omega)
  unfold sDig
  dsimp only
  by_cases q0 : 48 ≤ c ∧ c ≤ 57
  · have n1 : (c < 48) = False := eq_false (by omega)
    have n2 : (57 < c) = False := eq_false (by omega)
    have n2' : (c ≤ 57) = True := eq_true (by omega)
    have el : nI vl * 10 + (nI c - 48) = nI (vl * 10 + (c - 48)) := by
      rw [show (48 : Int32) = iI 48 from rfl, show nI vl * (10 : Int32) = nI (vl * 10) from pk_mul vl 10, iI_nat, iI_nat, iI_nat, iI_sub, iI_add]
      congr 1
      omega
    have e6 : (nI (vl * 10 + (c - 48)) < nI lo) = (vl * 10 + (c - 48) < lo) := nI_ltp (by omega) (by omega)
    have e7 : (nI hi < nI (vl * 10 + (c - 48))) = (hi < vl * 10 + (c - 48)) := nI_ltp (by omega) (by omega)
    by_cases q : (if sg = 0 then lo ≤ vl * 10 + (c - 48) else 0 < vl ∧ vl * 10 + (c - 48) ≤ hi)
    · have hset0 : ∀ (g : zH) (x : Int32), ev (d + 1) 77 0 [some (.ref (v + 1)), some (.int (nI la)), some (.int x)] [] (hst g (v + 1) F) = some (none, hst g (v + 1) (setR F 0 (upd (F.1 0) la x))) := fun g x => s_setSize k6 i1 hla
      have hset1 : ∀ (g : zH) (x : Int32), ev (d + 1) 78 0 [some (.ref (v + 1)), some (.int (nI la)), some (.int x)] [] (hst g (v + 1) F) = some (none, hst g (v + 1) (setR F 1 (upd (F.1 1) la x))) := fun g x => s_setRoom k6 i1 hla
      have hset2 : ∀ (g : zH) (x : Int32), ev (d + 1) 79 0 [some (.ref (v + 1)), some (.int (nI la)), some (.int x)] [] (hst g (v + 1) F) = some (none, hst g (v + 1) (setR F 2 (upd (F.1 2) la x))) := fun g x => s_setGaps k6 i1 hla
      have t0 : ∀ x y, (setI (setI R 2 x) 1 y).2 0 = nI part := fun _ _ => by simp [setI, k1]
      have t1 : ∀ x y, (setI (setI R 2 x) 1 y).2 3 = nI la := fun _ _ => by simp [setI, k4']
      have t2 : ∀ x y, (setI (setI R 2 x) 1 y).2 2 = x := fun _ _ => by simp [setI]
      have t3 : ∀ x, (setI R 2 x).2 1 = nI sg := fun _ => by simp [setI, k2]
      have hnum : ev (d + 2) 21 0 [some (.ref v)] [] (hst (hrd h v (setI (setI R 2 (nI (vl * 10 + (c - 48)))) 1 (nI (sg + 1)))) (v + 1) F) = some (none, hst (hrd h v (setI (setI R 2 (nI (vl * 10 + (c - 48)))) 1 (nI (sg + 1)))) (v + 1) (setR F (part - 1) (upd (F.1 (part - 1)) la (nI (vl * 10 + (c - 48)))))) := by
        have hp3 : part = 1 ∨ part = 2 ∨ part = 3 := by omega
        rcases hp3 with w | w | w <;> subst w
        · have z : nI 1 = 1 := rfl
          simp only [e21_0, e21_1, e21_4c1, e21_4c2, e21_4d, e21_32, e21_33, e21_36, e21_37, e21_40, e21_41, e21_44, e21_47, e21_50, e21_51, e21_54, e21_55, e21_58, e21_59, e21_62, e21_65, e21_68, e21_69, e21_72, e21_73, e21_76, e21_77, e21_80, e21_83, st_g0, st_g1, st_g2, st_g3, st_g4, st_g5, st_g6, st_g7, st_p6, st_p7, st_l0, st_l1, st_l2, st_l3, st_l4, st_l5, st_s0, st_s1, st_s2, st_s3, st_s4, st_s5, st_is, rd_is_st hd, rd_g0_st hd, rd_g1_st hd, rd_p1_st hd, rd_g2_st hd, rd_p2_st hd, rd_g3_st hd, rd_p3_st hd, rd_g4_st hd, rd_p4_st hd, rd_g5_st hd, rd_p5_st hd, Option.bind_some, Option.toList_some, Option.toList_none, List.cons_append, List.nil_append, true_or, or_true, and_true, true_and, i10, Bool.false_eq_true, if_true, if_false, reduceIte, t0, t1, t2, hset0, z]
        · have z : nI 2 = 2 := rfl
          simp only [e21_0, e21_1, e21_4c1, e21_4c2, e21_4d, e21_32, e21_33, e21_36, e21_37, e21_40, e21_41, e21_44, e21_47, e21_50, e21_51, e21_54, e21_55, e21_58, e21_59, e21_62, e21_65, e21_68, e21_69, e21_72, e21_73, e21_76, e21_77, e21_80, e21_83, st_g0, st_g1, st_g2, st_g3, st_g4, st_g5, st_g6, st_g7, st_p6, st_p7, st_l0, st_l1, st_l2, st_l3, st_l4, st_l5, st_s0, st_s1, st_s2, st_s3, st_s4, st_s5, st_is, rd_is_st hd, rd_g0_st hd, rd_g1_st hd, rd_p1_st hd, rd_g2_st hd, rd_p2_st hd, rd_g3_st hd, rd_p3_st hd, rd_g4_st hd, rd_p4_st hd, rd_g5_st hd, rd_p5_st hd, Option.bind_some, Option.toList_some, Option.toList_none, List.cons_append, List.nil_append, true_or, or_true, and_true, true_and, i10, Bool.false_eq_true, if_true, if_false, reduceIte, t0, t1, t2, hset1, z]
        · have z : nI 3 = 3 := rfl
          have z1 : ¬ ((3 : Int32) = 1) := by decide
          have z2 : ¬ ((3 : Int32) = 2) := by decide
          simp only [e21_0, e21_1, e21_4c1, e21_4c2, e21_4d, e21_32, e21_33, e21_36, e21_37, e21_40, e21_41, e21_44, e21_47, e21_50, e21_51, e21_54, e21_55, e21_58, e21_59, e21_62, e21_65, e21_68, e21_69, e21_72, e21_73, e21_76, e21_77, e21_80, e21_83, e21_4d z1 z2, st_g0, st_g1, st_g2, st_g3, st_g4, st_g5, st_g6, st_g7, st_p6, st_p7, st_l0, st_l1, st_l2, st_l3, st_l4, st_l5, st_s0, st_s1, st_s2, st_s3, st_s4, st_s5, st_is, rd_is_st hd, rd_g0_st hd, rd_g1_st hd, rd_p1_st hd, rd_g2_st hd, rd_p2_st hd, rd_g3_st hd, rd_p3_st hd, rd_g4_st hd, rd_p4_st hd, rd_g5_st hd, rd_p5_st hd, Option.bind_some, Option.toList_some, Option.toList_none, List.cons_append, List.nil_append, true_or, or_true, and_true, true_and, i10, Bool.false_eq_true, if_true, if_false, reduceIte, t0, t1, t2, hset2, z]
      refine ⟨setI (setI R 2 (nI (vl * 10 + (c - 48)))) 1 (nI (sg + 1)), setR F (part - 1) (upd (F.1 (part - 1)) la (nI (vl * 10 + (c - 48)))), ?_, ?_⟩
      · rw [if_pos ⟨q0.1, q0.2, q⟩]
        exact ⟨by simp [setI, k1], by simp [setI], by simp [setI], fun _ => by simp [setI, k4'], by simp [setI, k5], stR_n k6 la (by omega)⟩
      · rw [if_pos ⟨q0.1, q0.2, q⟩, bI_t (by simp)]
        by_cases w : sg = 0
        · rw [if_pos w] at q
          have n3 : (vl * 10 + (c - 48) < lo) = False := eq_false (by omega)
          simp only [e20_0, e20_1, e20_3, e20_6, e20_7, e20_9, e20_12, e20_13, e20_14, e20_15, e20_18, e20_20, e20_21, e20_22, e20_24, e20_25, e20_26, e20_28, e20_29, e20_32, e20_35, e20_37, e20_38, e20_41, e20_42, e20_45, e20_46, e20_49, e20_50, e20_53, e20_56, e20_58, e20_59, e20_62, e20_63, e20_66, e20_67, e20_69, e20_71, e20_74, e20_75, e20_77, e20_80, e20_81, e20_82, e20_85, e20_86, e20_87, e20_90, e20_91, e20_94, e20_96, rd_is_st hd, rd_g0_st hd, rd_g1_st hd, rd_p1_st hd, rd_g2_st hd, rd_p2_st hd, rd_g3_st hd, rd_p3_st hd, rd_g4_st hd, rd_p4_st hd, rd_g5_st hd, rd_p5_st hd, Option.bind_some, Option.toList_some, Option.toList_none, List.cons_append, List.nil_append, true_or, or_true, and_true, true_and, i10, Bool.false_eq_true, if_true, if_false, reduceIte, e1, e2, e2', n1, n2, n2', k2, k3, el, e4, eq_true w, e6, n3, t3, nI_1, hnum]
        · rw [if_neg w] at q
          have n3 : (vl ≤ 0) = False := eq_false (by omega)
          have n4 : (hi < vl * 10 + (c - 48)) = False := eq_false (by omega)
          simp only [e20_0, e20_1, e20_3, e20_6, e20_7, e20_9, e20_12, e20_13, e20_14, e20_15, e20_18, e20_20, e20_21, e20_22, e20_24, e20_25, e20_26, e20_28, e20_29, e20_32, e20_35, e20_37, e20_38, e20_41, e20_42, e20_45, e20_46, e20_49, e20_50, e20_53, e20_56, e20_58, e20_59, e20_62, e20_63, e20_66, e20_67, e20_69, e20_71, e20_74, e20_75, e20_77, e20_80, e20_81, e20_82, e20_85, e20_86, e20_87, e20_90, e20_91, e20_94, e20_96, rd_is_st hd, rd_g0_st hd, rd_g1_st hd, rd_p1_st hd, rd_g2_st hd, rd_p2_st hd, rd_g3_st hd, rd_p3_st hd, rd_g4_st hd, rd_p4_st hd, rd_g5_st hd, rd_p5_st hd, Option.bind_some, Option.toList_some, Option.toList_none, List.cons_append, List.nil_append, true_or, or_true, and_true, true_and, i10, Bool.false_eq_true, if_true, if_false, reduceIte, e1, e2, e2', n1, n2, n2', k2, k3, el, e4, eq_false w, e5, n3, e7, n4, t3, nI_1, hnum]
    · refine ⟨R, F, ?_, ?_⟩
      · rw [if_neg (fun z => q z.2.2)]
        exact ⟨k1, k2, k3, k4, k5, k6⟩
      · rw [if_neg (fun z => q z.2.2), bI_f (by simp)]
        by_cases w : sg = 0
        · rw [if_pos w] at q
          have n3 : (vl * 10 + (c - 48) < lo) = True := eq_true (by omega)
          simp only [e20_0, e20_1, e20_3, e20_6, e20_7, e20_9, e20_12, e20_13, e20_14, e20_15, e20_18, e20_20, e20_21, e20_22, e20_24, e20_25, e20_26, e20_28, e20_29, e20_32, e20_35, e20_37, e20_38, e20_41, e20_42, e20_45, e20_46, e20_49, e20_50, e20_53, e20_56, e20_58, e20_59, e20_62, e20_63, e20_66, e20_67, e20_69, e20_71, e20_74, e20_75, e20_77, e20_80, e20_81, e20_82, e20_85, e20_86, e20_87, e20_90, e20_91, e20_94, e20_96, rd_is_st hd, rd_g0_st hd, rd_g1_st hd, rd_p1_st hd, rd_g2_st hd, rd_p2_st hd, rd_g3_st hd, rd_p3_st hd, rd_g4_st hd, rd_p4_st hd, rd_g5_st hd, rd_p5_st hd, Option.bind_some, Option.toList_some, Option.toList_none, List.cons_append, List.nil_append, true_or, or_true, and_true, true_and, i10, Bool.false_eq_true, if_true, if_false, reduceIte, e1, e2, e2', n1, n2, n2', k2, k3, el, e4, eq_true w, e6, n3]
        · rw [if_neg w] at q
          by_cases u : vl ≤ 0
          · simp only [e20_0, e20_1, e20_3, e20_6, e20_7, e20_9, e20_12, e20_13, e20_14, e20_15, e20_18, e20_20, e20_21, e20_22, e20_24, e20_25, e20_26, e20_28, e20_29, e20_32, e20_35, e20_37, e20_38, e20_41, e20_42, e20_45, e20_46, e20_49, e20_50, e20_53, e20_56, e20_58, e20_59, e20_62, e20_63, e20_66, e20_67, e20_69, e20_71, e20_74, e20_75, e20_77, e20_80, e20_81, e20_82, e20_85, e20_86, e20_87, e20_90, e20_91, e20_94, e20_96, rd_is_st hd, rd_g0_st hd, rd_g1_st hd, rd_p1_st hd, rd_g2_st hd, rd_p2_st hd, rd_g3_st hd, rd_p3_st hd, rd_g4_st hd, rd_p4_st hd, rd_g5_st hd, rd_p5_st hd, Option.bind_some, Option.toList_some, Option.toList_none, List.cons_append, List.nil_append, true_or, or_true, and_true, true_and, i10, Bool.false_eq_true, if_true, if_false, reduceIte, e1, e2, e2', n1, n2, n2', k2, k3, el, e4, eq_false w, e5, eq_true u]
          · have n4 : (hi < vl * 10 + (c - 48)) = True := eq_true (by omega)
            simp only [e20_0, e20_1, e20_3, e20_6, e20_7, e20_9, e20_12, e20_13, e20_14, e20_15, e20_18, e20_20, e20_21, e20_22, e20_24, e20_25, e20_26, e20_28, e20_29, e20_32, e20_35, e20_37, e20_38, e20_41, e20_42, e20_45, e20_46, e20_49, e20_50, e20_53, e20_56, e20_58, e20_59, e20_62, e20_63, e20_66, e20_67, e20_69, e20_71, e20_74, e20_75, e20_77, e20_80, e20_81, e20_82, e20_85, e20_86, e20_87, e20_90, e20_91, e20_94, e20_96, rd_is_st hd, rd_g0_st hd, rd_g1_st hd, rd_p1_st hd, rd_g2_st hd, rd_p2_st hd, rd_g3_st hd, rd_p3_st hd, rd_g4_st hd, rd_p4_st hd, rd_g5_st hd, rd_p5_st hd, Option.bind_some, Option.toList_some, Option.toList_none, List.cons_append, List.nil_append, true_or, or_true, and_true, true_and, i10, Bool.false_eq_true, if_true, if_false, reduceIte, e1, e2, e2', n1, n2, n2', k2, k3, el, e4, eq_false w, e5, eq_false u, e7, n4]
  · refine ⟨R, F, ?_, ?_⟩
    · rw [if_neg (fun z => q0 ⟨z.1, z.2.1⟩)]
      exact ⟨k1, k2, k3, k4, k5, k6⟩
    · rw [if_neg (fun z => q0 ⟨z.1, z.2.1⟩), bI_f (by simp)]
      simp only [e20_0, e20_1, e20_3, e20_6, e20_7, e20_9, e20_12, e20_13, e20_14, e20_15, e20_18, e20_20, e20_21, e20_22, e20_24, e20_25, e20_26, e20_28, e20_29, e20_32, e20_35, e20_37, e20_38, e20_41, e20_42, e20_45, e20_46, e20_49, e20_50, e20_53, e20_56, e20_58, e20_59, e20_62, e20_63, e20_66, e20_67, e20_69, e20_71, e20_74, e20_75, e20_77, e20_80, e20_81, e20_82, e20_85, e20_86, e20_87, e20_90, e20_91, e20_94, e20_96, rd_is_st hd, rd_g0_st hd, rd_g1_st hd, rd_p1_st hd, rd_g2_st hd, rd_p2_st hd, rd_g3_st hd, rd_p3_st hd, rd_g4_st hd, rd_p4_st hd, rd_g5_st hd, rd_p5_st hd, Option.bind_some, Option.toList_some, Option.toList_none, List.cons_append, List.nil_append, true_or, or_true, and_true, true_and, i10, Bool.false_eq_true, if_true, if_false, reduceIte, e1, e2, e2']
      by_cases u : c < 48
      · simp [u]
      · have u2 : ¬ c ≤ 57 := by omega
        have u3 : 57 < c := by omega
        simp [u, u2, u3]
theorem r_open (hs : psR R F s) (hJ : psI p s) (hp : s.1 ≠ 0) (hc : c < 128) : ∃ R', psR R' F ((sOpn s c).getD s) ∧ ev (d + 1) 22 0 [some (.ref v), some (.int (nI c))] [] (hst (hrd h v R) (v + 1) F) = some (some (.int (bI ((sOpn s c).isSome = true))), hst (hrd h v R') (v + 1) F) := by
  have hd : v + 1 ≤ v + 1 ∨ v + 1 + 7 ≤ v := Or.inl (Nat.le_refl _)
  have hg := hJ.2.2.1
  have e1 : (nI c = 91) = (c = 91) := nI_eqp (b := 91) (by omega) (by omega)
  have e2 : (nI s.2.1 = 0) = (s.2.1 = 0) := nI_eqp (b := 0) (by omega) (by omega)
  obtain ⟨h1, h2, h3, h4, h5, h6⟩ := hs
  have h4' := h4 (Or.inl hp)
  unfold sOpn
  by_cases q1 : c = 91
  · by_cases q2 : s.2.1 = 0
    · refine ⟨R, by rw [if_neg (fun z => z.2 q2)]; exact ⟨h1, h2, h3, h4, h5, h6⟩, ?_⟩
      rw [if_neg (fun z => z.2 q2), bI_f (by simp)]
      simp only [e22_0, e22_1, e22_3, e22_6, e22_7, e22_10, e22_13, e22_14, e22_15, e22_16, e22_17, e22_20, e22_23, e22_24, e22_25, e22_28, e22_29, rd_is_st hd, rd_g0_st hd, rd_g1_st hd, rd_p1_st hd, rd_g2_st hd, rd_p2_st hd, rd_g3_st hd, rd_p3_st hd, rd_g4_st hd, rd_p4_st hd, rd_g5_st hd, rd_p5_st hd, Option.bind_some, Option.toList_some, Option.toList_none, List.cons_append, List.nil_append, true_or, or_true, and_true, true_and, i10, Bool.false_eq_true, if_true, if_false, reduceIte, e1, e2, h2, eq_true q1, eq_true q2]
    · refine ⟨setI (setI (setI (setI R 4 (nI s.2.2.2.1)) 0 0) 1 0) 2 0, ?_, ?_⟩
      · rw [if_pos ⟨q1, q2⟩]
        exact ⟨by simp [setI]; rfl, by simp [setI]; rfl, by simp [setI]; rfl, fun w => absurd w (by simp), by simp [setI, hI_s], h6⟩
      · rw [if_pos ⟨q1, q2⟩, bI_t (by simp)]
        simp only [e22_0, e22_1, e22_3, e22_6, e22_7, e22_10, e22_13, e22_14, e22_15, e22_16, e22_17, e22_20, e22_23, e22_24, e22_25, e22_28, e22_29, rd_is_st hd, rd_g0_st hd, rd_g1_st hd, rd_p1_st hd, rd_g2_st hd, rd_p2_st hd, rd_g3_st hd, rd_p3_st hd, rd_g4_st hd, rd_p4_st hd, rd_g5_st hd, rd_p5_st hd, Option.bind_some, Option.toList_some, Option.toList_none, List.cons_append, List.nil_append, true_or, or_true, and_true, true_and, i10, Bool.false_eq_true, if_true, if_false, reduceIte, e1, e2, h2, h4', eq_true q1, eq_false q2, r_begin]
  · refine ⟨R, by rw [if_neg (fun z => q1 z.1)]; exact ⟨h1, h2, h3, h4, h5, h6⟩, ?_⟩
    rw [if_neg (fun z => q1 z.1), bI_f (by simp)]
    simp only [e22_0, e22_1, e22_3, e22_6, e22_7, e22_10, e22_13, e22_14, e22_15, e22_16, e22_17, e22_20, e22_23, e22_24, e22_25, e22_28, e22_29, rd_is_st hd, rd_g0_st hd, rd_g1_st hd, rd_p1_st hd, rd_g2_st hd, rd_p2_st hd, rd_g3_st hd, rd_p3_st hd, rd_g4_st hd, rd_p4_st hd, rd_g5_st hd, rd_p5_st hd, Option.bind_some, Option.toList_some, Option.toList_none, List.cons_append, List.nil_append, true_or, or_true, and_true, true_and, i10, Bool.false_eq_true, if_true, if_false, reduceIte, e1, eq_false q1]
theorem psI_beg (hJ : psI p s) (hg : prg s.1 s.2.1 = 7) : psI p (rBeg s 0) := by
  obtain ⟨i1, i2, i3, i4, i5, i6, i7, i8, i9⟩ := hJ
  refine ⟨i1, by simp [rBeg], by simp [rBeg], i4, by simp [rBeg], fun w => absurd w (by simp [rBeg]), fun _ => by simp [rBeg], fun _ w => absurd rfl w, ?_⟩
  rw [hg] at i9
  exact i9
theorem sBeh_93 {k : Nat} (q : s.2.2.2.2.1 = k + 1) : sBeh s 93 = some (4, 0, 0, s.2.2.2.1, s.2.2.2.2.2.2 k 7, s.2.2.2.2.2) := by
  unfold sBeh
  rw [q]
  rfl
theorem sBeh_n (q : s.2.2.2.2.1 = 0 ∨ c ≠ 93) : sBeh s c = sLet (rBeg s 0) c := by
  unfold sBeh
  cases w : s.2.2.2.2.1 with
  | zero => rfl
  | succ k => exact if_neg (by omega)
theorem stp_0 (q : s.1 = 0) : stp s c = (sLet s c).or (sMrk s c 115 1) := by
  unfold stp
  rw [q]
  rfl
theorem stp_1 (q : s.1 = 1) : stp s c = (sDig s c 1 60).or (sMrk s c 114 2) := by
  unfold stp
  rw [q]
  rfl
theorem stp_2 (q : s.1 = 2) : stp s c = (sDig s c 0 59).or (sMrk s c 103 3) := by
  unfold stp
  rw [q]
  rfl
theorem stp_3 (q : s.1 = 3) : stp s c = ((sDig s c 0 15).or (sOpn s c)).or (if s.2.1 = 0 then none else sBeh s c) := by
  unfold stp
  rw [q]
  rfl
theorem r_beh (hs : psR R F s) (hJ : psI p s) (hp : p < 80) (h0 : s.1 ≠ 0) (hg : prg s.1 s.2.1 = 7) (hc : c < 128) : ∃ R' F', (∀ s', sBeh s c = some s' → psR R' F' s') ∧ ev (d + 4) 23 0 [some (.ref v), some (.int (nI c))] [] (hst (hrd h v R) (v + 1) F) = some (some (.int (bI ((sBeh s c).isSome = true))), hst (hrd h v R') (v + 1) F') := by
  have hd : v + 1 ≤ v + 1 ∨ v + 1 + 7 ≤ v := Or.inl (Nat.le_refl _)
  have e1 : (nI c = 93) = (c = 93) := nI_eqp (b := 93) (by omega) (by omega)
  have i1 := hJ.1
  have i4 := hJ.2.2.2.1
  have hn := i1.1
  have hs2 := psR_beg hs (k := 0) (Or.inl rfl)
  obtain ⟨R1, F1, a1, a2⟩ := r_letter (d := d) (h := h) (v := v) hs2 (psI_beg hJ hg) hp rfl hc
  have e2 : (hI s.2.2.2.2.1 = -1) = (s.2.2.2.2.1 = 0) := hI_m1 (by omega)
  obtain ⟨h1, h2, h3, h4, h5, h6⟩ := hs
  have b2 : ev (d + 3) 17 0 [some (.ref v), some (.int (nI c))] [] (hst (hrd h v (setI (setI (setI R 0 0) 1 0) 2 0)) (v + 1) F) = some (some (.int (bI ((sLet (rBeg s 0) c).isSome = true))), hst (hrd h v R1) (v + 1) F1) := a2
  have a1' : ∀ s', sLet (rBeg s 0) c = some s' → psR R1 F1 s' := by
    intro s' hs'
    rw [hs'] at a1
    exact a1
  cases q : s.2.2.2.2.1 with
  | zero =>
    refine ⟨R1, F1, by rw [sBeh_n (Or.inl q)]; exact a1', ?_⟩
    rw [q] at h5 e2
    rw [sBeh_n (Or.inl q)]
    have e2' : (hI 0 = -1) = True := e2.trans (eq_true rfl)
    by_cases w : c = 93
    · simp only [e23_0, e23_1, e23_3, e23_6, e23_7, e23_10, e23_11, e23_14, e23_15, e23_16, e23_19, e23_20, e23_23, e23_26, e23_29, e23_30, e23_31, e23_34, e23_35, e23_36, e23_37, e23_38, e23_41, e23_42, e23_43, e23_46 (bI_01 _), st_g0, st_g1, st_g2, st_g3, st_g4, st_g5, st_g6, st_g7, st_p6, st_p7, st_l0, st_l1, st_l2, st_l3, st_l4, st_l5, st_s0, st_s1, st_s2, st_s3, st_s4, st_s5, st_is, rd_is_st hd, rd_g0_st hd, rd_g1_st hd, rd_p1_st hd, rd_g2_st hd, rd_p2_st hd, rd_g3_st hd, rd_p3_st hd, rd_g4_st hd, rd_p4_st hd, rd_g5_st hd, rd_p5_st hd, Option.bind_some, Option.toList_some, Option.toList_none, List.cons_append, List.nil_append, true_or, or_true, and_true, true_and, i10, Bool.false_eq_true, if_true, if_false, reduceIte, e1, eq_true w, h5, e2', r_begin, b2]
    · simp only [e23_0, e23_1, e23_3, e23_6, e23_7, e23_10, e23_11, e23_14, e23_15, e23_16, e23_19, e23_20, e23_23, e23_26, e23_29, e23_30, e23_31, e23_34, e23_35, e23_36, e23_37, e23_38, e23_41, e23_42, e23_43, e23_46 (bI_01 _), st_g0, st_g1, st_g2, st_g3, st_g4, st_g5, st_g6, st_g7, st_p6, st_p7, st_l0, st_l1, st_l2, st_l3, st_l4, st_l5, st_s0, st_s1, st_s2, st_s3, st_s4, st_s5, st_is, rd_is_st hd, rd_g0_st hd, rd_g1_st hd, rd_p1_st hd, rd_g2_st hd, rd_p2_st hd, rd_g3_st hd, rd_p3_st hd, rd_g4_st hd, rd_p4_st hd, rd_g5_st hd, rd_p5_st hd, Option.bind_some, Option.toList_some, Option.toList_none, List.cons_append, List.nil_append, true_or, or_true, and_true, true_and, i10, Bool.false_eq_true, if_true, if_false, reduceIte, e1, eq_false w, r_begin, b2]
  | succ k =>
    rw [q] at h5 e2 i4
    by_cases w : c = 93
    · subst w
      have h4' := h4 (Or.inl h0)
      rw [hI_s] at h5
      have e3 : (nI k = -1) = False := nI_m1 (by omega)
      rw [sBeh_93 q]
      refine ⟨setI (setI (setI (setI R 4 (hI (s.2.2.2.2.2.2 k 7))) 0 4) 1 0) 2 0, F, fun s' hs' => ?_, ?_⟩
      · cases hs'
        exact ⟨by simp [setI]; rfl, by simp [setI]; rfl, by simp [setI]; rfl, fun _ => by simp [setI, h4'], by simp [setI], h6⟩
      · rw [bI_t (by simp)]
        simp only [e23_0, e23_1, e23_3, e23_6, e23_7, e23_10, e23_11, e23_14, e23_15, e23_16, e23_19, e23_20, e23_23, e23_26, e23_29, e23_30, e23_31, e23_34, e23_35, e23_36, e23_37, e23_38, e23_41, e23_42, e23_43, e23_46 (bI_01 _), st_g0, st_g1, st_g2, st_g3, st_g4, st_g5, st_g6, st_g7, st_p6, st_p7, st_l0, st_l1, st_l2, st_l3, st_l4, st_l5, st_s0, st_s1, st_s2, st_s3, st_s4, st_s5, st_is, rd_is_st hd, rd_g0_st hd, rd_g1_st hd, rd_p1_st hd, rd_g2_st hd, rd_p2_st hd, rd_g3_st hd, rd_p3_st hd, rd_g4_st hd, rd_p4_st hd, rd_g5_st hd, rd_p5_st hd, Option.bind_some, Option.toList_some, Option.toList_none, List.cons_append, List.nil_append, true_or, or_true, and_true, true_and, i10, Bool.false_eq_true, if_true, if_false, reduceIte, e1, h5, e3, s_holderOf h6 i1 (show k < s.2.2.2.2.2.1 by omega), r_begin]
    · rw [sBeh_n (Or.inr w)]
      refine ⟨R1, F1, a1', ?_⟩
      simp only [e23_0, e23_1, e23_3, e23_6, e23_7, e23_10, e23_11, e23_14, e23_15, e23_16, e23_19, e23_20, e23_23, e23_26, e23_29, e23_30, e23_31, e23_34, e23_35, e23_36, e23_37, e23_38, e23_41, e23_42, e23_43, e23_46 (bI_01 _), st_g0, st_g1, st_g2, st_g3, st_g4, st_g5, st_g6, st_g7, st_p6, st_p7, st_l0, st_l1, st_l2, st_l3, st_l4, st_l5, st_s0, st_s1, st_s2, st_s3, st_s4, st_s5, st_is, rd_is_st hd, rd_g0_st hd, rd_g1_st hd, rd_p1_st hd, rd_g2_st hd, rd_p2_st hd, rd_g3_st hd, rd_p3_st hd, rd_g4_st hd, rd_p4_st hd, rd_g5_st hd, rd_p5_st hd, Option.bind_some, Option.toList_some, Option.toList_none, List.cons_append, List.nil_append, true_or, or_true, and_true, true_and, i10, Bool.false_eq_true, if_true, if_false, reduceIte, e1, eq_false w, r_begin, b2]
def psI2 (p : Nat) (s : pS) : Prop := psI p s ∧ (s.1 ≠ 0 → s.2.2.1 ≤ 60) ∧ (s.2.1 = 0 → s.2.2.1 = 0) ∧ (s.1 ≠ 0 → 2 ≤ s.2.1 → 10 ≤ s.2.2.1)
theorem r_take (hs : psR R F s) (hJ2 : psI2 p s) (hp : p < 80) (hc : c < 128) : ∃ R' F', (∀ s', stp s c = some s' → psR R' F' s') ∧ ev (d + 5) 16 0 [some (.ref v), some (.int (nI c))] [] (hst (hrd h v R) (v + 1) F) = some (some (.int (bI ((stp s c).isSome = true))), hst (hrd h v R') (v + 1) F') := by
  have hd : v + 1 ≤ v + 1 ∨ v + 1 + 7 ≤ v := Or.inl (Nat.le_refl _)
  obtain ⟨hJ, hv, -⟩ := hJ2
  have i2 := hJ.2.1
  have h1 := hs.1
  have hp5 : s.1 = 0 ∨ s.1 = 1 ∨ s.1 = 2 ∨ s.1 = 3 ∨ s.1 = 4 := by omega
  have b1 : (bI True = 0) = False := by decide
  have b0 : (bI False = 0) = True := by decide
  rcases hp5 with q | q | q | q | q
  · obtain ⟨R1, F1, a1, a2⟩ := r_letter (d := d + 1) (h := h) (v := v) hs hJ hp q hc
    rw [q] at h1
    have h1' : R.2 0 = 0 := h1
    rw [stp_0 q]
    cases u : sLet s c with
    | some s1 =>
      rw [u] at a1 a2
      rw [bI_t (by simp)] at a2
      refine ⟨R1, F1, fun s' hs' => by cases hs'; exact a1, ?_⟩
      rw [bI_t (show ((some s1).or _).isSome = true from rfl)]
      simp only [e16_0, e16_1, e16_4c0, e16_4c1, e16_4c2, e16_4c3, e16_4d, e16_36, e16_37, e16_38, e16_41, e16_44, e16_45, e16_46, e16_48, e16_49, e16_52, e16_55, e16_56, e16_59, e16_60, e16_61, e16_62, e16_63, e16_64, e16_66, e16_69, e16_72, e16_73, e16_74, e16_76, e16_77, e16_80, e16_83, e16_84, e16_87, e16_88, e16_89, e16_90, e16_91, e16_92, e16_94, e16_97, e16_100, e16_101, e16_102, e16_104, e16_105, e16_108, e16_111, e16_112, e16_115, e16_116, e16_117, e16_118, e16_119, e16_120, e16_122, e16_125, e16_128, e16_129, e16_130, e16_133, e16_136, e16_137, e16_140, e16_143, e16_144, e16_145, e16_148, e16_151, e16_152, e16_155, e16_156, e16_157, e16_158, e16_159, e16_162, st_g0, st_g1, st_g2, st_g3, st_g4, st_g5, st_g6, st_g7, st_p6, st_p7, st_l0, st_l1, st_l2, st_l3, st_l4, st_l5, st_s0, st_s1, st_s2, st_s3, st_s4, st_s5, st_is, rd_is_st hd, rd_g0_st hd, rd_g1_st hd, rd_p1_st hd, rd_g2_st hd, rd_p2_st hd, rd_g3_st hd, rd_p3_st hd, rd_g4_st hd, rd_p4_st hd, rd_g5_st hd, rd_p5_st hd, Option.bind_some, Option.toList_some, Option.toList_none, List.cons_append, List.nil_append, true_or, or_true, and_true, true_and, i10, Bool.false_eq_true, if_true, if_false, reduceIte, h1', a2]
    | none =>
      rw [u] at a1 a2
      rw [bI_f (by simp)] at a2
      have a1 : psR R1 F1 s := a1
      obtain ⟨R2, c1, c2⟩ := r_mark (d := d + 3) (h := h) (v := v) (R := R1) (F := F1) a1 hJ (k := 115) (q := 1) (x := 115) (y := 1) hc (by decide) rfl rfl
      cases u2 : sMrk s c 115 1 with
      | some s1 =>
        rw [u2] at c1 c2
        rw [bI_t (by simp)] at c2
        refine ⟨R2, F1, fun s' hs' => by cases hs'; exact c1, ?_⟩
        rw [bI_t (by simp)]
        simp only [e16_0, e16_1, e16_4c0, e16_4c1, e16_4c2, e16_4c3, e16_4d, e16_36, e16_37, e16_38, e16_41, e16_44, e16_45, e16_46, e16_48, e16_49, e16_52, e16_55, e16_56, e16_59, e16_60, e16_61, e16_62, e16_63, e16_64, e16_66, e16_69, e16_72, e16_73, e16_74, e16_76, e16_77, e16_80, e16_83, e16_84, e16_87, e16_88, e16_89, e16_90, e16_91, e16_92, e16_94, e16_97, e16_100, e16_101, e16_102, e16_104, e16_105, e16_108, e16_111, e16_112, e16_115, e16_116, e16_117, e16_118, e16_119, e16_120, e16_122, e16_125, e16_128, e16_129, e16_130, e16_133, e16_136, e16_137, e16_140, e16_143, e16_144, e16_145, e16_148, e16_151, e16_152, e16_155, e16_156, e16_157, e16_158, e16_159, e16_162, st_g0, st_g1, st_g2, st_g3, st_g4, st_g5, st_g6, st_g7, st_p6, st_p7, st_l0, st_l1, st_l2, st_l3, st_l4, st_l5, st_s0, st_s1, st_s2, st_s3, st_s4, st_s5, st_is, rd_is_st hd, rd_g0_st hd, rd_g1_st hd, rd_p1_st hd, rd_g2_st hd, rd_p2_st hd, rd_g3_st hd, rd_p3_st hd, rd_g4_st hd, rd_p4_st hd, rd_g5_st hd, rd_p5_st hd, Option.bind_some, Option.toList_some, Option.toList_none, List.cons_append, List.nil_append, true_or, or_true, and_true, true_and, i10, Bool.false_eq_true, if_true, if_false, reduceIte, h1', a2, c2]
      | none =>
        rw [u2] at c2
        rw [bI_f (by simp)] at c2
        refine ⟨R2, F1, fun s' hs' => (by cases hs'), ?_⟩
        rw [bI_f (by simp)]
        simp only [e16_0, e16_1, e16_4c0, e16_4c1, e16_4c2, e16_4c3, e16_4d, e16_36, e16_37, e16_38, e16_41, e16_44, e16_45, e16_46, e16_48, e16_49, e16_52, e16_55, e16_56, e16_59, e16_60, e16_61, e16_62, e16_63, e16_64, e16_66, e16_69, e16_72, e16_73, e16_74, e16_76, e16_77, e16_80, e16_83, e16_84, e16_87, e16_88, e16_89, e16_90, e16_91, e16_92, e16_94, e16_97, e16_100, e16_101, e16_102, e16_104, e16_105, e16_108, e16_111, e16_112, e16_115, e16_116, e16_117, e16_118, e16_119, e16_120, e16_122, e16_125, e16_128, e16_129, e16_130, e16_133, e16_136, e16_137, e16_140, e16_143, e16_144, e16_145, e16_148, e16_151, e16_152, e16_155, e16_156, e16_157, e16_158, e16_159, e16_162, st_g0, st_g1, st_g2, st_g3, st_g4, st_g5, st_g6, st_g7, st_p6, st_p7, st_l0, st_l1, st_l2, st_l3, st_l4, st_l5, st_s0, st_s1, st_s2, st_s3, st_s4, st_s5, st_is, rd_is_st hd, rd_g0_st hd, rd_g1_st hd, rd_p1_st hd, rd_g2_st hd, rd_p2_st hd, rd_g3_st hd, rd_p3_st hd, rd_g4_st hd, rd_p4_st hd, rd_g5_st hd, rd_p5_st hd, Option.bind_some, Option.toList_some, Option.toList_none, List.cons_append, List.nil_append, true_or, or_true, and_true, true_and, i10, Bool.false_eq_true, if_true, if_false, reduceIte, h1', a2, c2]
  · obtain ⟨R1, F1, a1, a2⟩ := r_digit (d := d + 1) (h := h) (v := v) (lo := 1) (hi := 60) (x := 1) (y := 60) hs hJ (by omega) (hv (by omega)) hc rfl rfl (by decide) (by decide)
    rw [q] at h1
    have h1' : R.2 0 = 1 := h1
    rw [stp_1 q]
    cases u : sDig s c 1 60 with
    | some s1 =>
      rw [u] at a1 a2
      rw [bI_t (by simp)] at a2
      refine ⟨R1, F1, fun s' hs' => by cases hs'; exact a1, ?_⟩
      rw [bI_t (show ((some s1).or _).isSome = true from rfl)]
      simp only [e16_0, e16_1, e16_4c0, e16_4c1, e16_4c2, e16_4c3, e16_4d, e16_36, e16_37, e16_38, e16_41, e16_44, e16_45, e16_46, e16_48, e16_49, e16_52, e16_55, e16_56, e16_59, e16_60, e16_61, e16_62, e16_63, e16_64, e16_66, e16_69, e16_72, e16_73, e16_74, e16_76, e16_77, e16_80, e16_83, e16_84, e16_87, e16_88, e16_89, e16_90, e16_91, e16_92, e16_94, e16_97, e16_100, e16_101, e16_102, e16_104, e16_105, e16_108, e16_111, e16_112, e16_115, e16_116, e16_117, e16_118, e16_119, e16_120, e16_122, e16_125, e16_128, e16_129, e16_130, e16_133, e16_136, e16_137, e16_140, e16_143, e16_144, e16_145, e16_148, e16_151, e16_152, e16_155, e16_156, e16_157, e16_158, e16_159, e16_162, st_g0, st_g1, st_g2, st_g3, st_g4, st_g5, st_g6, st_g7, st_p6, st_p7, st_l0, st_l1, st_l2, st_l3, st_l4, st_l5, st_s0, st_s1, st_s2, st_s3, st_s4, st_s5, st_is, rd_is_st hd, rd_g0_st hd, rd_g1_st hd, rd_p1_st hd, rd_g2_st hd, rd_p2_st hd, rd_g3_st hd, rd_p3_st hd, rd_g4_st hd, rd_p4_st hd, rd_g5_st hd, rd_p5_st hd, Option.bind_some, Option.toList_some, Option.toList_none, List.cons_append, List.nil_append, true_or, or_true, and_true, true_and, i10, Bool.false_eq_true, if_true, if_false, reduceIte, h1', a2]
    | none =>
      rw [u] at a1 a2
      rw [bI_f (by simp)] at a2
      have a1 : psR R1 F1 s := a1
      obtain ⟨R2, c1, c2⟩ := r_mark (d := d + 3) (h := h) (v := v) (R := R1) (F := F1) a1 hJ (k := 114) (q := 2) (x := 114) (y := 2) hc (by decide) rfl rfl
      cases u2 : sMrk s c 114 2 with
      | some s1 =>
        rw [u2] at c1 c2
        rw [bI_t (by simp)] at c2
        refine ⟨R2, F1, fun s' hs' => by cases hs'; exact c1, ?_⟩
        rw [bI_t (by simp)]
        simp only [e16_0, e16_1, e16_4c0, e16_4c1, e16_4c2, e16_4c3, e16_4d, e16_36, e16_37, e16_38, e16_41, e16_44, e16_45, e16_46, e16_48, e16_49, e16_52, e16_55, e16_56, e16_59, e16_60, e16_61, e16_62, e16_63, e16_64, e16_66, e16_69, e16_72, e16_73, e16_74, e16_76, e16_77, e16_80, e16_83, e16_84, e16_87, e16_88, e16_89, e16_90, e16_91, e16_92, e16_94, e16_97, e16_100, e16_101, e16_102, e16_104, e16_105, e16_108, e16_111, e16_112, e16_115, e16_116, e16_117, e16_118, e16_119, e16_120, e16_122, e16_125, e16_128, e16_129, e16_130, e16_133, e16_136, e16_137, e16_140, e16_143, e16_144, e16_145, e16_148, e16_151, e16_152, e16_155, e16_156, e16_157, e16_158, e16_159, e16_162, st_g0, st_g1, st_g2, st_g3, st_g4, st_g5, st_g6, st_g7, st_p6, st_p7, st_l0, st_l1, st_l2, st_l3, st_l4, st_l5, st_s0, st_s1, st_s2, st_s3, st_s4, st_s5, st_is, rd_is_st hd, rd_g0_st hd, rd_g1_st hd, rd_p1_st hd, rd_g2_st hd, rd_p2_st hd, rd_g3_st hd, rd_p3_st hd, rd_g4_st hd, rd_p4_st hd, rd_g5_st hd, rd_p5_st hd, Option.bind_some, Option.toList_some, Option.toList_none, List.cons_append, List.nil_append, true_or, or_true, and_true, true_and, i10, Bool.false_eq_true, if_true, if_false, reduceIte, h1', a2, c2]
      | none =>
        rw [u2] at c2
        rw [bI_f (by simp)] at c2
        refine ⟨R2, F1, fun s' hs' => (by cases hs'), ?_⟩
        rw [bI_f (by simp)]
        simp only [e16_0, e16_1, e16_4c0, e16_4c1, e16_4c2, e16_4c3, e16_4d, e16_36, e16_37, e16_38, e16_41, e16_44, e16_45, e16_46, e16_48, e16_49, e16_52, e16_55, e16_56, e16_59, e16_60, e16_61, e16_62, e16_63, e16_64, e16_66, e16_69, e16_72, e16_73, e16_74, e16_76, e16_77, e16_80, e16_83, e16_84, e16_87, e16_88, e16_89, e16_90, e16_91, e16_92, e16_94, e16_97, e16_100, e16_101, e16_102, e16_104, e16_105, e16_108, e16_111, e16_112, e16_115, e16_116, e16_117, e16_118, e16_119, e16_120, e16_122, e16_125, e16_128, e16_129, e16_130, e16_133, e16_136, e16_137, e16_140, e16_143, e16_144, e16_145, e16_148, e16_151, e16_152, e16_155, e16_156, e16_157, e16_158, e16_159, e16_162, st_g0, st_g1, st_g2, st_g3, st_g4, st_g5, st_g6, st_g7, st_p6, st_p7, st_l0, st_l1, st_l2, st_l3, st_l4, st_l5, st_s0, st_s1, st_s2, st_s3, st_s4, st_s5, st_is, rd_is_st hd, rd_g0_st hd, rd_g1_st hd, rd_p1_st hd, rd_g2_st hd, rd_p2_st hd, rd_g3_st hd, rd_p3_st hd, rd_g4_st hd, rd_p4_st hd, rd_g5_st hd, rd_p5_st hd, Option.bind_some, Option.toList_some, Option.toList_none, List.cons_append, List.nil_append, true_or, or_true, and_true, true_and, i10, Bool.false_eq_true, if_true, if_false, reduceIte, h1', a2, c2]
  · obtain ⟨R1, F1, a1, a2⟩ := r_digit (d := d + 1) (h := h) (v := v) (lo := 0) (hi := 59) (x := 0) (y := 59) hs hJ (by omega) (hv (by omega)) hc rfl rfl (by decide) (by decide)
    rw [q] at h1
    have h1' : R.2 0 = 2 := h1
    rw [stp_2 q]
    cases u : sDig s c 0 59 with
    | some s1 =>
      rw [u] at a1 a2
      rw [bI_t (by simp)] at a2
      refine ⟨R1, F1, fun s' hs' => by cases hs'; exact a1, ?_⟩
      rw [bI_t (show ((some s1).or _).isSome = true from rfl)]
      simp only [e16_0, e16_1, e16_4c0, e16_4c1, e16_4c2, e16_4c3, e16_4d, e16_36, e16_37, e16_38, e16_41, e16_44, e16_45, e16_46, e16_48, e16_49, e16_52, e16_55, e16_56, e16_59, e16_60, e16_61, e16_62, e16_63, e16_64, e16_66, e16_69, e16_72, e16_73, e16_74, e16_76, e16_77, e16_80, e16_83, e16_84, e16_87, e16_88, e16_89, e16_90, e16_91, e16_92, e16_94, e16_97, e16_100, e16_101, e16_102, e16_104, e16_105, e16_108, e16_111, e16_112, e16_115, e16_116, e16_117, e16_118, e16_119, e16_120, e16_122, e16_125, e16_128, e16_129, e16_130, e16_133, e16_136, e16_137, e16_140, e16_143, e16_144, e16_145, e16_148, e16_151, e16_152, e16_155, e16_156, e16_157, e16_158, e16_159, e16_162, st_g0, st_g1, st_g2, st_g3, st_g4, st_g5, st_g6, st_g7, st_p6, st_p7, st_l0, st_l1, st_l2, st_l3, st_l4, st_l5, st_s0, st_s1, st_s2, st_s3, st_s4, st_s5, st_is, rd_is_st hd, rd_g0_st hd, rd_g1_st hd, rd_p1_st hd, rd_g2_st hd, rd_p2_st hd, rd_g3_st hd, rd_p3_st hd, rd_g4_st hd, rd_p4_st hd, rd_g5_st hd, rd_p5_st hd, Option.bind_some, Option.toList_some, Option.toList_none, List.cons_append, List.nil_append, true_or, or_true, and_true, true_and, i10, Bool.false_eq_true, if_true, if_false, reduceIte, h1', a2]
    | none =>
      rw [u] at a1 a2
      rw [bI_f (by simp)] at a2
      have a1 : psR R1 F1 s := a1
      obtain ⟨R2, c1, c2⟩ := r_mark (d := d + 3) (h := h) (v := v) (R := R1) (F := F1) a1 hJ (k := 103) (q := 3) (x := 103) (y := 3) hc (by decide) rfl rfl
      cases u2 : sMrk s c 103 3 with
      | some s1 =>
        rw [u2] at c1 c2
        rw [bI_t (by simp)] at c2
        refine ⟨R2, F1, fun s' hs' => by cases hs'; exact c1, ?_⟩
        rw [bI_t (by simp)]
        simp only [e16_0, e16_1, e16_4c0, e16_4c1, e16_4c2, e16_4c3, e16_4d, e16_36, e16_37, e16_38, e16_41, e16_44, e16_45, e16_46, e16_48, e16_49, e16_52, e16_55, e16_56, e16_59, e16_60, e16_61, e16_62, e16_63, e16_64, e16_66, e16_69, e16_72, e16_73, e16_74, e16_76, e16_77, e16_80, e16_83, e16_84, e16_87, e16_88, e16_89, e16_90, e16_91, e16_92, e16_94, e16_97, e16_100, e16_101, e16_102, e16_104, e16_105, e16_108, e16_111, e16_112, e16_115, e16_116, e16_117, e16_118, e16_119, e16_120, e16_122, e16_125, e16_128, e16_129, e16_130, e16_133, e16_136, e16_137, e16_140, e16_143, e16_144, e16_145, e16_148, e16_151, e16_152, e16_155, e16_156, e16_157, e16_158, e16_159, e16_162, st_g0, st_g1, st_g2, st_g3, st_g4, st_g5, st_g6, st_g7, st_p6, st_p7, st_l0, st_l1, st_l2, st_l3, st_l4, st_l5, st_s0, st_s1, st_s2, st_s3, st_s4, st_s5, st_is, rd_is_st hd, rd_g0_st hd, rd_g1_st hd, rd_p1_st hd, rd_g2_st hd, rd_p2_st hd, rd_g3_st hd, rd_p3_st hd, rd_g4_st hd, rd_p4_st hd, rd_g5_st hd, rd_p5_st hd, Option.bind_some, Option.toList_some, Option.toList_none, List.cons_append, List.nil_append, true_or, or_true, and_true, true_and, i10, Bool.false_eq_true, if_true, if_false, reduceIte, h1', a2, c2]
      | none =>
        rw [u2] at c2
        rw [bI_f (by simp)] at c2
        refine ⟨R2, F1, fun s' hs' => (by cases hs'), ?_⟩
        rw [bI_f (by simp)]
        simp only [e16_0, e16_1, e16_4c0, e16_4c1, e16_4c2, e16_4c3, e16_4d, e16_36, e16_37, e16_38, e16_41, e16_44, e16_45, e16_46, e16_48, e16_49, e16_52, e16_55, e16_56, e16_59, e16_60, e16_61, e16_62, e16_63, e16_64, e16_66, e16_69, e16_72, e16_73, e16_74, e16_76, e16_77, e16_80, e16_83, e16_84, e16_87, e16_88, e16_89, e16_90, e16_91, e16_92, e16_94, e16_97, e16_100, e16_101, e16_102, e16_104, e16_105, e16_108, e16_111, e16_112, e16_115, e16_116, e16_117, e16_118, e16_119, e16_120, e16_122, e16_125, e16_128, e16_129, e16_130, e16_133, e16_136, e16_137, e16_140, e16_143, e16_144, e16_145, e16_148, e16_151, e16_152, e16_155, e16_156, e16_157, e16_158, e16_159, e16_162, st_g0, st_g1, st_g2, st_g3, st_g4, st_g5, st_g6, st_g7, st_p6, st_p7, st_l0, st_l1, st_l2, st_l3, st_l4, st_l5, st_s0, st_s1, st_s2, st_s3, st_s4, st_s5, st_is, rd_is_st hd, rd_g0_st hd, rd_g1_st hd, rd_p1_st hd, rd_g2_st hd, rd_p2_st hd, rd_g3_st hd, rd_p3_st hd, rd_g4_st hd, rd_p4_st hd, rd_g5_st hd, rd_p5_st hd, Option.bind_some, Option.toList_some, Option.toList_none, List.cons_append, List.nil_append, true_or, or_true, and_true, true_and, i10, Bool.false_eq_true, if_true, if_false, reduceIte, h1', a2, c2]
  · obtain ⟨R1, F1, a1, a2⟩ := r_digit (d := d + 1) (h := h) (v := v) (lo := 0) (hi := 15) (x := 0) (y := 15) hs hJ (by omega) (hv (by omega)) hc rfl rfl (by decide) (by decide)
    rw [q] at h1
    have h1' : R.2 0 = 3 := h1
    have hg := hJ.2.2.1
    have e2 : (nI s.2.1 ≤ 0) = (s.2.1 ≤ 0) := nI_lep (b := 0) (by omega) (by omega)
    rw [stp_3 q]
    cases u : sDig s c 0 15 with
    | some s1 =>
      rw [u] at a1 a2
      rw [bI_t (by simp)] at a2
      refine ⟨R1, F1, fun s' hs' => by cases hs'; exact a1, ?_⟩
      rw [bI_t (show (((some s1).or _).or _).isSome = true from rfl)]
      simp only [e16_0, e16_1, e16_4c0, e16_4c1, e16_4c2, e16_4c3, e16_4d, e16_36, e16_37, e16_38, e16_41, e16_44, e16_45, e16_46, e16_48, e16_49, e16_52, e16_55, e16_56, e16_59, e16_60, e16_61, e16_62, e16_63, e16_64, e16_66, e16_69, e16_72, e16_73, e16_74, e16_76, e16_77, e16_80, e16_83, e16_84, e16_87, e16_88, e16_89, e16_90, e16_91, e16_92, e16_94, e16_97, e16_100, e16_101, e16_102, e16_104, e16_105, e16_108, e16_111, e16_112, e16_115, e16_116, e16_117, e16_118, e16_119, e16_120, e16_122, e16_125, e16_128, e16_129, e16_130, e16_133, e16_136, e16_137, e16_140, e16_143, e16_144, e16_145, e16_148, e16_151, e16_152, e16_155, e16_156, e16_157, e16_158, e16_159, e16_162, st_g0, st_g1, st_g2, st_g3, st_g4, st_g5, st_g6, st_g7, st_p6, st_p7, st_l0, st_l1, st_l2, st_l3, st_l4, st_l5, st_s0, st_s1, st_s2, st_s3, st_s4, st_s5, st_is, rd_is_st hd, rd_g0_st hd, rd_g1_st hd, rd_p1_st hd, rd_g2_st hd, rd_p2_st hd, rd_g3_st hd, rd_p3_st hd, rd_g4_st hd, rd_p4_st hd, rd_g5_st hd, rd_p5_st hd, Option.bind_some, Option.toList_some, Option.toList_none, List.cons_append, List.nil_append, true_or, or_true, and_true, true_and, i10, Bool.false_eq_true, if_true, if_false, reduceIte, h1', a2]
    | none =>
      rw [u] at a1 a2
      rw [bI_f (by simp)] at a2
      have a1 : psR R1 F1 s := a1
      obtain ⟨R2, c1, c2⟩ := r_open (d := d + 3) (h := h) (v := v) (R := R1) (F := F1) a1 hJ (show s.1 ≠ 0 by omega) hc
      cases u2 : sOpn s c with
      | some s1 =>
        rw [u2] at c1 c2
        rw [bI_t (by simp)] at c2
        refine ⟨R2, F1, fun s' hs' => by cases hs'; exact c1, ?_⟩
        rw [bI_t (by simp)]
        simp only [e16_0, e16_1, e16_4c0, e16_4c1, e16_4c2, e16_4c3, e16_4d, e16_36, e16_37, e16_38, e16_41, e16_44, e16_45, e16_46, e16_48, e16_49, e16_52, e16_55, e16_56, e16_59, e16_60, e16_61, e16_62, e16_63, e16_64, e16_66, e16_69, e16_72, e16_73, e16_74, e16_76, e16_77, e16_80, e16_83, e16_84, e16_87, e16_88, e16_89, e16_90, e16_91, e16_92, e16_94, e16_97, e16_100, e16_101, e16_102, e16_104, e16_105, e16_108, e16_111, e16_112, e16_115, e16_116, e16_117, e16_118, e16_119, e16_120, e16_122, e16_125, e16_128, e16_129, e16_130, e16_133, e16_136, e16_137, e16_140, e16_143, e16_144, e16_145, e16_148, e16_151, e16_152, e16_155, e16_156, e16_157, e16_158, e16_159, e16_162, st_g0, st_g1, st_g2, st_g3, st_g4, st_g5, st_g6, st_g7, st_p6, st_p7, st_l0, st_l1, st_l2, st_l3, st_l4, st_l5, st_s0, st_s1, st_s2, st_s3, st_s4, st_s5, st_is, rd_is_st hd, rd_g0_st hd, rd_g1_st hd, rd_p1_st hd, rd_g2_st hd, rd_p2_st hd, rd_g3_st hd, rd_p3_st hd, rd_g4_st hd, rd_p4_st hd, rd_g5_st hd, rd_p5_st hd, Option.bind_some, Option.toList_some, Option.toList_none, List.cons_append, List.nil_append, true_or, or_true, and_true, true_and, i10, Bool.false_eq_true, if_true, if_false, reduceIte, h1', a2, c2]
      | none =>
        rw [u2] at c1 c2
        rw [bI_f (by simp)] at c2
        have c1 : psR R2 F1 s := c1
        have hsg := c1.2.1
        by_cases w : s.2.1 = 0
        · refine ⟨R2, F1, fun s' hs' => (by simp [w] at hs'), ?_⟩
          rw [bI_f (by simp [w])]
          simp only [e16_0, e16_1, e16_4c0, e16_4c1, e16_4c2, e16_4c3, e16_4d, e16_36, e16_37, e16_38, e16_41, e16_44, e16_45, e16_46, e16_48, e16_49, e16_52, e16_55, e16_56, e16_59, e16_60, e16_61, e16_62, e16_63, e16_64, e16_66, e16_69, e16_72, e16_73, e16_74, e16_76, e16_77, e16_80, e16_83, e16_84, e16_87, e16_88, e16_89, e16_90, e16_91, e16_92, e16_94, e16_97, e16_100, e16_101, e16_102, e16_104, e16_105, e16_108, e16_111, e16_112, e16_115, e16_116, e16_117, e16_118, e16_119, e16_120, e16_122, e16_125, e16_128, e16_129, e16_130, e16_133, e16_136, e16_137, e16_140, e16_143, e16_144, e16_145, e16_148, e16_151, e16_152, e16_155, e16_156, e16_157, e16_158, e16_159, e16_162, st_g0, st_g1, st_g2, st_g3, st_g4, st_g5, st_g6, st_g7, st_p6, st_p7, st_l0, st_l1, st_l2, st_l3, st_l4, st_l5, st_s0, st_s1, st_s2, st_s3, st_s4, st_s5, st_is, rd_is_st hd, rd_g0_st hd, rd_g1_st hd, rd_p1_st hd, rd_g2_st hd, rd_p2_st hd, rd_g3_st hd, rd_p3_st hd, rd_g4_st hd, rd_p4_st hd, rd_g5_st hd, rd_p5_st hd, Option.bind_some, Option.toList_some, Option.toList_none, List.cons_append, List.nil_append, true_or, or_true, and_true, true_and, i10, Bool.false_eq_true, if_true, if_false, reduceIte, h1', a2, c2, hsg, e2, eq_true (show s.2.1 ≤ 0 by omega)]
        · obtain ⟨R3, F3, d1, d2⟩ := r_beh (d := d) (h := h) (v := v) (R := R2) (F := F1) c1 hJ hp (show s.1 ≠ 0 by omega) (by rw [q]; exact if_neg w) hc
          refine ⟨R3, F3, fun s' hs' => d1 s' (by simpa [w] using hs'), ?_⟩
          have ee : (((none : Option pS).or none).or (if s.2.1 = 0 then none else sBeh s c)) = sBeh s c := by simp [w]
          rw [ee]
          cases u3 : sBeh s c with
          | some s1 =>
            rw [u3] at d2
            rw [bI_t (by simp)] at d2 ⊢
            simp only [e16_0, e16_1, e16_4c0, e16_4c1, e16_4c2, e16_4c3, e16_4d, e16_36, e16_37, e16_38, e16_41, e16_44, e16_45, e16_46, e16_48, e16_49, e16_52, e16_55, e16_56, e16_59, e16_60, e16_61, e16_62, e16_63, e16_64, e16_66, e16_69, e16_72, e16_73, e16_74, e16_76, e16_77, e16_80, e16_83, e16_84, e16_87, e16_88, e16_89, e16_90, e16_91, e16_92, e16_94, e16_97, e16_100, e16_101, e16_102, e16_104, e16_105, e16_108, e16_111, e16_112, e16_115, e16_116, e16_117, e16_118, e16_119, e16_120, e16_122, e16_125, e16_128, e16_129, e16_130, e16_133, e16_136, e16_137, e16_140, e16_143, e16_144, e16_145, e16_148, e16_151, e16_152, e16_155, e16_156, e16_157, e16_158, e16_159, e16_162, st_g0, st_g1, st_g2, st_g3, st_g4, st_g5, st_g6, st_g7, st_p6, st_p7, st_l0, st_l1, st_l2, st_l3, st_l4, st_l5, st_s0, st_s1, st_s2, st_s3, st_s4, st_s5, st_is, rd_is_st hd, rd_g0_st hd, rd_g1_st hd, rd_p1_st hd, rd_g2_st hd, rd_p2_st hd, rd_g3_st hd, rd_p3_st hd, rd_g4_st hd, rd_p4_st hd, rd_g5_st hd, rd_p5_st hd, Option.bind_some, Option.toList_some, Option.toList_none, List.cons_append, List.nil_append, true_or, or_true, and_true, true_and, i10, Bool.false_eq_true, if_true, if_false, reduceIte, h1', a2, c2, hsg, e2, eq_false (show ¬ s.2.1 ≤ 0 by omega), d2]
          | none =>
            rw [u3] at d2
            rw [bI_f (by simp)] at d2 ⊢
            simp only [e16_0, e16_1, e16_4c0, e16_4c1, e16_4c2, e16_4c3, e16_4d, e16_36, e16_37, e16_38, e16_41, e16_44, e16_45, e16_46, e16_48, e16_49, e16_52, e16_55, e16_56, e16_59, e16_60, e16_61, e16_62, e16_63, e16_64, e16_66, e16_69, e16_72, e16_73, e16_74, e16_76, e16_77, e16_80, e16_83, e16_84, e16_87, e16_88, e16_89, e16_90, e16_91, e16_92, e16_94, e16_97, e16_100, e16_101, e16_102, e16_104, e16_105, e16_108, e16_111, e16_112, e16_115, e16_116, e16_117, e16_118, e16_119, e16_120, e16_122, e16_125, e16_128, e16_129, e16_130, e16_133, e16_136, e16_137, e16_140, e16_143, e16_144, e16_145, e16_148, e16_151, e16_152, e16_155, e16_156, e16_157, e16_158, e16_159, e16_162, st_g0, st_g1, st_g2, st_g3, st_g4, st_g5, st_g6, st_g7, st_p6, st_p7, st_l0, st_l1, st_l2, st_l3, st_l4, st_l5, st_s0, st_s1, st_s2, st_s3, st_s4, st_s5, st_is, rd_is_st hd, rd_g0_st hd, rd_g1_st hd, rd_p1_st hd, rd_g2_st hd, rd_p2_st hd, rd_g3_st hd, rd_p3_st hd, rd_g4_st hd, rd_p4_st hd, rd_g5_st hd, rd_p5_st hd, Option.bind_some, Option.toList_some, Option.toList_none, List.cons_append, List.nil_append, true_or, or_true, and_true, true_and, i10, Bool.false_eq_true, if_true, if_false, reduceIte, h1', a2, c2, hsg, e2, eq_false (show ¬ s.2.1 ≤ 0 by omega), d2]
  · obtain ⟨R3, F3, d1, d2⟩ := r_beh (d := d) (h := h) (v := v) (R := R) (F := F) hs hJ hp (show s.1 ≠ 0 by omega) (by rw [q]; rfl) hc
    rw [q] at h1
    have h1' : R.2 0 = 4 := h1
    have e4 : stp s c = sBeh s c := by
      unfold stp
      rw [q]
      rfl
    have hx : Int32.toInt 4 < 0 ∨ 3 < Int32.toInt 4 := by decide
    rw [e4]
    refine ⟨R3, F3, d1, ?_⟩
    simp only [e16_0, e16_1, e16_4c0, e16_4c1, e16_4c2, e16_4c3, e16_4d, e16_36, e16_37, e16_38, e16_41, e16_44, e16_45, e16_46, e16_48, e16_49, e16_52, e16_55, e16_56, e16_59, e16_60, e16_61, e16_62, e16_63, e16_64, e16_66, e16_69, e16_72, e16_73, e16_74, e16_76, e16_77, e16_80, e16_83, e16_84, e16_87, e16_88, e16_89, e16_90, e16_91, e16_92, e16_94, e16_97, e16_100, e16_101, e16_102, e16_104, e16_105, e16_108, e16_111, e16_112, e16_115, e16_116, e16_117, e16_118, e16_119, e16_120, e16_122, e16_125, e16_128, e16_129, e16_130, e16_133, e16_136, e16_137, e16_140, e16_143, e16_144, e16_145, e16_148, e16_151, e16_152, e16_155, e16_156, e16_157, e16_158, e16_159, e16_162, e16_4d hx, e16_162 (bI_01 _), st_g0, st_g1, st_g2, st_g3, st_g4, st_g5, st_g6, st_g7, st_p6, st_p7, st_l0, st_l1, st_l2, st_l3, st_l4, st_l5, st_s0, st_s1, st_s2, st_s3, st_s4, st_s5, st_is, rd_is_st hd, rd_g0_st hd, rd_g1_st hd, rd_p1_st hd, rd_g2_st hd, rd_p2_st hd, rd_g3_st hd, rd_p3_st hd, rd_g4_st hd, rd_p4_st hd, rd_g5_st hd, rd_p5_st hd, Option.bind_some, Option.toList_some, Option.toList_none, List.cons_append, List.nil_append, true_or, or_true, and_true, true_and, i10, Bool.false_eq_true, if_true, if_false, reduceIte, h1', d2]
end READER
