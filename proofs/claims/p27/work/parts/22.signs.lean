/-! LETTERS, GAPS, SIGNS -/
theorem z_and (a b : Nat) : nI a &&& nI b = nI (a &&& b) := by
  apply Int32.toBitVec_inj.1
  show BitVec.ofNat 32 a &&& BitVec.ofNat 32 b = BitVec.ofNat 32 (a &&& b)
  apply BitVec.eq_of_getLsbD_eq
  intro i hi
  simp [hi]
theorem z_or (a b : Nat) : nI a ||| nI b = nI (a ||| b) := by
  apply Int32.toBitVec_inj.1
  show BitVec.ofNat 32 a ||| BitVec.ofNat 32 b = BitVec.ofNat 32 (a ||| b)
  apply BitVec.eq_of_getLsbD_eq
  intro i hi
  simp [hi]
/-- all crates around have a gap at p -/
def opn (σ : mS) (c p : Nat) : Bool := (chn σ c).all fun a => (σ.2 a 2).testBit p
/-- the sign that is seen of c at p -/
def sgn (σ : mS) (c p : Nat) : Nat := if opn σ c p = true then (if 0 < σ.2 c (3 + p) then σ.2 c (3 + p) - 1 else 27) else 26
/-- a crate's label is in order: no letter behind one that isn't there -/
def lok (A : Nat → Nat) : Prop := 0 < A 3 ∧ (A 4 = 0 → A 5 = 0) ∧ (A 5 = 0 → A 6 = 0)
theorem gapb : ∀ g, g < 16 → ∀ p, p < 4 → ((nI g >>> (nI p &&& 31)) &&& 1 = 1) = ((g.testBit p) = true) := by
  have h : ∀ g, g < 16 → ∀ p, p < 4 → (decide ((nI g >>> (nI p &&& 31)) &&& 1 = 1)) = g.testBit p := by decide +kernel
  intro g hg p hp
  have := h g hg p hp
  rw [← this]
  exact (decide_eq_true_eq ..).symm
theorem lbl_b {A : Nat → Nat} (h : ∀ p, p < 4 → A (3 + p) ≤ 26) : lbl A ≤ 531440 := by
  have h0 := h 0 (by decide)
  have h1 := h 1 (by decide)
  have h2 := h 2 (by decide)
  have h3 := h 3 (by decide)
  unfold lbl
  simp only [Nat.add_zero, Nat.reduceAdd] at h0 h1 h2 h3
  omega
theorem lbl_d {A : Nat → Nat} (h : ∀ p, p < 4 → A (3 + p) ≤ 26) : lbl A % 27 = A 3 ∧ lbl A / 27 % 27 = A 4 ∧ lbl A / 27 / 27 % 27 = A 5 ∧ lbl A / 27 / 27 / 27 % 27 = A 6 := by
  have h0 := h 0 (by decide)
  have h1 := h 1 (by decide)
  have h2 := h 2 (by decide)
  have h3 := h 3 (by decide)
  unfold lbl
  simp only [Nat.add_zero, Nat.reduceAdd] at h0 h1 h2 h3
  omega
section SIGNS
variable {d : Nat} {h : zH} {i : Nat} {S M : oS} {σ : mS} {c : Nat}
theorem nI_div27 {a : Nat} (ha : a < 2 ^ 31) : nI a / 27 = nI (a / 27) := pk_div (d := 27) ha (by decide) (by decide)
theorem nI_rem27 {a : Nat} (ha : a < 2 ^ 31) : nI a - nI (a / 27) * 27 = nI (a % 27) := by
  have := pk_rem (d := 27) ha (by decide) (by decide)
  rw [show (nI 27) = (27 : Int32) from rfl, nI_div27 ha] at this
  exact this
theorem s_letter_end {rest p : Nat} {x : Int32} (hr : rest < 2 ^ 31) : ev d 45 45 [some (.ref i), some (.int (nI c)), some (.int (nI p)), some (.int (nI rest)), some (.int x)] [] (hst h i S) = some (some (.int (hI (rest % 27))), hst h i S) := by
  have h27 : ((27 : Int32) = 0) = False := by decide
  have hm : rest % 27 < 27 := Nat.mod_lt _ (by decide)
  simp only [e45_0, e45_1, e45_2, e45_5, e45_8, e45_9, e45_12, e45_13, e45_14, e45_17, e45_18, e45_19, e45_20, e45_22, e45_24, e45_25, e45_28, e45_30, e45_31, e45_34, e45_35, e45_37, e45_38, e45_39, e45_42, e45_45, e45_46, e45_48, e45_49, e45_51, e45_53, e45_56, e45_57, e45_60, e45_62, e45_63, e45_64, st_g0, st_g1, st_g2, st_g3, st_g4, st_g5, st_g6, st_g7, st_p6, st_p7, st_l0, st_l1, st_l2, st_l3, st_l4, st_l5, st_s0, st_s1, st_s2, st_s3, st_s4, st_s5, st_is, Option.bind_some, Option.toList_some, Option.toList_none, List.cons_append, List.nil_append, true_or, or_true, and_true, true_and, i10, Bool.false_eq_true, if_true, if_false, reduceIte, h27, not_false_eq_true, nI_div27 hr, nI_rem27 hr]
  cases q : rest % 27 with
  | zero => rfl
  | succ k =>
    have e0 : (nI (k + 1) = 0) = False := eq_false (nI_ne0 (by omega) (by omega))
    simp only [e0, Option.bind_some, Option.toList_some, Option.toList_none, List.cons_append, List.nil_append, true_or, or_true, and_true, true_and, i10, Bool.false_eq_true, if_true, if_false, reduceIte]
    rfl
theorem s_letterAt (hR : stR S σ) (hb : bnd σ) (hc : c < σ.1) {p : Nat} (hp : p < 4) : ev (d + 1) 45 0 [some (.ref i), some (.int (nI c)), some (.int (nI p)), none, none] [] (hst h i S) = some (some (.int (hI (σ.2 c (3 + p)))), hst h i S) := by
  have hn := hb.1
  have h3 := (hb.2 c hc).2.2.2.1
  obtain ⟨h0, h1⟩ := hR
  obtain ⟨a0, a1, a2, a3, a4, a5⟩ := h1 c hc
  have hz := s_zi hc (show σ.1 < 2 ^ 31 by omega)
  have hl := lbl_b h3
  obtain ⟨g0, g1, g2, g3⟩ := lbl_d h3
  have h27 : ((27 : Int32) = 0) = False := by decide
  simp only [e45_0, e45_1, e45_2, e45_5, e45_8, e45_9, e45_12, e45_13, e45_14, e45_17, e45_18, e45_19, e45_20, e45_24, e45_25, e45_28, e45_30, e45_31, e45_34, e45_35, e45_37, e45_38, e45_39, e45_42, e45_46, e45_48, e45_49, e45_51, e45_53, e45_56, e45_57, e45_60, e45_62, e45_63, e45_64, st_g0, st_g1, st_g2, st_g3, st_g4, st_g5, st_g6, st_g7, st_p6, st_p7, st_l0, st_l1, st_l2, st_l3, st_l4, st_l5, st_s0, st_s1, st_s2, st_s3, st_s4, st_s5, st_is, Option.bind_some, Option.toList_some, Option.toList_none, List.cons_append, List.nil_append, true_or, or_true, and_true, true_and, i10, Bool.false_eq_true, if_true, if_false, reduceIte, s_isCrate h0 (show σ.1 < 2 ^ 31 by omega), hz, zrd_nI (show c < 12 by omega) (by decide), a3]
  have step : ∀ k rest : Nat, rest < 2 ^ 31 → k < p → ev (d + 1) 45 22 [some (.ref i), some (.int (nI c)), some (.int (nI p)), some (.int (nI rest)), some (.int (nI k))] [] (hst h i S) = ev (d + 1) 45 22 [some (.ref i), some (.int (nI c)), some (.int (nI p)), some (.int (nI (rest / 27))), some (.int (nI (k + 1)))] [] (hst h i S) := by
    intro k rest hr hk
    have e1 : (nI p ≤ nI k) = False := by rw [nI_lep (by omega) (by omega)]; exact eq_false (by omega)
    have e2 : ((4 : Int32) ≤ nI k) = False := by rw [show (4 : Int32) = nI 4 from rfl, nI_lep (by omega) (by omega)]; exact eq_false (by omega)
    rw [e45_22]
    simp only [e45_0, e45_1, e45_2, e45_5, e45_8, e45_9, e45_12, e45_13, e45_14, e45_17, e45_18, e45_19, e45_20, e45_24, e45_25, e45_28, e45_30, e45_31, e45_34, e45_35, e45_37, e45_38, e45_39, e45_42, e45_46, e45_48, e45_49, e45_51, e45_53, e45_56, e45_57, e45_60, e45_62, e45_63, e45_64, st_g0, st_g1, st_g2, st_g3, st_g4, st_g5, st_g6, st_g7, st_p6, st_p7, st_l0, st_l1, st_l2, st_l3, st_l4, st_l5, st_s0, st_s1, st_s2, st_s3, st_s4, st_s5, st_is, Option.bind_some, Option.toList_some, Option.toList_none, List.cons_append, List.nil_append, true_or, or_true, and_true, true_and, i10, Bool.false_eq_true, if_true, if_false, reduceIte, e1, e2, h27, not_false_eq_true, nI_div27 hr, nI_1]
  have stop : ∀ rest : Nat, rest < 2 ^ 31 → ev (d + 1) 45 22 [some (.ref i), some (.int (nI c)), some (.int (nI p)), some (.int (nI rest)), some (.int (nI p))] [] (hst h i S) = some (some (.int (hI (rest % 27))), hst h i S) := by
    intro rest hr
    rw [e45_22]
    simp only [e45_0, e45_1, e45_2, e45_5, e45_8, e45_9, e45_12, e45_13, e45_14, e45_17, e45_18, e45_19, e45_20, e45_24, e45_25, e45_28, e45_30, e45_31, e45_34, e45_35, e45_37, e45_38, e45_39, e45_42, e45_46, e45_48, e45_49, e45_51, e45_53, e45_56, e45_57, e45_60, e45_62, e45_63, e45_64, st_g0, st_g1, st_g2, st_g3, st_g4, st_g5, st_g6, st_g7, st_p6, st_p7, st_l0, st_l1, st_l2, st_l3, st_l4, st_l5, st_s0, st_s1, st_s2, st_s3, st_s4, st_s5, st_is, Option.bind_some, Option.toList_some, Option.toList_none, List.cons_append, List.nil_append, true_or, or_true, and_true, true_and, i10, Bool.false_eq_true, if_true, if_false, reduceIte, Int32.le_refl]
    exact s_letter_end hr
  have z0 : (0 : Int32) = nI 0 := rfl
  rw [z0]
  have b0 : lbl (σ.2 c) < 2 ^ 31 := by omega
  have b1 : lbl (σ.2 c) / 27 < 2 ^ 31 := by omega
  have b2 : lbl (σ.2 c) / 27 / 27 < 2 ^ 31 := by omega
  have b3 : lbl (σ.2 c) / 27 / 27 / 27 < 2 ^ 31 := by omega
  match p, hp, step, stop with
  | 0, _, step, stop => rw [stop _ b0, g0]
  | 1, _, step, stop => rw [step 0 _ b0 (by omega), stop _ b1, g1]
  | 2, _, step, stop => rw [step 0 _ b0 (by omega), step 1 _ b1 (by omega), stop _ b2, g2]
  | 3, _, step, stop => rw [step 0 _ b0 (by omega), step 1 _ b1 (by omega), step 2 _ b2 (by omega), stop _ b3, g3]
theorem s_lettersOf (hR : stR S σ) (hb : bnd σ) (hc : c < σ.1) : ev (d + 2) 46 0 [some (.ref i), some (.int (nI c)), none, none] [] (hst h i S) = some (some (.int (nI (lts σ c))), hst h i S) := by
  have h3 := (hb.2 c hc).2.2.2.1
  have step : ∀ (k s : Nat), k < 4 → ev (d + 2) 46 4 [some (.ref i), some (.int (nI c)), some (.int (nI s)), some (.int (nI k))] [] (hst h i S) = ev (d + 2) 46 4 [some (.ref i), some (.int (nI c)), some (.int (nI (s + if decide (0 < σ.2 c (3 + k)) then 1 else 0))), some (.int (nI (k + 1)))] [] (hst h i S) := by
    intro k s hk
    have e2 : ((4 : Int32) ≤ nI k) = False := by rw [show (4 : Int32) = nI 4 from rfl, nI_lep (by omega) (by omega)]; exact eq_false (by omega)
    have h3k := h3 k hk
    rw [e46_4]
    simp only [e46_0, e46_1, e46_2, e46_3, e46_5, e46_6, e46_9, e46_10, e46_11, e46_12, e46_15, e46_16, e46_19, e46_22, e46_25, e46_28, e46_29, st_g0, st_g1, st_g2, st_g3, st_g4, st_g5, st_g6, st_g7, st_p6, st_p7, st_l0, st_l1, st_l2, st_l3, st_l4, st_l5, st_s0, st_s1, st_s2, st_s3, st_s4, st_s5, st_is, Option.bind_some, Option.toList_some, Option.toList_none, List.cons_append, List.nil_append, true_or, or_true, and_true, true_and, i10, Bool.false_eq_true, if_true, if_false, reduceIte, e2, s_letterAt hR hb hc hk, hI_m1 (show σ.2 c (3 + k) < 2147483648 by omega), nI_1]
    by_cases q : σ.2 c (3 + k) = 0
    · simp [q]
    · have q1 : 0 < σ.2 c (3 + k) := by omega
      simp [q, q1]
  have fin : ∀ s : Nat, ev (d + 2) 46 4 [some (.ref i), some (.int (nI c)), some (.int (nI s)), some (.int (nI 4))] [] (hst h i S) = some (some (.int (nI s)), hst h i S) := by
    intro s
    rw [e46_4]
    simp only [e46_0, e46_1, e46_2, e46_3, e46_5, e46_6, e46_9, e46_10, e46_11, e46_12, e46_15, e46_16, e46_19, e46_22, e46_25, e46_28, e46_29, st_g0, st_g1, st_g2, st_g3, st_g4, st_g5, st_g6, st_g7, st_p6, st_p7, st_l0, st_l1, st_l2, st_l3, st_l4, st_l5, st_s0, st_s1, st_s2, st_s3, st_s4, st_s5, st_is, Option.bind_some, Option.toList_some, Option.toList_none, List.cons_append, List.nil_append, true_or, or_true, and_true, true_and, i10, Bool.false_eq_true, if_true, if_false, reduceIte, show (4 : Int32) ≤ nI 4 from by decide]
  simp only [e46_0, e46_1, e46_2, e46_3, e46_5, e46_6, e46_9, e46_10, e46_11, e46_12, e46_15, e46_16, e46_19, e46_22, e46_25, e46_28, e46_29, st_g0, st_g1, st_g2, st_g3, st_g4, st_g5, st_g6, st_g7, st_p6, st_p7, st_l0, st_l1, st_l2, st_l3, st_l4, st_l5, st_s0, st_s1, st_s2, st_s3, st_s4, st_s5, st_is, Option.bind_some, Option.toList_some, Option.toList_none, List.cons_append, List.nil_append, true_or, or_true, and_true, true_and, i10, Bool.false_eq_true, if_true, if_false, reduceIte]
  have main := z_for (fun (k : Nat) (s : Nat) => ev (d + 2) 46 4 [some (.ref i), some (.int (nI c)), some (.int (nI s)), some (.int (nI k))] [] (hst h i S)) (fun (k : Nat) (s : Nat) => s + if decide (0 < σ.2 c (3 + k)) then 1 else 0) (n := 4) (s := 0) (fun k s hk => step k s hk)
  rw [zfold_ct, fin, Nat.zero_add] at main
  exact main
/-! what is open -/
theorem s_open1 (hR : stR S σ) (hb : bnd σ) : ∀ (f s u o : Nat), s + f = 12 → u ≤ σ.1 → o < 16 → ∃ o', o' < 16 ∧ (∀ p, o'.testBit p = (o.testBit p && (chu σ f u).all fun a => (σ.2 a 2).testBit p)) ∧ ev (d + 2) 84 12 [some (.ref i), some (.int (nI c)), some (.int (nI o)), some (.int (hI u)), some (.int (nI s))] [] (hst h i S) = some (some (.int (nI o')), hst h i S) := by
  intro f
  have hn := hb.1
  induction f with
  | zero =>
    intro s u o hs hu ho
    have e12 : (12 : Int32) ≤ nI s := by rw [show (12 : Int32) = nI 12 from rfl, nI_lep (by omega) (by omega)]; omega
    refine ⟨o, ho, fun p => by simp [chu], ?_⟩
    rw [e84_12]
    simp only [e84_0, e84_2, e84_3, e84_4, e84_5, e84_8, e84_9, e84_10, e84_14, e84_16, e84_19, e84_20, e84_21, e84_24, e84_25, e84_26, e84_27, e84_30, e84_31, e84_32, e84_33, e84_34, e84_37, e84_38, e84_41, e84_44, e84_45, st_g0, st_g1, st_g2, st_g3, st_g4, st_g5, st_g6, st_g7, st_p6, st_p7, st_l0, st_l1, st_l2, st_l3, st_l4, st_l5, st_s0, st_s1, st_s2, st_s3, st_s4, st_s5, st_is, Option.bind_some, Option.toList_some, Option.toList_none, List.cons_append, List.nil_append, true_or, or_true, and_true, true_and, i10, Bool.false_eq_true, if_true, if_false, reduceIte, e12]
  | succ f ih =>
    intro s u o hs hu ho
    have e12 : ((12 : Int32) ≤ nI s) = False := by rw [show (12 : Int32) = nI 12 from rfl, nI_lep (by omega) (by omega)]; exact eq_false (by omega)
    cases u with
    | zero =>
      refine ⟨o, ho, fun p => by simp [chu], ?_⟩
      rw [e84_12]
      simp only [e84_0, e84_2, e84_3, e84_4, e84_5, e84_8, e84_9, e84_10, e84_14, e84_16, e84_19, e84_20, e84_21, e84_24, e84_25, e84_26, e84_27, e84_30, e84_31, e84_32, e84_33, e84_34, e84_37, e84_38, e84_41, e84_44, e84_45, st_g0, st_g1, st_g2, st_g3, st_g4, st_g5, st_g6, st_g7, st_p6, st_p7, st_l0, st_l1, st_l2, st_l3, st_l4, st_l5, st_s0, st_s1, st_s2, st_s3, st_s4, st_s5, st_is, Option.bind_some, Option.toList_some, Option.toList_none, List.cons_append, List.nil_append, true_or, or_true, and_true, true_and, i10, Bool.false_eq_true, if_true, if_false, reduceIte, hI_m1 (show 0 < 2147483648 by omega), e12]
    | succ k =>
      have h7 := (hb.2 k (by omega)).2.2.2.2.1
      have h2 := (hb.2 k (by omega)).2.2.1
      have hle : o &&& σ.2 k 2 < 16 := Nat.lt_of_le_of_lt Nat.and_le_left ho
      obtain ⟨o', g1, g2, g3⟩ := ih (s + 1) (σ.2 k 7) (o &&& σ.2 k 2) (by omega) h7 hle
      refine ⟨o', g1, fun p => ?_, ?_⟩
      · rw [g2 p, Nat.testBit_and, chu, List.all_cons, Bool.and_assoc]
      · rw [e84_12]
        simp only [e84_0, e84_2, e84_3, e84_4, e84_5, e84_8, e84_9, e84_10, e84_14, e84_16, e84_19, e84_20, e84_21, e84_24, e84_25, e84_26, e84_27, e84_30, e84_31, e84_32, e84_33, e84_34, e84_37, e84_38, e84_41, e84_44, e84_45, st_g0, st_g1, st_g2, st_g3, st_g4, st_g5, st_g6, st_g7, st_p6, st_p7, st_l0, st_l1, st_l2, st_l3, st_l4, st_l5, st_s0, st_s1, st_s2, st_s3, st_s4, st_s5, st_is, Option.bind_some, Option.toList_some, Option.toList_none, List.cons_append, List.nil_append, true_or, or_true, and_true, true_and, i10, Bool.false_eq_true, if_true, if_false, reduceIte, nI_m1 (show k < 2147483648 by omega), e12, hI_s, s_holderOf hR hb (show k < σ.1 by omega), s_gapsOf hR hb (show k < σ.1 by omega), z_and, nI_1]
        exact g3
theorem s_openAround (hR : stR S σ) (hb : bnd σ) (hc : c < σ.1) : ∃ o, o < 16 ∧ (∀ p, p < 4 → o.testBit p = opn σ c p) ∧ ev (d + 2) 84 0 [some (.ref i), some (.int (nI c)), none, none, none] [] (hst h i S) = some (some (.int (nI o)), hst h i S) := by
  obtain ⟨o, g1, g2, g3⟩ := s_open1 (d := d) (h := h) (i := i) (c := c) hR hb 12 0 (σ.2 c 7) 15 rfl (hb.2 c hc).2.2.2.2.1 (by decide)
  refine ⟨o, g1, fun p hp => ?_, ?_⟩
  · rw [g2 p]
    have : (15 : Nat).testBit p = true := by
      match p, hp with
      | 0, _ => rfl
      | 1, _ => rfl
      | 2, _ => rfl
      | 3, _ => rfl
    rw [this, Bool.true_and]
    rfl
  · simp only [e84_0, e84_2, e84_3, e84_4, e84_5, e84_8, e84_9, e84_10, e84_14, e84_16, e84_19, e84_20, e84_21, e84_24, e84_25, e84_26, e84_27, e84_30, e84_31, e84_32, e84_33, e84_34, e84_37, e84_38, e84_41, e84_44, e84_45, st_g0, st_g1, st_g2, st_g3, st_g4, st_g5, st_g6, st_g7, st_p6, st_p7, st_l0, st_l1, st_l2, st_l3, st_l4, st_l5, st_s0, st_s1, st_s2, st_s3, st_s4, st_s5, st_is, Option.bind_some, Option.toList_some, Option.toList_none, List.cons_append, List.nil_append, true_or, or_true, and_true, true_and, i10, Bool.false_eq_true, if_true, if_false, reduceIte, s_holderOf hR hb hc]
    exact g3
end SIGNS
