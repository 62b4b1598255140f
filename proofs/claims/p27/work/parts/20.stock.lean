theorem nI_m1 {k : Nat} (hk : k < 2147483648) : (nI k = -1) = False := by
  refine eq_false (fun h => ?_)
  have := congrArg Int32.toInt h
  rw [nI_toInt (by omega)] at this
  have e : Int32.toInt (-1) = -1 := by decide
  rw [e] at this
  omega
theorem bI_congr {p q : Prop} [Decidable p] [Decidable q] (h : p ↔ q) : bI p = bI q := by
  unfold bI
  by_cases hp : p
  · rw [if_pos hp, if_pos (h.mp hp)]
  · rw [if_neg hp, if_neg (fun z => hp (h.mpr z))]
/-- the depth, the load, what is left, what lies above -/
def dpt (σ : mS) (c : Nat) : Nat := (chn σ c).length
def lod (σ : mS) (c : Nat) : Nat := ct (fun d => decide (c ∈ chn σ d)) σ.1
def lft (σ : mS) (c : Nat) : Int := (σ.2 c 1 : Int) - (pis σ c : Int)
def abv (σ : mS) (c : Nat) : Int := match σ.2 c 7 with
  | 0 => 0
  | k + 1 => (pil σ k : Int) - 1 - (σ.2 c 8 : Int)
theorem ct_le (p : Nat → Bool) : ∀ n, ct p n ≤ n
  | 0 => Nat.le_refl 0
  | n + 1 => by
    have := ct_le p n
    rw [ct]
    split <;> omega
theorem sm_le {f : Nat → Nat} {m : Nat} : ∀ {n : Nat}, (∀ k, k < n → f k ≤ m) → sm f n ≤ n * m
  | 0, _ => by simp [sm]
  | n + 1, h => by
    have h1 := sm_le (n := n) (fun k hk => h k (by omega))
    have h2 := h n (by omega)
    rw [sm, Nat.succ_mul]
    omega
theorem pis_le {σ : mS} {c : Nat} (hb : bnd σ) : pis σ c ≤ 720 := by
  have h1 : pis σ c ≤ σ.1 * 60 := sm_le (fun k hk => by
    have := (hb.2 k hk).1
    split <;> omega)
  have := hb.1
  omega
theorem pil_le {σ : mS} {c : Nat} (hb : bnd σ) : pil σ c ≤ 12 := Nat.le_trans (ct_le _ _) hb.1
theorem lft_b {σ : mS} {c : Nat} (hb : bnd σ) (hc : c < σ.1) : -720 ≤ lft σ c ∧ lft σ c ≤ 60 := by
  have h1 := pis_le (c := c) hb
  have h2 := (hb.2 c hc).2.1
  unfold lft
  omega
theorem abv_b {σ : mS} {c : Nat} (hb : bnd σ) (hc : c < σ.1) : -13 ≤ abv σ c ∧ abv σ c ≤ 11 := by
  have h2 := (hb.2 c hc).2.2.2.2.2
  unfold abv
  split
  · omega
  · rename_i k hk
    have h1 := pil_le (c := k) hb
    omega
section STOCK
variable {d : Nat} {h : zH} {i : Nat} {S : oS} {σ : mS} {c : Nat}
theorem s_depth1 (hR : stR S σ) (hb : bnd σ) : ∀ (f s u : Nat), s + f = 12 → u ≤ σ.1 → ev (d + 2) 48 8 [some (.ref i), some (.int (nI c)), some (.int (nI s)), some (.int (hI u))] [] (hst h i S) = some (some (.int (nI (s + (chu σ f u).length))), hst h i S) := by
  intro f
  induction f with
  | zero =>
    intro s u hs hu
    have hn := hb.1
    have e12 : (12 : Int32) ≤ nI s := by rw [show (12 : Int32) = nI 12 from rfl, nI_lep (by omega) (by omega)]; omega
    rw [e48_8]
    simp only [e48_0, e48_1, e48_2, e48_3, e48_4, e48_7, e48_9, e48_10, e48_13, e48_14, e48_16, e48_19, e48_22, e48_23, e48_24, e48_27, e48_28, e48_31, e48_32, st_g0, st_g1, st_g2, st_g3, st_g4, st_g5, st_g6, st_g7, st_p6, st_p7, st_l0, st_l1, st_l2, st_l3, st_l4, st_l5, st_s0, st_s1, st_s2, st_s3, st_s4, st_s5, st_is, Option.bind_some, Option.toList_some, Option.toList_none, List.cons_append, List.nil_append, true_or, or_true, and_true, true_and, i10, Bool.false_eq_true, if_true, if_false, reduceIte, hI_m1 (show u < 2147483648 by omega), e12, chu, List.length_nil, Nat.add_zero, ite_self]
  | succ f ih =>
    intro s u hs hu
    have hn := hb.1
    have e12 : ((12 : Int32) ≤ nI s) = False := by rw [show (12 : Int32) = nI 12 from rfl, nI_lep (by omega) (by omega)]; exact eq_false (by omega)
    rw [e48_8]
    cases u with
    | zero => simp only [e48_0, e48_1, e48_2, e48_3, e48_4, e48_7, e48_9, e48_10, e48_13, e48_14, e48_16, e48_19, e48_22, e48_23, e48_24, e48_27, e48_28, e48_31, e48_32, st_g0, st_g1, st_g2, st_g3, st_g4, st_g5, st_g6, st_g7, st_p6, st_p7, st_l0, st_l1, st_l2, st_l3, st_l4, st_l5, st_s0, st_s1, st_s2, st_s3, st_s4, st_s5, st_is, Option.bind_some, Option.toList_some, Option.toList_none, List.cons_append, List.nil_append, true_or, or_true, and_true, true_and, i10, Bool.false_eq_true, if_true, if_false, reduceIte, hI_m1 (show 0 < 2147483648 by omega), chu, List.length_nil, Nat.add_zero]
    | succ k =>
      have h7 := (hb.2 k (by omega)).2.2.2.2.1
      have hne : (k + 1 = 0) = False := eq_false (by omega)
      simp only [e48_0, e48_1, e48_2, e48_3, e48_4, e48_7, e48_9, e48_10, e48_13, e48_14, e48_16, e48_19, e48_22, e48_23, e48_24, e48_27, e48_28, e48_31, e48_32, st_g0, st_g1, st_g2, st_g3, st_g4, st_g5, st_g6, st_g7, st_p6, st_p7, st_l0, st_l1, st_l2, st_l3, st_l4, st_l5, st_s0, st_s1, st_s2, st_s3, st_s4, st_s5, st_is, Option.bind_some, Option.toList_some, Option.toList_none, List.cons_append, List.nil_append, true_or, or_true, and_true, true_and, i10, Bool.false_eq_true, if_true, if_false, reduceIte, nI_m1 (show k < 2147483648 by omega), e12, hI_s, s_holderOf hR hb (show k < σ.1 by omega), nI_1]
      rw [ih (s + 1) (σ.2 k 7) (by omega) h7]
      rw [chu, List.length_cons, show s + 1 + (chu σ f (σ.2 k 7)).length = s + ((chu σ f (σ.2 k 7)).length + 1) by omega]
theorem s_depthOf (hR : stR S σ) (hb : bnd σ) (hc : c < σ.1) : ev (d + 2) 48 0 [some (.ref i), some (.int (nI c)), none, none] [] (hst h i S) = some (some (.int (nI (dpt σ c))), hst h i S) := by
  simp only [e48_0, e48_1, e48_2, e48_3, e48_4, e48_7, e48_9, e48_10, e48_13, e48_14, e48_16, e48_19, e48_22, e48_23, e48_24, e48_27, e48_28, e48_31, e48_32, st_g0, st_g1, st_g2, st_g3, st_g4, st_g5, st_g6, st_g7, st_p6, st_p7, st_l0, st_l1, st_l2, st_l3, st_l4, st_l5, st_s0, st_s1, st_s2, st_s3, st_s4, st_s5, st_is, Option.bind_some, Option.toList_some, Option.toList_none, List.cons_append, List.nil_append, true_or, or_true, and_true, true_and, i10, Bool.false_eq_true, if_true, if_false, reduceIte, s_holderOf hR hb hc]
  have := s_depth1 (d := d) (h := h) (i := i) (c := c) hR hb 12 0 (σ.2 c 7) rfl (hb.2 c hc).2.2.2.2.1
  rw [Nat.zero_add] at this
  exact this
theorem s_around1 (hR : stR S σ) (hb : bnd σ) {o x : Nat} (ho : o < σ.1) : ∀ (f s u : Nat), s + f = 12 → u ≤ σ.1 → ev (d + 2) 49 9 [some (.ref i), some (.int (nI o)), some (.int (nI x)), some (.int (hI u)), some (.int (nI s))] [] (hst h i S) = some (some (.int (bI (o ∈ chu σ f u))), hst h i S) := by
  intro f
  induction f with
  | zero =>
    intro s u hs hu
    have hn := hb.1
    have e12 : (12 : Int32) ≤ nI s := by rw [show (12 : Int32) = nI 12 from rfl, nI_lep (by omega) (by omega)]; omega
    rw [e49_9]
    simp only [e49_0, e49_1, e49_2, e49_5, e49_6, e49_7, e49_11, e49_13, e49_16, e49_17, e49_18, e49_21, e49_22, e49_23, e49_26, e49_27, e49_28, e49_29, e49_30, e49_33, e49_34, e49_37, e49_40, e49_41, st_g0, st_g1, st_g2, st_g3, st_g4, st_g5, st_g6, st_g7, st_p6, st_p7, st_l0, st_l1, st_l2, st_l3, st_l4, st_l5, st_s0, st_s1, st_s2, st_s3, st_s4, st_s5, st_is, Option.bind_some, Option.toList_some, Option.toList_none, List.cons_append, List.nil_append, true_or, or_true, and_true, true_and, i10, Bool.false_eq_true, if_true, if_false, reduceIte, e12, chu, bI, List.not_mem_nil]
  | succ f ih =>
    intro s u hs hu
    have hn := hb.1
    have e12 : ((12 : Int32) ≤ nI s) = False := by rw [show (12 : Int32) = nI 12 from rfl, nI_lep (by omega) (by omega)]; exact eq_false (by omega)
    rw [e49_9]
    cases u with
    | zero => simp only [e49_0, e49_1, e49_2, e49_5, e49_6, e49_7, e49_11, e49_13, e49_16, e49_17, e49_18, e49_21, e49_22, e49_23, e49_26, e49_27, e49_28, e49_29, e49_30, e49_33, e49_34, e49_37, e49_40, e49_41, st_g0, st_g1, st_g2, st_g3, st_g4, st_g5, st_g6, st_g7, st_p6, st_p7, st_l0, st_l1, st_l2, st_l3, st_l4, st_l5, st_s0, st_s1, st_s2, st_s3, st_s4, st_s5, st_is, Option.bind_some, Option.toList_some, Option.toList_none, List.cons_append, List.nil_append, true_or, or_true, and_true, true_and, i10, Bool.false_eq_true, if_true, if_false, reduceIte, hI_m1 (show 0 < 2147483648 by omega), e12, chu, bI, List.not_mem_nil]
    | succ k =>
      have h7 := (hb.2 k (by omega)).2.2.2.2.1
      have hne : (k + 1 = 0) = False := eq_false (by omega)
      simp only [e49_0, e49_1, e49_2, e49_5, e49_6, e49_7, e49_11, e49_13, e49_16, e49_17, e49_18, e49_21, e49_22, e49_23, e49_26, e49_27, e49_28, e49_29, e49_30, e49_33, e49_34, e49_37, e49_40, e49_41, st_g0, st_g1, st_g2, st_g3, st_g4, st_g5, st_g6, st_g7, st_p6, st_p7, st_l0, st_l1, st_l2, st_l3, st_l4, st_l5, st_s0, st_s1, st_s2, st_s3, st_s4, st_s5, st_is, Option.bind_some, Option.toList_some, Option.toList_none, List.cons_append, List.nil_append, true_or, or_true, and_true, true_and, i10, Bool.false_eq_true, if_true, if_false, reduceIte, nI_m1 (show k < 2147483648 by omega), e12, hI_s, nI_eqp (show k < 2147483648 by omega) (show o < 2147483648 by omega), s_holderOf hR hb (show k < σ.1 by omega), nI_1]
      by_cases q : k = o
      · subst q
        simp only [Option.bind_some, Option.toList_some, Option.toList_none, List.cons_append, List.nil_append, true_or, or_true, and_true, true_and, i10, Bool.false_eq_true, if_true, if_false, reduceIte, chu, bI, List.mem_cons]
      · rw [if_neg q, ih (s + 1) (σ.2 k 7) (by omega) h7]
        rw [bI_congr (p := o ∈ chu σ (f + 1) (k + 1)) (q := o ∈ chu σ f (σ.2 k 7)) (by rw [chu, List.mem_cons]; exact ⟨fun z => z.resolve_left (fun w => q w.symm), Or.inr⟩)]
theorem s_isAround (hR : stR S σ) (hb : bnd σ) {o : Nat} (ho : o < σ.1) (hc : c < σ.1) : ev (d + 2) 49 0 [some (.ref i), some (.int (nI o)), some (.int (nI c)), none, none] [] (hst h i S) = some (some (.int (bI (o ∈ chn σ c))), hst h i S) := by
  simp only [e49_0, e49_1, e49_2, e49_5, e49_6, e49_7, e49_11, e49_13, e49_16, e49_17, e49_18, e49_21, e49_22, e49_23, e49_26, e49_27, e49_28, e49_29, e49_30, e49_33, e49_34, e49_37, e49_40, e49_41, st_g0, st_g1, st_g2, st_g3, st_g4, st_g5, st_g6, st_g7, st_p6, st_p7, st_l0, st_l1, st_l2, st_l3, st_l4, st_l5, st_s0, st_s1, st_s2, st_s3, st_s4, st_s5, st_is, Option.bind_some, Option.toList_some, Option.toList_none, List.cons_append, List.nil_append, true_or, or_true, and_true, true_and, i10, Bool.false_eq_true, if_true, if_false, reduceIte, s_holderOf hR hb hc]
  exact s_around1 hR hb ho 12 0 (σ.2 c 7) rfl (hb.2 c hc).2.2.2.2.1
theorem s_loadOf (hR : stR S σ) (hb : bnd σ) (hc : c < σ.1) : ev (d + 3) 52 0 [some (.ref i), some (.int (nI c)), none, none] [] (hst h i S) = some (some (.int (nI (lod σ c))), hst h i S) := by
  have hn := hb.1
  have h0 := hR.1
  have step : ∀ (k : Nat) (s : Nat), k < σ.1 → ev (d + 3) 52 4 [some (.ref i), some (.int (nI c)), some (.int (nI s)), some (.int (nI k))] [] (hst h i S) = ev (d + 3) 52 4 [some (.ref i), some (.int (nI c)), some (.int (nI (s + if decide (c ∈ chn σ k) then 1 else 0))), some (.int (nI (k + 1)))] [] (hst h i S) := by
    intro k s hk
    have hlt : (σ.1 ≤ k) = False := eq_false (by omega)
    rw [e52_4]
    simp only [e52_0, e52_1, e52_2, e52_3, e52_5, e52_6, e52_9, e52_12, e52_13, e52_14, e52_15, e52_18, e52_21, e52_24, e52_27, e52_30, e52_31, st_g0, st_g1, st_g2, st_g3, st_g4, st_g5, st_g6, st_g7, st_p6, st_p7, st_l0, st_l1, st_l2, st_l3, st_l4, st_l5, st_s0, st_s1, st_s2, st_s3, st_s4, st_s5, st_is, Option.bind_some, Option.toList_some, Option.toList_none, List.cons_append, List.nil_append, true_or, or_true, and_true, true_and, i10, Bool.false_eq_true, if_true, if_false, reduceIte, h0, nI_lep (show σ.1 < 2147483648 by omega) (show k < 2147483648 by omega), hlt, nI_1, s_isAround hR hb hc hk, bI_0]
    by_cases q : c ∈ chn σ k <;> simp [q]
  have fin : ∀ s : Nat, ev (d + 3) 52 4 [some (.ref i), some (.int (nI c)), some (.int (nI s)), some (.int (nI σ.1))] [] (hst h i S) = some (some (.int (nI s)), hst h i S) := by
    intro s
    rw [e52_4]
    simp only [e52_0, e52_1, e52_2, e52_3, e52_5, e52_6, e52_9, e52_12, e52_13, e52_14, e52_15, e52_18, e52_21, e52_24, e52_27, e52_30, e52_31, st_g0, st_g1, st_g2, st_g3, st_g4, st_g5, st_g6, st_g7, st_p6, st_p7, st_l0, st_l1, st_l2, st_l3, st_l4, st_l5, st_s0, st_s1, st_s2, st_s3, st_s4, st_s5, st_is, Option.bind_some, Option.toList_some, Option.toList_none, List.cons_append, List.nil_append, true_or, or_true, and_true, true_and, i10, Bool.false_eq_true, if_true, if_false, reduceIte, h0, Int32.le_refl]
  simp only [e52_0, e52_1, e52_2, e52_3, e52_5, e52_6, e52_9, e52_12, e52_13, e52_14, e52_15, e52_18, e52_21, e52_24, e52_27, e52_30, e52_31, st_g0, st_g1, st_g2, st_g3, st_g4, st_g5, st_g6, st_g7, st_p6, st_p7, st_l0, st_l1, st_l2, st_l3, st_l4, st_l5, st_s0, st_s1, st_s2, st_s3, st_s4, st_s5, st_is, Option.bind_some, Option.toList_some, Option.toList_none, List.cons_append, List.nil_append, true_or, or_true, and_true, true_and, i10, Bool.false_eq_true, if_true, if_false, reduceIte, h0]
  have main := z_for (fun (k : Nat) (s : Nat) => ev (d + 3) 52 4 [some (.ref i), some (.int (nI c)), some (.int (nI s)), some (.int (nI k))] [] (hst h i S)) (fun (k : Nat) (s : Nat) => s + if decide (c ∈ chn σ k) then 1 else 0) (n := σ.1) (s := 0) (fun k s hk => step k s hk)
  rw [zfold_ct, Nat.zero_add, fin] at main
  exact main
theorem s_onGround (hR : stR S σ) (hb : bnd σ)  : ev (d + 3) 60 0 [some (.ref i), none, none] [] (hst h i S) = some (some (.int (nI (ct (fun c => decide (σ.2 c 7 = 0)) σ.1))), hst h i S) := by
  have hn := hb.1
  have h0 := hR.1
  have step : ∀ (k : Nat) (s : Nat), k < σ.1 → ev (d + 3) 60 4 [some (.ref i), some (.int (nI s)), some (.int (nI k))] [] (hst h i S) = ev (d + 3) 60 4 [some (.ref i), some (.int (nI (s + if decide (σ.2 k 7 = 0) then 1 else 0))), some (.int (nI (k + 1)))] [] (hst h i S) := by
    intro k s hk
    have hlt : (σ.1 ≤ k) = False := eq_false (by omega)
    rw [e60_4]
    simp only [e60_0, e60_1, e60_2, e60_3, e60_5, e60_6, e60_9, e60_12, e60_13, e60_14, e60_17, e60_20, e60_23, e60_26, e60_29, e60_30, st_g0, st_g1, st_g2, st_g3, st_g4, st_g5, st_g6, st_g7, st_p6, st_p7, st_l0, st_l1, st_l2, st_l3, st_l4, st_l5, st_s0, st_s1, st_s2, st_s3, st_s4, st_s5, st_is, Option.bind_some, Option.toList_some, Option.toList_none, List.cons_append, List.nil_append, true_or, or_true, and_true, true_and, i10, Bool.false_eq_true, if_true, if_false, reduceIte, h0, nI_lep (show σ.1 < 2147483648 by omega) (show k < 2147483648 by omega), hlt, nI_1, s_isOnGround hR hb hk, bI_0]
    by_cases q : σ.2 k 7 = 0 <;> simp [q]
  have fin : ∀ s : Nat, ev (d + 3) 60 4 [some (.ref i), some (.int (nI s)), some (.int (nI σ.1))] [] (hst h i S) = some (some (.int (nI s)), hst h i S) := by
    intro s
    rw [e60_4]
    simp only [e60_0, e60_1, e60_2, e60_3, e60_5, e60_6, e60_9, e60_12, e60_13, e60_14, e60_17, e60_20, e60_23, e60_26, e60_29, e60_30, st_g0, st_g1, st_g2, st_g3, st_g4, st_g5, st_g6, st_g7, st_p6, st_p7, st_l0, st_l1, st_l2, st_l3, st_l4, st_l5, st_s0, st_s1, st_s2, st_s3, st_s4, st_s5, st_is, Option.bind_some, Option.toList_some, Option.toList_none, List.cons_append, List.nil_append, true_or, or_true, and_true, true_and, i10, Bool.false_eq_true, if_true, if_false, reduceIte, h0, Int32.le_refl]
  simp only [e60_0, e60_1, e60_2, e60_3, e60_5, e60_6, e60_9, e60_12, e60_13, e60_14, e60_17, e60_20, e60_23, e60_26, e60_29, e60_30, st_g0, st_g1, st_g2, st_g3, st_g4, st_g5, st_g6, st_g7, st_p6, st_p7, st_l0, st_l1, st_l2, st_l3, st_l4, st_l5, st_s0, st_s1, st_s2, st_s3, st_s4, st_s5, st_is, Option.bind_some, Option.toList_some, Option.toList_none, List.cons_append, List.nil_append, true_or, or_true, and_true, true_and, i10, Bool.false_eq_true, if_true, if_false, reduceIte, h0]
  have main := z_for (fun (k : Nat) (s : Nat) => ev (d + 3) 60 4 [some (.ref i), some (.int (nI s)), some (.int (nI k))] [] (hst h i S)) (fun (k : Nat) (s : Nat) => s + if decide (σ.2 k 7 = 0) then 1 else 0) (n := σ.1) (s := 0) (fun k s hk => step k s hk)
  rw [zfold_ct, Nat.zero_add, fin] at main
  exact main
theorem s_roomLeftIn (hR : stR S σ) (hb : bnd σ) (hc : c < σ.1) : ev (d + 2) 53 0 [some (.ref i), some (.int (nI c)), none, none] [] (hst h i S) = some (some (.int (iI (lft σ c))), hst h i S) := by
  have hn := hb.1
  have h0 := hR.1
  have step : ∀ (k : Nat) (s : Nat), k < σ.1 → ev (d + 2) 53 8 [some (.ref i), some (.int (nI c)), some (.int (iI ((σ.2 c 1 : Int) - (s : Nat)))), some (.int (nI k))] [] (hst h i S) = ev (d + 2) 53 8 [some (.ref i), some (.int (nI c)), some (.int (iI ((σ.2 c 1 : Int) - ((s + if σ.2 k 7 = c + 1 then σ.2 k 0 else 0) : Nat)))), some (.int (nI (k + 1)))] [] (hst h i S) := by
    intro k s hk
    have hlt : (σ.1 ≤ k) = False := eq_false (by omega)
    obtain ⟨a0, a1, a2, a3, a4, a5⟩ := hR.2 k hk
    have h7 := (hb.2 k hk).2.2.2.2.1
    rw [e53_8]
    simp only [e53_0, e53_1, e53_2, e53_5, e53_6, e53_7, e53_9, e53_10, e53_13, e53_16, e53_17, e53_20, e53_21, e53_22, e53_23, e53_26, e53_27, e53_28, e53_31, e53_32, e53_33, e53_34, e53_35, e53_38, e53_41, e53_42, st_g0, st_g1, st_g2, st_g3, st_g4, st_g5, st_g6, st_g7, st_p6, st_p7, st_l0, st_l1, st_l2, st_l3, st_l4, st_l5, st_s0, st_s1, st_s2, st_s3, st_s4, st_s5, st_is, Option.bind_some, Option.toList_some, Option.toList_none, List.cons_append, List.nil_append, true_or, or_true, and_true, true_and, i10, Bool.false_eq_true, if_true, if_false, reduceIte, h0, nI_lep (show σ.1 < 2147483648 by omega) (show k < 2147483648 by omega), hlt, nI_1, zrd_nI (show k < 12 by omega) (by decide), a0, a4, hI_eq (show σ.2 k 7 < 2147483648 by omega) (show c < 2147483648 by omega)]
    by_cases q : σ.2 k 7 = c + 1
    · simp only [q, iI_nat, iI_sub, Option.bind_some, Option.toList_some, Option.toList_none, List.cons_append, List.nil_append, true_or, or_true, and_true, true_and, i10, Bool.false_eq_true, if_true, if_false, reduceIte, Int.natCast_add, Int.sub_sub]
    · simp only [q, Option.bind_some, Option.toList_some, Option.toList_none, List.cons_append, List.nil_append, true_or, or_true, and_true, true_and, i10, Bool.false_eq_true, if_true, if_false, reduceIte, Nat.add_zero]
  have fin : ∀ s : Nat, ev (d + 2) 53 8 [some (.ref i), some (.int (nI c)), some (.int (iI ((σ.2 c 1 : Int) - (s : Nat)))), some (.int (nI σ.1))] [] (hst h i S) = some (some (.int (iI ((σ.2 c 1 : Int) - (s : Nat)))), hst h i S) := by
    intro s
    rw [e53_8]
    simp only [e53_0, e53_1, e53_2, e53_5, e53_6, e53_7, e53_9, e53_10, e53_13, e53_16, e53_17, e53_20, e53_21, e53_22, e53_23, e53_26, e53_27, e53_28, e53_31, e53_32, e53_33, e53_34, e53_35, e53_38, e53_41, e53_42, st_g0, st_g1, st_g2, st_g3, st_g4, st_g5, st_g6, st_g7, st_p6, st_p7, st_l0, st_l1, st_l2, st_l3, st_l4, st_l5, st_s0, st_s1, st_s2, st_s3, st_s4, st_s5, st_is, Option.bind_some, Option.toList_some, Option.toList_none, List.cons_append, List.nil_append, true_or, or_true, and_true, true_and, i10, Bool.false_eq_true, if_true, if_false, reduceIte, h0, Int32.le_refl]
  simp only [e53_0, e53_1, e53_2, e53_5, e53_6, e53_7, e53_9, e53_10, e53_13, e53_16, e53_17, e53_20, e53_21, e53_22, e53_23, e53_26, e53_27, e53_28, e53_31, e53_32, e53_33, e53_34, e53_35, e53_38, e53_41, e53_42, st_g0, st_g1, st_g2, st_g3, st_g4, st_g5, st_g6, st_g7, st_p6, st_p7, st_l0, st_l1, st_l2, st_l3, st_l4, st_l5, st_s0, st_s1, st_s2, st_s3, st_s4, st_s5, st_is, Option.bind_some, Option.toList_some, Option.toList_none, List.cons_append, List.nil_append, true_or, or_true, and_true, true_and, i10, Bool.false_eq_true, if_true, if_false, reduceIte, h0, s_roomOf hR hb hc]
  have main := z_for (fun (k : Nat) (s : Nat) => ev (d + 2) 53 8 [some (.ref i), some (.int (nI c)), some (.int (iI ((σ.2 c 1 : Int) - (s : Nat)))), some (.int (nI k))] [] (hst h i S)) (fun (k : Nat) (s : Nat) => s + if σ.2 k 7 = c + 1 then σ.2 k 0 else 0) (n := σ.1) (s := 0) (fun k s hk => step k s hk)
  rw [zfold_sm, Nat.zero_add, fin] at main
  rw [iI_nat]
  have e0 : ((σ.2 c 1 : Int) - ((0 : Nat) : Int)) = (σ.2 c 1 : Int) := by omega
  rw [e0] at main
  exact main
theorem s_above (hR : stR S σ) (hb : bnd σ) (hc : c < σ.1) : ev (d + 3) 54 0 [some (.ref i), some (.int (nI c))] [] (hst h i S) = some (some (.int (iI (abv σ c))), hst h i S) := by
  have hn := hb.1
  have h7 := (hb.2 c hc).2.2.2.2.1
  simp only [e54_0, e54_1, e54_2, e54_5, e54_8, e54_9, e54_12, e54_13, e54_14, e54_15, e54_18, e54_21, e54_22, e54_23, e54_24, e54_25, e54_28, e54_29, st_g0, st_g1, st_g2, st_g3, st_g4, st_g5, st_g6, st_g7, st_p6, st_p7, st_l0, st_l1, st_l2, st_l3, st_l4, st_l5, st_s0, st_s1, st_s2, st_s3, st_s4, st_s5, st_is, Option.bind_some, Option.toList_some, Option.toList_none, List.cons_append, List.nil_append, true_or, or_true, and_true, true_and, i10, Bool.false_eq_true, if_true, if_false, reduceIte, s_isOnGround hR hb hc, bI_0, s_holderOf hR hb hc]
  unfold abv
  cases q : σ.2 c 7 with
  | zero => simp only [Option.bind_some, Option.toList_some, Option.toList_none, List.cons_append, List.nil_append, true_or, or_true, and_true, true_and, i10, Bool.false_eq_true, if_true, if_false, reduceIte, not_true_eq_false]; rfl
  | succ k =>
    have hne : (k + 1 = 0) = False := eq_false (by omega)
    simp only [hne, Option.bind_some, Option.toList_some, Option.toList_none, List.cons_append, List.nil_append, true_or, or_true, and_true, true_and, i10, Bool.false_eq_true, if_true, if_false, reduceIte, not_false_eq_true, hI_s, s_pileOf hR hb (show k < σ.1 by omega), s_placeOf hR hb hc, e54_0, e54_1, e54_2, e54_5, e54_8, e54_9, e54_12, e54_13, e54_14, e54_15, e54_18, e54_21, e54_22, e54_23, e54_24, e54_25, e54_28, e54_29, st_g0, st_g1, st_g2, st_g3, st_g4, st_g5, st_g6, st_g7, st_p6, st_p7, st_l0, st_l1, st_l2, st_l3, st_l4, st_l5, st_s0, st_s1, st_s2, st_s3, st_s4, st_s5, st_is]
    rw [show (1 : Int32) = nI 1 from rfl, iI_nat, iI_nat, iI_nat, iI_sub, iI_sub]
    rfl
theorem s_isLoose (hR : stR S σ) (hb : bnd σ) (hc : c < σ.1) : ev (d + 3) 55 0 [some (.ref i), some (.int (nI c))] [] (hst h i S) = some (some (.int (bI (σ.2 c 7 = 0 ∧ pil σ c = 0))), hst h i S) := by
  have hp := pil_le (c := c) hb
  have h0 : (nI (pil σ c) = 0) = (pil σ c = 0) := nI_eqp (b := 0) (by omega) (by omega)
  simp only [e55_0, e55_1, e55_2, e55_5, e55_8, e55_9, e55_10, e55_13, e55_16, e55_17, e55_20, e55_21, st_g0, st_g1, st_g2, st_g3, st_g4, st_g5, st_g6, st_g7, st_p6, st_p7, st_l0, st_l1, st_l2, st_l3, st_l4, st_l5, st_s0, st_s1, st_s2, st_s3, st_s4, st_s5, st_is, Option.bind_some, Option.toList_some, Option.toList_none, List.cons_append, List.nil_append, true_or, or_true, and_true, true_and, i10, Bool.false_eq_true, if_true, if_false, reduceIte, s_isOnGround hR hb hc, bI_0, s_pileOf hR hb hc, h0]
  by_cases q1 : σ.2 c 7 = 0 <;> by_cases q2 : pil σ c = 0 <;> simp [q1, q2, bI]
end STOCK
