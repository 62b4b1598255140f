/-! REASONS, EFFORTS, SUMS -/
/-- why c can't be put into x -/
def rpt (σ : mS) (c x : Nat) : Nat := if tpb σ c = false then 1 else if c = x ∨ c ∈ chn σ x then 2 else if σ.2 c 7 ≠ x + 1 ∧ lft σ x < (σ.2 c 0 : Int) then 3 else 0
def rgd (σ : mS) (c : Nat) : Nat := if tpb σ c = false then 1 else if σ.2 c 7 = 0 then 4 else 0
def rbk (σ : mS) (c : Nat) : Nat := if tpb σ c = false then 1 else if 0 < pil σ c then 5 else 0
def lse (σ : mS) (c : Nat) : Bool := decide (σ.2 c 7 = 0) && decide (pil σ c = 0)
/-- the effort to come to a crate -/
def efu (σ : mS) : Nat → Nat → Int
  | 0, _ => 0
  | f + 1, c => match σ.2 c 7 with
    | 0 => 0
    | k + 1 => ((pil σ k : Int) - (σ.2 c 8 : Int)) + efu σ f k
def eft (σ : mS) (c : Nat) : Int := efu σ 12 c
/-- sums of whole numbers -/
def si (f : Nat → Int) : Nat → Int
  | 0 => 0
  | n + 1 => si f n + f n
theorem zfold_si {f : Nat → Int} {n : Nat} {s : Int} : zfold (fun k s => s + f k) n s = s + si f n := by
  induction n with
  | zero => simp [zfold, si]
  | succ n ih => rw [zfold, ih, si]; omega
theorem si_cong {p q : Nat → Int} : ∀ {n : Nat}, (∀ k, k < n → p k = q k) → si p n = si q n
  | 0, _ => rfl
  | n + 1, h => by rw [si, si, si_cong (fun k hk => h k (by omega)), h n (by omega)]
section READS
variable {d : Nat} {h : zH} {i : Nat} {S M : oS} {σ : mS} {c : Nat}
theorem iI_pos {z : Int} (h1 : -2147483648 ≤ z) (h2 : z < 2147483648) : (iI z ≤ 0) = (z ≤ 0) := iI_le (b := 0) ⟨h1, h2⟩ (by omega)
theorem s_reasonNotToGround (hR : stR S σ) (hw : wf σ) (hc : c < σ.1) : ev (d + 4) 57 0 [some (.ref i), some (.int (nI c))] [] (hst h i S) = some (some (.int (nI (rgd σ c))), hst h i S) := by
  have hb := hw.bnd
  have ha := abv_b hb hc
  have ht := hw.top hc
  simp only [e57_0, e57_1, e57_2, e57_5, e57_8, e57_9, e57_10, e57_11, e57_12, e57_15, e57_18, e57_19, e57_22, e57_23, st_g0, st_g1, st_g2, st_g3, st_g4, st_g5, st_g6, st_g7, st_p6, st_p7, st_l0, st_l1, st_l2, st_l3, st_l4, st_l5, st_s0, st_s1, st_s2, st_s3, st_s4, st_s5, st_is, Option.bind_some, Option.toList_some, Option.toList_none, List.cons_append, List.nil_append, true_or, or_true, and_true, true_and, i10, Bool.false_eq_true, if_true, if_false, reduceIte, s_above hR hb hc, iI_pos (show -2147483648 ≤ abv σ c by omega) (show abv σ c < 2147483648 by omega), s_isOnGround hR hb hc, bI_0]
  unfold rgd
  cases q : tpb σ c with
  | false =>
    rw [q] at ht
    have : ¬ abv σ c ≤ 0 := by have := ht.mpr rfl; omega
    simp [this]; rfl
  | true =>
    rw [q] at ht
    have : abv σ c ≤ 0 := by
      rcases (show 0 < abv σ c ∨ abv σ c ≤ 0 by omega) with z | z
      · exact absurd (ht.mp z) (by decide)
      · exact z
    by_cases q2 : σ.2 c 7 = 0
    · simp [this, q2]; rfl
    · simp [this, q2]; rfl
theorem s_reasonNotToBreak (hR : stR S σ) (hw : wf σ) (hc : c < σ.1) : ev (d + 4) 58 0 [some (.ref i), some (.int (nI c))] [] (hst h i S) = some (some (.int (nI (rbk σ c))), hst h i S) := by
  have hb := hw.bnd
  have ha := abv_b hb hc
  have ht := hw.top hc
  have hp := pil_le (c := c) hb
  have e0 : (nI (pil σ c) ≤ 0) = (pil σ c ≤ 0) := nI_lep (b := 0) (by omega) (by omega)
  simp only [e58_0, e58_1, e58_2, e58_5, e58_8, e58_9, e58_10, e58_11, e58_12, e58_15, e58_18, e58_19, e58_22, e58_23, st_g0, st_g1, st_g2, st_g3, st_g4, st_g5, st_g6, st_g7, st_p6, st_p7, st_l0, st_l1, st_l2, st_l3, st_l4, st_l5, st_s0, st_s1, st_s2, st_s3, st_s4, st_s5, st_is, Option.bind_some, Option.toList_some, Option.toList_none, List.cons_append, List.nil_append, true_or, or_true, and_true, true_and, i10, Bool.false_eq_true, if_true, if_false, reduceIte, s_above hR hb hc, iI_pos (show -2147483648 ≤ abv σ c by omega) (show abv σ c < 2147483648 by omega), s_pileOf hR hb hc, e0]
  unfold rbk
  cases q : tpb σ c with
  | false =>
    rw [q] at ht
    have : ¬ abv σ c ≤ 0 := by have := ht.mpr rfl; omega
    simp [this]; rfl
  | true =>
    rw [q] at ht
    have : abv σ c ≤ 0 := by
      rcases (show 0 < abv σ c ∨ abv σ c ≤ 0 by omega) with z | z
      · exact absurd (ht.mp z) (by decide)
      · exact z
    by_cases q2 : pil σ c = 0
    · simp [this, q2]; rfl
    · have q3 : 0 < pil σ c := by omega
      simp [this, q2, q3]; rfl
theorem s_reasonNotToPut (hR : stR S σ) (hw : wf σ) (hc : c < σ.1) {x : Nat} (hx : x < σ.1) : ev (d + 4) 56 0 [some (.ref i), some (.int (nI c)), some (.int (nI x)), none] [] (hst h i S) = some (some (.int (nI (rpt σ c x))), hst h i S) := by
  have hb := hw.bnd
  have hn := hb.1
  have ha := abv_b hb hc
  have ht := hw.top hc
  have hl := lft_b hb hx
  have hs := (hb.2 c hc).1
  have h7 := (hb.2 c hc).2.2.2.2.1
  have e3 : (nI (σ.2 c 0) ≤ iI (lft σ x)) = ((σ.2 c 0 : Int) ≤ lft σ x) := by rw [iI_nat, iI_le (by omega) (by omega)]
  simp only [e56_0, e56_1, e56_2, e56_5, e56_8, e56_9, e56_10, e56_11, e56_12, e56_15, e56_16, e56_17, e56_18, e56_21, e56_24, e56_25, e56_26, e56_27, e56_28, e56_31, e56_32, e56_35, e56_36, e56_39, e56_40, e56_41, e56_42, e56_45, e56_46, e56_47, e56_50, e56_51, e56_52, e56_55, e56_58, e56_59, e56_60, e56_61, st_g0, st_g1, st_g2, st_g3, st_g4, st_g5, st_g6, st_g7, st_p6, st_p7, st_l0, st_l1, st_l2, st_l3, st_l4, st_l5, st_s0, st_s1, st_s2, st_s3, st_s4, st_s5, st_is, Option.bind_some, Option.toList_some, Option.toList_none, List.cons_append, List.nil_append, true_or, or_true, and_true, true_and, i10, Bool.false_eq_true, if_true, if_false, reduceIte, s_above hR hb hc, iI_pos (show -2147483648 ≤ abv σ c by omega) (show abv σ c < 2147483648 by omega), nI_eqp (show x < 2147483648 by omega) (show c < 2147483648 by omega), s_isAround hR hb hc hx, bI_0, s_holderOf hR hb hc, hI_eq (show σ.2 c 7 < 2147483648 by omega) (show x < 2147483648 by omega), s_roomLeftIn hR hb hx, s_sizeOf hR hb hc, e3]
  unfold rpt
  cases q : tpb σ c with
  | false =>
    rw [q] at ht
    have : ¬ abv σ c ≤ 0 := by have := ht.mpr rfl; omega
    simp [this]; rfl
  | true =>
    rw [q] at ht
    have : abv σ c ≤ 0 := by
      rcases (show 0 < abv σ c ∨ abv σ c ≤ 0 by omega) with z | z
      · exact absurd (ht.mp z) (by decide)
      · exact z
    by_cases q2 : x = c
    · subst q2
      simp [this]; rfl
    · have q2' : ¬ c = x := fun w => q2 w.symm
      by_cases q3 : c ∈ chn σ x
      · simp [this, q2, q2', q3]; rfl
      · by_cases q4 : σ.2 c 7 = x + 1
        · simp [this, q2, q2', q3, q4]; rfl
        · by_cases q5 : lft σ x < (σ.2 c 0 : Int)
          · have q6 : ¬ (σ.2 c 0 : Int) ≤ lft σ x := by omega
            simp [this, q2, q2', q3, q4, q5, q6]; rfl
          · have q6 : (σ.2 c 0 : Int) ≤ lft σ x := by omega
            simp [this, q2, q2', q3, q4, q5, q6]; rfl
theorem s_lse (hR : stR S σ) (hb : bnd σ) (hc : c < σ.1) : ev (d + 3) 55 0 [some (.ref i), some (.int (nI c))] [] (hst h i S) = some (some (.int (bI (lse σ c = true))), hst h i S) := by
  rw [s_isLoose hR hb hc]
  rw [bI_congr (p := σ.2 c 7 = 0 ∧ pil σ c = 0) (q := lse σ c = true) (by unfold lse; simp)]
theorem s_eff1 (hR : stR S σ) (hb : bnd σ) (hacy : ∀ c k, c < σ.1 → σ.2 c 7 = k + 1 → k < σ.1) : ∀ (f s x : Nat) (e : Int), s + f = 12 → x < σ.1 → ev (d + 4) 92 7 [some (.ref i), some (.int (nI c)), some (.int (iI e)), some (.int (nI x)), some (.int (nI s))] [] (hst h i S) = some (some (.int (iI (e + efu σ f x))), hst h i S) := by
  intro f
  have hn := hb.1
  induction f with
  | zero =>
    intro s x e hs hx
    have e12 : (12 : Int32) ≤ nI s := by rw [show (12 : Int32) = nI 12 from rfl, nI_lep (by omega) (by omega)]; omega
    rw [e92_7]
    simp only [e92_0, e92_1, e92_2, e92_3, e92_4, e92_5, e92_9, e92_11, e92_14, e92_15, e92_16, e92_19, e92_22, e92_23, e92_24, e92_25, e92_26, e92_29, e92_30, e92_31, e92_32, e92_33, e92_34, e92_37, e92_38, e92_41, e92_44, e92_45, st_g0, st_g1, st_g2, st_g3, st_g4, st_g5, st_g6, st_g7, st_p6, st_p7, st_l0, st_l1, st_l2, st_l3, st_l4, st_l5, st_s0, st_s1, st_s2, st_s3, st_s4, st_s5, st_is, Option.bind_some, Option.toList_some, Option.toList_none, List.cons_append, List.nil_append, true_or, or_true, and_true, true_and, i10, Bool.false_eq_true, if_true, if_false, reduceIte, e12, efu, Int.add_zero]
  | succ f ih =>
    intro s x e hs hx
    have e12 : ((12 : Int32) ≤ nI s) = False := by rw [show (12 : Int32) = nI 12 from rfl, nI_lep (by omega) (by omega)]; exact eq_false (by omega)
    rw [e92_7]
    simp only [e92_0, e92_1, e92_2, e92_3, e92_4, e92_5, e92_9, e92_11, e92_14, e92_15, e92_16, e92_19, e92_22, e92_23, e92_24, e92_25, e92_26, e92_29, e92_30, e92_31, e92_32, e92_33, e92_34, e92_37, e92_38, e92_41, e92_44, e92_45, st_g0, st_g1, st_g2, st_g3, st_g4, st_g5, st_g6, st_g7, st_p6, st_p7, st_l0, st_l1, st_l2, st_l3, st_l4, st_l5, st_s0, st_s1, st_s2, st_s3, st_s4, st_s5, st_is, Option.bind_some, Option.toList_some, Option.toList_none, List.cons_append, List.nil_append, true_or, or_true, and_true, true_and, i10, Bool.false_eq_true, if_true, if_false, reduceIte, e12, s_isOnGround hR hb hx, bI_0]
    rw [efu]
    cases q : σ.2 x 7 with
    | zero => simp only [Option.bind_some, Option.toList_some, Option.toList_none, List.cons_append, List.nil_append, true_or, or_true, and_true, true_and, i10, Bool.false_eq_true, if_true, if_false, reduceIte, not_true_eq_false, Int.add_zero]
    | succ k =>
      have hk := hacy x k hx q
      have hne : (k + 1 = 0) = False := eq_false (by omega)
      simp only [hne, not_false_eq_true, e92_0, e92_1, e92_2, e92_3, e92_4, e92_5, e92_9, e92_11, e92_14, e92_15, e92_16, e92_19, e92_22, e92_23, e92_24, e92_25, e92_26, e92_29, e92_30, e92_31, e92_32, e92_33, e92_34, e92_37, e92_38, e92_41, e92_44, e92_45, st_g0, st_g1, st_g2, st_g3, st_g4, st_g5, st_g6, st_g7, st_p6, st_p7, st_l0, st_l1, st_l2, st_l3, st_l4, st_l5, st_s0, st_s1, st_s2, st_s3, st_s4, st_s5, st_is, Option.bind_some, Option.toList_some, Option.toList_none, List.cons_append, List.nil_append, true_or, or_true, and_true, true_and, i10, Bool.false_eq_true, if_true, if_false, reduceIte, s_above hR hb hx, s_holderOf hR hb hx, q, hI_s, nI_1]
      have ea : (iI e + (1 + iI (abv σ x)) : Int32) = iI (e + ((pil σ k : Int) - (σ.2 x 8 : Int))) := by
        unfold abv
        rw [q, show (1 : Int32) = iI 1 from rfl, iI_add, iI_add]
        congr 1
        simp only
        omega
      rw [ea, ih (s + 1) k _ (by omega) hk]
      rw [Int.add_assoc]
      try rfl
theorem s_effort (hR : stR S σ) (hw : wf σ) (hc : c < σ.1) : ev (d + 4) 92 0 [some (.ref i), some (.int (nI c)), none, none, none] [] (hst h i S) = some (some (.int (iI (eft σ c))), hst h i S) := by
  simp only [e92_0, e92_1, e92_2, e92_3, e92_4, e92_5, e92_9, e92_11, e92_14, e92_15, e92_16, e92_19, e92_22, e92_23, e92_24, e92_25, e92_26, e92_29, e92_30, e92_31, e92_32, e92_33, e92_34, e92_37, e92_38, e92_41, e92_44, e92_45, st_g0, st_g1, st_g2, st_g3, st_g4, st_g5, st_g6, st_g7, st_p6, st_p7, st_l0, st_l1, st_l2, st_l3, st_l4, st_l5, st_s0, st_s1, st_s2, st_s3, st_s4, st_s5, st_is, Option.bind_some, Option.toList_some, Option.toList_none, List.cons_append, List.nil_append, true_or, or_true, and_true, true_and, i10, Bool.false_eq_true, if_true, if_false, reduceIte]
  have := s_eff1 (d := d) (h := h) (i := i) (c := c) hR hw.bnd (fun c k hc hk => (hw.acy hc hk).1) 12 0 c 0 rfl hc
  rw [Int.zero_add] at this
  exact this
theorem s_loose (hR : stR S σ) (hw : wf σ)  : ev (d + 4) 61 0 [some (.ref i), none, none] [] (hst h i S) = some (some (.int (nI (ct (lse σ) σ.1))), hst h i S) := by
  have hb := hw.bnd
  have hn := hb.1
  have h0 := hR.1
  have step : ∀ (k : Nat) (s : Nat), k < σ.1 → ev (d + 4) 61 4 [some (.ref i), some (.int (nI s)), some (.int (nI k))] [] (hst h i S) = ev (d + 4) 61 4 [some (.ref i), some (.int (nI (s + if lse σ k then 1 else 0))), some (.int (nI (k + 1)))] [] (hst h i S) := by
    intro k s hk
    have hlt : (σ.1 ≤ k) = False := eq_false (by omega)
    rw [e61_4]
    simp only [e61_0, e61_1, e61_2, e61_3, e61_5, e61_6, e61_9, e61_12, e61_13, e61_14, e61_17, e61_20, e61_23, e61_26, e61_29, e61_30, st_g0, st_g1, st_g2, st_g3, st_g4, st_g5, st_g6, st_g7, st_p6, st_p7, st_l0, st_l1, st_l2, st_l3, st_l4, st_l5, st_s0, st_s1, st_s2, st_s3, st_s4, st_s5, st_is, Option.bind_some, Option.toList_some, Option.toList_none, List.cons_append, List.nil_append, true_or, or_true, and_true, true_and, i10, Bool.false_eq_true, if_true, if_false, reduceIte, h0, nI_lep (show σ.1 < 2147483648 by omega) (show k < 2147483648 by omega), hlt, nI_1, s_lse hR hb hk, bI_0]
    cases q : lse σ k <;> simp [q]
  have fin : ∀ s : Nat, ev (d + 4) 61 4 [some (.ref i), some (.int (nI s)), some (.int (nI σ.1))] [] (hst h i S) = some (some (.int (nI s)), hst h i S) := by
    intro s
    rw [e61_4]
    simp only [e61_0, e61_1, e61_2, e61_3, e61_5, e61_6, e61_9, e61_12, e61_13, e61_14, e61_17, e61_20, e61_23, e61_26, e61_29, e61_30, st_g0, st_g1, st_g2, st_g3, st_g4, st_g5, st_g6, st_g7, st_p6, st_p7, st_l0, st_l1, st_l2, st_l3, st_l4, st_l5, st_s0, st_s1, st_s2, st_s3, st_s4, st_s5, st_is, Option.bind_some, Option.toList_some, Option.toList_none, List.cons_append, List.nil_append, true_or, or_true, and_true, true_and, i10, Bool.false_eq_true, if_true, if_false, reduceIte, h0, Int32.le_refl]
  simp only [e61_0, e61_1, e61_2, e61_3, e61_5, e61_6, e61_9, e61_12, e61_13, e61_14, e61_17, e61_20, e61_23, e61_26, e61_29, e61_30, st_g0, st_g1, st_g2, st_g3, st_g4, st_g5, st_g6, st_g7, st_p6, st_p7, st_l0, st_l1, st_l2, st_l3, st_l4, st_l5, st_s0, st_s1, st_s2, st_s3, st_s4, st_s5, st_is, Option.bind_some, Option.toList_some, Option.toList_none, List.cons_append, List.nil_append, true_or, or_true, and_true, true_and, i10, Bool.false_eq_true, if_true, if_false, reduceIte, h0]
  have main := z_for (fun (k : Nat) (s : Nat) => ev (d + 4) 61 4 [some (.ref i), some (.int (nI s)), some (.int (nI k))] [] (hst h i S)) (fun (k : Nat) (s : Nat) => s + if lse σ k then 1 else 0) (n := σ.1) (s := 0) (fun k s hk => step k s hk)
  rw [zfold_ct, Nat.zero_add, fin] at main
  exact main
theorem s_sizes (hR : stR S σ) (hw : wf σ)  : ev d 63 0 [some (.ref i), none, none] [] (hst h i S) = some (some (.int (nI (sm (fun c => σ.2 c 0) σ.1))), hst h i S) := by
  have hb := hw.bnd
  have hn := hb.1
  have h0 := hR.1
  have step : ∀ (k : Nat) (s : Nat), k < σ.1 → ev d 63 4 [some (.ref i), some (.int (nI s)), some (.int (nI k))] [] (hst h i S) = ev d 63 4 [some (.ref i), some (.int (nI (s + σ.2 k 0))), some (.int (nI (k + 1)))] [] (hst h i S) := by
    intro k s hk
    have hlt : (σ.1 ≤ k) = False := eq_false (by omega)
    obtain ⟨a0, a1, a2, a3, a4, a5⟩ := hR.2 k hk
    rw [e63_4]
    simp only [e63_0, e63_1, e63_2, e63_3, e63_5, e63_6, e63_9, e63_12, e63_13, e63_14, e63_17, e63_18, e63_19, e63_20, e63_21, e63_24, e63_27, e63_28, st_g0, st_g1, st_g2, st_g3, st_g4, st_g5, st_g6, st_g7, st_p6, st_p7, st_l0, st_l1, st_l2, st_l3, st_l4, st_l5, st_s0, st_s1, st_s2, st_s3, st_s4, st_s5, st_is, Option.bind_some, Option.toList_some, Option.toList_none, List.cons_append, List.nil_append, true_or, or_true, and_true, true_and, i10, Bool.false_eq_true, if_true, if_false, reduceIte, h0, nI_lep (show σ.1 < 2147483648 by omega) (show k < 2147483648 by omega), hlt, nI_1, zrd_nI (show k < 12 by omega) (by decide), a0, nI_add]
    
  have fin : ∀ s : Nat, ev d 63 4 [some (.ref i), some (.int (nI s)), some (.int (nI σ.1))] [] (hst h i S) = some (some (.int (nI s)), hst h i S) := by
    intro s
    rw [e63_4]
    simp only [e63_0, e63_1, e63_2, e63_3, e63_5, e63_6, e63_9, e63_12, e63_13, e63_14, e63_17, e63_18, e63_19, e63_20, e63_21, e63_24, e63_27, e63_28, st_g0, st_g1, st_g2, st_g3, st_g4, st_g5, st_g6, st_g7, st_p6, st_p7, st_l0, st_l1, st_l2, st_l3, st_l4, st_l5, st_s0, st_s1, st_s2, st_s3, st_s4, st_s5, st_is, Option.bind_some, Option.toList_some, Option.toList_none, List.cons_append, List.nil_append, true_or, or_true, and_true, true_and, i10, Bool.false_eq_true, if_true, if_false, reduceIte, h0, Int32.le_refl]
  simp only [e63_0, e63_1, e63_2, e63_3, e63_5, e63_6, e63_9, e63_12, e63_13, e63_14, e63_17, e63_18, e63_19, e63_20, e63_21, e63_24, e63_27, e63_28, st_g0, st_g1, st_g2, st_g3, st_g4, st_g5, st_g6, st_g7, st_p6, st_p7, st_l0, st_l1, st_l2, st_l3, st_l4, st_l5, st_s0, st_s1, st_s2, st_s3, st_s4, st_s5, st_is, Option.bind_some, Option.toList_some, Option.toList_none, List.cons_append, List.nil_append, true_or, or_true, and_true, true_and, i10, Bool.false_eq_true, if_true, if_false, reduceIte, h0]
  have main := z_for (fun (k : Nat) (s : Nat) => ev d 63 4 [some (.ref i), some (.int (nI s)), some (.int (nI k))] [] (hst h i S)) (fun (k : Nat) (s : Nat) => s + σ.2 k 0) (n := σ.1) (s := 0) (fun k s hk => step k s hk)
  rw [zfold_sm, Nat.zero_add, fin] at main
  exact main
theorem s_rooms (hR : stR S σ) (hw : wf σ)  : ev d 65 0 [some (.ref i), none, none] [] (hst h i S) = some (some (.int (nI (sm (fun c => σ.2 c 1) σ.1))), hst h i S) := by
  have hb := hw.bnd
  have hn := hb.1
  have h0 := hR.1
  have step : ∀ (k : Nat) (s : Nat), k < σ.1 → ev d 65 4 [some (.ref i), some (.int (nI s)), some (.int (nI k))] [] (hst h i S) = ev d 65 4 [some (.ref i), some (.int (nI (s + σ.2 k 1))), some (.int (nI (k + 1)))] [] (hst h i S) := by
    intro k s hk
    have hlt : (σ.1 ≤ k) = False := eq_false (by omega)
    obtain ⟨a0, a1, a2, a3, a4, a5⟩ := hR.2 k hk
    rw [e65_4]
    simp only [e65_0, e65_1, e65_2, e65_3, e65_5, e65_6, e65_9, e65_12, e65_13, e65_14, e65_17, e65_18, e65_19, e65_20, e65_21, e65_24, e65_27, e65_28, st_g0, st_g1, st_g2, st_g3, st_g4, st_g5, st_g6, st_g7, st_p6, st_p7, st_l0, st_l1, st_l2, st_l3, st_l4, st_l5, st_s0, st_s1, st_s2, st_s3, st_s4, st_s5, st_is, Option.bind_some, Option.toList_some, Option.toList_none, List.cons_append, List.nil_append, true_or, or_true, and_true, true_and, i10, Bool.false_eq_true, if_true, if_false, reduceIte, h0, nI_lep (show σ.1 < 2147483648 by omega) (show k < 2147483648 by omega), hlt, nI_1, zrd_nI (show k < 12 by omega) (by decide), a1, nI_add]
    
  have fin : ∀ s : Nat, ev d 65 4 [some (.ref i), some (.int (nI s)), some (.int (nI σ.1))] [] (hst h i S) = some (some (.int (nI s)), hst h i S) := by
    intro s
    rw [e65_4]
    simp only [e65_0, e65_1, e65_2, e65_3, e65_5, e65_6, e65_9, e65_12, e65_13, e65_14, e65_17, e65_18, e65_19, e65_20, e65_21, e65_24, e65_27, e65_28, st_g0, st_g1, st_g2, st_g3, st_g4, st_g5, st_g6, st_g7, st_p6, st_p7, st_l0, st_l1, st_l2, st_l3, st_l4, st_l5, st_s0, st_s1, st_s2, st_s3, st_s4, st_s5, st_is, Option.bind_some, Option.toList_some, Option.toList_none, List.cons_append, List.nil_append, true_or, or_true, and_true, true_and, i10, Bool.false_eq_true, if_true, if_false, reduceIte, h0, Int32.le_refl]
  simp only [e65_0, e65_1, e65_2, e65_3, e65_5, e65_6, e65_9, e65_12, e65_13, e65_14, e65_17, e65_18, e65_19, e65_20, e65_21, e65_24, e65_27, e65_28, st_g0, st_g1, st_g2, st_g3, st_g4, st_g5, st_g6, st_g7, st_p6, st_p7, st_l0, st_l1, st_l2, st_l3, st_l4, st_l5, st_s0, st_s1, st_s2, st_s3, st_s4, st_s5, st_is, Option.bind_some, Option.toList_some, Option.toList_none, List.cons_append, List.nil_append, true_or, or_true, and_true, true_and, i10, Bool.false_eq_true, if_true, if_false, reduceIte, h0]
  have main := z_for (fun (k : Nat) (s : Nat) => ev d 65 4 [some (.ref i), some (.int (nI s)), some (.int (nI k))] [] (hst h i S)) (fun (k : Nat) (s : Nat) => s + σ.2 k 1) (n := σ.1) (s := 0) (fun k s hk => step k s hk)
  rw [zfold_sm, Nat.zero_add, fin] at main
  exact main
theorem s_letters (hR : stR S σ) (hw : wf σ)  : ev (d + 3) 66 0 [some (.ref i), none, none] [] (hst h i S) = some (some (.int (nI (sm (lts σ) σ.1))), hst h i S) := by
  have hb := hw.bnd
  have hn := hb.1
  have h0 := hR.1
  have step : ∀ (k : Nat) (s : Nat), k < σ.1 → ev (d + 3) 66 4 [some (.ref i), some (.int (nI s)), some (.int (nI k))] [] (hst h i S) = ev (d + 3) 66 4 [some (.ref i), some (.int (nI (s + lts σ k))), some (.int (nI (k + 1)))] [] (hst h i S) := by
    intro k s hk
    have hlt : (σ.1 ≤ k) = False := eq_false (by omega)
    rw [e66_4]
    simp only [e66_0, e66_1, e66_2, e66_3, e66_5, e66_6, e66_9, e66_12, e66_13, e66_14, e66_15, e66_18, e66_19, e66_20, e66_23, e66_26, e66_27, st_g0, st_g1, st_g2, st_g3, st_g4, st_g5, st_g6, st_g7, st_p6, st_p7, st_l0, st_l1, st_l2, st_l3, st_l4, st_l5, st_s0, st_s1, st_s2, st_s3, st_s4, st_s5, st_is, Option.bind_some, Option.toList_some, Option.toList_none, List.cons_append, List.nil_append, true_or, or_true, and_true, true_and, i10, Bool.false_eq_true, if_true, if_false, reduceIte, h0, nI_lep (show σ.1 < 2147483648 by omega) (show k < 2147483648 by omega), hlt, nI_1, s_lettersOf hR hb hk, nI_add]
    
  have fin : ∀ s : Nat, ev (d + 3) 66 4 [some (.ref i), some (.int (nI s)), some (.int (nI σ.1))] [] (hst h i S) = some (some (.int (nI s)), hst h i S) := by
    intro s
    rw [e66_4]
    simp only [e66_0, e66_1, e66_2, e66_3, e66_5, e66_6, e66_9, e66_12, e66_13, e66_14, e66_15, e66_18, e66_19, e66_20, e66_23, e66_26, e66_27, st_g0, st_g1, st_g2, st_g3, st_g4, st_g5, st_g6, st_g7, st_p6, st_p7, st_l0, st_l1, st_l2, st_l3, st_l4, st_l5, st_s0, st_s1, st_s2, st_s3, st_s4, st_s5, st_is, Option.bind_some, Option.toList_some, Option.toList_none, List.cons_append, List.nil_append, true_or, or_true, and_true, true_and, i10, Bool.false_eq_true, if_true, if_false, reduceIte, h0, Int32.le_refl]
  simp only [e66_0, e66_1, e66_2, e66_3, e66_5, e66_6, e66_9, e66_12, e66_13, e66_14, e66_15, e66_18, e66_19, e66_20, e66_23, e66_26, e66_27, st_g0, st_g1, st_g2, st_g3, st_g4, st_g5, st_g6, st_g7, st_p6, st_p7, st_l0, st_l1, st_l2, st_l3, st_l4, st_l5, st_s0, st_s1, st_s2, st_s3, st_s4, st_s5, st_is, Option.bind_some, Option.toList_some, Option.toList_none, List.cons_append, List.nil_append, true_or, or_true, and_true, true_and, i10, Bool.false_eq_true, if_true, if_false, reduceIte, h0]
  have main := z_for (fun (k : Nat) (s : Nat) => ev (d + 3) 66 4 [some (.ref i), some (.int (nI s)), some (.int (nI k))] [] (hst h i S)) (fun (k : Nat) (s : Nat) => s + lts σ k) (n := σ.1) (s := 0) (fun k s hk => step k s hk)
  rw [zfold_sm, Nat.zero_add, fin] at main
  exact main
theorem s_sizesLying (hR : stR S σ) (hw : wf σ)  : ev (d + 3) 64 0 [some (.ref i), none, none] [] (hst h i S) = some (some (.int (nI (sm (fun c => if σ.2 c 7 = 0 then 0 else σ.2 c 0) σ.1))), hst h i S) := by
  have hb := hw.bnd
  have hn := hb.1
  have h0 := hR.1
  have step : ∀ (k : Nat) (s : Nat), k < σ.1 → ev (d + 3) 64 4 [some (.ref i), some (.int (nI s)), some (.int (nI k))] [] (hst h i S) = ev (d + 3) 64 4 [some (.ref i), some (.int (nI (s + if σ.2 k 7 = 0 then 0 else σ.2 k 0))), some (.int (nI (k + 1)))] [] (hst h i S) := by
    intro k s hk
    have hlt : (σ.1 ≤ k) = False := eq_false (by omega)
    obtain ⟨a0, a1, a2, a3, a4, a5⟩ := hR.2 k hk
    rw [e64_4]
    simp only [e64_0, e64_1, e64_2, e64_3, e64_5, e64_6, e64_9, e64_12, e64_13, e64_14, e64_15, e64_18, e64_21, e64_22, e64_25, e64_26, e64_29, e64_30, e64_31, e64_32, e64_33, e64_36, e64_39, e64_40, st_g0, st_g1, st_g2, st_g3, st_g4, st_g5, st_g6, st_g7, st_p6, st_p7, st_l0, st_l1, st_l2, st_l3, st_l4, st_l5, st_s0, st_s1, st_s2, st_s3, st_s4, st_s5, st_is, Option.bind_some, Option.toList_some, Option.toList_none, List.cons_append, List.nil_append, true_or, or_true, and_true, true_and, i10, Bool.false_eq_true, if_true, if_false, reduceIte, h0, nI_lep (show σ.1 < 2147483648 by omega) (show k < 2147483648 by omega), hlt, nI_1, s_isOnGround hR hb hk, bI_0, zrd_nI (show k < 12 by omega) (by decide), a0, nI_add]
    by_cases q : σ.2 k 7 = 0
    · simp only [q, not_true_eq_false, Option.bind_some, Option.toList_some, Option.toList_none, List.cons_append, List.nil_append, true_or, or_true, and_true, true_and, i10, Bool.false_eq_true, if_true, if_false, reduceIte, show (0 : Int32) = nI 0 from rfl, nI_add]
    · simp only [q, not_false_eq_true, Option.bind_some, Option.toList_some, Option.toList_none, List.cons_append, List.nil_append, true_or, or_true, and_true, true_and, i10, Bool.false_eq_true, if_true, if_false, reduceIte]
  have fin : ∀ s : Nat, ev (d + 3) 64 4 [some (.ref i), some (.int (nI s)), some (.int (nI σ.1))] [] (hst h i S) = some (some (.int (nI s)), hst h i S) := by
    intro s
    rw [e64_4]
    simp only [e64_0, e64_1, e64_2, e64_3, e64_5, e64_6, e64_9, e64_12, e64_13, e64_14, e64_15, e64_18, e64_21, e64_22, e64_25, e64_26, e64_29, e64_30, e64_31, e64_32, e64_33, e64_36, e64_39, e64_40, st_g0, st_g1, st_g2, st_g3, st_g4, st_g5, st_g6, st_g7, st_p6, st_p7, st_l0, st_l1, st_l2, st_l3, st_l4, st_l5, st_s0, st_s1, st_s2, st_s3, st_s4, st_s5, st_is, Option.bind_some, Option.toList_some, Option.toList_none, List.cons_append, List.nil_append, true_or, or_true, and_true, true_and, i10, Bool.false_eq_true, if_true, if_false, reduceIte, h0, Int32.le_refl]
  simp only [e64_0, e64_1, e64_2, e64_3, e64_5, e64_6, e64_9, e64_12, e64_13, e64_14, e64_15, e64_18, e64_21, e64_22, e64_25, e64_26, e64_29, e64_30, e64_31, e64_32, e64_33, e64_36, e64_39, e64_40, st_g0, st_g1, st_g2, st_g3, st_g4, st_g5, st_g6, st_g7, st_p6, st_p7, st_l0, st_l1, st_l2, st_l3, st_l4, st_l5, st_s0, st_s1, st_s2, st_s3, st_s4, st_s5, st_is, Option.bind_some, Option.toList_some, Option.toList_none, List.cons_append, List.nil_append, true_or, or_true, and_true, true_and, i10, Bool.false_eq_true, if_true, if_false, reduceIte, h0]
  have main := z_for (fun (k : Nat) (s : Nat) => ev (d + 3) 64 4 [some (.ref i), some (.int (nI s)), some (.int (nI k))] [] (hst h i S)) (fun (k : Nat) (s : Nat) => s + if σ.2 k 7 = 0 then 0 else σ.2 k 0) (n := σ.1) (s := 0) (fun k s hk => step k s hk)
  rw [zfold_sm, Nat.zero_add, fin] at main
  exact main
theorem s_sumOfAll (hR : stR S σ) (hw : wf σ)  : ev (d + 5) 94 0 [some (.ref i), none, none] [] (hst h i S) = some (some (.int (iI (si (eft σ) σ.1))), hst h i S) := by
  have hb := hw.bnd
  have hn := hb.1
  have h0 := hR.1
  have step : ∀ (k : Nat) (s : Int), k < σ.1 → ev (d + 5) 94 4 [some (.ref i), some (.int (iI s)), some (.int (nI k))] [] (hst h i S) = ev (d + 5) 94 4 [some (.ref i), some (.int (iI (s + eft σ k))), some (.int (nI (k + 1)))] [] (hst h i S) := by
    intro k s hk
    have hlt : (σ.1 ≤ k) = False := eq_false (by omega)
    rw [e94_4]
    simp only [e94_0, e94_1, e94_2, e94_3, e94_5, e94_6, e94_9, e94_12, e94_13, e94_14, e94_15, e94_18, e94_19, e94_20, e94_23, e94_26, e94_27, st_g0, st_g1, st_g2, st_g3, st_g4, st_g5, st_g6, st_g7, st_p6, st_p7, st_l0, st_l1, st_l2, st_l3, st_l4, st_l5, st_s0, st_s1, st_s2, st_s3, st_s4, st_s5, st_is, Option.bind_some, Option.toList_some, Option.toList_none, List.cons_append, List.nil_append, true_or, or_true, and_true, true_and, i10, Bool.false_eq_true, if_true, if_false, reduceIte, h0, nI_lep (show σ.1 < 2147483648 by omega) (show k < 2147483648 by omega), hlt, nI_1, s_crates, s_effort hR hw hk, iI_add]
    
  have fin : ∀ s : Int, ev (d + 5) 94 4 [some (.ref i), some (.int (iI s)), some (.int (nI σ.1))] [] (hst h i S) = some (some (.int (iI s)), hst h i S) := by
    intro s
    rw [e94_4]
    simp only [e94_0, e94_1, e94_2, e94_3, e94_5, e94_6, e94_9, e94_12, e94_13, e94_14, e94_15, e94_18, e94_19, e94_20, e94_23, e94_26, e94_27, st_g0, st_g1, st_g2, st_g3, st_g4, st_g5, st_g6, st_g7, st_p6, st_p7, st_l0, st_l1, st_l2, st_l3, st_l4, st_l5, st_s0, st_s1, st_s2, st_s3, st_s4, st_s5, st_is, Option.bind_some, Option.toList_some, Option.toList_none, List.cons_append, List.nil_append, true_or, or_true, and_true, true_and, i10, Bool.false_eq_true, if_true, if_false, reduceIte, h0, Int32.le_refl, s_crates]
  simp only [e94_0, e94_1, e94_2, e94_3, e94_5, e94_6, e94_9, e94_12, e94_13, e94_14, e94_15, e94_18, e94_19, e94_20, e94_23, e94_26, e94_27, st_g0, st_g1, st_g2, st_g3, st_g4, st_g5, st_g6, st_g7, st_p6, st_p7, st_l0, st_l1, st_l2, st_l3, st_l4, st_l5, st_s0, st_s1, st_s2, st_s3, st_s4, st_s5, st_is, Option.bind_some, Option.toList_some, Option.toList_none, List.cons_append, List.nil_append, true_or, or_true, and_true, true_and, i10, Bool.false_eq_true, if_true, if_false, reduceIte, h0]
  have main := z_for (fun (k : Nat) (s : Int) => ev (d + 5) 94 4 [some (.ref i), some (.int (iI s)), some (.int (nI k))] [] (hst h i S)) (fun (k : Nat) (s : Int) => s + eft σ k) (n := σ.1) (s := 0) (fun k s hk => step k s hk)
  rw [zfold_si, Int.zero_add, fin] at main
  exact main
theorem s_sumGoingUp {z : Int32} (hR : stR S σ) (hw : wf σ)  : ev (d + 5) 93 0 [some (.ref i), some (.int z), none, none] [] (hst h i S) = some (some (.int (iI (si (fun c => if nI (σ.2 c 0) = z then eft σ c else 0) σ.1))), hst h i S) := by
  have hb := hw.bnd
  have hn := hb.1
  have h0 := hR.1
  have step : ∀ (k : Nat) (s : Int), k < σ.1 → ev (d + 5) 93 4 [some (.ref i), some (.int z), some (.int (iI s)), some (.int (nI k))] [] (hst h i S) = ev (d + 5) 93 4 [some (.ref i), some (.int z), some (.int (iI (s + if nI (σ.2 k 0) = z then eft σ k else 0))), some (.int (nI (k + 1)))] [] (hst h i S) := by
    intro k s hk
    have hlt : (σ.1 ≤ k) = False := eq_false (by omega)
    rw [e93_4]
    simp only [e93_0, e93_1, e93_2, e93_3, e93_5, e93_6, e93_9, e93_12, e93_13, e93_14, e93_17, e93_18, e93_21, e93_22, e93_23, e93_24, e93_27, e93_28, e93_29, e93_32, e93_35, e93_36, st_g0, st_g1, st_g2, st_g3, st_g4, st_g5, st_g6, st_g7, st_p6, st_p7, st_l0, st_l1, st_l2, st_l3, st_l4, st_l5, st_s0, st_s1, st_s2, st_s3, st_s4, st_s5, st_is, Option.bind_some, Option.toList_some, Option.toList_none, List.cons_append, List.nil_append, true_or, or_true, and_true, true_and, i10, Bool.false_eq_true, if_true, if_false, reduceIte, h0, nI_lep (show σ.1 < 2147483648 by omega) (show k < 2147483648 by omega), hlt, nI_1, s_crates, s_sizeOf hR hb hk, s_effort hR hw hk, iI_add]
    by_cases q : nI (σ.2 k 0) = z
    · simp only [q, Option.bind_some, Option.toList_some, Option.toList_none, List.cons_append, List.nil_append, true_or, or_true, and_true, true_and, i10, Bool.false_eq_true, if_true, if_false, reduceIte, iI_add]
    · simp only [q, Option.bind_some, Option.toList_some, Option.toList_none, List.cons_append, List.nil_append, true_or, or_true, and_true, true_and, i10, Bool.false_eq_true, if_true, if_false, reduceIte, Int.add_zero]
  have fin : ∀ s : Int, ev (d + 5) 93 4 [some (.ref i), some (.int z), some (.int (iI s)), some (.int (nI σ.1))] [] (hst h i S) = some (some (.int (iI s)), hst h i S) := by
    intro s
    rw [e93_4]
    simp only [e93_0, e93_1, e93_2, e93_3, e93_5, e93_6, e93_9, e93_12, e93_13, e93_14, e93_17, e93_18, e93_21, e93_22, e93_23, e93_24, e93_27, e93_28, e93_29, e93_32, e93_35, e93_36, st_g0, st_g1, st_g2, st_g3, st_g4, st_g5, st_g6, st_g7, st_p6, st_p7, st_l0, st_l1, st_l2, st_l3, st_l4, st_l5, st_s0, st_s1, st_s2, st_s3, st_s4, st_s5, st_is, Option.bind_some, Option.toList_some, Option.toList_none, List.cons_append, List.nil_append, true_or, or_true, and_true, true_and, i10, Bool.false_eq_true, if_true, if_false, reduceIte, h0, Int32.le_refl, s_crates]
  simp only [e93_0, e93_1, e93_2, e93_3, e93_5, e93_6, e93_9, e93_12, e93_13, e93_14, e93_17, e93_18, e93_21, e93_22, e93_23, e93_24, e93_27, e93_28, e93_29, e93_32, e93_35, e93_36, st_g0, st_g1, st_g2, st_g3, st_g4, st_g5, st_g6, st_g7, st_p6, st_p7, st_l0, st_l1, st_l2, st_l3, st_l4, st_l5, st_s0, st_s1, st_s2, st_s3, st_s4, st_s5, st_is, Option.bind_some, Option.toList_some, Option.toList_none, List.cons_append, List.nil_append, true_or, or_true, and_true, true_and, i10, Bool.false_eq_true, if_true, if_false, reduceIte, h0]
  have main := z_for (fun (k : Nat) (s : Int) => ev (d + 5) 93 4 [some (.ref i), some (.int z), some (.int (iI s)), some (.int (nI k))] [] (hst h i S)) (fun (k : Nat) (s : Int) => s + if nI (σ.2 k 0) = z then eft σ k else 0) (n := σ.1) (s := 0) (fun k s hk => step k s hk)
  rw [zfold_si, Int.zero_add, fin] at main
  exact main
/-- the greatest depth -/
def dmx (σ : mS) : Nat := zfold (fun k s => if s < dpt σ k then dpt σ k else s) σ.1 0
theorem s_greatestDepth (hR : stR S σ) (hb : bnd σ) : ev (d + 3) 62 0 [some (.ref i), none, none] [] (hst h i S) = some (some (.int (nI (dmx σ))), hst h i S) := by
  have hn := hb.1
  have h0 := hR.1
  simp only [e62_0, e62_1, e62_2, e62_3, e62_5, e62_6, e62_9, e62_12, e62_13, e62_14, e62_15, e62_18, e62_21, e62_22, e62_25, e62_28, e62_29, st_g0, st_g1, st_g2, st_g3, st_g4, st_g5, st_g6, st_g7, st_p6, st_p7, st_l0, st_l1, st_l2, st_l3, st_l4, st_l5, st_s0, st_s1, st_s2, st_s3, st_s4, st_s5, st_is, Option.bind_some, Option.toList_some, Option.toList_none, List.cons_append, List.nil_append, true_or, or_true, and_true, true_and, i10, Bool.false_eq_true, if_true, if_false, reduceIte]
  have main := z_forI (fun (k s : Nat) => ev (d + 3) 62 4 [some (.ref i), some (.int (nI s)), some (.int (nI k))] [] (hst h i S)) (fun k s => if s < dpt σ k then dpt σ k else s) (fun _ s => s ≤ 12) (n := σ.1) (s := 0) (by omega) (fun k s hk hs => by
    have hlt : (σ.1 ≤ k) = False := eq_false (by omega)
    have hd := dpt_b σ k
    refine ⟨?_, by split <;> omega⟩
    rw [e62_4]
    simp only [e62_0, e62_1, e62_2, e62_3, e62_5, e62_6, e62_9, e62_12, e62_13, e62_14, e62_15, e62_18, e62_21, e62_22, e62_25, e62_28, e62_29, st_g0, st_g1, st_g2, st_g3, st_g4, st_g5, st_g6, st_g7, st_p6, st_p7, st_l0, st_l1, st_l2, st_l3, st_l4, st_l5, st_s0, st_s1, st_s2, st_s3, st_s4, st_s5, st_is, Option.bind_some, Option.toList_some, Option.toList_none, List.cons_append, List.nil_append, true_or, or_true, and_true, true_and, i10, Bool.false_eq_true, if_true, if_false, reduceIte, h0, nI_lep (show σ.1 < 2147483648 by omega) (show k < 2147483648 by omega), hlt, s_depthOf hR hb hk, nI_1, nI_ltp (show s < 2147483648 by omega) (show dpt σ k < 2147483648 by omega)]
    by_cases q : s < dpt σ k <;> simp [q])
  refine Eq.trans main.1 ?_
  rw [e62_4]
  simp only [e62_0, e62_1, e62_2, e62_3, e62_5, e62_6, e62_9, e62_12, e62_13, e62_14, e62_15, e62_18, e62_21, e62_22, e62_25, e62_28, e62_29, st_g0, st_g1, st_g2, st_g3, st_g4, st_g5, st_g6, st_g7, st_p6, st_p7, st_l0, st_l1, st_l2, st_l3, st_l4, st_l5, st_s0, st_s1, st_s2, st_s3, st_s4, st_s5, st_is, Option.bind_some, Option.toList_some, Option.toList_none, List.cons_append, List.nil_append, true_or, or_true, and_true, true_and, i10, Bool.false_eq_true, if_true, if_false, reduceIte, h0, Int32.le_refl]
  rfl
end READS
