/-! SIGNS PACKED, THE VIEW -/
theorem z_forJ {α β J : Type} (F : Nat → α → J → β) (f : Nat → α → α) (R : α → β) {n : Nat} (hs : ∀ k s x, k < n → ∃ y, F k s x = F (k + 1) (f k s) y) (fin : ∀ s x, F n s x = R s) (s : α) (x : J) : F 0 s x = R (zfold f n s) := by
  have h : ∀ k, k ≤ n → ∃ y, F 0 s x = F k (zfold f k s) y := by
    intro k
    induction k with
    | zero => intro _; exact ⟨x, rfl⟩
    | succ k ih =>
      intro hk
      obtain ⟨y, hy⟩ := ih (by omega)
      obtain ⟨z, hz⟩ := hs k (zfold f k s) y (by omega)
      exact ⟨z, hy.trans hz⟩
  obtain ⟨y, hy⟩ := h n (Nat.le_refl n)
  rw [hy, fin]
/-- all of the first n -/
def alb (p : Nat → Bool) : Nat → Bool
  | 0 => true
  | n + 1 => alb p n && p n
theorem alb_iff {p : Nat → Bool} : ∀ {n : Nat}, alb p n = true ↔ ∀ k, k < n → p k = true
  | 0 => ⟨fun _ k hk => by omega, fun _ => rfl⟩
  | n + 1 => by
    rw [alb, Bool.and_eq_true, alb_iff]
    constructor
    · intro h k hk
      rcases Nat.lt_or_ge k n with q | q
      · exact h.1 k q
      · rw [show k = n by omega]; exact h.2
    · intro h
      exact ⟨fun k hk => h k (by omega), h n (by omega)⟩
theorem zfold_alb {p : Nat → Bool} {n : Nat} {s : Bool} : zfold (fun k s => s && p k) n s = (s && alb p n) := by
  induction n with
  | zero => simp [zfold, alb]
  | succ n ih => rw [zfold, ih, alb, Bool.and_assoc]
theorem ct_cong {p q : Nat → Bool} : ∀ {n : Nat}, (∀ k, k < n → p k = q k) → ct p n = ct q n
  | 0, _ => rfl
  | n + 1, h => by rw [ct, ct, ct_cong (fun k hk => h k (by omega)), h n (by omega)]
theorem sm_cong {p q : Nat → Nat} : ∀ {n : Nat}, (∀ k, k < n → p k = q k) → sm p n = sm q n
  | 0, _ => rfl
  | n + 1, h => by rw [sm, sm, sm_cong (fun k hk => h k (by omega)), h n (by omega)]
theorem alb_cong {p q : Nat → Bool} : ∀ {n : Nat}, (∀ k, k < n → p k = q k) → alb p n = alb q n
  | 0, _ => rfl
  | n + 1, h => by rw [alb, alb, alb_cong (fun k hk => h k (by omega)), h n (by omega)]
theorem sgn_b {σ : mS} {c p : Nat} (hb : bnd σ) (hc : c < σ.1) (hp : p < 4) : sgn σ c p ≤ 27 := by
  have := (hb.2 c hc).2.2.2.1 p hp
  unfold sgn
  split
  · split <;> omega
  · omega
/-- the four signs in one number -/
def sgs (σ : mS) (c : Nat) : Nat := sgn σ c 0 + 32 * sgn σ c 1 + 1024 * sgn σ c 2 + 32768 * sgn σ c 3
theorem sgs_b {σ : mS} {c : Nat} (hb : bnd σ) (hc : c < σ.1) : sgs σ c < 1048576 := by
  have h0 := sgn_b hb hc (show 0 < 4 by decide)
  have h1 := sgn_b hb hc (show 1 < 4 by decide)
  have h2 := sgn_b hb hc (show 2 < 4 by decide)
  have h3 := sgn_b hb hc (show 3 < 4 by decide)
  unfold sgs
  omega
theorem z_shl5 {s k : Nat} (hs : s < 32) (hk : k < 4) : nI s <<< ((nI k * 5) &&& 31) = nI (2 ^ (5 * k) * s) := by
  match k, hk with
  | 0, _ => have := pk_shlN (n := s) ((nI 0 * 5) &&& 31) 0 (by decide +kernel) (by omega); rw [this, Nat.mul_comm]
  | 1, _ => have := pk_shlN (n := s) ((nI 1 * 5) &&& 31) 5 (by decide +kernel) (by omega); rw [this, Nat.mul_comm]
  | 2, _ => have := pk_shlN (n := s) ((nI 2 * 5) &&& 31) 10 (by decide +kernel) (by omega); rw [this, Nat.mul_comm]
  | 3, _ => have := pk_shlN (n := s) ((nI 3 * 5) &&& 31) 15 (by decide +kernel) (by omega); rw [this, Nat.mul_comm]
theorem z_pack {a s k : Nat} (ha : a < 2 ^ (5 * k)) (hs : s < 32) (hk : k < 4) : nI a ||| (nI s <<< ((nI k * 5) &&& 31)) = nI (2 ^ (5 * k) * s + a) := by
  rw [z_shl5 hs hk, z_or, Nat.or_comm, Nat.two_pow_add_eq_or_of_lt ha]
theorem z_unp {g p : Nat} (hg : g < 1048576) (hp : p < 4) : (nI g >>> ((nI p * 5) &&& 31)) &&& 31 = nI (g / 2 ^ (5 * p) % 32) := by
  have e31 : (31 : Int32) = nI (2 ^ 5 - 1) := by decide
  have m : ∀ x : Nat, nI x &&& nI (2 ^ 5 - 1) = nI (x % 32) := fun x => by rw [z_and, Nat.and_two_pow_sub_one_eq_mod]
  have s : ∀ (k : Nat) (q : Int32), (q.toBitVec.smod 32).toNat = k → (nI g >>> q) &&& 31 = nI (g / 2 ^ k % 32) := fun k q hq => by rw [pk_shrN (by omega) q k hq, e31, m]
  match p, hp with
  | 0, _ => exact s 0 _ (by decide +kernel)
  | 1, _ => exact s 5 _ (by decide +kernel)
  | 2, _ => exact s 10 _ (by decide +kernel)
  | 3, _ => exact s 15 _ (by decide +kernel)
theorem sgs_d {σ : mS} {c p : Nat} (hb : bnd σ) (hc : c < σ.1) (hp : p < 4) : sgs σ c / 2 ^ (5 * p) % 32 = sgn σ c p := by
  have h0 := sgn_b hb hc (show 0 < 4 by decide)
  have h1 := sgn_b hb hc (show 1 < 4 by decide)
  have h2 := sgn_b hb hc (show 2 < 4 by decide)
  have h3 := sgn_b hb hc (show 3 < 4 by decide)
  unfold sgs
  match p, hp with
  | 0, _ => simp only [Nat.mul_zero, Nat.pow_zero, Nat.div_one]; omega
  | 1, _ => simp only [Nat.mul_one, Nat.reducePow]; omega
  | 2, _ => simp only [Nat.reduceMul, Nat.reducePow]; omega
  | 3, _ => simp only [Nat.reduceMul, Nat.reducePow]; omega
section VIEW
variable {d : Nat} {h : zH} {i : Nat} {S M : oS} {σ : mS} {c : Nat}
theorem s_signsOf (hR : stR S σ) (hb : bnd σ) (hc : c < σ.1) : ev (d + 3) 83 0 [some (.ref i), some (.int (nI c)), none, none, none, none, none] [] (hst h i S) = some (some (.int (nI (sgs σ c))), hst h i S) := by
  obtain ⟨o, ho, hop, hev⟩ := s_openAround (d := d) (h := h) (i := i) hR hb hc
  have step : ∀ (k a : Nat), k < 4 → a < 2 ^ (5 * k) → ∀ r, (∀ l5 l6, ev (d + 3) 83 11 [some (.ref i), some (.int (nI c)), some (.int (nI o)), some (.int (nI (2 ^ (5 * k) * sgn σ c k + a))), some (.int (nI (k + 1))), l5, l6] [] (hst h i S) = r) → ∀ l5 l6, ev (d + 3) 83 11 [some (.ref i), some (.int (nI c)), some (.int (nI o)), some (.int (nI a)), some (.int (nI k)), l5, l6] [] (hst h i S) = r := by
    intro k a hk ha r hr l5 l6
    have e2 : ((4 : Int32) ≤ nI k) = False := by rw [show (4 : Int32) = nI 4 from rfl, nI_lep (by omega) (by omega)]; exact eq_false (by omega)
    have h3k := (hb.2 c hc).2.2.2.1 k hk
    rw [e83_11]
    simp only [e83_0, e83_1, e83_2, e83_5, e83_6, e83_7, e83_8, e83_9, e83_13, e83_14, e83_17, e83_19, e83_21, e83_22, e83_24, e83_25, e83_26, e83_27, e83_28, e83_31, e83_32, e83_33, e83_35, e83_38, e83_40, e83_42, e83_43, e83_46, e83_48, e83_51, e83_53, e83_55, e83_56, e83_58, e83_60, e83_61, e83_62, e83_63, e83_64, e83_65, e83_68, e83_71, e83_72, st_g0, st_g1, st_g2, st_g3, st_g4, st_g5, st_g6, st_g7, st_p6, st_p7, st_l0, st_l1, st_l2, st_l3, st_l4, st_l5, st_s0, st_s1, st_s2, st_s3, st_s4, st_s5, st_is, Option.bind_some, Option.toList_some, Option.toList_none, List.cons_append, List.nil_append, true_or, or_true, and_true, true_and, i10, Bool.false_eq_true, if_true, if_false, reduceIte, e2, gapb o ho k hk, hop k hk, s_letterAt hR hb hc hk, hI_m1 (show σ.2 c (3 + k) < 2147483648 by omega), nI_1]
    have hs := sgn_b hb hc hk
    have e26 : (26 : Int32) = nI 26 := rfl
    have e27 : (27 : Int32) = nI 27 := rfl
    cases q : opn σ c k with
    | false =>
      have es : sgn σ c k = 26 := by unfold sgn; rw [q]; rfl
      simp only [Bool.false_eq_true, Option.bind_some, Option.toList_some, Option.toList_none, List.cons_append, List.nil_append, true_or, or_true, and_true, true_and, i10, Bool.false_eq_true, if_true, if_false, reduceIte]
      rw [e26, z_pack ha (by decide) hk, ← es]
      exact hr _ _
    | true =>
      cases z : σ.2 c (3 + k) with
      | zero =>
        have es : sgn σ c k = 27 := by unfold sgn; rw [q, z]; rfl
        simp only [Option.bind_some, Option.toList_some, Option.toList_none, List.cons_append, List.nil_append, true_or, or_true, and_true, true_and, i10, Bool.false_eq_true, if_true, if_false, reduceIte]
        rw [e27, z_pack ha (by decide) hk, ← es]
        exact hr _ _
      | succ j =>
        have es : sgn σ c k = j := by unfold sgn; rw [q, z]; simp
        have hne : (j + 1 = 0) = False := eq_false (by omega)
        simp only [hne, Option.bind_some, Option.toList_some, Option.toList_none, List.cons_append, List.nil_append, true_or, or_true, and_true, true_and, i10, Bool.false_eq_true, if_true, if_false, reduceIte, hI_s]
        rw [z_pack ha (by omega) hk, ← es]
        exact hr _ _
  have fin : ∀ (a : Nat) l5 l6, ev (d + 3) 83 11 [some (.ref i), some (.int (nI c)), some (.int (nI o)), some (.int (nI a)), some (.int (nI 4)), l5, l6] [] (hst h i S) = some (some (.int (nI a)), hst h i S) := by
    intro a l5 l6
    rw [e83_11]
    simp only [e83_0, e83_1, e83_2, e83_5, e83_6, e83_7, e83_8, e83_9, e83_13, e83_14, e83_17, e83_19, e83_21, e83_22, e83_24, e83_25, e83_26, e83_27, e83_28, e83_31, e83_32, e83_33, e83_35, e83_38, e83_40, e83_42, e83_43, e83_46, e83_48, e83_51, e83_53, e83_55, e83_56, e83_58, e83_60, e83_61, e83_62, e83_63, e83_64, e83_65, e83_68, e83_71, e83_72, st_g0, st_g1, st_g2, st_g3, st_g4, st_g5, st_g6, st_g7, st_p6, st_p7, st_l0, st_l1, st_l2, st_l3, st_l4, st_l5, st_s0, st_s1, st_s2, st_s3, st_s4, st_s5, st_is, Option.bind_some, Option.toList_some, Option.toList_none, List.cons_append, List.nil_append, true_or, or_true, and_true, true_and, i10, Bool.false_eq_true, if_true, if_false, reduceIte, show (4 : Int32) ≤ nI 4 from by decide]
  have b0 := sgn_b hb hc (show 0 < 4 by decide)
  have b1 := sgn_b hb hc (show 1 < 4 by decide)
  have b2 := sgn_b hb hc (show 2 < 4 by decide)
  have b3 := sgn_b hb hc (show 3 < 4 by decide)
  simp only [e83_0, e83_1, e83_2, e83_5, e83_6, e83_7, e83_8, e83_9, e83_13, e83_14, e83_17, e83_19, e83_21, e83_22, e83_24, e83_25, e83_26, e83_27, e83_28, e83_31, e83_32, e83_33, e83_35, e83_38, e83_40, e83_42, e83_43, e83_46, e83_48, e83_51, e83_53, e83_55, e83_56, e83_58, e83_60, e83_61, e83_62, e83_63, e83_64, e83_65, e83_68, e83_71, e83_72, st_g0, st_g1, st_g2, st_g3, st_g4, st_g5, st_g6, st_g7, st_p6, st_p7, st_l0, st_l1, st_l2, st_l3, st_l4, st_l5, st_s0, st_s1, st_s2, st_s3, st_s4, st_s5, st_is, Option.bind_some, Option.toList_some, Option.toList_none, List.cons_append, List.nil_append, true_or, or_true, and_true, true_and, i10, Bool.false_eq_true, if_true, if_false, reduceIte, hev]
  have main := step 0 0 (by decide) (by decide) _ (step 1 _ (by decide) (by simp only [Nat.mul_zero, Nat.pow_zero, Nat.reducePow, Nat.mul_one]; omega) _ (step 2 _ (by decide) (by simp only [Nat.mul_zero, Nat.pow_zero, Nat.reducePow, Nat.mul_one, Nat.reduceMul]; omega) _ (step 3 _ (by decide) (by simp only [Nat.mul_zero, Nat.pow_zero, Nat.reducePow, Nat.mul_one, Nat.reduceMul]; omega) _ (fin _)))) none none
  rw [show 2 ^ (5 * 3) * sgn σ c 3 + (2 ^ (5 * 2) * sgn σ c 2 + (2 ^ (5 * 1) * sgn σ c 1 + (2 ^ (5 * 0) * sgn σ c 0 + 0))) = sgs σ c by unfold sgs; simp only [Nat.mul_zero, Nat.pow_zero, Nat.reducePow, Nat.mul_one, Nat.reduceMul]; omega] at main
  exact main
/-- the reference's number of the four signs -/
def sgm (σ : mS) (c : Nat) : Nat := 32 * (32 * (32 * (32 * 0 + sgn σ c 0) + sgn σ c 1) + sgn σ c 2) + sgn σ c 3
theorem sgm_eq {σ : mS} {c e : Nat} (hb : bnd σ) (hc : c < σ.1) (he : e < σ.1) : (sgm σ c = sgm σ e) = (sgs σ c = sgs σ e) := by
  have h0 := sgn_b hb hc (show 0 < 4 by decide)
  have h1 := sgn_b hb hc (show 1 < 4 by decide)
  have h2 := sgn_b hb hc (show 2 < 4 by decide)
  have h3 := sgn_b hb hc (show 3 < 4 by decide)
  have g0 := sgn_b hb he (show 0 < 4 by decide)
  have g1 := sgn_b hb he (show 1 < 4 by decide)
  have g2 := sgn_b hb he (show 2 < 4 by decide)
  have g3 := sgn_b hb he (show 3 < 4 by decide)
  unfold sgm sgs
  exact propext ⟨fun h => by omega, fun h => by omega⟩
theorem sgm_b {σ : mS} {c : Nat} (hb : bnd σ) (hc : c < σ.1) : sgm σ c < 1048576 := by
  have h0 := sgn_b hb hc (show 0 < 4 by decide)
  have h1 := sgn_b hb hc (show 1 < 4 by decide)
  have h2 := sgn_b hb hc (show 2 < 4 by decide)
  have h3 := sgn_b hb hc (show 3 < 4 by decide)
  unfold sgm
  omega
/-- letters of a crate that are seen -/
def lsn (σ : mS) (c : Nat) : Nat := ct (fun p => decide (sgn σ c p < 26)) 4
/-- a crate that looks like c -/
def lke (σ : mS) (c e : Nat) : Bool := decide (σ.2 e 0 = σ.2 c 0) && decide (dpt σ e = dpt σ c) && decide (sgs σ e = sgs σ c)
/-- c can be told -/
def tld (σ : mS) (c : Nat) : Bool := alb (fun e => decide (e = c) || !lke σ c e) σ.1
theorem chu_len (σ : mS) : ∀ f u, (chu σ f u).length ≤ f
  | 0, _ => by simp [chu]
  | f + 1, 0 => by simp [chu]
  | f + 1, k + 1 => by
    have := chu_len σ f (σ.2 k 7)
    simp [chu]
    omega
theorem dpt_b (σ : mS) (c : Nat) : dpt σ c ≤ 12 := chu_len σ 12 _
end VIEW
