/-! THE MATHEMATICAL STATE: how many crates, and of each crate: 0 size, 1 room, 2 gaps, 3 to 6 letters (0 for none), 7 the crate around and 1 (0 on the ground), 8 its place -/
abbrev mS : Type := Nat × (Nat → Nat → Nat)
/-- counts, folds -/
def ct (p : Nat → Bool) : Nat → Nat
  | 0 => 0
  | n + 1 => ct p n + if p n then 1 else 0
def zfold {α : Type} (f : Nat → α → α) : Nat → α → α
  | 0, s => s
  | k + 1, s => f k (zfold f k s)
theorem z_for {α β : Type} (F : Nat → α → β) (f : Nat → α → α) {n : Nat} {s : α} (hs : ∀ k s, k < n → F k s = F (k + 1) (f k s)) : F 0 s = F n (zfold f n s) := by
  have h : ∀ k, k ≤ n → F 0 s = F k (zfold f k s) := by
    intro k
    induction k with
    | zero => intro _; rfl
    | succ k ih => intro hk; rw [ih (by omega), hs k _ (by omega)]; rfl
  exact h n (Nat.le_refl n)
theorem z_forI {α β : Type} (F : Nat → α → β) (f : Nat → α → α) (I : Nat → α → Prop) {n : Nat} {s : α} (h0 : I 0 s) (hs : ∀ k s, k < n → I k s → F k s = F (k + 1) (f k s) ∧ I (k + 1) (f k s)) : F 0 s = F n (zfold f n s) ∧ I n (zfold f n s) := by
  have h : ∀ k, k ≤ n → F 0 s = F k (zfold f k s) ∧ I k (zfold f k s) := by
    intro k
    induction k with
    | zero => intro _; exact ⟨rfl, h0⟩
    | succ k ih =>
      intro hk
      obtain ⟨h1, h2⟩ := ih (by omega)
      obtain ⟨h3, h4⟩ := hs k _ (by omega) h2
      exact ⟨h1.trans h3, h4⟩
  exact h n (Nat.le_refl n)
theorem zfold_ct {p : Nat → Bool} {n : Nat} {s : Nat} : zfold (fun k s => s + if p k then 1 else 0) n s = s + ct p n := by
  induction n with
  | zero => rfl
  | succ n ih => rw [zfold, ih, ct]; omega
theorem z_first {β : Type} (F : Nat → β) (R : Nat → β) (p : Nat → Prop) [DecidablePred p] {n : Nat} (hs : ∀ k, k < n → F k = if p k then R k else F (k + 1)) : (∃ k, k < n ∧ p k ∧ (∀ j, j < k → ¬ p j) ∧ F 0 = R k) ∨ ((∀ k, k < n → ¬ p k) ∧ F 0 = F n) := by
  have h : ∀ m, m ≤ n → (∃ k, k < m ∧ p k ∧ (∀ j, j < k → ¬ p j) ∧ F 0 = R k) ∨ ((∀ k, k < m → ¬ p k) ∧ F 0 = F m) := by
    intro m
    induction m with
    | zero => intro _; exact Or.inr ⟨fun k hk => by omega, rfl⟩
    | succ m ih =>
      intro hm
      rcases ih (by omega) with ⟨k, h1, h2, h3, h4⟩ | ⟨h1, h2⟩
      · exact Or.inl ⟨k, by omega, h2, h3, h4⟩
      · by_cases hp : p m
        · exact Or.inl ⟨m, by omega, hp, h1, by rw [h2, hs m (by omega), if_pos hp]⟩
        · refine Or.inr ⟨fun k hk => ?_, by rw [h2, hs m (by omega), if_neg hp]⟩
          rcases Nat.lt_or_ge k m with q | q
          · exact h1 k q
          · rw [show k = m by omega]; exact hp
  exact h n (Nat.le_refl n)
/-- sums -/
def sm (f : Nat → Nat) : Nat → Nat
  | 0 => 0
  | n + 1 => sm f n + f n
theorem zfold_sm {f : Nat → Nat} {n s : Nat} : zfold (fun k s => s + f k) n s = s + sm f n := by
  induction n with
  | zero => rfl
  | succ n ih => rw [zfold, ih, sm]; omega
/-- whole numbers as Int32 -/
def iI (z : Int) : Int32 := Int32.ofInt z
theorem iI_nat (n : Nat) : nI n = iI (n : Int) := by
  unfold nI iI
  exact (Int32.ofInt_eq_ofNat ..).symm
theorem iI_add (a b : Int) : iI a + iI b = iI (a + b) := by
  unfold iI
  rw [Int32.ofInt_add]
theorem iI_sub (a b : Int) : iI a - iI b = iI (a - b) := by
  unfold iI
  rw [Int32.ofInt_sub]
theorem iI_toInt {z : Int} (h1 : -2147483648 ≤ z) (h2 : z < 2147483648) : (iI z).toInt = z := by
  unfold iI
  exact Int32.toInt_ofInt_of_le h1 h2
theorem iI_lt {a b : Int} (h1 : -2147483648 ≤ a ∧ a < 2147483648) (h2 : -2147483648 ≤ b ∧ b < 2147483648) : (iI a < iI b) = (a < b) := by
  rw [Int32.lt_iff_toInt_lt, iI_toInt h1.1 h1.2, iI_toInt h2.1 h2.2]
theorem iI_le {a b : Int} (h1 : -2147483648 ≤ a ∧ a < 2147483648) (h2 : -2147483648 ≤ b ∧ b < 2147483648) : (iI a ≤ iI b) = (a ≤ b) := by
  rw [Int32.le_iff_toInt_le, iI_toInt h1.1 h1.2, iI_toInt h2.1 h2.2]
theorem iI_eq {a b : Int} (h1 : -2147483648 ≤ a ∧ a < 2147483648) (h2 : -2147483648 ≤ b ∧ b < 2147483648) : (iI a = iI b) = (a = b) := by
  refine propext ⟨fun h => ?_, fun h => by rw [h]⟩
  have := congrArg Int32.toInt h
  rwa [iI_toInt h1.1 h1.2, iI_toInt h2.1 h2.2] at this
theorem nI_eqp {a b : Nat} (ha : a < 2147483648) (hb : b < 2147483648) : (nI a = nI b) = (a = b) := propext (nI_eq ha hb)
theorem nI_ltp {a b : Nat} (ha : a < 2147483648) (hb : b < 2147483648) : (nI a < nI b) = (a < b) := propext (nI_ltI ha hb)
theorem nI_lep {a b : Nat} (ha : a < 2147483648) (hb : b < 2147483648) : (nI a ≤ nI b) = (a ≤ b) := propext (nI_leI ha hb)
/-- a holder as the class keeps it: -1 on the ground -/
def hI (u : Nat) : Int32 := nI u - 1
theorem hI_0 : hI 0 = -1 := by decide
theorem hI_s (k : Nat) : hI (k + 1) = nI k := nI_pred k
theorem hI_m1 {u : Nat} (hu : u < 2147483648) : (hI u = -1) = (u = 0) := by
  cases u with
  | zero => rw [hI_0]; simp
  | succ k =>
    rw [hI_s]
    refine propext ⟨fun h => ?_, fun h => by omega⟩
    have := congrArg Int32.toInt h
    rw [nI_toInt (by omega)] at this
    have e : Int32.toInt (-1) = -1 := by decide
    rw [e] at this
    omega
theorem hI_eq {u k : Nat} (hu : u < 2147483648) (hk : k < 2147483648) : (hI u = nI k) = (u = k + 1) := by
  cases u with
  | zero =>
    rw [hI_0]
    refine propext ⟨fun h => ?_, fun h => by omega⟩
    have := congrArg Int32.toInt h
    rw [nI_toInt (by omega)] at this
    have e : Int32.toInt (-1) = -1 := by decide
    rw [e] at this
    omega
  | succ j =>
    rw [hI_s, nI_eqp (by omega) hk]
    exact propext ⟨fun h => by omega, fun h => by omega⟩
/-! attributes -/
def lbl (A : Nat → Nat) : Nat := A 3 + 27 * (A 4 + 27 * (A 5 + 27 * A 6))
/-- bounds alone -/
def bnd (σ : mS) : Prop := σ.1 ≤ 12 ∧ ∀ c, c < σ.1 → σ.2 c 0 ≤ 60 ∧ σ.2 c 1 ≤ 60 ∧ σ.2 c 2 ≤ 15 ∧ (∀ p, p < 4 → σ.2 c (3 + p) ≤ 26) ∧ σ.2 c 7 ≤ σ.1 ∧ σ.2 c 8 ≤ 12
/-- a stock that holds the state -/
def stR (S : oS) (σ : mS) : Prop := S.2 0 = nI σ.1 ∧ ∀ c, c < σ.1 → S.1 0 c = nI (σ.2 c 0) ∧ S.1 1 c = nI (σ.2 c 1) ∧ S.1 2 c = nI (σ.2 c 2) ∧ S.1 3 c = nI (lbl (σ.2 c)) ∧ S.1 4 c = hI (σ.2 c 7) ∧ S.1 5 c = nI (σ.2 c 8)
/-- crates in a crate's pile -/
def pil (σ : mS) (c : Nat) : Nat := ct (fun d => decide (σ.2 d 7 = c + 1)) σ.1
/-- the sizes in a crate's pile together -/
def pis (σ : mS) (c : Nat) : Nat := sm (fun d => if σ.2 d 7 = c + 1 then σ.2 d 0 else 0) σ.1
/-- the chain of the crates around, from the coded holder u on, at most f -/
def chu (σ : mS) : Nat → Nat → List Nat
  | 0, _ => []
  | _ + 1, 0 => []
  | f + 1, k + 1 => k :: chu σ f (σ.2 k 7)
def chn (σ : mS) (c : Nat) : List Nat := chu σ 12 (σ.2 c 7)
