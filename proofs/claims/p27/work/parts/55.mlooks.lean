/-! THE LOOKS OF THE REFERENCE -/
theorem sI_bI {p : Nat → Bool} : ∀ {n : Nat}, sI (fun k => bI (p k = true)) n = nI (ct p n)
  | 0 => rfl
  | n + 1 => by
    rw [sI, sI_bI, ct]
    cases p n with
    | true =>
      rw [bI_t rfl, nI_1]
      rfl
    | false =>
      rw [bI_f Bool.false_ne_true, Int32.add_zero]
      rfl
theorem si_sub {a b : Nat → Nat} : ∀ {n : Nat}, si (fun k => (a k : Int) - (b k : Int)) n = (sm a n : Int) - (sm b n : Int)
  | 0 => rfl
  | n + 1 => by
    rw [si, si_sub, sm, sm]
    omega
theorem sm_add {a b : Nat → Nat} : ∀ {n : Nat}, sm (fun k => a k + b k) n = sm a n + sm b n
  | 0 => rfl
  | n + 1 => by
    rw [sm, sm_add, sm, sm]
    omega
theorem sm_swap {f : Nat → Nat → Nat} {m : Nat} : ∀ {n : Nat}, sm (fun c => sm (fun a => f c a) m) n = sm (fun a => sm (fun c => f c a) n) m
  | 0 => by
    rw [sm]
    exact (sm_zero (fun k _ => rfl)).symm
  | n + 1 => by
    rw [sm, sm_swap, ← sm_add]
    rfl
theorem sm_one {u x : Nat} : ∀ {n : Nat}, sm (fun c => if u = c + 1 then x else 0) n = if 1 ≤ u ∧ u ≤ n then x else 0
  | 0 => by
    rw [sm, if_neg (by omega)]
  | n + 1 => by
    rw [sm, sm_one]
    by_cases q : u = n + 1
    · rw [if_neg (by omega), if_pos q, if_pos (by omega), Nat.zero_add]
    · rw [if_neg q, Nat.add_zero]
      by_cases z : 1 ≤ u ∧ u ≤ n
      · rw [if_pos z, if_pos (by omega)]
      · rw [if_neg z, if_neg (by omega)]
/-- the sizes of the crates that lie -/
def lyg (σ : mS) : Nat := sm (fun c => if σ.2 c 7 = 0 then 0 else σ.2 c 0) σ.1
def rms (σ : mS) : Nat := sm (fun c => σ.2 c 1) σ.1
theorem pis_sum {σ : mS} (hb : bnd σ) : sm (pis σ) σ.1 = lyg σ := by
  show sm (fun c => sm (fun a => if σ.2 a 7 = c + 1 then σ.2 a 0 else 0) σ.1) σ.1 = _
  rw [sm_swap]
  refine sm_cong (fun a ha => ?_)
  have h7 := (hb.2 a ha).2.2.2.2.1
  rw [sm_one]
  by_cases z : σ.2 a 7 = 0
  · rw [if_neg (by omega), if_pos z]
  · rw [if_pos (by omega), if_neg z]
theorem lft_sum {σ : mS} (hb : bnd σ) : si (lft σ) σ.1 = (rms σ : Int) - (lyg σ : Int) := by
  rw [← pis_sum hb]
  exact si_sub
theorem rms_b {σ : mS} (hb : bnd σ) : rms σ ≤ 720 := by
  have h1 := sm_le (f := fun c => σ.2 c 1) (m := 60) (n := σ.1) (fun k hk => (hb.2 k hk).2.1)
  have h2 := hb.1
  have : σ.1 * 60 ≤ 12 * 60 := Nat.mul_le_mul_right 60 h2
  unfold rms
  omega
theorem lyg_b {σ : mS} (hb : bnd σ) : lyg σ ≤ 720 := by
  have h1 := sm_le (f := fun c => if σ.2 c 7 = 0 then 0 else σ.2 c 0) (m := 60) (n := σ.1) (fun k hk => by
    have := (hb.2 k hk).1
    split <;> omega)
  have h2 := hb.1
  have : σ.1 * 60 ≤ 12 * 60 := Nat.mul_le_mul_right 60 h2
  unfold lyg
  omega
theorem swd {x : Int32} {b : Nat} (hb : b < 2147483648) (h : ¬ (0 ≤ x ∧ x ≤ nI b)) : x.toInt < 0 ∨ (b : Int) < x.toInt := by
  by_cases q : x.toInt < 0
  · exact Or.inl q
  · right
    have e0 : Int32.toInt 0 = 0 := by decide
    have p0 : (0 : Int32) ≤ x := Int32.le_iff_toInt_le.mpr (by rw [e0]; omega)
    have q2 : ¬ x ≤ nI b := fun z => h ⟨p0, z⟩
    rw [Int32.le_iff_toInt_le, nI_toInt hb] at q2
    omega
theorem to14 {w : Nat} (h : w ≤ 14) : w = 0 ∨ w = 1 ∨ w = 2 ∨ w = 3 ∨ w = 4 ∨ w = 5 ∨ w = 6 ∨ w = 7 ∨ w = 8 ∨ w = 9 ∨ w = 10 ∨ w = 11 ∨ w = 12 ∨ w = 13 ∨ w = 14 := by omega
/-- a pattern that is seen -/
def alk (σ : mS) (x1 x2 x3 x4 : Int32) (c : Nat) : Bool := decide (x1 = 28 ∨ nI (sgn σ c 0) = x1) && (decide (x2 = 28 ∨ nI (sgn σ c 1) = x2) && (decide (x3 = 28 ∨ nI (sgn σ c 2) = x3) && decide (x4 = 28 ∨ nI (sgn σ c 3) = x4)))
def wnt (x : Int32) : Prop := 0 ≤ x ∧ x ≤ 28
/-- what count answers -/
def cnv (σ : mS) (r : Int32) (m len w : Nat) : Int32 := match w with
  | 0 => nI σ.1
  | 1 => nI (ct (fun c => decide (σ.2 c 7 = 0)) σ.1)
  | 2 => nI (ct (lse σ) σ.1)
  | 3 => nI (dmx σ)
  | 4 => nI (sm (fun c => σ.2 c 0) σ.1)
  | 5 => iI ((rms σ : Int) - (lyg σ : Int))
  | 6 => nI (ct (tld σ) σ.1)
  | 7 => nI (sm (lts σ) σ.1)
  | 8 => nI (sm (lsn σ) σ.1)
  | 9 => nI (dif σ)
  | 10 => nI (lgn σ)
  | 11 => iI (si (eft σ) σ.1)
  | 12 => r
  | 13 => nI m
  | _ => nI len
/-- a crate turned -/
def trd (σ : mS) (c : Nat) : mS := sa σ c 2 (tnd (σ.2 c 2))
def ltn (σ : mS) (c : Nat) : Nat := sm (lsn (trd σ c)) σ.1
/-- the best one to turn, coded, and its letters -/
def bts (σ : mS) (k : Nat) (s : Nat × Int) : Nat × Int := if s.2 < (ltn σ k : Int) then (k + 1, (ltn σ k : Int)) else s
def btn (σ : mS) : Nat := (zfold (bts σ) σ.1 (0, -1)).1
theorem trd_wf {σ : mS} (hw : wf σ) {c : Nat} : wf (trd σ c) := turn_wf hw tnd_15
theorem lsn_4 {σ : mS} {c : Nat} : lsn σ c ≤ 4 := ct_le _ _
theorem ltn_b {σ : mS} (hn : σ.1 ≤ 12) {c : Nat} : ltn σ c ≤ 48 := by
  have h1 := sm_le (f := lsn (trd σ c)) (m := 4) (n := σ.1) (fun k _ => lsn_4)
  have : σ.1 * 4 ≤ 12 * 4 := Nat.mul_le_mul_right 4 hn
  unfold ltn
  omega
section MLOOKS
variable {d : Nat} {h : zH} {i : Nat} {M : oS} {σ : mS} {r : Int32} {e : Nat → mS × Int32} {len c u m : Nat} {x y : Int32} {w : Nat → Nat}
end MLOOKS
