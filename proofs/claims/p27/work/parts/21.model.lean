/-- the chain from the coded holder u ends within f -/
def trm (σ : mS) : Nat → Nat → Prop
  | _, 0 => True
  | 0, _ + 1 => False
  | f + 1, k + 1 => trm σ f (σ.2 k 7)
section MODEL
variable {d : Nat} {h : zH} {i : Nat} {M : oS} {σ : mS} {c : Nat}
theorem m_ix (c j : Nat) : (2 : Int32) + 9 * nI c + nI j = nI (2 + 9 * c + j) := by
  rw [show (2 : Int32) = nI 2 from rfl, show (9 : Int32) = nI 9 from rfl, pk_mul, nI_add, nI_add]
theorem hI_neg {u : Nat} (hu : u < 2147483648) : (hI u < 0) = (u = 0) := by
  cases u with
  | zero => rw [hI_0]; exact propext ⟨fun _ => rfl, fun _ => by decide⟩
  | succ k => rw [hI_s]; exact propext ⟨fun h => absurd h (nI_pos (by omega)), fun h => by omega⟩
/-- the topmost one of its pile -/
def tpb (σ : mS) (c : Nat) : Bool := match σ.2 c 7 with
  | 0 => true
  | k + 1 => decide (σ.2 c 8 + 1 = pil σ k)
/-- letters of a label -/
def lts (σ : mS) (c : Nat) : Nat := ct (fun p => decide (0 < σ.2 c (3 + p))) 4
end MODEL
