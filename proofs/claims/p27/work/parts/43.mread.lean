def hre (w : Nat → Nat) (m p : Nat) : Nat := if p < m then w p else 0
/-- after takes -/
def tkS (M : oS) (b : Bool) (p : Nat) : oS := setI (setI M 4 (bI (b = true))) 3 (nI (if b = true then p + 1 else p))
def mfS (M M' : oS) : Prop := M'.1 = M.1 ∧ ∀ k, k ≠ 3 → k ≠ 4 → M'.2 k = M.2 k
theorem mfS_t {M M' M'' : oS} (h : mfS M M') (h' : mfS M' M'') : mfS M M'' := ⟨h'.1.trans h.1, fun k a b => (h'.2 k a b).trans (h.2 k a b)⟩
theorem mfS_tk {M : oS} {b : Bool} {p : Nat} : mfS M (tkS M b p) := ⟨rfl, fun k a b => by unfold tkS; rw [setI_2, if_neg a, setI_2, if_neg b]⟩
theorem tkS_4 {M : oS} {b : Bool} {p : Nat} : (tkS M b p).2 4 = bI (b = true) := by unfold tkS; rw [setI_2, if_neg (by decide), setI_2, if_pos rfl]
theorem tkS_3 {M : oS} {b : Bool} {p : Nat} : (tkS M b p).2 3 = nI (if b = true then p + 1 else p) := by unfold tkS; rw [setI_2, if_pos rfl]
/-- the second digit of a number -/
def tn2 (w : Nat → Nat) (m p v hi : Nat) : Nat × Nat := if 0 < v ∧ 48 ≤ hre w m p ∧ hre w m p ≤ 57 ∧ 10 * v + (hre w m p - 48) ≤ hi then (p + 1, 10 * v + (hre w m p - 48)) else (p, v)
section MREAD
variable {d : Nat} {h : zH} {i : Nat} {M : oS} {τ : mS} {w : Nat → Nat} {m p : Nat}
/-- a number read: where it stops, and its value -/
def tnr (w : Nat → Nat) (m p mark lo hi : Nat) : Nat × Option Nat := if hre w m p ≠ mark then (p, none) else if 48 + lo ≤ hre w m (p + 1) ∧ hre w m (p + 1) ≤ 57 then ((tn2 w m (p + 2) (hre w m (p + 1) - 48) hi).1, some (tn2 w m (p + 2) (hre w m (p + 1) - 48) hi).2) else (p + 1, none)
end MREAD
