/-! CHANGES OF THE REFERENCE -/
def cpf (f g : Nat → Int32) (a b n : Nat) : Nat → Int32 := fun x => if b ≤ x ∧ x < b + n then f (a + (x - b)) else g x
theorem cpf_s {f g : Nat → Int32} {a b n : Nat} : upd (cpf f g a b n) (b + n) (f (a + n)) = cpf f g a b (n + 1) := by
  funext x
  by_cases q : x = b + n
  · subst q
    simp [upd, cpf]
  · simp only [upd, cpf, q, if_false]
    by_cases w : b ≤ x ∧ x < b + n
    · rw [if_pos w, if_pos (by omega)]
    · rw [if_neg w, if_neg (by omega)]
theorem cpf_0 {f g : Nat → Int32} {a b : Nat} : cpf f g a b 0 = g := by
  funext x
  exact if_neg (by omega)
def he (e : Nat → mS × Int32) (len : Nat) (x : mS × Int32) : Nat → mS × Int32 := fun j => if len < 4 then (if j = len then x else e j) else (if j = 3 then x else e (j + 1))
def hl (len : Nat) : Nat := if len < 4 then len + 1 else 4
theorem k110 : ∀ l, l < 4 → (110 : Int32) * nI l = nI (110 * l) := by decide
section MCHANGE
variable {d : Nat} {h : zH} {i : Nat} {M : oS} {σ : mS} {c : Nat} {x : Int32}
end MCHANGE
