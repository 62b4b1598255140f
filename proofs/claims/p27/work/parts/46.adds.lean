/-! A CRATE ADDED TO THE REFERENCE -/
def adf (f : Nat → Int32) (n : Nat) (x0 x1 x2 x7 x8 : Int32) : Nat → Int32 := upd (upd (upd (upd (upd f (2 + 9 * n + 0) x0) (2 + 9 * n + 1) x1) (2 + 9 * n + 2) x2) (2 + 9 * n + 7) x7) (2 + 9 * n + 8) x8
theorem adf_lo {f : Nat → Int32} {n : Nat} {x0 x1 x2 x7 x8 : Int32} {y : Nat} (h : y < 2 + 9 * n) : adf f n x0 x1 x2 x7 x8 y = f y := by
  have h0 : ¬ y = 2 + 9 * n + 0 := by omega
  have h1 : ¬ y = 2 + 9 * n + 1 := by omega
  have h2 : ¬ y = 2 + 9 * n + 2 := by omega
  have h7 : ¬ y = 2 + 9 * n + 7 := by omega
  have h8 : ¬ y = 2 + 9 * n + 8 := by omega
  simp only [adf, upd, h0, h1, h2, h7, h8, if_false]
section ADDS
variable {d : Nat} {h : zH} {i : Nat} {M : oS} {n : Nat} {x0 x1 x2 x7 x8 y : Int32}
end ADDS
