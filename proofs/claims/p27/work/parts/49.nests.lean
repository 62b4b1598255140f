/-! THE NESTS IN THE READER OF THE REFERENCE -/
def z4f (f : Nat → Int32) (a : Nat) : Nat → Int32 := upd (upd (upd (upd f a 0) (a + 1) 0) (a + 2) 0) (a + 3) 0
theorem z4f_o {f : Nat → Int32} {a y : Nat} (hy : y < a ∨ a + 4 ≤ y) : z4f f a y = f y := by
  have h0 : ¬ y = a := by omega
  have h1 : ¬ y = a + 1 := by omega
  have h2 : ¬ y = a + 2 := by omega
  have h3 : ¬ y = a + 3 := by omega
  simp only [z4f, upd, h0, h1, h2, h3, if_false]
theorem z4f_i {f : Nat → Int32} {a q : Nat} (hq : q < 4) : z4f f a (a + q) = 0 := by
  have h4 : q = 0 ∨ q = 1 ∨ q = 2 ∨ q = 3 := by omega
  rcases h4 with w | w | w | w <;> subst w <;> simp [z4f, upd]
theorem bgn_o {τ : mS} {u a j : Nat} (ha : a < τ.1) : (bgn τ u).2 a j = τ.2 a j := by
  cases u with
  | zero => exact if_neg (by omega)
  | succ k =>
    show (laid (addd τ zA) τ.1 k).2 a j = _
    rw [laid_2, if_neg (by omega), if_neg (by omega)]
    exact if_neg (by omega)
theorem bgn_7 {τ : mS} {u : Nat} : (bgn τ u).2 τ.1 7 = u := by
  cases u with
  | zero => exact if_pos rfl
  | succ k =>
    show (laid (addd τ zA) τ.1 k).2 τ.1 7 = _
    rw [laid_2, if_pos ⟨rfl, rfl⟩]
theorem bgn_8 {τ : mS} {u : Nat} : (bgn τ u).2 τ.1 8 = plc τ u := by
  cases u with
  | zero => exact if_pos rfl
  | succ k =>
    show (laid (addd τ zA) τ.1 k).2 τ.1 8 = _
    rw [laid_2, if_neg (by omega), if_pos ⟨rfl, rfl⟩]
    unfold plc pil
    show ct _ (τ.1 + 1) = _
    rw [ct]
    have e0 : decide ((gnd (addd τ zA) τ.1).2 τ.1 7 = k + 1) = false := by
      rw [gnd_2, if_pos ⟨rfl, Or.inl rfl⟩]
      simp
    rw [e0]
    refine ct_cong (fun a ha => ?_)
    rw [gnd_2, if_neg (by omega)]
    show decide ((if a = τ.1 then zA 7 else τ.2 a 7) = k + 1) = _
    rw [if_neg (by omega)]
section NESTS
variable {d : Nat} {h : zH} {i : Nat} {M : oS} {s : pS} {w : Nat → Nat} {m p : Nat}
/-- what the reader of the reference finds is what the machine finds -/
def nsO (w : Nat → Nat) (m p : Nat) (s : pS) (M' : oS) : Prop := (M'.2 4 = 0 ∧ M'.2 3 = rdv m (rn w m p s) ∧ rdv m (rn w m p s) ≠ -4) ∨ (M'.2 4 = 1 ∧ ∃ s', rn w m p s = (m, some s') ∧ psI2 m s' ∧ cmp s' = true ∧ rwR M' s'.2.2.2.2.2)
theorem nsO_t {p' : Nat} {s' : pS} {M' : oS} (G : Gs w m p s p' s') (hn : nsO w m p' s' M') : nsO w m p s M' := by
  unfold nsO
  rw [G.2.2.2]
  exact hn
theorem nI_n4 {q : Nat} (hq : q ≤ 1000) : nI q ≠ -4 := fun z => by
  have := congrArg Int32.toInt z
  rw [nI_toInt (by omega)] at this
  have e : Int32.toInt (-4) = -4 := by decide
  omega
end NESTS
