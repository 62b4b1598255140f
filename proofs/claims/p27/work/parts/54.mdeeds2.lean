/-! THE DEEDS OF THE REFERENCE, BREAKING AND LOADING -/
def bkf (f0 : Nat → Int32) (c k : Nat) : Nat → Int32 := fun x => if 2 + 9 * c ≤ x ∧ x < k then (if x + 9 < 110 then f0 (x + 9) else 0) else f0 x
theorem bkf_0 {f0 : Nat → Int32} {c : Nat} : bkf f0 c (2 + 9 * c) = f0 := funext fun x => if_neg (by omega)
theorem bkf_s {f0 : Nat → Int32} {c k : Nat} (hk : 2 + 9 * c ≤ k) : upd (bkf f0 c k) k (if k + 9 < 110 then f0 (k + 9) else 0) = bkf f0 c (k + 1) := by
  funext x
  by_cases q : x = k
  · subst q
    have e : (2 + 9 * c ≤ x ∧ x < x + 1) := ⟨hk, by omega⟩
    simp only [upd, bkf, if_pos e, if_true]
  · simp only [upd, q, if_false]
    unfold bkf
    by_cases z : 2 + 9 * c ≤ x ∧ x < k
    · rw [if_pos z, if_pos (show 2 + 9 * c ≤ x ∧ x < k + 1 by omega)]
    · rw [if_neg z, if_neg (show ¬ (2 + 9 * c ≤ x ∧ x < k + 1) by omega)]
def adj (c u : Nat) : Nat := if u ≤ c + 1 then u else u - 1
/-- the reference's row while holders are told anew -/
def bk2 (σ : mS) (r : Int32) (c : Nat) (g : Nat → Int32) (k : Nat) : Prop := g 0 = nI (σ.1 - 1) ∧ g 1 = r ∧ ∀ a, a < σ.1 - 1 → ∀ j, j < 9 → g (2 + 9 * a + j) = nI (if j = 7 ∧ a < k then adj c (σ.2 (shf c a) 7) else σ.2 (shf c a) j)
theorem bk2_s {σ : mS} {r : Int32} {c k : Nat} {g : Nat → Int32} (hk : k < σ.1 - 1) (h : bk2 σ r c g k) : bk2 σ r c (upd g (2 + 9 * k + 7) (nI (adj c (σ.2 (shf c k) 7)))) (k + 1) := by
  obtain ⟨h1, h2, h3⟩ := h
  refine ⟨?_, ?_, fun a ha j hj => ?_⟩
  · have e : ¬ 0 = 2 + 9 * k + 7 := by omega
    simp only [upd, e, if_false]
    exact h1
  · have e : ¬ 1 = 2 + 9 * k + 7 := by omega
    simp only [upd, e, if_false]
    exact h2
  · by_cases z : a = k ∧ j = 7
    · obtain ⟨rfl, rfl⟩ := z
      rw [if_pos ⟨rfl, by omega⟩]
      simp [upd]
    · have e : ¬ 2 + 9 * a + j = 2 + 9 * k + 7 := by omega
      simp only [upd, e, if_false]
      rw [h3 a ha j hj]
      congr 1
      by_cases y : j = 7 ∧ a < k
      · rw [if_pos y, if_pos (by omega)]
      · rw [if_neg y, if_neg (by omega)]
section MBREAK
variable {d : Nat} {h : zH} {i : Nat} {M : oS} {σ τ : mS} {r : Int32} {e : Nat → mS × Int32} {len c u : Nat} {x y : Int32} {w : Nat → Nat} {m : Nat} {s' : pS}
/-! load -/
theorem nsO_bad {M' : oS} (hn : nsO w m 0 s00 M') (hd : rdv m (rnn w m 0 s00) ≠ -4) : M'.2 4 = 0 := by
  rcases hn with ⟨b1, -, -⟩ | ⟨-, s1, b2, -, b4, -⟩
  · exact b1
  · have b2' : rnn w m 0 s00 = (m, some s1) := b2
    rw [b2'] at hd
    unfold rdv at hd
    dsimp only at hd
    rw [if_pos b4] at hd
    exact absurd rfl hd
theorem rdv_ok (hr : rnn w m 0 s00 = (m, some s')) (hc : cmp s' = true) : rdv m (rnn w m 0 s00) = -4 := by
  rw [hr]
  unfold rdv
  dsimp only
  rw [if_pos hc]
theorem nsO_ok {M' : oS} (hn : nsO w m 0 s00 M') (hr : rnn w m 0 s00 = (m, some s')) (hc : cmp s' = true) : M'.2 4 = 1 ∧ psI2 m s' ∧ rwR M' s'.2.2.2.2.2 := by
  rcases hn with ⟨-, -, b3⟩ | ⟨b1, s1, b2, b3, b4, b5⟩
  · exact absurd (rdv_ok hr hc) b3
  · have b2' : rnn w m 0 s00 = (m, some s1) := b2
    rw [hr] at b2'
    cases b2'
    exact ⟨b1, b3, b5⟩
end MBREAK
