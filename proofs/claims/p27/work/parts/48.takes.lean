/-! A CRATE IN THE READER OF THE REFERENCE -/
/-- the crates that stand open, the innermost one last -/
def opS (f : Nat → Int32) (τ : mS) : Nat → Nat → Prop
  | 0, 0 => True
  | t + 1, k + 1 => f t = nI k ∧ opS f τ t (τ.2 k 7)
  | _, _ => False
theorem opS_0 {f : Nat → Int32} {τ : mS} {u : Nat} (h : opS f τ 0 u) : u = 0 := by
  cases u with
  | zero => rfl
  | succ k => exact h.elim
theorem opS_s {f : Nat → Int32} {τ : mS} {t u : Nat} (h : opS f τ (t + 1) u) : ∃ k, u = k + 1 ∧ f t = nI k ∧ opS f τ t (τ.2 k 7) := by
  cases u with
  | zero => exact h.elim
  | succ k => exact ⟨k, rfl, h.1, h.2⟩
theorem opS_eq {f g : Nat → Int32} {τ τ' : mS} {n : Nat} (h1 : ∀ a, a < n → τ'.2 a 7 = τ.2 a 7) (h2 : ∀ a, a < n → τ.2 a 7 ≤ n) : ∀ {t u : Nat}, (∀ x, x < t → g x = f x) → u ≤ n → opS f τ t u → opS g τ' t u
  | 0, 0, _, _, _ => trivial
  | 0, _ + 1, _, _, h => h.elim
  | _ + 1, 0, _, _, h => h.elim
  | t + 1, k + 1, hf, hu, h => by
    obtain ⟨a, b⟩ := h
    refine ⟨(hf t (by omega)).trans a, ?_⟩
    rw [h1 k (by omega)]
    exact opS_eq h1 h2 (fun x hx => hf x (by omega)) (h2 k (by omega)) b
/-- what the reader of the reference leaves -/
def mfC (M M' : oS) : Prop := (∀ r, r ≠ 5 → r ≠ 6 → M'.1 r = M.1 r) ∧ ∀ k, k ≠ 3 → k ≠ 4 → k ≠ 5 → k ≠ 6 → M'.2 k = M.2 k
theorem mfC_r {M : oS} : mfC M M := ⟨fun _ _ _ => rfl, fun _ _ _ _ _ => rfl⟩
theorem mfC_t {M M' M'' : oS} (h : mfC M M') (h' : mfC M' M'') : mfC M M'' := ⟨fun r a b => (h'.1 r a b).trans (h.1 r a b), fun k a b c e => (h'.2 k a b c e).trans (h.2 k a b c e)⟩
theorem mfC_s {M M' : oS} (h : mfS M M') : mfC M M' := ⟨fun r _ _ => by rw [h.1], fun k a b _ _ => h.2 k a b⟩
theorem mfC_R {M : oS} {f : Nat → Int32} {r : Nat} (hr : r = 5 ∨ r = 6) : mfC M (setR M r f) := ⟨fun k a b => by rw [setR_1, if_neg (by omega)], fun _ _ _ _ _ => rfl⟩
theorem mfC_I {M : oS} {x : Int32} {k : Nat} (hk : k = 3 ∨ k = 4 ∨ k = 5 ∨ k = 6) : mfC M (setI M k x) := ⟨fun _ _ _ => rfl, fun j a b c e => by rw [setI_2, if_neg (by omega)]⟩
theorem nI_s1 (k : Nat) : nI (k + 1) - 1 = nI k := hI_s k
theorem hI_1 (u : Nat) : hI u + 1 = nI u := by
  unfold hI
  rw [Int32.sub_add_cancel]
section TAKES
variable {d : Nat} {h : zH} {i : Nat} {M : oS} {s : pS} {w : Nat → Nat} {m p : Nat}
/-- row 5 while a crate is read -/
def cuR (M : oS) (τ : mS) (c : Nat) : Prop := M.2 5 = nI c ∧ (∀ a, a < c → ∀ j, j < 9 → M.1 5 (9 * a + j) = nI (τ.2 a j)) ∧ ∀ q, q < 4 → M.1 5 (9 * c + (3 + q)) = nI (τ.2 c (3 + q))
/-- row 5 after the numbers -/
def adr (f : Nat → Int32) (c : Nat) (x0 x1 x2 x8 x7 : Int32) : Nat → Int32 := upd (upd (upd (upd (upd f (9 * c) x0) (9 * c + 1) x1) (9 * c + 2) x2) (9 * c + 8) x8) (9 * c + 7) x7
theorem adr_lo {f : Nat → Int32} {c y : Nat} {x0 x1 x2 x8 x7 : Int32} (hy : y < 9 * c ∨ (9 * c + 3 ≤ y ∧ y ≤ 9 * c + 6)) : adr f c x0 x1 x2 x8 x7 y = f y := by
  have h0 : ¬ y = 9 * c := by omega
  have h1 : ¬ y = 9 * c + 1 := by omega
  have h2 : ¬ y = 9 * c + 2 := by omega
  have h7 : ¬ y = 9 * c + 7 := by omega
  have h8 : ¬ y = 9 * c + 8 := by omega
  simp only [adr, upd, h0, h1, h2, h7, h8, if_false]
def plc (τ : mS) (u : Nat) : Nat := match u with
  | 0 => 0
  | k + 1 => pil τ k
theorem tnr_b {mark lo hi : Nat} : (tnr w m p mark lo hi).1 ≤ p + 3 := by
  unfold tnr tn2
  split
  · dsimp only; omega
  · split
    · dsimp only
      split <;> dsimp only <;> omega
    · dsimp only; omega
theorem tn3_b : (tn3 w m p).1 ≤ p + 9 := by
  have h1 := tnr_b (w := w) (m := m) (p := p) (mark := 115) (lo := 1) (hi := 60)
  have h2 := tnr_b (w := w) (m := m) (p := (tnr w m p 115 1 60).1) (mark := 114) (lo := 0) (hi := 59)
  have h3 := tnr_b (w := w) (m := m) (p := (tnr w m (tnr w m p 115 1 60).1 114 0 59).1) (mark := 103) (lo := 0) (hi := 15)
  unfold tn3
  split
  · dsimp only; omega
  · split
    · dsimp only; omega
    · split <;> dsimp only <;> omega
end TAKES
