/-! THE LONGEST NEST, IN THE REFERENCE -/
theorem setR_setR (M : oS) (k : Nat) (f g : Nat → Int32) : setR (setR M k f) k g = setR M k g := by
  unfold setR
  refine Prod.ext (funext fun j => ?_) rfl
  by_cases h : j = k <;> simp [h]
theorem setR_self (M : oS) (k : Nat) : setR M k (M.1 k) = M := by
  unfold setR
  refine Prod.ext (funext fun j => ?_) rfl
  by_cases h : j = k <;> simp [h]
theorem z0_10 : ((0 : Nat) = 10) = False := by decide
/-- how far the relaxation has come -/
def nP (σ : mS) (r c e : Nat) (g : Nat → Nat) : Prop := (∀ x, x < σ.1 → (lse σ x = true → 1 ≤ g x) ∧ g x ≤ lnn σ x) ∧ (∀ x, x < σ.1 → min (lnn σ x) (r + 1) ≤ g x) ∧ (∀ x, x < σ.1 → x < c → min (lnn σ x) (r + 2) ≤ g x) ∧ (∀ x, x < σ.1 → x < e → lse σ c = true → lse σ x = true → σ.2 x 0 ≤ σ.2 c 1 → min (lnn σ x) (r + 1) + 1 ≤ g c)
theorem wf.lnn_pos {σ : mS} (hw : wf σ) {c : Nat} (hc : c < σ.1) (h : 0 < lnn σ c) : lse σ c = true := by
  cases q : lse σ c with
  | true => rfl
  | false =>
    rw [hw.lnn_eq hc, q] at h
    simp at h
theorem mxr_ub {σ : mS} {r e : Nat} (he : e < σ.1) (h : σ.2 e 0 ≤ r) : lnn σ e ≤ mxr σ r := by
  have := mxf_ub (f := fun e => if σ.2 e 0 ≤ r then lnn σ e else 0) he
  simp only [h, if_true] at this
  exact this
theorem nP_c {σ : mS} (hw : wf σ) {r c : Nat} {g : Nat → Nat} (hc : c < σ.1) (h : nP σ r c σ.1 g) : nP σ r (c + 1) 0 g := by
  obtain ⟨h1, h2, h3, h4⟩ := h
  refine ⟨h1, h2, fun x hx hxc => ?_, fun x _ hx => by omega⟩
  by_cases q : x = c
  · subst q
    have e := hw.lnn_eq hx
    by_cases q : lse σ x = true
    · rw [if_pos q] at e
      rcases Nat.eq_zero_or_pos (mxr σ (σ.2 x 1)) with z | z
      · have := (h1 x hx).1 q
        omega
      · obtain ⟨y, y1, y2, y3, y4, y5⟩ := hw.nxt_ex z
        have := h4 y y1 y1 q (hw.lnn_pos y1 (by omega)) y4
        omega
    · rw [if_neg q] at e
      omega
  · exact h3 x hx (by omega)
theorem nP_r {σ : mS} {r : Nat} {g : Nat → Nat} (h : nP σ r σ.1 0 g) : nP σ (r + 1) 0 0 g := by
  obtain ⟨h1, h2, h3, h4⟩ := h
  exact ⟨h1, fun x hx => h3 x hx hx, fun x _ hx => by omega, fun x _ hx => by omega⟩
theorem nP_e {σ : mS} (hw : wf σ) {r c e : Nat} {g : Nat → Nat} (hc : c < σ.1) (he : e < σ.1) (h : nP σ r c e g) : nP σ r c (e + 1) (fun x => if x = c then (if 0 < g c ∧ 0 < g e ∧ σ.2 e 0 ≤ σ.2 c 1 ∧ g c < g e + 1 then g e + 1 else g c) else g x) := by
  obtain ⟨h1, h2, h3, h4⟩ := h
  have ec := hw.lnn_eq hc
  have mono : g c ≤ (if 0 < g c ∧ 0 < g e ∧ σ.2 e 0 ≤ σ.2 c 1 ∧ g c < g e + 1 then g e + 1 else g c) := by split <;> omega
  refine ⟨fun x hx => ?_, fun x hx => ?_, fun x hx hxc => ?_, fun x hx hxe l1 l2 l3 => ?_⟩
  · by_cases q : x = c
    · subst q
      simp only [if_true]
      refine ⟨fun l => by have := (h1 x hx).1 l; omega, ?_⟩
      by_cases w : 0 < g x ∧ 0 < g e ∧ σ.2 e 0 ≤ σ.2 x 1 ∧ g x < g e + 1
      · rw [if_pos w]
        have u1 := mxr_ub he w.2.2.1
        have u2 := (h1 x hx).2
        have u3 := (h1 e he).2
        have u4 := hw.lnn_pos hx (by omega)
        rw [if_pos u4] at ec
        omega
      · rw [if_neg w]
        exact (h1 x hx).2
    · simp only [q, if_false]
      exact h1 x hx
  · by_cases q : x = c
    · subst q
      simp only [if_true]
      have := h2 x hx
      omega
    · simp only [q, if_false]
      exact h2 x hx
  · have q : ¬ x = c := by omega
    simp only [q, if_false]
    exact h3 x hx hxc
  · simp only [if_true]
    by_cases q : x = e
    · subst q
      have u1 := (h1 c hc).1 l1
      have u2 := (h1 x hx).1 l2
      have u3 := h2 x hx
      by_cases w : g c < g x + 1
      · rw [if_pos ⟨by omega, by omega, l3, w⟩]
        omega
      · rw [if_neg (fun z => w z.2.2.2)]
        omega
    · have := h4 x hx (by omega) l1 l2 l3
      omega
section NEST2
variable {d : Nat} {h : zH} {i : Nat} {M : oS} {σ : mS} {c : Nat}
theorem wf.mxf_lnn {σ : mS} (hw : wf σ) : mxf (lnn σ) σ.1 = lgn σ := mxf_cong (fun k hk => by
  have := (hw.2 k hk).1.2
  rw [if_pos this])
theorem hI_pred (m : Nat) : nI m + (-1) = hI m := by
  unfold hI
  rw [Int32.sub_eq_add_neg]
end NEST2
