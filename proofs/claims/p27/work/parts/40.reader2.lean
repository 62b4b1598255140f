/-! THE MACHINE STAYS IN ORDER; THE READING OF A PAD -/
theorem bnd_sa {σ : mS} (hb : bnd σ) {c j x : Nat} (hj : (j = 0 ∧ x ≤ 60) ∨ (j = 1 ∧ x ≤ 60) ∨ (j = 2 ∧ x ≤ 15) ∨ (3 ≤ j ∧ j ≤ 6 ∧ x ≤ 26)) : bnd (sa σ c j x) := by
  refine ⟨hb.1, fun a ha => ?_⟩
  obtain ⟨h0, h1, h2, h3, h4, h5⟩ := hb.2 a ha
  refine ⟨?_, ?_, ?_, fun p hp => ?_, ?_, ?_⟩
  · rw [sa_2]
    split
    · omega
    · exact h0
  · rw [sa_2]
    split
    · omega
    · exact h1
  · rw [sa_2]
    split
    · omega
    · exact h2
  · have := h3 p hp
    rw [sa_2]
    split
    · omega
    · exact this
  · rw [sa_2, if_neg (by omega)]
    exact h4
  · rw [sa_2, if_neg (by omega)]
    exact h5
theorem lbl_bd {σ : mS} (hb : bnd σ) {c : Nat} (hc : c < σ.1) : lbl (σ.2 c) < 600000 := by
  have h3 := (hb.2 c hc).2.2.2.1
  have a0 : σ.2 c 3 ≤ 26 := h3 0 (by omega)
  have a1 : σ.2 c 4 ≤ 26 := h3 1 (by omega)
  have a2 : σ.2 c 5 ≤ 26 := h3 2 (by omega)
  have a3 : σ.2 c 6 ≤ 26 := h3 3 (by omega)
  unfold lbl
  omega
section RINV
variable {s s' : pS} {c p : Nat}
theorem sLet_inv (hJ : psI p s) (hp : p < 80) (h0 : s.1 = 0) (hs : sLet s c = some s') : psI2 (p + 1) s' := by
  obtain ⟨part, sg, vl, la, ins, τ⟩ := s
  obtain ⟨i1, i2, i3, i4, i5, i6, i7, i8, i9⟩ := hJ
  dsimp only at i1 i2 i3 i4 i5 i6 i7 i8 i9 h0
  subst h0
  have hn := i1.1
  unfold sLet at hs
  dsimp only at hs
  by_cases q : 65 ≤ c ∧ c ≤ 90 ∧ sg < 4
  · rw [if_pos q] at hs
    by_cases w : sg = 0
    · rw [if_pos w] at hs
      subst w
      have hv : vl = 0 := by
        have := i7 rfl
        rw [if_pos rfl] at this
        exact this
      have h7 : prg 0 0 = 7 := rfl
      have hn12 : τ.1 < 12 := by omega
      have hb2 := bnd_bgn i1 hn12 i4
      have hb3 : bnd (sa (bgn τ ins) τ.1 3 (c - 64)) := bnd_sa hb2 (by omega)
      have hl0 : lbl ((bgn τ ins).2 τ.1) = 0 := by
        unfold lbl
        rw [bgn_l (by decide), bgn_l (by decide), bgn_l (by decide), bgn_l (by decide)]
      have hlv : lbl ((sa (bgn τ ins) τ.1 (3 + 0) (c - 64)).2 τ.1) = c - 64 := by
        rw [lbl_set (by decide) (bgn_l (by decide)), hl0, Nat.pow_zero, Nat.mul_one, Nat.zero_add]
      cases hs
      refine ⟨⟨hb3, by simp, by simp, ?_, ?_, fun _ => ?_, fun _ => ?_, fun _ _ e e1 e2 => ?_, ?_⟩, fun z => absurd rfl z, fun z => absurd z (by simp), fun z => absurd rfl z⟩
      · show ins ≤ (bgn τ ins).1
        rw [bgn_1]
        omega
      · show vl + (c - 64) < 600000
        omega
      · show τ.1 < (bgn τ ins).1
        rw [bgn_1]
        omega
      · show vl + (c - 64) = if 1 = 0 then 0 else _
        rw [if_neg (by decide), hv, Nat.zero_add]
        exact hlv.symm
      · have e1 : 1 ≤ e := e1
        show (sa (bgn τ ins) τ.1 3 (c - 64)).2 τ.1 (3 + e) = 0
        rw [sa_2, if_neg (by omega), bgn_l (by omega)]
      · show 7 * (bgn τ ins).1 + prg 0 1 ≤ p + 1 + 7
        rw [bgn_1]
        have : prg 0 1 = 1 := rfl
        omega
    · rw [if_neg w] at hs
      have hla := i6 (Or.inr w)
      have hv := i7 rfl
      rw [if_neg w] at hv
      have hz := i8 rfl w sg (Nat.le_refl _) q.2.2
      have hb3 : bnd (sa τ la (3 + sg) (c - 64)) := bnd_sa i1 (by omega)
      have hlv : lbl ((sa τ la (3 + sg) (c - 64)).2 la) = vl + (c - 64) * 27 ^ sg := by
        rw [lbl_set q.2.2 hz, ← hv]
      have hlb := lbl_bd hb3 (c := la) hla
      rw [hlv] at hlb
      have g1 : prg 0 sg = 1 := if_neg w
      cases hs
      refine ⟨⟨hb3, by simp, ?_, i4, hlb, fun _ => hla, fun _ => ?_, fun _ _ e e1 e2 => ?_, ?_⟩, fun z => absurd rfl z, fun z => absurd z (by simp), fun z => absurd rfl z⟩
      · show sg + 1 ≤ 4
        omega
      · show vl + (c - 64) * 27 ^ sg = if sg + 1 = 0 then 0 else _
        rw [if_neg (by omega)]
        exact hlv.symm
      · have e1 : sg + 1 ≤ e := e1
        show (sa τ la (3 + sg) (c - 64)).2 la (3 + e) = 0
        rw [sa_2, if_neg (by omega)]
        exact i8 rfl w e (by omega) e2
      · show 7 * τ.1 + prg 0 (sg + 1) ≤ p + 1 + 7
        have : prg 0 (sg + 1) = 1 := rfl
        omega
  · rw [if_neg q] at hs
    cases hs
theorem sMrk_inv (hJ : psI p s) {k q : Nat} (hq : q ≠ 0 ∧ q ≤ 4) (hg : s.2.1 ≠ 0 → prg q 0 ≤ prg s.1 s.2.1 + 1) (hs : sMrk s c k q = some s') : psI2 (p + 1) s' := by
  unfold sMrk at hs
  by_cases w : c = k ∧ s.2.1 ≠ 0
  · rw [if_pos w] at hs
    cases hs
    obtain ⟨i1, i2, i3, i4, i5, i6, i7, i8, i9⟩ := hJ
    have := hg w.2
    refine ⟨⟨i1, hq.2, by simp [rBeg], i4, by simp [rBeg], fun _ => i6 (Or.inr w.2), fun z => absurd z hq.1, fun z => absurd z hq.1, ?_⟩, fun _ => by simp [rBeg], fun _ => rfl, fun _ z => absurd z (by simp [rBeg])⟩
    show 7 * s.2.2.2.2.2.1 + prg q 0 ≤ p + 1 + 7
    omega
  · rw [if_neg w] at hs
    cases hs
theorem sDig_inv (hJ : psI2 p s) (h3 : 1 ≤ s.1 ∧ s.1 ≤ 3) {lo hi : Nat} (hh : hi ≤ 60) (h15 : s.1 = 3 → hi ≤ 15) (hs : sDig s c lo hi = some s') : psI2 (p + 1) s' := by
  obtain ⟨⟨i1, i2, i3, i4, i5, i6, i7, i8, i9⟩, j1, j2, j3⟩ := hJ
  unfold sDig at hs
  by_cases q : 48 ≤ c ∧ c ≤ 57 ∧ (if s.2.1 = 0 then lo ≤ s.2.2.1 * 10 + (c - 48) else 0 < s.2.2.1 ∧ s.2.2.1 * 10 + (c - 48) ≤ hi)
  · rw [if_pos q] at hs
    have hla := i6 (Or.inl (by omega))
    have hv : s.2.2.1 * 10 + (c - 48) ≤ 60 ∧ (s.1 = 3 → s.2.2.1 * 10 + (c - 48) ≤ 15) ∧ s.2.1 ≤ 1 ∧ (s.2.1 = 1 → 10 ≤ s.2.2.1 * 10 + (c - 48)) := by
      by_cases w : s.2.1 = 0
      · have := j2 w
        omega
      · have q3 := q.2.2
        rw [if_neg w] at q3
        have : ¬ 2 ≤ s.2.1 := fun z => by
          have := j3 (by omega) z
          omega
        refine ⟨by omega, fun z => ?_, by omega, fun z => by omega⟩
        have := h15 z
        omega
    have hpr : prg s.1 (s.2.1 + 1) ≤ prg s.1 s.2.1 + 1 := by
      have hp3 : s.1 = 1 ∨ s.1 = 2 ∨ s.1 = 3 := by omega
      rcases hp3 with w | w | w <;> rw [w] <;> by_cases z : s.2.1 = 0 <;> simp [prg, z]
    cases hs
    refine ⟨⟨bnd_sa i1 (by omega), i2, ?_, i4, ?_, fun _ => hla, fun z => ?_, fun z => ?_, ?_⟩, fun _ => hv.1, fun z => absurd z (by simp), fun _ z => hv.2.2.2 ?_⟩
    · show s.2.1 + 1 ≤ 4
      omega
    · show s.2.2.1 * 10 + (c - 48) < 600000
      omega
    · have z : s.1 = 0 := z
      omega
    · have z : s.1 = 0 := z
      omega
    · show 7 * s.2.2.2.2.2.1 + prg s.1 (s.2.1 + 1) ≤ p + 1 + 7
      omega
    · have z : 2 ≤ s.2.1 + 1 := z
      omega
  · rw [if_neg q] at hs
    cases hs
theorem sOpn_inv (hJ : psI p s) (h3 : s.1 = 3) (hs : sOpn s c = some s') : psI2 (p + 1) s' := by
  obtain ⟨i1, i2, i3, i4, i5, i6, i7, i8, i9⟩ := hJ
  unfold sOpn at hs
  by_cases w : c = 91 ∧ s.2.1 ≠ 0
  · rw [if_pos w] at hs
    have hla := i6 (Or.inl (by omega))
    rw [h3, show prg 3 s.2.1 = 7 from if_neg w.2] at i9
    cases hs
    refine ⟨⟨i1, by simp, by simp, hla, by simp, fun z => absurd z (by simp), fun _ => by simp, fun _ z => absurd rfl z, ?_⟩, fun z => absurd rfl z, fun _ => rfl, fun z => absurd rfl z⟩
    show 7 * s.2.2.2.2.2.1 + 7 ≤ p + 1 + 7
    omega
  · rw [if_neg w] at hs
    cases hs
theorem sBeh_inv (hJ : psI p s) (hp : p < 80) (h0 : s.1 ≠ 0) (hg : prg s.1 s.2.1 = 7) (hs : sBeh s c = some s') : psI2 (p + 1) s' := by
  have hb := psI_beg hJ hg
  by_cases w : s.2.2.2.2.1 = 0 ∨ c ≠ 93
  · rw [sBeh_n w] at hs
    exact sLet_inv hb hp rfl hs
  · obtain ⟨k, hk⟩ : ∃ k, s.2.2.2.2.1 = k + 1 := ⟨s.2.2.2.2.1 - 1, by omega⟩
    have hc : c = 93 := by omega
    subst hc
    rw [sBeh_93 hk] at hs
    obtain ⟨i1, i2, i3, i4, i5, i6, i7, i8, i9⟩ := hJ
    have hla := i6 (Or.inl h0)
    have hk2 := (i1.2 k (by omega)).2.2.2.2.1
    rw [hg] at i9
    cases hs
    refine ⟨⟨i1, by simp, by simp, hk2, by simp, fun _ => hla, fun z => absurd z (by simp), fun z => absurd z (by simp), ?_⟩, fun _ => by simp, fun _ => rfl, fun _ z => absurd z (by simp)⟩
    show 7 * s.2.2.2.2.2.1 + 7 ≤ p + 1 + 7
    omega
theorem stp_inv (hJ : psI2 p s) (hp : p < 80) (hs : stp s c = some s') : psI2 (p + 1) s' := by
  have hJ1 := hJ.1
  have i2 := hJ1.2.1
  have hp5 : s.1 = 0 ∨ s.1 = 1 ∨ s.1 = 2 ∨ s.1 = 3 ∨ s.1 = 4 := by omega
  rcases hp5 with q | q | q | q | q
  · rw [stp_0 q] at hs
    cases u : sLet s c with
    | some s1 =>
      rw [u] at hs
      cases hs
      exact sLet_inv hJ1 hp q u
    | none =>
      rw [u] at hs
      exact sMrk_inv hJ1 (by decide) (fun w => by rw [q, show prg 0 s.2.1 = 1 from if_neg w]; decide) hs
  · rw [stp_1 q] at hs
    cases u : sDig s c 1 60 with
    | some s1 =>
      rw [u] at hs
      cases hs
      exact sDig_inv hJ (by omega) (by decide) (fun z => by omega) u
    | none =>
      rw [u] at hs
      exact sMrk_inv hJ1 (by decide) (fun w => by rw [q, show prg 1 s.2.1 = 3 from if_neg w]; decide) hs
  · rw [stp_2 q] at hs
    cases u : sDig s c 0 59 with
    | some s1 =>
      rw [u] at hs
      cases hs
      exact sDig_inv hJ (by omega) (by decide) (fun z => by omega) u
    | none =>
      rw [u] at hs
      exact sMrk_inv hJ1 (by decide) (fun w => by rw [q, show prg 2 s.2.1 = 5 from if_neg w]; decide) hs
  · rw [stp_3 q] at hs
    cases u : sDig s c 0 15 with
    | some s1 =>
      rw [u] at hs
      cases hs
      exact sDig_inv hJ (by omega) (by decide) (fun z => by omega) u
    | none =>
      rw [u] at hs
      cases u2 : sOpn s c with
      | some s1 =>
        rw [u2] at hs
        cases hs
        exact sOpn_inv hJ1 q u2
      | none =>
        rw [u2] at hs
        by_cases w : s.2.1 = 0
        · simp [w] at hs
        · exact sBeh_inv hJ1 hp (by omega) (by rw [q]; exact if_neg w) (by simpa [w] using hs)
  · have e4 : stp s c = sBeh s c := by
      unfold stp
      rw [q]
      rfl
    rw [e4] at hs
    exact sBeh_inv hJ1 hp (by omega) (by rw [q]; rfl) hs
end RINV
