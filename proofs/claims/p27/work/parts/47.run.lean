/-! THE MACHINE, CRATE BY CRATE -/
/-- the run from p on -/
def rn (w : Nat → Nat) (m p : Nat) (s : pS) : Nat × Option pS := rnn w (m - p) p s
section RUN
variable {s s' : pS} {w : Nat → Nat} {m p : Nat}
theorem sLet_z {c : Nat} (h : c < 65 ∨ 90 < c) : sLet s c = none := if_neg (by omega)
theorem sMrk_n {c k q : Nat} (h : c ≠ k) : sMrk s c k q = none := if_neg (fun z => h z.1)
theorem sMrk_0 {c k q : Nat} (h : s.2.1 = 0) : sMrk s c k q = none := if_neg (fun z => z.2 h)
theorem sDig_n {c lo hi : Nat} (h : c < 48 ∨ 57 < c) : sDig s c lo hi = none := if_neg (by omega)
theorem sOpn_n {c : Nat} (h : c ≠ 91) : sOpn s c = none := if_neg (fun z => h z.1)
theorem sOpn_0 {c : Nat} (h : s.2.1 = 0) : sOpn s c = none := if_neg (fun z => z.2 h)
theorem stp_4 {c : Nat} (q : s.1 = 4) : stp s c = sBeh s c := by
  unfold stp
  rw [q]
  rfl
theorem stp_z (h : s.1 ≤ 4) : stp s 0 = none := by
  have hb : sBeh s 0 = none := by rw [sBeh_n (Or.inr (by decide)), sLet_z (Or.inl (by decide))]
  have hp5 : s.1 = 0 ∨ s.1 = 1 ∨ s.1 = 2 ∨ s.1 = 3 ∨ s.1 = 4 := by omega
  rcases hp5 with q | q | q | q | q
  · rw [stp_0 q, sLet_z (Or.inl (by decide)), sMrk_n (by decide)]
    rfl
  · rw [stp_1 q, sDig_n (Or.inl (by decide)), sMrk_n (by decide)]
    rfl
  · rw [stp_2 q, sDig_n (Or.inl (by decide)), sMrk_n (by decide)]
    rfl
  · rw [stp_3 q, sDig_n (Or.inl (by decide)), sOpn_n (by decide), hb]
    by_cases z : s.2.1 = 0 <;> simp [z]
  · rw [stp_4 q, hb]
theorem rn_go (hp : p ≤ m) (h4 : s.1 ≤ 4) (hs : stp s (hre w m p) = some s') : p < m ∧ rn w m p s = rn w m (p + 1) s' := by
  have hlt : p < m := by
    rcases Nat.lt_or_ge p m with z | z
    · exact z
    · unfold hre at hs
      rw [if_neg (by omega), stp_z h4] at hs
      cases hs
  refine ⟨hlt, ?_⟩
  unfold rn
  obtain ⟨f, hf⟩ : ∃ f, m - p = f + 1 := ⟨m - p - 1, by omega⟩
  have e : hre w m p = w p := if_pos hlt
  rw [e] at hs
  rw [hf, rnn, hs, show m - (p + 1) = f by omega]
theorem rn_no (hp : p ≤ m) (hs : stp s (hre w m p) = none) (hc : p = m → cmp s = false) : rdv m (rn w m p s) = nI p := by
  rcases Nat.lt_or_ge p m with z | z
  · have e : hre w m p = w p := if_pos z
    obtain ⟨f, hf⟩ : ∃ f, m - p = f + 1 := ⟨m - p - 1, by omega⟩
    rw [e] at hs
    unfold rn
    rw [hf, rnn, hs]
    rfl
  · have e : p = m := by omega
    subst e
    unfold rn
    rw [Nat.sub_self]
    show rdv p (p, some s) = nI p
    unfold rdv
    dsimp only
    rw [if_neg (by rw [hc rfl]; decide)]
/-- the machine goes on from p to p' -/
def Gs (w : Nat → Nat) (m p : Nat) (s : pS) (p' : Nat) (s' : pS) : Prop := p ≤ p' ∧ p' ≤ m ∧ psI2 p' s' ∧ rn w m p s = rn w m p' s'
theorem Gs_r (hp : p ≤ m) (hJ : psI2 p s) : Gs w m p s p s := ⟨Nat.le_refl _, hp, hJ, rfl⟩
theorem Gs_t {p1 p2 : Nat} {s1 s2 : pS} (a : Gs w m p s p1 s1) (b : Gs w m p1 s1 p2 s2) : Gs w m p s p2 s2 := ⟨Nat.le_trans a.1 b.1, b.2.1, b.2.2.1, a.2.2.2.trans b.2.2.2⟩
theorem Gs_1 (hm : m ≤ 80) (hp : p ≤ m) (hJ : psI2 p s) (hs : stp s (hre w m p) = some s') : Gs w m p s (p + 1) s' := by
  obtain ⟨h1, h2⟩ := rn_go hp hJ.1.2.1 hs
  exact ⟨by omega, by omega, stp_inv hJ (by omega) hs, h2⟩
theorem sa_sa {σ : mS} {c j x y : Nat} : sa (sa σ c j x) c j y = sa σ c j y := by
  unfold sa
  refine congrArg (Prod.mk σ.1) (funext fun a => funext fun b => ?_)
  dsimp only
  by_cases z : a = c ∧ b = j
  · rw [if_pos z, if_pos z]
  · rw [if_neg z, if_neg z, if_neg z]
theorem sDig_1 {q la u c lo hi : Nat} {τ : mS} (hc : 48 + lo ≤ c ∧ c ≤ 57) : sDig (q, 0, 0, la, u, τ) c lo hi = some (q, 1, c - 48, la, u, sa τ la (q - 1) (c - 48)) := by
  unfold sDig
  dsimp only
  have e : 0 * 10 + (c - 48) = c - 48 := by omega
  rw [if_pos ⟨by omega, hc.2, by rw [if_pos rfl]; omega⟩, e]
theorem sDig_0 {q la u c lo hi : Nat} {τ : mS} (hc : ¬ (48 + lo ≤ c ∧ c ≤ 57)) : sDig (q, 0, 0, la, u, τ) c lo hi = none := by
  unfold sDig
  dsimp only
  refine if_neg (fun z => hc ?_)
  have := z.2.2
  rw [if_pos rfl] at this
  omega
theorem sDig_2 {q v la u c lo hi : Nat} {τ : mS} (hc : 0 < v ∧ 48 ≤ c ∧ c ≤ 57 ∧ 10 * v + (c - 48) ≤ hi) : sDig (q, 1, v, la, u, τ) c lo hi = some (q, 2, 10 * v + (c - 48), la, u, sa τ la (q - 1) (10 * v + (c - 48))) := by
  unfold sDig
  dsimp only
  have e : v * 10 + (c - 48) = 10 * v + (c - 48) := by omega
  rw [if_pos ⟨hc.2.1, hc.2.2.1, by rw [if_neg (by decide)]; omega⟩, e]
theorem sDig_2n {q g v la u c lo hi : Nat} {τ : mS} (hg : g ≠ 0) (hc : ¬ (0 < v ∧ 48 ≤ c ∧ c ≤ 57 ∧ 10 * v + (c - 48) ≤ hi)) : sDig (q, g, v, la, u, τ) c lo hi = none := by
  unfold sDig
  dsimp only
  refine if_neg (fun z => hc ?_)
  have := z.2.2
  rw [if_neg hg] at this
  omega
theorem num_go {q mark lo hi : Nat} (hm : m ≤ 80) (hp : p ≤ m) (hJ : psI2 p s) (hk : stp s (hre w m p) = sMrk s (hre w m p) mark q) (hg : s.2.1 ≠ 0) (hcm : p = m → cmp s = false) (hmk : 0 < mark) (hh : hi ≤ 60) (hq : 1 ≤ q ∧ q ≤ 3) (hA : ∀ (x : pS) (c : Nat), x.1 = q → x.2.1 = 0 → stp x c = sDig x c lo hi) (hB : ∀ (x y : pS) (c : Nat), x.1 = q → sDig x c lo hi = some y → stp x c = some y) : ((tnr w m p mark lo hi).2 = none → rdv m (rn w m p s) = nI (tnr w m p mark lo hi).1) ∧ (∀ v, (tnr w m p mark lo hi).2 = some v → ∃ g, g ≠ 0 ∧ Gs w m p s (tnr w m p mark lo hi).1 (q, g, v, s.2.2.2.1, s.2.2.2.2.1, sa s.2.2.2.2.2 s.2.2.2.1 (q - 1) v) ∧ sDig (q, g, v, s.2.2.2.1, s.2.2.2.2.1, sa s.2.2.2.2.2 s.2.2.2.1 (q - 1) v) (hre w m (tnr w m p mark lo hi).1) lo hi = none) := by
  by_cases q1 : hre w m p = mark
  · have s1 : stp s (hre w m p) = some (rBeg s q) := hk.trans (if_pos ⟨q1, hg⟩)
    have G1 := Gs_1 hm hp hJ s1
    obtain ⟨-, a2, a3, a4⟩ := G1
    have hcb : cmp (rBeg s q) = false := by
      have n4 : ¬ q = 4 := by omega
      simp [cmp, rBeg, n4]
    unfold tnr
    rw [if_neg (not_not_intro q1)]
    by_cases q2 : 48 + lo ≤ hre w m (p + 1) ∧ hre w m (p + 1) ≤ 57
    · rw [if_pos q2]
      refine ⟨fun z => (by cases z), fun v hv => ?_⟩
      cases hv
      have s2 : stp (rBeg s q) (hre w m (p + 1)) = some (q, 1, hre w m (p + 1) - 48, s.2.2.2.1, s.2.2.2.2.1, sa s.2.2.2.2.2 s.2.2.2.1 (q - 1) (hre w m (p + 1) - 48)) := hB _ _ _ rfl (sDig_1 q2)
      have G2 := Gs_t ⟨by omega, a2, a3, a4⟩ (Gs_1 hm a2 a3 s2)
      unfold tn2
      by_cases q3 : 0 < hre w m (p + 1) - 48 ∧ 48 ≤ hre w m (p + 2) ∧ hre w m (p + 2) ≤ 57 ∧ 10 * (hre w m (p + 1) - 48) + (hre w m (p + 2) - 48) ≤ hi
      · rw [if_pos q3]
        have s3 := hB _ _ _ rfl (sDig_2 (q := q) (la := s.2.2.2.1) (u := s.2.2.2.2.1) (lo := lo) (τ := sa s.2.2.2.2.2 s.2.2.2.1 (q - 1) (hre w m (p + 1) - 48)) q3)
        rw [sa_sa] at s3
        exact ⟨2, by decide, Gs_t G2 (Gs_1 hm G2.2.1 G2.2.2.1 s3), sDig_2n (by decide) (by omega)⟩
      · rw [if_neg q3]
        exact ⟨1, by decide, G2, sDig_2n (by decide) q3⟩
    · rw [if_neg q2]
      refine ⟨fun _ => ?_, fun v hv => (by cases hv)⟩
      rw [a4]
      exact rn_no a2 ((hA _ _ rfl rfl).trans (sDig_0 q2)) (fun _ => hcb)
  · unfold tnr
    rw [if_pos q1]
    exact ⟨fun _ => rn_no hp (hk.trans (sMrk_n q1)) hcm, fun v hv => (by cases hv)⟩
/-- the three numbers of a crate -/
def tn3 (w : Nat → Nat) (m p : Nat) : Nat × Option (Nat × Nat × Nat) := match (tnr w m p 115 1 60).2 with
  | none => ((tnr w m p 115 1 60).1, none)
  | some a => match (tnr w m (tnr w m p 115 1 60).1 114 0 59).2 with
    | none => ((tnr w m (tnr w m p 115 1 60).1 114 0 59).1, none)
    | some b => match (tnr w m (tnr w m (tnr w m p 115 1 60).1 114 0 59).1 103 0 15).2 with
      | none => ((tnr w m (tnr w m (tnr w m p 115 1 60).1 114 0 59).1 103 0 15).1, none)
      | some c => ((tnr w m (tnr w m (tnr w m p 115 1 60).1 114 0 59).1 103 0 15).1, some (a, b, c))
theorem three_go (hm : m ≤ 80) (hp : p ≤ m) (hJ : psI2 p s) (h0 : s.1 = 0) (hg : s.2.1 ≠ 0) (hn : sLet s (hre w m p) = none) : ((tn3 w m p).2 = none → rdv m (rn w m p s) = nI (tn3 w m p).1) ∧ (∀ a b e, (tn3 w m p).2 = some (a, b, e) → ∃ g, g ≠ 0 ∧ Gs w m p s (tn3 w m p).1 (3, g, e, s.2.2.2.1, s.2.2.2.2.1, sa (sa (sa s.2.2.2.2.2 s.2.2.2.1 0 a) s.2.2.2.1 1 b) s.2.2.2.1 2 e) ∧ sDig (3, g, e, s.2.2.2.1, s.2.2.2.2.1, sa (sa (sa s.2.2.2.2.2 s.2.2.2.1 0 a) s.2.2.2.1 1 b) s.2.2.2.1 2 e) (hre w m (tn3 w m p).1) 0 15 = none) := by
  have k1 : stp s (hre w m p) = sMrk s (hre w m p) 115 1 := by rw [stp_0 h0, hn, Option.none_or]
  obtain ⟨x1, x2⟩ := num_go (lo := 1) (hi := 60) hm hp hJ k1 hg (fun _ => by simp [cmp, h0]) (by decide) (by decide) (by decide) (fun x c z1 z2 => by rw [stp_1 z1, sMrk_0 z2, Option.or_none]) (fun x y c z1 z2 => by rw [stp_1 z1, z2, Option.some_or])
  unfold tn3
  cases q1 : (tnr w m p 115 1 60).2 with
  | none => exact ⟨fun _ => x1 q1, fun _ _ _ z => (by cases z)⟩
  | some a =>
    dsimp only
    obtain ⟨g1, y1, G1, y2⟩ := x2 a q1
    have k2 : stp (1, g1, a, s.2.2.2.1, s.2.2.2.2.1, sa s.2.2.2.2.2 s.2.2.2.1 0 a) (hre w m (tnr w m p 115 1 60).1) = sMrk (1, g1, a, s.2.2.2.1, s.2.2.2.2.1, sa s.2.2.2.2.2 s.2.2.2.1 0 a) (hre w m (tnr w m p 115 1 60).1) 114 2 := by rw [stp_1 rfl, y2, Option.none_or]
    obtain ⟨x3, x4⟩ := num_go (lo := 0) (hi := 59) hm G1.2.1 G1.2.2.1 k2 y1 (fun _ => by simp [cmp]) (by decide) (by decide) (by decide) (fun x c z1 z2 => by rw [stp_2 z1, sMrk_0 z2, Option.or_none]) (fun x y c z1 z2 => by rw [stp_2 z1, z2, Option.some_or])
    cases q2 : (tnr w m (tnr w m p 115 1 60).1 114 0 59).2 with
    | none => exact ⟨fun _ => G1.2.2.2 ▸ x3 q2, fun _ _ _ z => (by cases z)⟩
    | some b =>
      dsimp only
      obtain ⟨g2, y3, G2, y4⟩ := x4 b q2
      have k3 : stp (2, g2, b, s.2.2.2.1, s.2.2.2.2.1, sa (sa s.2.2.2.2.2 s.2.2.2.1 0 a) s.2.2.2.1 1 b) (hre w m (tnr w m (tnr w m p 115 1 60).1 114 0 59).1) = sMrk (2, g2, b, s.2.2.2.1, s.2.2.2.2.1, sa (sa s.2.2.2.2.2 s.2.2.2.1 0 a) s.2.2.2.1 1 b) (hre w m (tnr w m (tnr w m p 115 1 60).1 114 0 59).1) 103 3 := by rw [stp_2 rfl]; exact (congrArg (fun z => Option.or z _) y4).trans (Option.none_or)
      obtain ⟨x5, x6⟩ := num_go (lo := 0) (hi := 15) hm G2.2.1 G2.2.2.1 k3 y3 (fun _ => by simp [cmp]) (by decide) (by decide) (by decide) (fun x c z1 z2 => by rw [stp_3 z1, sOpn_0 z2, if_pos z2, Option.or_none, Option.or_none]) (fun x y c z1 z2 => by rw [stp_3 z1, z2, Option.some_or, Option.some_or])
      have G12 := Gs_t G1 G2
      cases q3 : (tnr w m (tnr w m (tnr w m p 115 1 60).1 114 0 59).1 103 0 15).2 with
      | none => exact ⟨fun _ => G12.2.2.2 ▸ x5 q3, fun _ _ _ z => (by cases z)⟩
      | some c =>
        refine ⟨fun z => (by cases z), fun a' b' e' z => ?_⟩
        cases z
        obtain ⟨g3, y5, G3, y6⟩ := x6 c q3
        exact ⟨g3, y5, Gs_t G12 G3, y6⟩
end RUN
