/-! WHAT THE MACHINE HAS READ IS IN ORDER -/
def ordA (τ : mS) : Prop := ∀ c, c < τ.1 → (τ.2 c 7 = 0 → τ.2 c 8 = 0) ∧ (∀ k, τ.2 c 7 = k + 1 → τ.2 c 8 < pil τ k) ∧ (∀ e, e < τ.1 → e ≠ c → τ.2 c 7 ≠ 0 → τ.2 e 7 = τ.2 c 7 → τ.2 e 8 ≠ τ.2 c 8)
/-- a crate whose size isn't there yet -/
def exE (s : pS) : Prop := (s.1 = 0 ∧ s.2.1 ≠ 0) ∨ (s.1 = 1 ∧ s.2.1 = 0)
def psO (s : pS) : Prop := ordA s.2.2.2.2.2 ∧ (∀ c, c < s.2.2.2.2.2.1 → lok (s.2.2.2.2.2.2 c)) ∧ (s.1 = 0 → s.2.1 ≠ 0 → ∀ q, q < s.2.1 → s.2.2.2.2.2.2 s.2.2.2.1 (3 + q) ≠ 0) ∧ ∀ c, c < s.2.2.2.2.2.1 → (c = s.2.2.2.1 ∧ exE s) ∨ 1 ≤ s.2.2.2.2.2.2 c 0
theorem pil_eq {τ τ' : mS} (h1 : τ'.1 = τ.1) (h2 : ∀ c, c < τ.1 → τ'.2 c 7 = τ.2 c 7) (k : Nat) : pil τ' k = pil τ k := by
  unfold pil
  rw [h1]
  exact ct_cong (fun c hc => by rw [h2 c hc])
theorem ordA_eq {τ τ' : mS} (h1 : τ'.1 = τ.1) (h2 : ∀ c, c < τ.1 → τ'.2 c 7 = τ.2 c 7 ∧ τ'.2 c 8 = τ.2 c 8) (h : ordA τ) : ordA τ' := by
  intro c hc
  rw [h1] at hc
  obtain ⟨a, b, e⟩ := h c hc
  obtain ⟨q7, q8⟩ := h2 c hc
  rw [q7, q8]
  refine ⟨a, fun k hk => ?_, fun x hx hn h0 h7 => ?_⟩
  · rw [pil_eq h1 (fun c hc => (h2 c hc).1)]
    exact b k hk
  · rw [h1] at hx
    obtain ⟨r7, r8⟩ := h2 x hx
    rw [r7] at h7
    rw [r8]
    exact e x hx hn h0 h7
theorem ordA_sa {τ : mS} {c j x : Nat} (hj : j < 7) (h : ordA τ) : ordA (sa τ c j x) := ordA_eq (τ := τ) rfl (fun a _ => ⟨by rw [sa_2, if_neg (by omega)], by rw [sa_2, if_neg (by omega)]⟩) h
theorem pil_bgn {τ : mS} {u k : Nat} : pil (bgn τ u) k = pil τ k + if u = k + 1 then 1 else 0 := by
  unfold pil
  rw [bgn_1, ct, bgn_7]
  congr 1
  · exact ct_cong (fun c hc => by rw [bgn_o hc])
  · simp
theorem ordA_bgn {τ : mS} {u : Nat} (hu : u ≤ τ.1) (h : ordA τ) : ordA (bgn τ u) := by
  intro c hc
  rw [bgn_1] at hc
  by_cases q : c = τ.1
  · subst q
    rw [bgn_7, bgn_8]
    refine ⟨fun z => ?_, fun k hk => ?_, fun e he hn h0 h7 => ?_⟩
    · subst z
      rfl
    · subst hk
      rw [pil_bgn, if_pos rfl]
      exact Nat.lt_succ_self _
    · rw [bgn_1] at he
      have he2 : e < τ.1 := by omega
      rw [bgn_o he2] at h7
      rw [bgn_o he2]
      obtain ⟨k, rfl⟩ : ∃ k, u = k + 1 := ⟨u - 1, by omega⟩
      have := (h e he2).2.1 k h7
      show τ.2 e 8 ≠ pil τ k
      omega
  · have hc2 : c < τ.1 := by omega
    obtain ⟨a, b, e⟩ := h c hc2
    rw [bgn_o hc2, bgn_o hc2]
    refine ⟨a, fun k hk => ?_, fun x hx hn h0 h7 => ?_⟩
    · rw [pil_bgn]
      have := b k hk
      omega
    · rw [bgn_1] at hx
      by_cases y : x = τ.1
      · subst y
        rw [bgn_7] at h7
        rw [bgn_8]
        obtain ⟨k, hk⟩ : ∃ k, τ.2 c 7 = k + 1 := ⟨τ.2 c 7 - 1, by omega⟩
        have := b k hk
        rw [h7, hk]
        show pil τ k ≠ _
        omega
      · rw [bgn_o (by omega)] at h7
        rw [bgn_o (by omega)]
        exact e x (by omega) hn h0 h7
section ORDER
variable {s s' : pS} {c p : Nat}
theorem sLet_ord (hJ : psI p s) (h0 : s.1 = 0) (hO : psO s) (hs : sLet s c = some s') : psO s' := by
  obtain ⟨part, sg, vl, la, ins, τ⟩ := s
  obtain ⟨i1, i2, i3, i4, i5, i6, i7, i8, i9⟩ := hJ
  obtain ⟨o1, o2, o3, o4⟩ := hO
  dsimp only at i1 i2 i3 i4 i5 i6 i7 i8 i9 h0 o1 o2 o3 o4
  subst h0
  unfold sLet at hs
  dsimp only at hs
  by_cases q : 65 ≤ c ∧ c ≤ 90 ∧ sg < 4
  · rw [if_pos q] at hs
    by_cases w : sg = 0
    · rw [if_pos w] at hs
      subst w
      cases hs
      refine ⟨ordA_sa (by decide) (ordA_bgn i4 o1), fun a ha => ?_, fun _ _ z hz => ?_, fun a ha => ?_⟩
      · have ha : a < (bgn τ ins).1 := ha
        rw [bgn_1] at ha
        by_cases y : a = τ.1
        · subst y
          refine ⟨?_, ?_, ?_⟩
          · show 0 < (sa (bgn τ ins) τ.1 3 (c - 64)).2 τ.1 3
            rw [sa_2, if_pos ⟨rfl, rfl⟩]
            omega
          · show (sa (bgn τ ins) τ.1 3 (c - 64)).2 τ.1 4 = 0 → (sa (bgn τ ins) τ.1 3 (c - 64)).2 τ.1 5 = 0
            rw [sa_2, if_neg (by omega), sa_2, if_neg (by omega), bgn_l (by decide)]
            exact fun _ => bgn_l (by decide)
          · show (sa (bgn τ ins) τ.1 3 (c - 64)).2 τ.1 5 = 0 → (sa (bgn τ ins) τ.1 3 (c - 64)).2 τ.1 6 = 0
            rw [sa_2, if_neg (by omega), sa_2, if_neg (by omega), bgn_l (by decide)]
            exact fun _ => bgn_l (by decide)
        · have e : (sa (bgn τ ins) τ.1 3 (c - 64)).2 a = τ.2 a := by
            funext b
            rw [sa_2, if_neg (by omega), bgn_o (by omega)]
          show lok ((sa (bgn τ ins) τ.1 3 (c - 64)).2 a)
          rw [e]
          exact o2 a (by omega)
      · have hz : z < 1 := hz
        have hz : z = 0 := by omega
        subst hz
        show (sa (bgn τ ins) τ.1 3 (c - 64)).2 τ.1 3 ≠ 0
        rw [sa_2, if_pos ⟨rfl, rfl⟩]
        omega
      · have ha : a < (bgn τ ins).1 := ha
        rw [bgn_1] at ha
        by_cases y : a = τ.1
        · exact Or.inl ⟨y, Or.inl ⟨rfl, by simp⟩⟩
        · right
          show 1 ≤ (sa (bgn τ ins) τ.1 3 (c - 64)).2 a 0
          rw [sa_2, if_neg (by omega), bgn_o (by omega)]
          rcases o4 a (by omega) with ⟨-, z | z⟩ | z
          · exact absurd rfl z.2
          · cases z.1
          · exact z
    · rw [if_neg w] at hs
      have hla := i6 (Or.inr w)
      have hz := i8 rfl w
      have ho := o3 rfl w
      cases hs
      have new : (sa τ la (3 + sg) (c - 64)).2 la (3 + sg) ≠ 0 := by
        rw [sa_2, if_pos ⟨rfl, rfl⟩]
        omega
      have old : ∀ j, j ≠ sg → (sa τ la (3 + sg) (c - 64)).2 la (3 + j) = τ.2 la (3 + j) := fun j hj => by rw [sa_2, if_neg (by omega)]
      refine ⟨ordA_sa (by omega) o1, fun a ha => ?_, fun _ _ z hz => ?_, fun a ha => ?_⟩
      · have ha : a < τ.1 := ha
        by_cases y : a = la
        · subst y
          have h0 := ho 0 (by omega)
          rw [← old 0 (by omega)] at h0
          have h4 : sg = 1 ∨ sg = 2 ∨ sg = 3 := by omega
          rcases h4 with v | v | v <;> subst v
          · have g2 := hz 2 (by decide) (by decide)
            have g3 := hz 3 (by decide) (by decide)
            rw [← old 2 (by decide)] at g2
            rw [← old 3 (by decide)] at g3
            exact ⟨Nat.pos_of_ne_zero h0, fun z => absurd z new, fun _ => g3⟩
          · have g1 := ho 1 (by decide)
            rw [← old 1 (by decide)] at g1
            exact ⟨Nat.pos_of_ne_zero h0, fun z => absurd z g1, fun z => absurd z new⟩
          · have g1 := ho 1 (by decide)
            have g2 := ho 2 (by decide)
            rw [← old 1 (by decide)] at g1
            rw [← old 2 (by decide)] at g2
            exact ⟨Nat.pos_of_ne_zero h0, fun z => absurd z g1, fun z => absurd z g2⟩
        · have e : (sa τ la (3 + sg) (c - 64)).2 a = τ.2 a := by
            funext b
            rw [sa_2, if_neg (by omega)]
          show lok ((sa τ la (3 + sg) (c - 64)).2 a)
          rw [e]
          exact o2 a ha
      · have hz : z < sg + 1 := hz
        show (sa τ la (3 + sg) (c - 64)).2 la (3 + z) ≠ 0
        by_cases y : z = sg
        · subst y
          exact new
        · rw [old z y]
          exact ho z (by omega)
      · rcases o4 a ha with ⟨z, -⟩ | z
        · exact Or.inl ⟨z, Or.inl ⟨rfl, by simp⟩⟩
        · right
          show 1 ≤ (sa τ la (3 + sg) (c - 64)).2 a 0
          rw [sa_2, if_neg (by omega)]
          exact z
  · rw [if_neg q] at hs
    cases hs
theorem sMrk_ord {k q : Nat} (hO : psO s) (hq : q ≠ 0) (hE : s.2.1 ≠ 0 → q = 1 ∨ ¬ exE s) (hs : sMrk s c k q = some s') : psO s' := by
  unfold sMrk at hs
  by_cases w : c = k ∧ s.2.1 ≠ 0
  · rw [if_pos w] at hs
    cases hs
    obtain ⟨o1, o2, o3, o4⟩ := hO
    refine ⟨o1, o2, fun z => absurd z hq, fun a ha => ?_⟩
    rcases o4 a ha with ⟨z1, z2⟩ | z
    · rcases hE w.2 with y | y
      · exact Or.inl ⟨z1, Or.inr ⟨y, rfl⟩⟩
      · exact absurd z2 y
    · exact Or.inr z
  · rw [if_neg w] at hs
    cases hs
theorem sDig_ord {lo hi : Nat} (h3 : 1 ≤ s.1 ∧ s.1 ≤ 3) (hlo : s.1 = 1 → 1 ≤ lo) (hO : psO s) (hs : sDig s c lo hi = some s') : psO s' := by
  obtain ⟨part, sg, vl, la, ins, τ⟩ := s
  obtain ⟨o1, o2, o3, o4⟩ := hO
  dsimp only at h3 hlo o1 o2 o3 o4
  unfold sDig at hs
  dsimp only at hs
  by_cases q : 48 ≤ c ∧ c ≤ 57 ∧ (if sg = 0 then lo ≤ vl * 10 + (c - 48) else 0 < vl ∧ vl * 10 + (c - 48) ≤ hi)
  · rw [if_pos q] at hs
    cases hs
    refine ⟨ordA_sa (by omega) o1, fun a ha => ?_, fun z => by dsimp only at z; omega, fun a ha => ?_⟩
    · have e : ∀ j, 3 ≤ j → (sa τ la (part - 1) (vl * 10 + (c - 48))).2 a j = τ.2 a j := fun j hj => by rw [sa_2, if_neg (by omega)]
      have := o2 a ha
      unfold lok at this ⊢
      dsimp only
      rw [e 3 (by decide), e 4 (by decide), e 5 (by decide), e 6 (by decide)]
      exact this
    · right
      show 1 ≤ (sa τ la (part - 1) (vl * 10 + (c - 48))).2 a 0
      rw [sa_2]
      by_cases y : a = la ∧ 0 = part - 1
      · rw [if_pos y]
        have := hlo (by omega)
        have q3 := q.2.2
        by_cases z : sg = 0
        · rw [if_pos z] at q3
          omega
        · rw [if_neg z] at q3
          omega
      · rw [if_neg y]
        rcases o4 a ha with ⟨z1, z | z⟩ | z
        · omega
        · have := z.1
          dsimp only at this
          omega
        · exact z
  · rw [if_neg q] at hs
    cases hs
theorem sOpn_ord (hE : ¬ exE s) (hO : psO s) (hs : sOpn s c = some s') : psO s' := by
  unfold sOpn at hs
  by_cases w : c = 91 ∧ s.2.1 ≠ 0
  · rw [if_pos w] at hs
    cases hs
    obtain ⟨o1, o2, o3, o4⟩ := hO
    exact ⟨o1, o2, fun _ z => absurd rfl z, fun a ha => Or.inr ((o4 a ha).resolve_left (fun z => hE z.2))⟩
  · rw [if_neg w] at hs
    cases hs
theorem sBeh_ord (hJ : psI p s) (hg : prg s.1 s.2.1 = 7) (hE : ¬ exE s) (hO : psO s) (hs : sBeh s c = some s') : psO s' := by
  obtain ⟨o1, o2, o3, o4⟩ := hO
  have os : ∀ a, a < s.2.2.2.2.2.1 → 1 ≤ s.2.2.2.2.2.2 a 0 := fun a ha => (o4 a ha).resolve_left (fun z => hE z.2)
  by_cases w : s.2.2.2.2.1 = 0 ∨ c ≠ 93
  · rw [sBeh_n w] at hs
    exact sLet_ord (psI_beg hJ hg) rfl ⟨o1, o2, fun _ z => absurd rfl z, fun a ha => Or.inr (os a ha)⟩ hs
  · obtain ⟨k, hk⟩ : ∃ k, s.2.2.2.2.1 = k + 1 := ⟨s.2.2.2.2.1 - 1, by omega⟩
    have hc : c = 93 := by omega
    subst hc
    rw [sBeh_93 hk] at hs
    cases hs
    exact ⟨o1, o2, fun z => absurd z (by simp), fun a ha => Or.inr (os a ha)⟩
theorem stp_ord (hJ : psI p s) (hO : psO s) (hs : stp s c = some s') : psO s' := by
  have i2 := hJ.2.1
  have hp5 : s.1 = 0 ∨ s.1 = 1 ∨ s.1 = 2 ∨ s.1 = 3 ∨ s.1 = 4 := by omega
  rcases hp5 with q | q | q | q | q
  · rw [stp_0 q] at hs
    cases u : sLet s c with
    | some s1 =>
      rw [u] at hs
      cases hs
      exact sLet_ord hJ q hO u
    | none =>
      rw [u] at hs
      exact sMrk_ord hO (by decide) (fun _ => Or.inl rfl) hs
  · rw [stp_1 q] at hs
    cases u : sDig s c 1 60 with
    | some s1 =>
      rw [u] at hs
      cases hs
      exact sDig_ord (by omega) (fun _ => Nat.le_refl _) hO u
    | none =>
      rw [u] at hs
      exact sMrk_ord hO (by decide) (fun z => Or.inr (fun y => by unfold exE at y; omega)) hs
  · rw [stp_2 q] at hs
    cases u : sDig s c 0 59 with
    | some s1 =>
      rw [u] at hs
      cases hs
      exact sDig_ord (by omega) (fun z => by omega) hO u
    | none =>
      rw [u] at hs
      exact sMrk_ord hO (by decide) (fun z => Or.inr (fun y => by unfold exE at y; omega)) hs
  · rw [stp_3 q] at hs
    have hE : ¬ exE s := fun y => by unfold exE at y; omega
    cases u : sDig s c 0 15 with
    | some s1 =>
      rw [u] at hs
      cases hs
      exact sDig_ord (by omega) (fun z => by omega) hO u
    | none =>
      rw [u] at hs
      cases u2 : sOpn s c with
      | some s1 =>
        rw [u2] at hs
        cases hs
        exact sOpn_ord hE hO u2
      | none =>
        rw [u2] at hs
        by_cases w : s.2.1 = 0
        · simp [w] at hs
        · exact sBeh_ord hJ (by rw [q]; exact if_neg w) hE hO (by simpa [w] using hs)
  · rw [stp_4 q] at hs
    exact sBeh_ord hJ (by rw [q]; rfl) (fun y => by unfold exE at y; omega) hO hs
theorem rnn_ord {w : Nat → Nat} : ∀ (f p : Nat) (s s' : pS) (q : Nat), p + f ≤ 80 → psI2 p s → psO s → rnn w f p s = (q, some s') → psO s'
  | 0, p, s, s', q, _, _, hO, h => by
    cases h
    exact hO
  | f + 1, p, s, s', q, hp, hJ, hO, h => by
    rw [rnn] at h
    cases u : stp s (w p) with
    | some s1 =>
      rw [u] at h
      exact rnn_ord f (p + 1) s1 s' q (by omega) (stp_inv hJ (by omega) u) (stp_ord hJ.1 hO u) h
    | none =>
      rw [u] at h
      cases h
end ORDER
theorem psO_00 : psO s00 := ⟨fun c hc => absurd hc (Nat.not_lt_zero c), fun c hc => absurd hc (Nat.not_lt_zero c), fun _ z => absurd rfl z, fun c hc => absurd hc (Nat.not_lt_zero c)⟩
theorem read_wf {w : Nat → Nat} {m q : Nat} {s' : pS} (hm : m ≤ 80) (h : rnn w m 0 s00 = (q, some s')) (hJ : psI2 m s') (hc : cmp s' = true) (hs : sou s'.2.2.2.2.2 = true) : wf s'.2.2.2.2.2 := by
  obtain ⟨o1, o2, o3, o4⟩ := rnn_ord m 0 s00 s' q (by omega) psI_00 psO_00 h
  have hb := hJ.1.1
  have hE : ¬ exE s' := fun y => by
    unfold exE at y
    unfold cmp at hc
    simp at hc
    omega
  refine ⟨hb.1, fun c hcc => ?_⟩
  obtain ⟨b0, b1, b2, b3, b7, b8⟩ := hb.2 c hcc
  obtain ⟨a1, a2, a3⟩ := o1 c hcc
  have hso := alb_iff.mp hs c hcc
  simp at hso
  have hl := hso.2
  unfold lft at hl
  refine ⟨⟨(o4 c hcc).resolve_left (fun z => hE z.2), b0⟩, hso.1, b2, o2 c hcc, b3, b7, a1, a2, by omega, a3⟩
