/-! STATES THAT ARE IN ORDER -/
def wfc (σ : mS) (c : Nat) : Prop := (1 ≤ σ.2 c 0 ∧ σ.2 c 0 ≤ 60) ∧ σ.2 c 1 < σ.2 c 0 ∧ σ.2 c 2 ≤ 15 ∧ lok (σ.2 c) ∧ (∀ p, p < 4 → σ.2 c (3 + p) ≤ 26) ∧ σ.2 c 7 ≤ σ.1 ∧ (σ.2 c 7 = 0 → σ.2 c 8 = 0) ∧ (∀ k, σ.2 c 7 = k + 1 → σ.2 c 8 < pil σ k) ∧ pis σ c ≤ σ.2 c 1 ∧ (∀ e, e < σ.1 → e ≠ c → σ.2 c 7 ≠ 0 → σ.2 e 7 = σ.2 c 7 → σ.2 e 8 ≠ σ.2 c 8)
def wf (σ : mS) : Prop := σ.1 ≤ 12 ∧ ∀ c, c < σ.1 → wfc σ c
theorem wf.bnd {σ : mS} (h : wf σ) : bnd σ := by
  refine ⟨h.1, fun c hc => ?_⟩
  obtain ⟨⟨h1, h2⟩, h3, h4, h5, h6, h7, h8, h9, h10, h11⟩ := h.2 c hc
  refine ⟨h2, by omega, h4, h6, h7, ?_⟩
  cases q : σ.2 c 7 with
  | zero => rw [h8 q]; omega
  | succ k =>
    have := h9 k q
    have h12 : pil σ k ≤ σ.1 := ct_le _ _
    have h13 := h.1
    omega
theorem sm_part {f : Nat → Nat} {k : Nat} : ∀ {n : Nat}, k < n → f k ≤ sm f n
  | 0, h => by omega
  | n + 1, h => by
    rw [sm]
    rcases Nat.lt_or_ge k n with q | q
    · have := sm_part (f := f) q
      omega
    · rw [show k = n by omega]
      omega
theorem wf.acy {σ : mS} (h : wf σ) {c k : Nat} (hc : c < σ.1) (hk : σ.2 c 7 = k + 1) : k < σ.1 ∧ σ.2 c 0 < σ.2 k 0 := by
  have h7 := (h.2 c hc).2.2.2.2.2.1
  have hk2 : k < σ.1 := by omega
  obtain ⟨-, h3, -, -, -, -, -, -, h10, -⟩ := h.2 k hk2
  have : σ.2 c 0 ≤ pis σ k := by
    have := sm_part (f := fun d => if σ.2 d 7 = k + 1 then σ.2 d 0 else 0) hc
    simp only [hk, if_true] at this
    exact this
  exact ⟨hk2, by omega⟩
theorem ct_mono {p q : Nat → Bool} : ∀ {n : Nat}, (∀ k, k < n → p k = true → q k = true) → ct p n ≤ ct q n
  | 0, _ => Nat.le_refl _
  | n + 1, h => by
    have h1 := ct_mono (n := n) (fun k hk => h k (by omega))
    have h2 := h n (by omega)
    rw [ct, ct]
    cases hp : p n with
    | false => simp; omega
    | true => rw [h2 hp]; simp; omega
theorem ct_lt {p q : Nat → Bool} {k : Nat} : ∀ {n : Nat}, (∀ k, k < n → p k = true → q k = true) → k < n → p k = false → q k = true → ct p n < ct q n
  | 0, _, hk, _, _ => by omega
  | n + 1, h, hk, hp, hq => by
    rw [ct, ct]
    rcases Nat.lt_or_ge k n with z | z
    · have h1 := ct_lt (n := n) (fun k hk => h k (by omega)) z hp hq
      have h2 := h n (by omega)
      cases hp2 : p n with
      | false => simp; omega
      | true => rw [h2 hp2]; simp; omega
    · have hk2 : k = n := by omega
      subst hk2
      have h1 := ct_mono (p := p) (q := q) (n := k) (fun j hj => h j (by omega))
      rw [hp, hq]
      simp
      omega
/-- how many are greater -/
def grt (σ : mS) (c : Nat) : Nat := ct (fun d => decide (σ.2 c 0 < σ.2 d 0)) σ.1
theorem grt_lt {σ : mS} {c k : Nat} (hk : k < σ.1) (h : σ.2 c 0 < σ.2 k 0) : grt σ k < grt σ c := by
  refine ct_lt (k := k) (fun d _ hd => ?_) hk (by simp) (by simpa using h)
  have := of_decide_eq_true hd
  exact decide_eq_true (by omega)
theorem ct_false {p : Nat → Bool} {k : Nat} : ∀ {n : Nat}, k < n → p k = false → ct p n < n
  | 0, hk, _ => by omega
  | n + 1, hk, hp => by
    rw [ct]
    rcases Nat.lt_or_ge k n with z | z
    · have := ct_false z hp
      split <;> omega
    · have hk2 : k = n := by omega
      subst hk2
      have := ct_le p k
      rw [hp]
      simp
      omega
theorem grt_n {σ : mS} {c : Nat} (hc : c < σ.1) : grt σ c < σ.1 := ct_false hc (by simp)
theorem wf.end1 {σ : mS} (h : wf σ) : ∀ f c, c < σ.1 → grt σ c ≤ f → trm σ f (σ.2 c 7)
  | 0, c, hc, hf => by
    cases q : σ.2 c 7 with
    | zero => trivial
    | succ k =>
      obtain ⟨h1, h2⟩ := h.acy hc q
      have := grt_lt h1 h2
      omega
  | f + 1, c, hc, hf => by
    cases q : σ.2 c 7 with
    | zero => trivial
    | succ k =>
      obtain ⟨h1, h2⟩ := h.acy hc q
      have := grt_lt h1 h2
      exact h.end1 f k h1 (by omega)
theorem trm_up {σ : mS} : ∀ {f u : Nat}, trm σ f u → trm σ (f + 1) u
  | _, 0, _ => by cases ‹Nat› <;> trivial
  | 0, _ + 1, h => h.elim
  | f + 1, k + 1, h => trm_up (f := f) (u := σ.2 k 7) h
theorem trm_le {σ : mS} {f g u : Nat} (h : trm σ f u) (hg : f ≤ g) : trm σ g u := by
  obtain ⟨k, rfl⟩ : ∃ k, g = f + k := ⟨g - f, by omega⟩
  induction k with
  | zero => exact h
  | succ k ih => exact trm_up (ih (by omega))
theorem wf.ends {σ : mS} (h : wf σ) {c : Nat} (hc : c < σ.1) : trm σ 12 (σ.2 c 7) := by
  have h1 := grt_n hc
  have h2 := h.1
  exact trm_le (h.end1 _ c hc (Nat.le_refl _)) (by omega)
theorem wf.chu_gt {σ : mS} (h : wf σ) : ∀ {f c a : Nat}, c < σ.1 → a ∈ chu σ f (σ.2 c 7) → a < σ.1 ∧ σ.2 c 0 < σ.2 a 0
  | 0, c, a, hc, ha => by simp [chu] at ha
  | f + 1, c, a, hc, ha => by
    cases q : σ.2 c 7 with
    | zero => rw [q] at ha; simp [chu] at ha
    | succ k =>
      rw [q, chu, List.mem_cons] at ha
      obtain ⟨h1, h2⟩ := h.acy hc q
      rcases ha with rfl | ha
      · exact ⟨h1, h2⟩
      · obtain ⟨g1, g2⟩ := h.chu_gt h1 ha
        exact ⟨g1, by omega⟩
theorem wf.irr {σ : mS} (h : wf σ) {c : Nat} (hc : c < σ.1) : c ∉ chn σ c := fun ha => by
  have := (h.chu_gt hc ha).2
  omega
/-- the chain beyond its fuel -/
theorem chu_trm {σ : mS} : ∀ {f u : Nat}, trm σ f u → chu σ (f + 1) u = chu σ f u
  | f, 0, _ => by cases f <;> rfl
  | 0, _ + 1, h => h.elim
  | f + 1, k + 1, h => by
    show k :: chu σ (f + 1) (σ.2 k 7) = k :: chu σ f (σ.2 k 7)
    rw [chu_trm (f := f) (u := σ.2 k 7) h]
theorem wf.chn_s {σ : mS} (h : wf σ) {c k : Nat} (hc : c < σ.1) (hk : σ.2 c 7 = k + 1) : chn σ c = k :: chn σ k := by
  obtain ⟨h1, h2⟩ := h.acy hc hk
  have g1 := grt_n hc
  have g2 := grt_lt h1 h2
  have g3 := h.1
  have t : trm σ 11 (σ.2 k 7) := trm_le (h.end1 _ k h1 (Nat.le_refl _)) (by omega)
  unfold chn
  rw [hk]
  show k :: chu σ 11 (σ.2 k 7) = k :: chu σ 12 (σ.2 k 7)
  rw [chu_trm t]
theorem chn_0 {σ : mS} {c : Nat} (hk : σ.2 c 7 = 0) : chn σ c = [] := by
  unfold chn
  rw [hk]
  rfl
theorem wf.top {σ : mS} (h : wf σ) {c : Nat} (hc : c < σ.1) : (0 < abv σ c) = (tpb σ c = false) := by
  unfold abv tpb
  cases q : σ.2 c 7 with
  | zero => simp
  | succ k =>
    have := (h.2 c hc).2.2.2.2.2.2.2.1 k q
    simp
    exact ⟨fun z => by omega, fun z => by omega⟩
theorem wf.abv0 {σ : mS} (h : wf σ) {c : Nat} (hc : c < σ.1) : 0 ≤ abv σ c := by
  unfold abv
  cases q : σ.2 c 7 with
  | zero => simp
  | succ k =>
    have := (h.2 c hc).2.2.2.2.2.2.2.1 k q
    simp
    omega
theorem wf.lft0 {σ : mS} (h : wf σ) {c : Nat} (hc : c < σ.1) : 0 ≤ lft σ c := by
  have := (h.2 c hc).2.2.2.2.2.2.2.2.1
  unfold lft
  omega
