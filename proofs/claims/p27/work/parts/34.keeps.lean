/-! STATES STAY IN ORDER -/
theorem ct_split {p : Nat → Bool} {c : Nat} : ∀ {n : Nat}, c < n → ct p n = ct (fun a => !decide (a = c) && p a) n + if p c then 1 else 0
  | 0, h => by omega
  | n + 1, h => by
    rw [ct, ct]
    rcases Nat.lt_or_ge c n with z | z
    · have e : ¬ n = c := by omega
      rw [ct_split z]
      simp [e]
      omega
    · have e : c = n := by omega
      subst e
      rw [ct_cong (p := fun a => !decide (a = c) && p a) (q := p) (fun k hk => by
        have : ¬ k = c := by omega
        simp [this])]
      simp
theorem sm_split {f : Nat → Nat} {c : Nat} : ∀ {n : Nat}, c < n → sm f n = sm (fun a => if a = c then 0 else f a) n + f c
  | 0, h => by omega
  | n + 1, h => by
    rw [sm, sm]
    rcases Nat.lt_or_ge c n with z | z
    · have e : ¬ n = c := by omega
      rw [sm_split z]
      simp [e]
      omega
    · have e : c = n := by omega
      subst e
      rw [sm_cong (p := fun a => if a = c then 0 else f a) (q := f) (fun k hk => if_neg (by omega))]
      simp
def plo (σ : mS) (c k : Nat) : Nat := ct (fun a => !decide (a = c) && decide (σ.2 a 7 = k + 1)) σ.1
def pso (σ : mS) (c k : Nat) : Nat := sm (fun a => if a = c then 0 else if σ.2 a 7 = k + 1 then σ.2 a 0 else 0) σ.1
theorem pil_o {σ : mS} {c k : Nat} (hc : c < σ.1) : pil σ k = plo σ c k + if σ.2 c 7 = k + 1 then 1 else 0 := by
  unfold pil plo
  rw [ct_split hc]
  simp
theorem pis_o {σ : mS} {c k : Nat} (hc : c < σ.1) : pis σ k = pso σ c k + if σ.2 c 7 = k + 1 then σ.2 c 0 else 0 := by
  unfold pis pso
  rw [sm_split hc]
theorem plo_sa {σ : mS} {c j x k : Nat} : plo (sa σ c j x) c k = plo σ c k := ct_cong (fun a _ => by
  by_cases q : a = c
  · simp [q]
  · simp [q, sa])
theorem pso_sa {σ : mS} {c j x k : Nat} : pso (sa σ c j x) c k = pso σ c k := sm_cong (fun a _ => by
  by_cases q : a = c
  · simp [q]
  · simp [q, sa])
theorem gnd_2 {σ : mS} {c a b : Nat} : (gnd σ c).2 a b = if a = c ∧ (b = 7 ∨ b = 8) then 0 else σ.2 a b := by
  unfold gnd
  rw [sa_2, sa_2]
  by_cases q : a = c
  · by_cases q8 : b = 8
    · simp [q, q8]
    · by_cases q7 : b = 7
      · simp [q, q7]
      · simp [q7, q8]
  · simp [q]
theorem gnd_1 {σ : mS} {c : Nat} : (gnd σ c).1 = σ.1 := rfl
theorem laid_2 {σ : mS} {c k a b : Nat} : (laid σ c k).2 a b = if a = c ∧ b = 7 then k + 1 else if a = c ∧ b = 8 then pil (gnd σ c) k else σ.2 a b := by
  unfold laid
  rw [sa_2, sa_2, gnd_2]
  by_cases q : a = c
  · by_cases q8 : b = 8
    · simp [q, q8]
    · by_cases q7 : b = 7
      · simp [q, q7]
      · simp [q7, q8]
  · simp [q]
theorem laid_1 {σ : mS} {c k : Nat} : (laid σ c k).1 = σ.1 := rfl
theorem plo_gnd {σ : mS} {c k : Nat} : plo (gnd σ c) c k = plo σ c k := by unfold gnd; rw [plo_sa, plo_sa]
theorem pso_gnd {σ : mS} {c k : Nat} : pso (gnd σ c) c k = pso σ c k := by unfold gnd; rw [pso_sa, pso_sa]
theorem pil_gnd {σ : mS} {c k : Nat} (hc : c < σ.1) : pil (gnd σ c) k = plo σ c k := by
  rw [pil_o (σ := gnd σ c) (c := c) hc, plo_gnd, gnd_2]
  simp
theorem pis_gnd {σ : mS} {c k : Nat} (hc : c < σ.1) : pis (gnd σ c) k = pso σ c k := by
  rw [pis_o (σ := gnd σ c) (c := c) hc, pso_gnd, gnd_2]
  simp
theorem pil_laid {σ : mS} {c k j : Nat} (hc : c < σ.1) : pil (laid σ c k) j = plo σ c j + if k = j then 1 else 0 := by
  rw [pil_o (σ := laid σ c k) (c := c) hc, laid_2]
  unfold laid
  rw [plo_sa, plo_sa, plo_gnd]
  simp
theorem pis_laid {σ : mS} {c k j : Nat} (hc : c < σ.1) : pis (laid σ c k) j = pso σ c j + if k = j then σ.2 c 0 else 0 := by
  rw [pis_o (σ := laid σ c k) (c := c) hc, laid_2, laid_2]
  unfold laid
  rw [pso_sa, pso_sa, pso_gnd]
  simp
theorem gnd_wf {σ : mS} (hw : wf σ) {c : Nat} (hc : c < σ.1) (ht : tpb σ c = true) : wf (gnd σ c) := by
  have tp : ∀ k, σ.2 c 7 = k + 1 → σ.2 c 8 + 1 = pil σ k := by
    intro k hk
    unfold tpb at ht
    rw [hk] at ht
    exact of_decide_eq_true ht
  refine ⟨hw.1, fun a ha => ?_⟩
  have ha : a < σ.1 := ha
  obtain ⟨h1, h2, h3, h4, h5, h6, h7, h8, h9, h10⟩ := hw.2 a ha
  have r0 : (gnd σ c).2 a 0 = σ.2 a 0 := by rw [gnd_2]; simp
  have r1 : (gnd σ c).2 a 1 = σ.2 a 1 := by rw [gnd_2]; simp
  have r2 : (gnd σ c).2 a 2 = σ.2 a 2 := by rw [gnd_2]; simp
  have rl : ∀ p, p < 4 → (gnd σ c).2 a (3 + p) = σ.2 a (3 + p) := by
    intro p hp
    rw [gnd_2, if_neg (by omega)]
  have h9' : pis (gnd σ c) a ≤ σ.2 a 1 := by
    have := pis_o (k := a) hc
    rw [pis_gnd hc]
    omega
  refine ⟨by rw [r0]; exact h1, by rw [r0, r1]; exact h2, by rw [r2]; exact h3, ?_, fun p hp => by rw [rl p hp]; exact h5 p hp, ?_, ?_, ?_, by rw [r1]; exact h9', ?_⟩
  · have l0 := rl 0 (by omega)
    have l1 := rl 1 (by omega)
    have l2 := rl 2 (by omega)
    have l3 := rl 3 (by omega)
    unfold lok at h4 ⊢
    simp only [Nat.reduceAdd] at l0 l1 l2 l3
    rw [l0, l1, l2, l3]
    exact h4
  · rw [gnd_2, gnd_1]
    split
    · exact Nat.zero_le _
    · exact h6
  · rw [gnd_2, gnd_2]
    intro q
    by_cases w : a = c
    · simp [w]
    · simp only [w, false_and, if_false] at q ⊢
      exact h7 q
  · rw [gnd_2, gnd_2]
    intro k hk
    by_cases w : a = c
    · simp [w] at hk
    · simp only [w, false_and, if_false] at hk ⊢
      rw [pil_gnd hc]
      have e1 := h8 k hk
      have e2 := pil_o (k := k) hc
      by_cases v : σ.2 c 7 = k + 1
      · have e3 := tp k v
        have e4 := h10 c hc (fun z => w z.symm) (by omega) (by omega)
        rw [if_pos v] at e2
        omega
      · rw [if_neg v] at e2
        omega
  · intro e he hea
    have he : e < σ.1 := he
    rw [gnd_2, gnd_2, gnd_2, gnd_2]
    by_cases w : a = c
    · simp [w]
    · simp only [w, false_and, if_false]
      intro z1 z2
      by_cases v : e = c
      · simp only [v, true_and, true_or, if_true] at z2
        omega
      · simp only [v, false_and, if_false] at z2 ⊢
        exact h10 e he hea z1 z2
theorem laid_wf {σ : mS} {c k : Nat} (hw : wf (gnd σ c)) (hc : c < σ.1) (hk : k < σ.1) (hck : c ≠ k) (hroom : pso σ c k + σ.2 c 0 ≤ σ.2 k 1) : wf (laid σ c k) := by
  refine ⟨hw.1, fun a ha => ?_⟩
  have ha : a < σ.1 := ha
  obtain ⟨h1, h2, h3, h4, h5, h6, h7, h8, h9, h10⟩ := hw.2 a ha
  have eq : ∀ b, b ≠ 7 → b ≠ 8 → (laid σ c k).2 a b = (gnd σ c).2 a b := by
    intro b hb1 hb2
    rw [laid_2, gnd_2, if_neg (by omega), if_neg (by omega), if_neg (by omega)]
  have eo : ∀ e b, e ≠ c → (laid σ c k).2 e b = (gnd σ c).2 e b := by
    intro e b he
    rw [laid_2, gnd_2, if_neg (by omega), if_neg (by omega), if_neg (by omega)]
  have g7 : (laid σ c k).2 c 7 = k + 1 := by rw [laid_2, if_pos ⟨rfl, rfl⟩]
  have g8 : (laid σ c k).2 c 8 = plo σ c k := by rw [laid_2, if_neg (by omega), if_pos ⟨rfl, rfl⟩, pil_gnd hc]
  rw [pis_gnd hc] at h9
  refine ⟨by rw [eq 0 (by omega) (by omega)]; exact h1, by rw [eq 0 (by omega) (by omega), eq 1 (by omega) (by omega)]; exact h2, by rw [eq 2 (by omega) (by omega)]; exact h3, ?_, fun p hp => by rw [eq (3 + p) (by omega) (by omega)]; exact h5 p hp, ?_, ?_, ?_, ?_, ?_⟩
  · unfold lok at h4 ⊢
    rw [eq 3 (by omega) (by omega), eq 4 (by omega) (by omega), eq 5 (by omega) (by omega), eq 6 (by omega) (by omega)]
    exact h4
  · by_cases w : a = c
    · rw [w, g7]
      exact hk
    · rw [eo a 7 w]
      exact h6
  · by_cases w : a = c
    · rw [w, g7]
      omega
    · rw [eo a 7 w, eo a 8 w]
      exact h7
  · intro j hj
    rw [pil_laid hc]
    by_cases w : a = c
    · rw [w, g7] at hj
      rw [w, g8, if_pos (by omega), show j = k by omega]
      omega
    · rw [eo a 7 w] at hj
      rw [eo a 8 w]
      have := h8 j hj
      rw [pil_gnd hc] at this
      omega
  · rw [pis_laid hc, eq 1 (by omega) (by omega)]
    by_cases w : k = a
    · subst w
      rw [if_pos rfl, gnd_2, if_neg (by omega)]
      exact hroom
    · rw [if_neg w]
      exact h9
  · intro e he hea z1 z2
    have he : e < σ.1 := he
    by_cases w : a = c
    · subst w
      rw [g7] at z2
      rw [eo e 7 hea] at z2
      rw [eo e 8 hea, g8]
      have := (hw.2 e he).2.2.2.2.2.2.2.1 k z2
      rw [pil_gnd hc] at this
      omega
    · rw [eo a 7 w] at z1 z2
      rw [eo a 8 w]
      by_cases v : e = c
      · subst v
        rw [g7] at z2
        rw [g8]
        have := h8 k z2.symm
        rw [pil_gnd hc] at this
        omega
      · rw [eo e 7 v] at z2
        rw [eo e 8 v]
        exact h10 e he hea z1 z2
theorem ct_shf {p : Nat → Bool} {c : Nat} : ∀ {n : Nat}, c < n → ct p n = ct (fun a => p (shf c a)) (n - 1) + if p c then 1 else 0
  | 0, h => by omega
  | m + 1, h => by
    rw [ct, Nat.add_sub_cancel]
    rcases Nat.lt_or_ge c m with z | z
    · obtain ⟨j, rfl⟩ : ∃ j, m = j + 1 := ⟨m - 1, by omega⟩
      rw [ct_shf (n := j + 1) z, Nat.add_sub_cancel, ct]
      have : shf c j = j + 1 := by unfold shf; rw [if_neg (by omega)]
      rw [this]
      omega
    · have e : c = m := by omega
      subst e
      rw [ct_cong (p := fun a => p (shf c a)) (q := p) (fun k hk => by
        have : shf c k = k := by unfold shf; rw [if_pos hk]
        rw [this])]
theorem sm_shf {f : Nat → Nat} {c : Nat} : ∀ {n : Nat}, c < n → sm f n = sm (fun a => f (shf c a)) (n - 1) + f c
  | 0, h => by omega
  | m + 1, h => by
    rw [sm, Nat.add_sub_cancel]
    rcases Nat.lt_or_ge c m with z | z
    · obtain ⟨j, rfl⟩ : ∃ j, m = j + 1 := ⟨m - 1, by omega⟩
      rw [sm_shf (n := j + 1) z, Nat.add_sub_cancel, sm]
      have : shf c j = j + 1 := by unfold shf; rw [if_neg (by omega)]
      rw [this]
      omega
    · have e : c = m := by omega
      subst e
      rw [sm_cong (p := fun a => f (shf c a)) (q := f) (fun k hk => by
        have : shf c k = k := by unfold shf; rw [if_pos hk]
        rw [this])]
theorem ct_zero {p : Nat → Bool} : ∀ {n : Nat}, ct p n = 0 → ∀ k, k < n → p k = false
  | 0, _, k, hk => by omega
  | n + 1, h, k, hk => by
    rw [ct] at h
    rcases Nat.lt_or_ge k n with z | z
    · exact ct_zero (by omega) k z
    · have e : k = n := by omega
      subst e
      cases q : p k with
      | false => rfl
      | true => rw [q] at h; simp at h
theorem phi {c u j : Nat} (h : u ≠ c + 1) : ((if u ≤ c + 1 then u else u - 1) = j + 1) = (u = shf c j + 1) := by
  unfold shf
  refine propext ⟨fun z => ?_, fun z => ?_⟩
  · split at z <;> split <;> omega
  · split at z <;> split <;> omega
theorem lrm_wf0 {σ : mS} (hw : wf σ) {c : Nat} (hc : c < σ.1) (h0 : σ.2 c 7 = 0) (hp : pil σ c = 0) : wf (lrm σ c) := by
  have hno : ∀ x, x < σ.1 → σ.2 x 7 ≠ c + 1 := fun x hx z => by
    have := ct_zero hp x hx
    simp [z] at this
  have hs : ∀ a, a < σ.1 - 1 → shf c a < σ.1 := by
    intro a ha
    unfold shf
    split <;> omega
  have l7 : ∀ a, (lrm σ c).2 a 7 = if σ.2 (shf c a) 7 ≤ c + 1 then σ.2 (shf c a) 7 else σ.2 (shf c a) 7 - 1 := fun a => rfl
  have lo : ∀ a b, b ≠ 7 → (lrm σ c).2 a b = σ.2 (shf c a) b := fun a b hb => if_neg hb
  have hpil : ∀ j, pil (lrm σ c) j = pil σ (shf c j) := by
    intro j
    unfold pil
    rw [ct_shf (c := c) hc, h0]
    have : decide (0 = shf c j + 1) = false := by simp
    rw [this]
    refine Eq.trans (ct_cong (fun a ha => ?_)) (Nat.add_zero _).symm
    have ha : a < σ.1 - 1 := ha
    rw [l7]
    simp only [phi (hno _ (hs a ha))]
  have hpis : ∀ j, pis (lrm σ c) j = pis σ (shf c j) := by
    intro j
    unfold pis
    rw [sm_shf (c := c) hc, h0, if_neg (by omega)]
    refine Eq.trans (sm_cong (fun a ha => ?_)) (Nat.add_zero _).symm
    have ha : a < σ.1 - 1 := ha
    rw [l7, lo a 0 (by omega)]
    simp only [phi (hno _ (hs a ha))]
  refine ⟨?_, fun a ha => ?_⟩
  · have := hw.1
    show σ.1 - 1 ≤ 12
    omega
  · have ha : a < σ.1 - 1 := ha
    have hx := hs a ha
    have hn7 := hno _ hx
    obtain ⟨h1, h2, h3, h4, h5, h6, h7, h8, h9, h10⟩ := hw.2 _ hx
    refine ⟨by rw [lo a 0 (by omega)]; exact h1, by rw [lo a 0 (by omega), lo a 1 (by omega)]; exact h2, by rw [lo a 2 (by omega)]; exact h3, ?_, fun p hp => by rw [lo a (3 + p) (by omega)]; exact h5 p hp, ?_, ?_, ?_, ?_, ?_⟩
    · unfold lok at h4 ⊢
      rw [lo a 3 (by omega), lo a 4 (by omega), lo a 5 (by omega), lo a 6 (by omega)]
      exact h4
    · rw [l7]
      show _ ≤ σ.1 - 1
      split <;> omega
    · rw [l7, lo a 8 (by omega)]
      intro q
      apply h7
      split at q <;> omega
    · intro k hk
      rw [l7, phi hn7] at hk
      rw [hpil, lo a 8 (by omega)]
      exact h8 _ hk
    · rw [hpis, lo a 1 (by omega)]
      exact h9
    · intro e he hea z1 z2
      have he : e < σ.1 - 1 := he
      obtain ⟨j, hj⟩ : ∃ j, (lrm σ c).2 a 7 = j + 1 := ⟨(lrm σ c).2 a 7 - 1, by omega⟩
      rw [hj] at z2
      rw [l7, phi (hno _ (hs e he))] at z2
      rw [l7, phi hn7] at hj
      rw [lo a 8 (by omega), lo e 8 (by omega)]
      refine h10 _ (hs e he) ?_ (by omega) (by omega)
      unfold shf
      split <;> split <;> omega
theorem lrm_gnd {σ : mS} {c : Nat} : lrm (gnd σ c) c = lrm σ c := by
  unfold lrm
  refine Prod.ext rfl (funext fun a => funext fun b => ?_)
  have hne : shf c a ≠ c := by unfold shf; split <;> omega
  have e : ∀ b, (gnd σ c).2 (shf c a) b = σ.2 (shf c a) b := fun b => by rw [gnd_2, if_neg (fun z => hne z.1)]
  simp only [e]
theorem lrm_wf {σ : mS} (hw : wf σ) {c : Nat} (hc : c < σ.1) (ht : tpb σ c = true) (hp : pil σ c = 0) : wf (lrm σ c) := by
  rw [← lrm_gnd]
  refine lrm_wf0 (gnd_wf hw hc ht) hc ?_ ?_
  · rw [gnd_2]
    simp
  · have := pil_o (k := c) hc
    rw [pil_gnd hc]
    omega
theorem turn_wf {σ : mS} (hw : wf σ) {c x : Nat} (hx : x ≤ 15) : wf (sa σ c 2 x) := by
  have hpil : ∀ j, pil (sa σ c 2 x) j = pil σ j := fun j => ct_cong (fun a _ => by simp [sa])
  have hpis : ∀ j, pis (sa σ c 2 x) j = pis σ j := fun j => sm_cong (fun a _ => by simp [sa])
  have lo : ∀ a b, b ≠ 2 → (sa σ c 2 x).2 a b = σ.2 a b := fun a b hb => if_neg (fun z => hb z.2)
  refine ⟨hw.1, fun a ha => ?_⟩
  obtain ⟨h1, h2, h3, h4, h5, h6, h7, h8, h9, h10⟩ := hw.2 a ha
  refine ⟨by rw [lo a 0 (by omega)]; exact h1, by rw [lo a 0 (by omega), lo a 1 (by omega)]; exact h2, ?_, ?_, fun p hp => by rw [lo a (3 + p) (by omega)]; exact h5 p hp, ?_, ?_, ?_, ?_, ?_⟩
  · rw [sa_2]
    split
    · exact hx
    · exact h3
  · unfold lok at h4 ⊢
    rw [lo a 3 (by omega), lo a 4 (by omega), lo a 5 (by omega), lo a 6 (by omega)]
    exact h4
  · rw [lo a 7 (by omega)]
    exact h6
  · rw [lo a 7 (by omega), lo a 8 (by omega)]
    exact h7
  · intro k hk
    rw [lo a 7 (by omega)] at hk
    rw [hpil, lo a 8 (by omega)]
    exact h8 k hk
  · rw [hpis, lo a 1 (by omega)]
    exact h9
  · intro e he hea z1 z2
    rw [lo a 7 (by omega)] at z1 z2
    rw [lo e 7 (by omega)] at z2
    rw [lo a 8 (by omega), lo e 8 (by omega)]
    exact h10 e he hea z1 z2
theorem sm_zero {f : Nat → Nat} : ∀ {n : Nat}, (∀ k, k < n → f k = 0) → sm f n = 0
  | 0, _ => rfl
  | n + 1, h => by rw [sm, sm_zero (fun k hk => h k (by omega)), h n (by omega)]
theorem add_wf {σ : mS} (hw : wf σ) (hn : σ.1 < 12) {A : Nat → Nat} (a0 : 1 ≤ A 0 ∧ A 0 ≤ 60) (a1 : A 1 < A 0) (a2 : A 2 ≤ 15) (a3 : lok A) (a4 : ∀ p, p < 4 → A (3 + p) ≤ 26) (a7 : A 7 = 0) (a8 : A 8 = 0) : wf (addd σ A) := by
  have e1 : ∀ a, a < σ.1 → (addd σ A).2 a = σ.2 a := by
    intro a ha
    funext b
    exact if_neg (by omega)
  have e2 : (addd σ A).2 σ.1 = A := by
    funext b
    exact if_pos rfl
  have hpil : ∀ j, pil (addd σ A) j = pil σ j := by
    intro j
    unfold pil
    show ct _ (σ.1 + 1) = _
    rw [ct, e2, a7, ct_cong (q := fun d => decide (σ.2 d 7 = j + 1)) (fun a ha => by rw [e1 a ha])]
    simp
  have hpis : ∀ j, pis (addd σ A) j = pis σ j := by
    intro j
    unfold pis
    show sm _ (σ.1 + 1) = _
    rw [sm, e2, a7, sm_cong (q := fun d => if σ.2 d 7 = j + 1 then σ.2 d 0 else 0) (fun a ha => by rw [e1 a ha])]
    simp
  refine ⟨hn, fun a ha => ?_⟩
  have ha : a < σ.1 + 1 := ha
  by_cases q : a = σ.1
  · subst q
    unfold wfc
    rw [e2]
    refine ⟨a0, a1, a2, a3, a4, by omega, fun _ => a8, fun k hk => by omega, ?_, fun e _ _ z => absurd a7 z⟩
    rw [hpis]
    unfold pis
    rw [sm_zero (fun k hk => if_neg (by
      have := (hw.2 k hk).2.2.2.2.2.1
      omega))]
    exact Nat.zero_le _
  · have ha2 : a < σ.1 := by omega
    obtain ⟨h1, h2, h3, h4, h5, h6, h7, h8, h9, h10⟩ := hw.2 a ha2
    unfold wfc
    rw [e1 a ha2]
    refine ⟨h1, h2, h3, h4, h5, ?_, h7, fun k hk => by rw [hpil]; exact h8 k hk, by rw [hpis]; exact h9, fun e he hea z1 z2 => ?_⟩
    · show _ ≤ σ.1 + 1
      omega
    · have he : e < σ.1 + 1 := he
      by_cases w : e = σ.1
      · subst w
        rw [e2, a7] at z2
        exact absurd z2.symm z1
      · rw [e1 e (by omega)] at z2 ⊢
        exact h10 e (by omega) hea z1 z2
