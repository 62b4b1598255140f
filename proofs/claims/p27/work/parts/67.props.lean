/-! WHAT HOLDS OF EVERY STATE IN ORDER: what the law's looks compare -/
/-- how many lie above in the same pile -/
def abc (σ : mS) (c : Nat) : Nat := ct (fun k => decide (σ.2 c 7 ≠ 0 ∧ σ.2 k 7 = σ.2 c 7 ∧ σ.2 c 8 < σ.2 k 8)) σ.1
theorem si_above {a : Nat} : ∀ {n : Nat}, si (fun p => if a < p then (1 : Int) else 0) n = if a < n then (n : Int) - 1 - (a : Int) else 0
  | 0 => by rw [si, if_neg (by omega)]
  | n + 1 => by
    rw [si, si_above (n := n)]
    by_cases h1 : a < n
    · rw [if_pos h1, if_pos h1, if_pos (by omega)]
      omega
    · rw [if_neg h1, if_neg h1]
      by_cases h2 : a < n + 1
      · rw [if_pos h2]
        omega
      · rw [if_neg h2]
        omega
theorem wf.abc_s {σ : mS} (hw : wf σ) {c k : Nat} (hc : c < σ.1) (hk : σ.2 c 7 = k + 1) : σ.2 c 8 + abc σ c + 1 = pil σ k := by
  have h8 := (hw.2 c hc).2.2.2.2.2.2.2.1 k hk
  have h1 := hw.pile_sum (c := k) (fun e => if σ.2 c 8 < σ.2 e 8 then (1 : Int) else 0)
  have h2 : si (fun e => if σ.2 e 7 = k + 1 then (if σ.2 c 8 < σ.2 e 8 then (1 : Int) else 0) else 0) σ.1 = (abc σ c : Int) := by
    unfold abc
    rw [ct_si]
    refine si_cong (fun e _ => ?_)
    by_cases q : σ.2 e 7 = k + 1
    · by_cases q2 : σ.2 c 8 < σ.2 e 8
      · rw [if_pos q, if_pos q2, if_pos (decide_eq_true ⟨by omega, by omega, q2⟩)]
      · rw [if_pos q, if_neg q2, if_neg (by rw [decide_eq_true_eq]; exact fun z => q2 z.2.2)]
    · rw [if_neg q, if_neg (by rw [decide_eq_true_eq]; exact fun z => q (by omega))]
  have h3 : si (fun p => si (fun e => if σ.2 e 7 = k + 1 ∧ σ.2 e 8 = p then (if σ.2 c 8 < σ.2 e 8 then (1 : Int) else 0) else 0) σ.1) (pil σ k) = si (fun p => if σ.2 c 8 < p then (1 : Int) else 0) (pil σ k) := by
    refine si_cong (fun p hp => ?_)
    obtain ⟨e0, a1, a2, a3⟩ := hw.place_ex hp
    rw [si_only a1 (fun g hg hne => if_neg (fun z => hne (hw.uni hg a1 z.1 a2 (by omega)))), if_pos ⟨a2, a3⟩, a3]
  rw [h3, si_above, if_pos h8, h2] at h1
  omega
theorem abc_0 {σ : mS} {c : Nat} (hk : σ.2 c 7 = 0) : abc σ c = 0 := by
  have h : ∀ n, ct (fun k => decide (σ.2 c 7 ≠ 0 ∧ σ.2 k 7 = σ.2 c 7 ∧ σ.2 c 8 < σ.2 k 8)) n = 0 := by
    intro n
    induction n with
    | zero => rfl
    | succ n ih =>
      rw [ct, ih, if_neg (by rw [decide_eq_true_eq]; exact fun z => z.1 hk)]
  exact h _
theorem wf.abc_t {σ : mS} (hw : wf σ) {c : Nat} (hc : c < σ.1) : (0 < abc σ c) = (tpb σ c = false) := by
  unfold tpb
  cases q : σ.2 c 7 with
  | zero =>
    rw [abc_0 q]
    simp
  | succ k =>
    have := hw.abc_s hc q
    simp
    exact ⟨fun z => by omega, fun z => by omega⟩
theorem wf.rgd_e {σ : mS} (hw : wf σ) {c : Nat} (hc : c < σ.1) : rgd σ c = if 0 < abc σ c then 1 else if σ.2 c 7 = 0 then 4 else 0 := by
  unfold rgd
  have h := hw.abc_t hc
  by_cases q : 0 < abc σ c
  · rw [if_pos q, if_pos (h.mp q)]
  · rw [if_neg q, if_neg (fun z => q (h.mpr z))]
theorem wf.dpt_s {σ : mS} (hw : wf σ) {c k : Nat} (hc : c < σ.1) (hk : σ.2 c 7 = k + 1) : dpt σ c = dpt σ k + 1 := by
  unfold dpt
  rw [hw.chn_s hc hk]
  rfl
theorem dpt_0 {σ : mS} {c : Nat} (hk : σ.2 c 7 = 0) : dpt σ c = 0 := by
  unfold dpt
  rw [chn_0 hk]
  rfl
theorem wf.opn_s {σ : mS} (hw : wf σ) {c k : Nat} (hc : c < σ.1) (hk : σ.2 c 7 = k + 1) {p : Nat} : opn σ c p = ((σ.2 k 2).testBit p && opn σ k p) := by
  unfold opn
  rw [hw.chn_s hc hk, List.all_cons]
theorem opn_0 {σ : mS} {c : Nat} (hk : σ.2 c 7 = 0) {p : Nat} : opn σ c p = true := by
  unfold opn
  rw [chn_0 hk]
  rfl
theorem lts_e {σ : mS} {c : Nat} : lts σ c = (if 0 < σ.2 c 3 then 1 else 0) + (if 0 < σ.2 c 4 then 1 else 0) + (if 0 < σ.2 c 5 then 1 else 0) + (if 0 < σ.2 c 6 then 1 else 0) := by
  unfold lts
  simp [ct]
theorem lts_z {σ : mS} {c p : Nat} (hl : lok (σ.2 c)) (hp : p < 4) : (σ.2 c (3 + p) = 0) = (lts σ c ≤ p) := by
  obtain ⟨h1, h2, h3⟩ := hl
  have e := lts_e (σ := σ) (c := c)
  have hp4 : p = 0 ∨ p = 1 ∨ p = 2 ∨ p = 3 := by omega
  refine propext ?_
  by_cases a3 : 0 < σ.2 c 3 <;> by_cases a4 : 0 < σ.2 c 4 <;> by_cases a5 : 0 < σ.2 c 5 <;> by_cases a6 : 0 < σ.2 c 6 <;> simp only [a3, a4, a5, a6, if_true, if_false] at e <;> rcases hp4 with q | q | q | q <;> subst q <;> simp only [Nat.add_zero, Nat.reduceAdd] <;> omega
theorem lts_14 {σ : mS} {c : Nat} (hl : lok (σ.2 c)) : 1 ≤ lts σ c ∧ lts σ c ≤ 4 := by
  refine ⟨?_, ct_le _ _⟩
  have h := hl.1
  rw [lts_e, if_pos h]
  omega
/-! the longest nest holds loose crates alone -/
theorem lng_lse {σ : mS} (hw : wf σ) : ∀ (f c : Nat), c < σ.1 → lng σ f c ≤ ct (fun d => lse σ d && decide (σ.2 d 0 ≤ σ.2 c 0)) σ.1
  | 0, _, _ => Nat.zero_le _
  | f + 1, c, hc => by
    have h1 := (hw.2 c hc).2.1
    rw [lng]
    by_cases q : lse σ c = true
    · rw [if_pos q]
      have h3 : ct (fun _ => false) σ.1 < ct (fun d => lse σ d && decide (σ.2 d 0 ≤ σ.2 c 0)) σ.1 := ct_lt (k := c) (fun _ _ w => by cases w) hc rfl (by simp [q])
      have h2 : mxf (fun e => if σ.2 e 0 ≤ σ.2 c 1 then lng σ f e else 0) σ.1 ≤ ct (fun d => lse σ d && decide (σ.2 d 0 ≤ σ.2 c 0)) σ.1 - 1 := by
        refine mxf_le (fun e he => ?_)
        by_cases w : σ.2 e 0 ≤ σ.2 c 1
        · rw [if_pos w]
          have h4 := lng_lse hw f e he
          have h5 : ct (fun d => lse σ d && decide (σ.2 d 0 ≤ σ.2 e 0)) σ.1 < ct (fun d => lse σ d && decide (σ.2 d 0 ≤ σ.2 c 0)) σ.1 := ct_lt (k := c) (fun d _ hd => by
            rw [Bool.and_eq_true, decide_eq_true_eq] at hd ⊢
            exact ⟨hd.1, by omega⟩) hc (by rw [q, Bool.true_and]; exact decide_eq_false (by omega)) (by rw [q, Bool.true_and]; exact decide_eq_true (Nat.le_refl _))
          omega
        · rw [if_neg w]
          exact Nat.zero_le _
      omega
    · rw [if_neg q]
      exact Nat.zero_le _
theorem wf.lgn_le {σ : mS} (hw : wf σ) : lgn σ ≤ ct (lse σ) σ.1 := mxf_le (fun k hk => by
  by_cases q : σ.2 k 0 ≤ 60
  · rw [if_pos q]
    refine Nat.le_trans (lng_lse hw 60 k hk) (ct_mono (fun d _ hd => ?_))
    rw [Bool.and_eq_true] at hd
    exact hd.1
  · rw [if_neg q]
    exact Nat.zero_le _)
theorem wf.nsv_e {σ : mS} (hw : wf σ) {v : Nat} (hv : v < lgn σ) : ∃ c, c < σ.1 ∧ σ.2 c 7 = 0 ∧ nsv σ (nI v) = nI c := by
  have h1 := hw.lgn_le
  have h2 := ct_le (lse σ) σ.1
  have h3 := hw.1
  have h4 := hw.nrm_mx v (by omega)
  obtain ⟨c, c1, c2, c3, c4, c5⟩ := hw.nxt_ex (r := nrm σ v) (by omega)
  have h5 := hw.lnn_eq c1
  have hl : lse σ c = true := by
    cases q : lse σ c with
    | true => rfl
    | false =>
      rw [q, if_neg Bool.false_ne_true] at h5
      omega
  unfold lse at hl
  rw [Bool.and_eq_true, decide_eq_true_eq] at hl
  refine ⟨c, c1, hl.1, ?_⟩
  unfold nsv
  rw [if_pos (zin_T hv (by omega)), nI_clamp (by omega), c2]
  rfl
/-! best places -/
theorem bst_ok {σ : mS} {c : Nat} : ∀ n, n ≤ σ.1 → ∀ s, s = zfold (bstep σ c) n (0, 0) → s.1 = 0 ∨ ∃ k, k < n ∧ s.1 = k + 1 ∧ ¬ c = k ∧ σ.2 c 7 ≠ k + 1 ∧ 0 ≤ lft σ k - (σ.2 c 0 : Int)
  | 0, _, s, h => by
    left
    rw [h]
    rfl
  | n + 1, hn, s, h => by
    have ih := bst_ok (σ := σ) (c := c) n (by omega) _ rfl
    rw [zfold] at h
    unfold bstep at h
    split at h
    · rename_i q
      right
      exact ⟨n, by omega, by rw [h], fun z => q.1 (Or.inl z), q.2.1, q.2.2.1⟩
    · rw [h]
      rcases ih with z | ⟨k, k1, k2⟩
      · exact Or.inl z
      · exact Or.inr ⟨k, by omega, k2⟩
theorem bst_e {σ : mS} {c : Nat} : bst σ c = 0 ∨ ∃ k, k < σ.1 ∧ bst σ c = k + 1 ∧ ¬ c = k ∧ σ.2 c 7 ≠ k + 1 ∧ 0 ≤ lft σ k - (σ.2 c 0 : Int) := bst_ok σ.1 (Nat.le_refl _) _ rfl
theorem btn_ok {σ : mS} : ∀ n, n ≤ σ.1 → ((zfold (bts σ) n (0, -1)).1 ≤ n ∧ (0 < n → 0 < (zfold (bts σ) n (0, -1)).1)) ∧ ((zfold (bts σ) n (0, -1)).1 = 0 → (zfold (bts σ) n (0, -1)).2 = -1)
  | 0, _ => ⟨⟨Nat.le_refl _, fun z => absurd z (Nat.lt_irrefl _)⟩, fun _ => rfl⟩
  | n + 1, hn => by
    obtain ⟨⟨h1, h2⟩, h3⟩ := btn_ok (σ := σ) n (by omega)
    rw [zfold]
    generalize zfold (bts σ) n (0, -1) = s at h1 h2 h3 ⊢
    unfold bts
    split
    · exact ⟨⟨by dsimp only; omega, fun _ => by dsimp only; omega⟩, fun z => by dsimp only at z; omega⟩
    · rename_i q
      refine ⟨⟨by omega, fun _ => ?_⟩, h3⟩
      rcases Nat.eq_zero_or_pos s.1 with z | z
      · have := h3 z
        omega
      · exact z
theorem btn_e {σ : mS} : btn σ ≤ σ.1 ∧ (0 < σ.1 → 0 < btn σ) := (btn_ok σ.1 (Nat.le_refl _)).1
/-! efforts -/
theorem wf.efu_nn {σ : mS} (hw : wf σ) : ∀ (f c : Nat), c < σ.1 → 0 ≤ efu σ f c ∧ efu σ f c ≤ 12 * (f : Int)
  | 0, _, _ => by
    rw [efu]
    omega
  | f + 1, c, hc => by
    rw [efu]
    cases q : σ.2 c 7 with
    | zero =>
      dsimp only
      omega
    | succ k =>
      have h8 := (hw.2 c hc).2.2.2.2.2.2.2.1 k q
      have ih := hw.efu_nn f k (hw.acy hc q).1
      have := pil_le (c := k) hw.bnd
      dsimp only
      omega
theorem wf.eft_nn {σ : mS} (hw : wf σ) {c : Nat} (hc : c < σ.1) : 0 ≤ eft σ c ∧ eft σ c ≤ 144 := by
  have := hw.efu_nn 12 c hc
  unfold eft
  omega
theorem si_le2 {f g : Nat → Int} {b : Int} : ∀ {n : Nat}, (∀ k, k < n → 0 ≤ f k ∧ f k ≤ g k ∧ g k ≤ b) → 0 ≤ si f n ∧ si f n ≤ si g n ∧ si g n ≤ b * (n : Int)
  | 0, _ => by
    rw [si, si]
    omega
  | n + 1, h => by
    have h1 := si_le2 (n := n) (fun k hk => h k (by omega))
    have h2 := h n (by omega)
    have e : b * ((n + 1 : Nat) : Int) = b * (n : Int) + b := by
      rw [Int.natCast_add, Int.mul_add]
      simp
    rw [si, si, e]
    omega
theorem wf.gz_le {σ : mS} (hw : wf σ) {z : Int32} : 0 ≤ si (gz σ z) σ.1 ∧ si (gz σ z) σ.1 ≤ si (eft σ) σ.1 ∧ si (eft σ) σ.1 ≤ 144 * 12 := by
  have h := si_le2 (f := gz σ z) (g := eft σ) (b := 144) (n := σ.1) (fun k hk => by
    have := hw.eft_nn hk
    unfold gz
    split <;> omega)
  have := hw.1
  omega
/-! letters seen -/
theorem sgn_26 {σ : mS} {c p : Nat} (h : sgn σ c p < 26) : 0 < σ.2 c (3 + p) := by
  unfold sgn at h
  split at h
  · split at h
    · rename_i q
      exact q
    · omega
  · omega
theorem lsn_lts {σ : mS} {c : Nat} : lsn σ c ≤ lts σ c := ct_mono (fun p _ hp => by
  have := of_decide_eq_true hp
  exact decide_eq_true (sgn_26 this))
theorem sm_mono {f g : Nat → Nat} : ∀ {n : Nat}, (∀ k, k < n → f k ≤ g k) → sm f n ≤ sm g n
  | 0, _ => Nat.le_refl _
  | n + 1, h => by
    have h1 := sm_mono (n := n) (fun k hk => h k (by omega))
    have h2 := h n (by omega)
    rw [sm, sm]
    omega
theorem lts_trd {σ : mS} {c a : Nat} : lts (trd σ c) a = lts σ a := ct_cong (fun p _ => by
  have : (trd σ c).2 a (3 + p) = σ.2 a (3 + p) := by
    unfold trd
    rw [sa_2, if_neg (by omega)]
  rw [this])
theorem ltn_le {σ : mS} {c : Nat} : ltn σ c ≤ sm (lts σ) σ.1 := sm_mono (fun k _ => by
  have := lsn_lts (σ := trd σ c) (c := k)
  rw [lts_trd] at this
  exact this)
theorem lts_sum {σ : mS} (hn : σ.1 ≤ 12) : sm (lts σ) σ.1 ≤ 48 := by
  have h1 := sm_le (f := lts σ) (m := 4) (n := σ.1) (fun k _ => ct_le _ _)
  have : σ.1 * 4 ≤ 12 * 4 := Nat.mul_le_mul_right 4 hn
  omega
/-! the signs of a text -/
theorem dgs_in {n x : Nat} (hn : n < 100) (h : x ∈ dgs n) : 48 ≤ x ∧ x ≤ 57 := by
  unfold dgs at h
  split at h
  · simp at h
    omega
  · simp at h
    omega
theorem wf.hed_in {σ : mS} (hw : wf σ) {c : Nat} (hc : c < σ.1) {x : Nat} (h : x ∈ hed σ c) : 48 ≤ x ∧ x ≤ 115 := by
  have hb := hw.bnd.2 c hc
  unfold hed at h
  simp only [List.mem_append, List.mem_cons] at h
  rcases h with ((h | h | h) | h | h) | h | h
  · unfold lab at h
    obtain ⟨p, hp, rfl⟩ := List.mem_map.mp h
    have hp := List.mem_range.mp hp
    have h4 := ct_le (fun p => decide (0 < σ.2 c (3 + p))) 4
    have h5 : p < 4 := Nat.lt_of_lt_of_le hp h4
    have := hb.2.2.2.1 p h5
    omega
  · omega
  · have := dgs_in (by omega) h
    omega
  · omega
  · have := dgs_in (by omega) h
    omega
  · omega
  · have := dgs_in (by omega) h
    omega
theorem cat_in {g : Nat → List Nat} {x : Nat} : ∀ {n : Nat}, x ∈ cat g n → ∃ k, k < n ∧ x ∈ g k
  | 0, h => by cases h
  | n + 1, h => by
    rw [cat, List.mem_append] at h
    rcases h with h | h
    · obtain ⟨k, k1, k2⟩ := cat_in h
      exact ⟨k, by omega, k2⟩
    · exact ⟨n, by omega, h⟩
theorem wf.wrt_in {σ : mS} (hw : wf σ) : ∀ (f c : Nat), c < σ.1 → ∀ x, x ∈ wrt σ f c → 48 ≤ x ∧ x ≤ 115
  | 0, _, _, x, h => by cases h
  | f + 1, c, hc, x, h => by
    rw [wrt, List.mem_append] at h
    rcases h with h | h
    · exact hw.hed_in hc h
    · split at h
      · cases h
      · simp only [List.mem_append, List.mem_cons, List.not_mem_nil, or_false] at h
        rcases h with (h | h) | h
        · omega
        · obtain ⟨k, k1, k2⟩ := cat_in h
          exact hw.wrt_in f _ (cip_ok hw k1).1 x k2
        · omega
theorem wf.sgv_e {σ : mS} (hw : wf σ) {c : Nat} (hc : c < σ.1) {y : Nat} (hy : y < 1000) : sgv (wrt σ 12 c) (nI y) = -4 ∨ ∃ x, 48 ≤ x ∧ x ≤ 115 ∧ sgv (wrt σ 12 c) (nI y) = nI x := by
  unfold sgv
  by_cases q : zin (nI y) (wrt σ 12 c).length = true
  · rw [if_pos q, nI_clamp (by omega)]
    rw [zin_nI (by omega), decide_eq_true_eq] at q
    right
    refine ⟨_, ?_, ?_, rfl⟩
    · rw [List.getD_eq_getElem?_getD, List.getElem?_eq_getElem q]
      exact (hw.wrt_in 12 c hc _ (List.getElem_mem q)).1
    · rw [List.getD_eq_getElem?_getD, List.getElem?_eq_getElem q]
      exact (hw.wrt_in 12 c hc _ (List.getElem_mem q)).2
  · rw [if_neg q]
    exact Or.inl rfl
/-! deeds -/
theorem rpt_3 {σ : mS} {c u : Nat} : rpt σ c u ≤ 3 := by
  unfold rpt
  split
  · omega
  · split
    · omega
    · split <;> omega
theorem tnd_l : ∀ g, g < 16 → ((nI g * 2) &&& 15) + nI g / 8 = nI (tnd g) := by decide +kernel
theorem lrm_sizes {σ : mS} {c : Nat} (hc : c < σ.1) : sm (fun a => (lrm σ c).2 a 0) (lrm σ c).1 + σ.2 c 0 = sm (fun a => σ.2 a 0) σ.1 := by
  rw [sm_shf (f := fun a => σ.2 a 0) hc]
  rfl
