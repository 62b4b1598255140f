/-! EFFORT, GOING DOWN -/
theorem si_add {f g : Nat → Int} : ∀ {n : Nat}, si (fun k => f k + g k) n = si f n + si g n
  | 0 => rfl
  | n + 1 => by simp only [si]; rw [si_add]; omega
theorem si_zero {f : Nat → Int} : ∀ {n : Nat}, (∀ k, k < n → f k = 0) → si f n = 0
  | 0, _ => rfl
  | n + 1, h => by rw [si, si_zero (fun k hk => h k (by omega)), h n (by omega)]; rfl
theorem si_swap {f : Nat → Nat → Int} {m : Nat} : ∀ {n : Nat}, si (fun i => si (f i) m) n = si (fun j => si (fun i => f i j) n) m
  | 0 => (si_zero (fun _ _ => rfl)).symm
  | n + 1 => by
    show si (fun i => si (f i) m) n + si (f n) m = _
    rw [si_swap, ← si_add]
    rfl
theorem si_only {f : Nat → Int} {a : Nat} : ∀ {n : Nat}, a < n → (∀ k, k < n → k ≠ a → f k = 0) → si f n = f a
  | 0, h, _ => by omega
  | n + 1, h, q => by
    rw [si]
    rcases Nat.lt_or_ge a n with z | z
    · rw [si_only z (fun k hk => q k (by omega)), q n (by omega) (by omega), Int.add_zero]
    · have e : a = n := by omega
      subst e
      rw [si_zero (fun k hk => q k (by omega) (by omega)), Int.zero_add]
theorem si_lt1 {a : Nat → Int} {p : Nat} : ∀ {m : Nat}, (∀ j, j < m → a j ≤ 1) → si a m ≤ (m : Int) ∧ (p < m → a p ≤ 0 → si a m < (m : Int))
  | 0, _ => ⟨by simp [si], fun h => by omega⟩
  | m + 1, h => by
    obtain ⟨h1, h2⟩ := si_lt1 (m := m) (p := p) (fun j hj => h j (by omega))
    have h3 := h m (by omega)
    rw [si]
    refine ⟨by omega, fun hp ha => ?_⟩
    rcases Nat.lt_or_ge p m with z | z
    · have := h2 z ha
      omega
    · have e : p = m := by omega
      subst e
      omega
theorem ct_si {p : Nat → Bool} : ∀ {n : Nat}, (ct p n : Int) = si (fun k => if p k then 1 else 0) n
  | 0 => rfl
  | n + 1 => by
    rw [ct, si, ← ct_si]
    cases q : p n <;> simp
theorem wf.uni {σ : mS} (hw : wf σ) {c e g : Nat} (he : e < σ.1) (hg : g < σ.1) (h1 : σ.2 e 7 = c + 1) (h2 : σ.2 g 7 = c + 1) (h3 : σ.2 e 8 = σ.2 g 8) : e = g := by
  rcases Nat.lt_trichotomy e g with z | z | z
  · exact absurd h3 ((hw.2 g hg).2.2.2.2.2.2.2.2.2 e he (by omega) (by omega) (by omega))
  · exact z
  · exact absurd h3 ((hw.2 g hg).2.2.2.2.2.2.2.2.2 e he (by omega) (by omega) (by omega))
theorem wf.pile_sum {σ : mS} (hw : wf σ) {c : Nat} (F : Nat → Int) : si (fun p => si (fun e => if σ.2 e 7 = c + 1 ∧ σ.2 e 8 = p then F e else 0) σ.1) (pil σ c) = si (fun e => if σ.2 e 7 = c + 1 then F e else 0) σ.1 := by
  rw [si_swap]
  refine si_cong (fun e he => ?_)
  by_cases q : σ.2 e 7 = c + 1
  · have hp := (hw.2 e he).2.2.2.2.2.2.2.1 c q
    rw [si_only hp (fun k _ hk => if_neg (fun w => hk w.2.symm)), if_pos ⟨q, rfl⟩, if_pos q]
  · rw [si_zero (fun k _ => if_neg (fun w => q w.1)), if_neg q]
theorem wf.place_ex {σ : mS} (hw : wf σ) {c p : Nat} (hp : p < pil σ c) : ∃ e, e < σ.1 ∧ σ.2 e 7 = c + 1 ∧ σ.2 e 8 = p := by
  rcases Classical.em (∃ e, e < σ.1 ∧ σ.2 e 7 = c + 1 ∧ σ.2 e 8 = p) with z | z
  · exact z
  · exfalso
    have h1 := hw.pile_sum (c := c) (fun _ => 1)
    have h2 : si (fun e => if σ.2 e 7 = c + 1 then (1 : Int) else 0) σ.1 = (pil σ c : Int) := by
      unfold pil
      rw [ct_si]
      exact si_cong (fun k _ => by simp)
    rw [h2] at h1
    have h3 := (si_lt1 (p := p) (m := pil σ c) (a := fun p => si (fun e => if σ.2 e 7 = c + 1 ∧ σ.2 e 8 = p then (1 : Int) else 0) σ.1) (fun j _ => ?_)).2 hp ?_
    · omega
    · rcases Classical.em (∃ e, e < σ.1 ∧ σ.2 e 7 = c + 1 ∧ σ.2 e 8 = j) with ⟨e, he, e7, e8⟩ | w
      · show si _ _ ≤ _
        rw [si_only he (fun k hk hke => if_neg (fun w => hke (hw.uni hk he w.1 e7 (w.2.trans e8.symm)))), if_pos ⟨e7, e8⟩]
        exact Int.le_refl 1
      · show si _ _ ≤ _
        rw [si_zero (fun k hk => if_neg (fun v => w ⟨k, hk, v⟩))]
        decide
    · show si _ _ ≤ _
      rw [si_zero (fun k hk => if_neg (fun v => z ⟨k, hk, v⟩))]
      exact Int.le_refl 0
/-- the chain of efforts beyond its fuel -/
theorem efu_trm {σ : mS} : ∀ {f c : Nat}, trm σ f (σ.2 c 7) → efu σ (f + 1) c = efu σ f c
  | 0, c, h => by
    cases q : σ.2 c 7 with
    | zero => simp [efu, q]
    | succ k => rw [q] at h; exact h.elim
  | f + 1, c, h => by
    cases q : σ.2 c 7 with
    | zero => rw [efu, efu, q]
    | succ k =>
      rw [q] at h
      have := efu_trm (f := f) (c := k) h
      rw [efu, q]
      show _ + efu σ (f + 1) k = efu σ (f + 1) c
      rw [this, efu, q]
theorem wf.eft_s {σ : mS} (h : wf σ) {c k : Nat} (hc : c < σ.1) (hk : σ.2 c 7 = k + 1) : eft σ c = ((pil σ k : Int) - (σ.2 c 8 : Int)) + eft σ k := by
  obtain ⟨h1, h2⟩ := h.acy hc hk
  have g1 := grt_n hc
  have g2 := grt_lt h1 h2
  have g3 := h.1
  have t : trm σ 11 (σ.2 k 7) := trm_le (h.end1 _ k h1 (Nat.le_refl _)) (by omega)
  have := efu_trm t
  unfold eft
  rw [efu, hk, this]
theorem eft_0 {σ : mS} {c : Nat} (hk : σ.2 c 7 = 0) : eft σ c = 0 := by
  unfold eft
  rw [efu, hk]
theorem wf.chu_len {σ : mS} (h : wf σ) : ∀ (f c : Nat), c < σ.1 → (chu σ f (σ.2 c 7)).length ≤ grt σ c
  | 0, _, _ => Nat.zero_le _
  | f + 1, c, hc => by
    cases q : σ.2 c 7 with
    | zero => exact Nat.zero_le _
    | succ k =>
      obtain ⟨h1, h2⟩ := h.acy hc q
      have g2 := grt_lt h1 h2
      have := h.chu_len f k h1
      show (chu σ f (σ.2 k 7)).length + 1 ≤ _
      omega
theorem wf.dpt_lt {σ : mS} (h : wf σ) {c : Nat} (hc : c < σ.1) : dpt σ c < σ.1 := by
  have := h.chu_len 12 c hc
  have := grt_n hc
  unfold dpt chn
  omega
theorem wf.one_in {σ : mS} (hw : wf σ) {c : Nat} (g : Int) : ∀ f d, d < σ.1 → grt σ d ≤ f → si (fun e => if σ.2 e 7 = c + 1 then ((if e = d then g else 0) + (if e ∈ chn σ d then g else 0)) else 0) σ.1 = if c ∈ chn σ d then g else 0 := by
  have main : ∀ d, d < σ.1 → (∀ k, σ.2 d 7 = k + 1 → si (fun e => if σ.2 e 7 = c + 1 then ((if e = k then g else 0) + (if e ∈ chn σ k then g else 0)) else 0) σ.1 = if c ∈ chn σ k then g else 0) → si (fun e => if σ.2 e 7 = c + 1 then ((if e = d then g else 0) + (if e ∈ chn σ d then g else 0)) else 0) σ.1 = if c ∈ chn σ d then g else 0 := by
    intro d hd ih
    cases q : σ.2 d 7 with
    | zero =>
      rw [chn_0 q, if_neg (by simp)]
      refine si_zero (fun e he => ?_)
      by_cases w : e = d
      · subst w
        rw [if_neg (by omega)]
      · simp [w]
    | succ k =>
      have hk := (hw.acy hd q).1
      rw [hw.chn_s hd q]
      have e1 : ∀ e, e < σ.1 → (if σ.2 e 7 = c + 1 then ((if e = d then g else 0) + (if e ∈ k :: chn σ k then g else 0)) else 0) = (if e = d then (if k = c then g else 0) else 0) + (if σ.2 e 7 = c + 1 then ((if e = k then g else 0) + (if e ∈ chn σ k then g else 0)) else 0) := by
        intro e he
        have hi := hw.irr hk
        by_cases w1 : e = d
        · subst w1
          have hck : (σ.2 e 7 = c + 1) = (k = c) := by rw [q]; exact propext ⟨fun h => by omega, fun h => by omega⟩
          simp only [hck, if_true]
          by_cases w2 : k = c
          · simp only [w2, if_true]
            subst w2
            by_cases w3 : e = k
            · subst w3
              simp [hi]
            · simp [w3]
          · simp [w2]
        · simp only [w1, if_false, Int.zero_add]
          by_cases w2 : σ.2 e 7 = c + 1
          · simp only [w2, if_true]
            by_cases w3 : e = k
            · subst w3
              simp [hi]
            · simp [w3]
          · simp [w2]
      rw [si_cong e1, si_add, ih k q, si_only hd (fun e _ w => if_neg w), if_pos rfl]
      have hi := hw.irr hk
      by_cases w : k = c
      · subst w
        simp [hi]
      · have w' : ¬ c = k := fun v => w v.symm
        simp [w, w']
  intro f
  induction f with
  | zero =>
    intro d hd hf
    refine main d hd (fun k q => ?_)
    obtain ⟨h1, h2⟩ := hw.acy hd q
    have := grt_lt h1 h2
    omega
  | succ f ih =>
    intro d hd hf
    refine main d hd (fun k q => ?_)
    obtain ⟨h1, h2⟩ := hw.acy hd q
    have := grt_lt h1 h2
    exact ih k h1 (by omega)
/-- the sum of g over all crates in c -/
def ins (σ : mS) (g : Nat → Int) (c : Nat) : Int := si (fun d => if c ∈ chn σ d then g d else 0) σ.1
theorem wf.ins_rec {σ : mS} (hw : wf σ) (g : Nat → Int) (c : Nat) : si (fun e => if σ.2 e 7 = c + 1 then g e + ins σ g e else 0) σ.1 = ins σ g c := by
  have e1 : ∀ e, e < σ.1 → (if σ.2 e 7 = c + 1 then g e + ins σ g e else 0) = si (fun d => if σ.2 e 7 = c + 1 then ((if e = d then g d else 0) + (if e ∈ chn σ d then g d else 0)) else 0) σ.1 := by
    intro e he
    by_cases q : σ.2 e 7 = c + 1
    · simp only [q, if_true]
      rw [si_add, si_only (f := fun d => if e = d then g d else 0) he (fun k _ hk => if_neg (fun w => hk w.symm)), if_pos rfl]
      rfl
    · simp only [q, if_false]
      exact (si_zero (fun _ _ => rfl)).symm
  rw [si_cong e1, si_swap]
  exact si_cong (fun d hd => hw.one_in (g d) _ d hd (Nat.le_refl _))
theorem wf.root {σ : mS} (hw : wf σ) : ∀ f d, d < σ.1 → grt σ d ≤ f → σ.2 d 7 ≠ 0 → ∃ r, r < σ.1 ∧ σ.2 r 7 = 0 ∧ r ∈ chn σ d ∧ ∀ k, k ∈ chn σ d → σ.2 k 7 = 0 → k = r := by
  intro f
  induction f with
  | zero =>
    intro d hd hf h0
    obtain ⟨k, q⟩ : ∃ k, σ.2 d 7 = k + 1 := ⟨σ.2 d 7 - 1, by omega⟩
    obtain ⟨h1, h2⟩ := hw.acy hd q
    have := grt_lt h1 h2
    omega
  | succ f ih =>
    intro d hd hf h0
    obtain ⟨k, q⟩ : ∃ k, σ.2 d 7 = k + 1 := ⟨σ.2 d 7 - 1, by omega⟩
    obtain ⟨h1, h2⟩ := hw.acy hd q
    have g1 := grt_lt h1 h2
    rw [hw.chn_s hd q]
    rcases Nat.eq_zero_or_pos (σ.2 k 7) with z | z
    · refine ⟨k, h1, z, by simp, fun j hj _ => ?_⟩
      rw [chn_0 z] at hj
      simpa using hj
    · obtain ⟨r, r1, r2, r3, r4⟩ := ih k h1 (by omega) (by omega)
      refine ⟨r, r1, r2, by simp [r3], fun j hj hj0 => ?_⟩
      rcases List.mem_cons.mp hj with w | w
      · subst w
        omega
      · exact r4 j w hj0
theorem wf.roots {σ : mS} (hw : wf σ) (g : Nat → Int) (hg : ∀ d, d < σ.1 → σ.2 d 7 = 0 → g d = 0) : si (fun c => if σ.2 c 7 = 0 then ins σ g c else 0) σ.1 = si g σ.1 := by
  have e1 : ∀ c, c < σ.1 → (if σ.2 c 7 = 0 then ins σ g c else 0) = si (fun d => if σ.2 c 7 = 0 then (if c ∈ chn σ d then g d else 0) else 0) σ.1 := by
    intro c hc
    by_cases q : σ.2 c 7 = 0
    · simp only [q, if_true]
      rfl
    · simp only [q, if_false]
      exact (si_zero (fun _ _ => rfl)).symm
  rw [si_cong e1, si_swap]
  refine si_cong (fun d hd => ?_)
  by_cases q : σ.2 d 7 = 0
  · rw [hg d hd q]
    refine si_zero (fun c _ => ?_)
    simp
  · obtain ⟨r, r1, r2, r3, r4⟩ := hw.root _ d hd (Nat.le_refl _) q
    rw [si_only r1 (fun k hk hkr => ?_), if_pos r2, if_pos r3]
    by_cases w : σ.2 k 7 = 0
    · rw [if_pos w, if_neg (fun v => hkr (r4 k v w))]
    · rw [if_neg w]
section DOWN
variable {d : Nat} {h : zH} {i : Nat} {S M : oS} {σ : mS} {c : Nat}
theorem s_crateInPile (hR : stR S σ) (hw : wf σ) (hc : c < σ.1) {p e : Nat} (hp : p < 12) (he : e < σ.1) (h7 : σ.2 e 7 = c + 1) (h8 : σ.2 e 8 = p) : ev d 51 0 [some (.ref i), some (.int (nI c)), some (.int (nI p)), none] [] (hst h i S) = some (some (.int (nI e)), hst h i S) := by
  have hb := hw.bnd
  have hn := hb.1
  have h0 := hR.1
  simp only [e51_0, e51_1, e51_3, e51_4, e51_7, e51_10, e51_11, e51_14, e51_15, e51_16, e51_17, e51_20, e51_21, e51_24, e51_25, e51_26, e51_27, e51_30, e51_31, e51_32, e51_35, e51_38, e51_39, st_g0, st_g1, st_g2, st_g3, st_g4, st_g5, st_g6, st_g7, st_p6, st_p7, st_l0, st_l1, st_l2, st_l3, st_l4, st_l5, st_s0, st_s1, st_s2, st_s3, st_s4, st_s5, st_is, Option.bind_some, Option.toList_some, Option.toList_none, List.cons_append, List.nil_append, true_or, or_true, and_true, true_and, i10, Bool.false_eq_true, if_true, if_false, reduceIte, h0]
  have main := z_first (fun k => ev d 51 2 [some (.ref i), some (.int (nI c)), some (.int (nI p)), some (.int (nI k))] [] (hst h i S)) (fun k => some (some (.int (nI k)), hst h i S)) (fun k => σ.2 k 7 = c + 1 ∧ σ.2 k 8 = p) (n := σ.1) (fun k hk => by
    have hlt : (σ.1 ≤ k) = False := eq_false (by omega)
    obtain ⟨-, -, -, -, g4, g5⟩ := hR.2 k hk
    have b7 := (hb.2 k hk).2.2.2.2.1
    have b8 := (hb.2 k hk).2.2.2.2.2
    rw [e51_2]
    simp only [e51_0, e51_1, e51_3, e51_4, e51_7, e51_10, e51_11, e51_14, e51_15, e51_16, e51_17, e51_20, e51_21, e51_24, e51_25, e51_26, e51_27, e51_30, e51_31, e51_32, e51_35, e51_38, e51_39, st_g0, st_g1, st_g2, st_g3, st_g4, st_g5, st_g6, st_g7, st_p6, st_p7, st_l0, st_l1, st_l2, st_l3, st_l4, st_l5, st_s0, st_s1, st_s2, st_s3, st_s4, st_s5, st_is, Option.bind_some, Option.toList_some, Option.toList_none, List.cons_append, List.nil_append, true_or, or_true, and_true, true_and, i10, Bool.false_eq_true, if_true, if_false, reduceIte, h0, nI_lep (show σ.1 < 2147483648 by omega) (show k < 2147483648 by omega), hlt, nI_1, zrd_nI (show k < 12 by omega) (show 12 < 2147483648 by omega), g4, g5, hI_eq (show σ.2 k 7 < 2147483648 by omega) (show c < 2147483648 by omega), nI_eqp (show σ.2 k 8 < 2147483648 by omega) (show p < 2147483648 by omega)]
    by_cases q1 : σ.2 k 7 = c + 1
    · by_cases q2 : σ.2 k 8 = p
      · simp [q1, q2]
      · simp [q1, q2]
    · simp [q1])
  rcases main with ⟨k, k1, ⟨k2, k3⟩, -, k4⟩ | ⟨k1, -⟩
  · rw [hw.uni he k1 h7 k2 (h8.trans k3.symm)]
    exact k4
  · exact absurd ⟨h7, h8⟩ (k1 e he)
/-- the efforts of a size -/
def gz (σ : mS) (z : Int32) (c : Nat) : Int := if nI (σ.2 c 0) = z then eft σ c else 0
theorem s_inPile1 {z : Int32} (hR : stR S σ) (hw : wf σ) : ∀ f c, c < σ.1 → dpt σ c + f = 12 → ev (d + f + 2) 96 0 [some (.ref i), some (.int (nI c)), some (.int z), some (.int (iI (eft σ c))), some (.int (nI (dpt σ c))), none, none, none, none, none] [] (hst h i S) = some (some (.int (iI (ins σ (gz σ z) c))), hst h i S) := by
  have hb := hw.bnd
  have hn := hb.1
  have h0 := hR.1
  intro f
  induction f with
  | zero =>
    intro c hc hf
    have := hw.dpt_lt hc
    omega
  | succ f ih =>
    intro c hc hf
    have hd := hw.dpt_lt hc
    have hpl := pil_le (c := c) hb
    have e1 : (nI (dpt σ c) < nI 12) = True := by rw [nI_ltp (by omega) (by omega)]; exact eq_true (by omega)
    have e1' : (nI (dpt σ c) < 12) = True := e1
    have ed : d + (f + 1) + 2 = d + f + 2 + 1 := by omega
    rw [ed]
    have step : ∀ (k : Nat) (s : Int) (x : Option Value × Option Value), k < pil σ c → ∃ y : Option Value × Option Value, ev (d + f + 2 + 1) 96 22 [some (.ref i), some (.int (nI c)), some (.int z), some (.int (iI (eft σ c))), some (.int (nI (dpt σ c))), some (.int (iI s)), some (.int (nI (pil σ c))), some (.int (nI k)), x.1, x.2] [] (hst h i S) = ev (d + f + 2 + 1) 96 22 [some (.ref i), some (.int (nI c)), some (.int z), some (.int (iI (eft σ c))), some (.int (nI (dpt σ c))), some (.int (iI (s + si (fun e => if σ.2 e 7 = c + 1 ∧ σ.2 e 8 = k then gz σ z e + ins σ (gz σ z) e else 0) σ.1))), some (.int (nI (pil σ c))), some (.int (nI (k + 1))), y.1, y.2] [] (hst h i S) := by
      intro k s x hk
      obtain ⟨e, he, h7, h8⟩ := hw.place_ex hk
      have hlt : (pil σ c ≤ k) = False := eq_false (by omega)
      have eF : si (fun e => if σ.2 e 7 = c + 1 ∧ σ.2 e 8 = k then gz σ z e + ins σ (gz σ z) e else 0) σ.1 = gz σ z e + ins σ (gz σ z) e := by
        rw [si_only he (fun j hj hje => if_neg (fun w => hje (hw.uni hj he w.1 h7 (w.2.trans h8.symm)))), if_pos ⟨h7, h8⟩]
      have ee : iI (eft σ c) + 1 + (nI (pil σ c) - 1 - nI k) = iI (eft σ e) := by
        rw [show (1 : Int32) = iI 1 from rfl, iI_nat, iI_nat, iI_add, iI_sub, iI_sub, iI_add, hw.eft_s he h7, h8]
        congr 1
        omega
      have dd : dpt σ e = dpt σ c + 1 := by
        unfold dpt
        rw [hw.chn_s he h7]
        rfl
      have ih2 := ih e he (by omega)
      rw [dd] at ih2
      refine ⟨(some (.int (nI e)), some (.int (iI (eft σ e)))), ?_⟩
      rw [eF, e96_22]
      simp only [e96_0, e96_2, e96_4, e96_7, e96_8, e96_9, e96_10, e96_12, e96_13, e96_14, e96_17, e96_19, e96_20, e96_24, e96_26, e96_29, e96_30, e96_31, e96_33, e96_36, e96_38, e96_39, e96_40, e96_41, e96_43, e96_44, e96_45, e96_47, e96_48, e96_49, e96_51, e96_52, e96_54, e96_57, e96_58, e96_61, e96_63, e96_65, e96_66, e96_68, e96_70, e96_71, e96_73, e96_74, e96_76, e96_78, e96_79, e96_80, e96_83, e96_84, e96_86, e96_89, e96_92, e96_94, st_g0, st_g1, st_g2, st_g3, st_g4, st_g5, st_g6, st_g7, st_p6, st_p7, st_l0, st_l1, st_l2, st_l3, st_l4, st_l5, st_s0, st_s1, st_s2, st_s3, st_s4, st_s5, st_is, Option.bind_some, Option.toList_some, Option.toList_none, List.cons_append, List.nil_append, true_or, or_true, and_true, true_and, i10, Bool.false_eq_true, if_true, if_false, reduceIte, nI_lep (show pil σ c < 2147483648 by omega) (show k < 2147483648 by omega), hlt, nI_1, s_crateInPile hR hw hc (show k < 12 by omega) he h7 h8, s_sizeOf hR hb he, ee, ih2]
      by_cases q : nI (σ.2 e 0) = z
      · simp only [q, Option.bind_some, Option.toList_some, Option.toList_none, List.cons_append, List.nil_append, true_or, or_true, and_true, true_and, i10, Bool.false_eq_true, if_true, if_false, reduceIte, ih2, iI_add, gz, Int.add_assoc]
      · simp only [q, Option.bind_some, Option.toList_some, Option.toList_none, List.cons_append, List.nil_append, true_or, or_true, and_true, true_and, i10, Bool.false_eq_true, if_true, if_false, reduceIte, ih2, iI_add, gz, Int.zero_add]
    have fin : ∀ (s : Int) (x : Option Value × Option Value), ev (d + f + 2 + 1) 96 22 [some (.ref i), some (.int (nI c)), some (.int z), some (.int (iI (eft σ c))), some (.int (nI (dpt σ c))), some (.int (iI s)), some (.int (nI (pil σ c))), some (.int (nI (pil σ c))), x.1, x.2] [] (hst h i S) = some (some (.int (iI s)), hst h i S) := by
      intro s x
      rw [e96_22]
      simp only [e96_0, e96_2, e96_4, e96_7, e96_8, e96_9, e96_10, e96_12, e96_13, e96_14, e96_17, e96_19, e96_20, e96_24, e96_26, e96_29, e96_30, e96_31, e96_33, e96_36, e96_38, e96_39, e96_40, e96_41, e96_43, e96_44, e96_45, e96_47, e96_48, e96_49, e96_51, e96_52, e96_54, e96_57, e96_58, e96_61, e96_63, e96_65, e96_66, e96_68, e96_70, e96_71, e96_73, e96_74, e96_76, e96_78, e96_79, e96_80, e96_83, e96_84, e96_86, e96_89, e96_92, e96_94, st_g0, st_g1, st_g2, st_g3, st_g4, st_g5, st_g6, st_g7, st_p6, st_p7, st_l0, st_l1, st_l2, st_l3, st_l4, st_l5, st_s0, st_s1, st_s2, st_s3, st_s4, st_s5, st_is, Option.bind_some, Option.toList_some, Option.toList_none, List.cons_append, List.nil_append, true_or, or_true, and_true, true_and, i10, Bool.false_eq_true, if_true, if_false, reduceIte, Int32.le_refl]
    have main := z_forJ (fun (k : Nat) (s : Int) (x : Option Value × Option Value) => ev (d + f + 2 + 1) 96 22 [some (.ref i), some (.int (nI c)), some (.int z), some (.int (iI (eft σ c))), some (.int (nI (dpt σ c))), some (.int (iI s)), some (.int (nI (pil σ c))), some (.int (nI k)), x.1, x.2] [] (hst h i S)) (fun k s => s + si (fun e => if σ.2 e 7 = c + 1 ∧ σ.2 e 8 = k then gz σ z e + ins σ (gz σ z) e else 0) σ.1) _ step fin 0 (none, none)
    rw [zfold_si, Int.zero_add, hw.pile_sum (fun e => gz σ z e + ins σ (gz σ z) e), hw.ins_rec] at main
    simp only [e96_0, e96_2, e96_4, e96_7, e96_8, e96_9, e96_10, e96_12, e96_13, e96_14, e96_17, e96_19, e96_20, e96_24, e96_26, e96_29, e96_30, e96_31, e96_33, e96_36, e96_38, e96_39, e96_40, e96_41, e96_43, e96_44, e96_45, e96_47, e96_48, e96_49, e96_51, e96_52, e96_54, e96_57, e96_58, e96_61, e96_63, e96_65, e96_66, e96_68, e96_70, e96_71, e96_73, e96_74, e96_76, e96_78, e96_79, e96_80, e96_83, e96_84, e96_86, e96_89, e96_92, e96_94, st_g0, st_g1, st_g2, st_g3, st_g4, st_g5, st_g6, st_g7, st_p6, st_p7, st_l0, st_l1, st_l2, st_l3, st_l4, st_l5, st_s0, st_s1, st_s2, st_s3, st_s4, st_s5, st_is, Option.bind_some, Option.toList_some, Option.toList_none, List.cons_append, List.nil_append, true_or, or_true, and_true, true_and, i10, Bool.false_eq_true, if_true, if_false, reduceIte, e1', s_pileOf hR hb hc]
    exact main
theorem s_inPile0 {z : Int32} (hR : stR S σ) (hw : wf σ) (hc : c < σ.1) (h7 : σ.2 c 7 = 0) : ev (d + 14) 96 0 [some (.ref i), some (.int (nI c)), some (.int z), some (.int 0), some (.int 0), none, none, none, none, none] [] (hst h i S) = some (some (.int (iI (ins σ (gz σ z) c))), hst h i S) := by
  have hd : dpt σ c = 0 := by
    unfold dpt
    rw [chn_0 h7]
    rfl
  have := s_inPile1 (d := d) (h := h) (i := i) (z := z) hR hw 12 c hc (by omega)
  rw [hd, eft_0 h7] at this
  exact this
theorem s_sumGoingDown1 {z : Int32} (hR : stR S σ) (hw : wf σ)  : ev (d + 15) 95 0 [some (.ref i), some (.int z), none, none] [] (hst h i S) = some (some (.int (iI (si (fun c => if σ.2 c 7 = 0 then ins σ (gz σ z) c else 0) σ.1))), hst h i S) := by
  have hb := hw.bnd
  have hn := hb.1
  have h0 := hR.1
  have step : ∀ (k : Nat) (s : Int), k < σ.1 → ev (d + 15) 95 4 [some (.ref i), some (.int z), some (.int (iI s)), some (.int (nI k))] [] (hst h i S) = ev (d + 15) 95 4 [some (.ref i), some (.int z), some (.int (iI (s + if σ.2 k 7 = 0 then ins σ (gz σ z) k else 0))), some (.int (nI (k + 1)))] [] (hst h i S) := by
    intro k s hk
    have hlt : (σ.1 ≤ k) = False := eq_false (by omega)
    rw [e95_4]
    simp only [e95_0, e95_1, e95_2, e95_3, e95_5, e95_6, e95_9, e95_12, e95_13, e95_14, e95_17, e95_20, e95_21, e95_22, e95_23, e95_24, e95_25, e95_26, e95_29, e95_30, e95_31, e95_34, e95_37, e95_38, st_g0, st_g1, st_g2, st_g3, st_g4, st_g5, st_g6, st_g7, st_p6, st_p7, st_l0, st_l1, st_l2, st_l3, st_l4, st_l5, st_s0, st_s1, st_s2, st_s3, st_s4, st_s5, st_is, Option.bind_some, Option.toList_some, Option.toList_none, List.cons_append, List.nil_append, true_or, or_true, and_true, true_and, i10, Bool.false_eq_true, if_true, if_false, reduceIte, h0, nI_lep (show σ.1 < 2147483648 by omega) (show k < 2147483648 by omega), hlt, nI_1, s_crates, s_isOnGround hR hb hk, bI_0]
    by_cases q : σ.2 k 7 = 0
    · simp only [q, Option.bind_some, Option.toList_some, Option.toList_none, List.cons_append, List.nil_append, true_or, or_true, and_true, true_and, i10, Bool.false_eq_true, if_true, if_false, reduceIte, not_true, s_inPile0 hR hw hk q, iI_add, e95_0, e95_1, e95_2, e95_3, e95_5, e95_6, e95_9, e95_12, e95_13, e95_14, e95_17, e95_20, e95_21, e95_22, e95_23, e95_24, e95_25, e95_26, e95_29, e95_30, e95_31, e95_34, e95_37, e95_38, nI_1]
    · simp only [q, Option.bind_some, Option.toList_some, Option.toList_none, List.cons_append, List.nil_append, true_or, or_true, and_true, true_and, i10, Bool.false_eq_true, if_true, if_false, reduceIte, not_false_eq_true, Int.add_zero]
  have fin : ∀ s : Int, ev (d + 15) 95 4 [some (.ref i), some (.int z), some (.int (iI s)), some (.int (nI σ.1))] [] (hst h i S) = some (some (.int (iI s)), hst h i S) := by
    intro s
    rw [e95_4]
    simp only [e95_0, e95_1, e95_2, e95_3, e95_5, e95_6, e95_9, e95_12, e95_13, e95_14, e95_17, e95_20, e95_21, e95_22, e95_23, e95_24, e95_25, e95_26, e95_29, e95_30, e95_31, e95_34, e95_37, e95_38, st_g0, st_g1, st_g2, st_g3, st_g4, st_g5, st_g6, st_g7, st_p6, st_p7, st_l0, st_l1, st_l2, st_l3, st_l4, st_l5, st_s0, st_s1, st_s2, st_s3, st_s4, st_s5, st_is, Option.bind_some, Option.toList_some, Option.toList_none, List.cons_append, List.nil_append, true_or, or_true, and_true, true_and, i10, Bool.false_eq_true, if_true, if_false, reduceIte, h0, Int32.le_refl, s_crates]
  simp only [e95_0, e95_1, e95_2, e95_3, e95_5, e95_6, e95_9, e95_12, e95_13, e95_14, e95_17, e95_20, e95_21, e95_22, e95_23, e95_24, e95_25, e95_26, e95_29, e95_30, e95_31, e95_34, e95_37, e95_38, st_g0, st_g1, st_g2, st_g3, st_g4, st_g5, st_g6, st_g7, st_p6, st_p7, st_l0, st_l1, st_l2, st_l3, st_l4, st_l5, st_s0, st_s1, st_s2, st_s3, st_s4, st_s5, st_is, Option.bind_some, Option.toList_some, Option.toList_none, List.cons_append, List.nil_append, true_or, or_true, and_true, true_and, i10, Bool.false_eq_true, if_true, if_false, reduceIte, h0]
  have main := z_for (fun (k : Nat) (s : Int) => ev (d + 15) 95 4 [some (.ref i), some (.int z), some (.int (iI s)), some (.int (nI k))] [] (hst h i S)) (fun (k : Nat) (s : Int) => s + if σ.2 k 7 = 0 then ins σ (gz σ z) k else 0) (n := σ.1) (s := 0) (fun k s hk => step k s hk)
  rw [zfold_si, Int.zero_add, fin] at main
  exact main
theorem s_sumGoingDown {z : Int32} (hR : stR S σ) (hw : wf σ) : ev (d + 15) 95 0 [some (.ref i), some (.int z), none, none] [] (hst h i S) = some (some (.int (iI (si (gz σ z) σ.1))), hst h i S) := by
  rw [s_sumGoingDown1 hR hw, hw.roots (gz σ z) (fun d hd q => by unfold gz; rw [eft_0 q]; simp)]
end DOWN
