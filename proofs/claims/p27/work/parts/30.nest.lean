/-! THE LONGEST NEST OF LOOSE CRATES -/
def mxf (f : Nat → Nat) (n : Nat) : Nat := zfold (fun k s => if s < f k then f k else s) n 0
theorem mxf_s {f : Nat → Nat} {n : Nat} : mxf f (n + 1) = if mxf f n < f n then f n else mxf f n := rfl
theorem mxf_ub {f : Nat → Nat} {k : Nat} : ∀ {n : Nat}, k < n → f k ≤ mxf f n
  | 0, h => by omega
  | n + 1, h => by
    rw [mxf_s]
    rcases Nat.lt_or_ge k n with z | z
    · have := mxf_ub (f := f) z
      split <;> omega
    · have e : k = n := by omega
      subst e
      split <;> omega
theorem mxf_le {f : Nat → Nat} {m : Nat} : ∀ {n : Nat}, (∀ k, k < n → f k ≤ m) → mxf f n ≤ m
  | 0, _ => Nat.zero_le _
  | n + 1, h => by
    rw [mxf_s]
    have h1 := mxf_le (n := n) (fun k hk => h k (by omega))
    have h2 := h n (by omega)
    split <;> omega
theorem mxf_att {f : Nat → Nat} : ∀ {n : Nat}, 0 < mxf f n → ∃ k, k < n ∧ f k = mxf f n
  | 0, h => by simp [mxf, zfold] at h
  | n + 1, h => by
    rw [mxf_s] at h ⊢
    by_cases q : mxf f n < f n
    · exact ⟨n, by omega, by rw [if_pos q]⟩
    · rw [if_neg q] at h ⊢
      obtain ⟨k, h1, h2⟩ := mxf_att h
      exact ⟨k, by omega, h2⟩
theorem mxf_cong {f g : Nat → Nat} : ∀ {n : Nat}, (∀ k, k < n → f k = g k) → mxf f n = mxf g n
  | 0, _ => rfl
  | n + 1, h => by rw [mxf_s, mxf_s, mxf_cong (fun k hk => h k (by omega)), h n (by omega)]
def ff (p : Nat → Bool) : Nat → Nat
  | 0 => 0
  | n + 1 => if ff p n = 0 then (if p n then n + 1 else 0) else ff p n
theorem ff_none {p : Nat → Bool} : ∀ {n : Nat}, (∀ k, k < n → p k = false) → ff p n = 0
  | 0, _ => rfl
  | n + 1, h => by rw [ff, ff_none (fun k hk => h k (by omega)), h n (by omega)]; rfl
theorem ff_some {p : Nat → Bool} {k : Nat} : ∀ {n : Nat}, k < n → p k = true → (∀ j, j < k → p j = false) → ff p n = k + 1
  | 0, h, _, _ => by omega
  | n + 1, h, hp, hj => by
    rw [ff]
    rcases Nat.lt_or_ge k n with z | z
    · rw [ff_some z hp hj, if_neg (by omega)]
    · have e : k = n := by omega
      subst e
      rw [ff_none hj, if_pos rfl, if_pos hp]
theorem ff_ex {p : Nat → Bool} : ∀ {n : Nat}, (∃ k, k < n ∧ p k = true) → ∃ k, k < n ∧ p k = true ∧ ff p n = k + 1
  | 0, ⟨k, hk, _⟩ => by omega
  | n + 1, ⟨k, hk, hp⟩ => by
    rw [ff]
    rcases Classical.em (∃ k, k < n ∧ p k = true) with w | w
    · obtain ⟨j, h1, h2, h3⟩ := ff_ex w
      exact ⟨j, by omega, h2, by rw [h3, if_neg (by omega)]⟩
    · have e : k = n := by
        rcases Nat.lt_or_ge k n with z | z
        · exact absurd ⟨k, z, hp⟩ w
        · omega
      subst e
      refine ⟨k, by omega, hp, ?_⟩
      rw [ff_none (fun j hj => by
        cases q : p j with
        | false => rfl
        | true => exact absurd ⟨j, hj, q⟩ w), if_pos rfl, if_pos hp]
/-- how long a nest a loose crate could be the outermost one of -/
def lng (σ : mS) : Nat → Nat → Nat
  | 0, _ => 0
  | f + 1, c => if lse σ c = true then 1 + mxf (fun e => if σ.2 e 0 ≤ σ.2 c 1 then lng σ f e else 0) σ.1 else 0
def lnn (σ : mS) (c : Nat) : Nat := lng σ 60 c
/-- the longest one in a room -/
def mxr (σ : mS) (r : Nat) : Nat := mxf (fun e => if σ.2 e 0 ≤ r then lnn σ e else 0) σ.1
theorem lng_st {σ : mS} (hw : wf σ) : ∀ (f c : Nat), c < σ.1 → σ.2 c 0 ≤ f → lng σ (f + 1) c = lng σ f c
  | 0, c, hc, hf => by
    have := (hw.2 c hc).1.1
    omega
  | f + 1, c, hc, hf => by
    have h1 := (hw.2 c hc).2.1
    rw [lng, lng, mxf_cong (fun e he => ?_)]
    by_cases q : σ.2 e 0 ≤ σ.2 c 1
    · rw [if_pos q, if_pos q, lng_st hw f e he (by omega)]
    · rw [if_neg q, if_neg q]
theorem wf.lnn_eq {σ : mS} (hw : wf σ) {c : Nat} (hc : c < σ.1) : lnn σ c = if lse σ c = true then 1 + mxr σ (σ.2 c 1) else 0 := by
  have h1 := (hw.2 c hc).1.2
  unfold lnn
  rw [← lng_st hw 60 c hc h1, lng]
  rfl
theorem lng_le {σ : mS} (hw : wf σ) : ∀ (f c : Nat), c < σ.1 → lng σ f c ≤ ct (fun d => decide (σ.2 d 0 ≤ σ.2 c 0)) σ.1
  | 0, _, _ => Nat.zero_le _
  | f + 1, c, hc => by
    have h1 := (hw.2 c hc).2.1
    rw [lng]
    by_cases q : lse σ c = true
    · rw [if_pos q]
      have h3 : ct (fun _ => false) σ.1 < ct (fun d => decide (σ.2 d 0 ≤ σ.2 c 0)) σ.1 := ct_lt (k := c) (fun _ _ w => by cases w) hc rfl (by simp)
      have h2 : mxf (fun e => if σ.2 e 0 ≤ σ.2 c 1 then lng σ f e else 0) σ.1 ≤ ct (fun d => decide (σ.2 d 0 ≤ σ.2 c 0)) σ.1 - 1 := by
        refine mxf_le (fun e he => ?_)
        by_cases w : σ.2 e 0 ≤ σ.2 c 1
        · rw [if_pos w]
          have h4 := lng_le hw f e he
          have h5 : ct (fun d => decide (σ.2 d 0 ≤ σ.2 e 0)) σ.1 < ct (fun d => decide (σ.2 d 0 ≤ σ.2 c 0)) σ.1 := ct_lt (k := c) (fun d _ hd => by
            have := of_decide_eq_true hd
            exact decide_eq_true (by omega)) hc (decide_eq_false (by omega)) (decide_eq_true (Nat.le_refl _))
          omega
        · rw [if_neg w]
          exact Nat.zero_le _
      omega
    · rw [if_neg q]
      exact Nat.zero_le _
theorem wf.lnn_le {σ : mS} (hw : wf σ) {c : Nat} (hc : c < σ.1) : lnn σ c ≤ σ.1 := Nat.le_trans (lng_le hw _ c hc) (ct_le _ _)
theorem wf.mxr_le {σ : mS} (hw : wf σ) {r : Nat} : mxr σ r ≤ σ.1 := mxf_le (fun k hk => by
  have := hw.lnn_le hk
  split <;> omega)
/-- the next one in a room, coded -/
def nxt (σ : mS) (r : Nat) : Nat := ff (fun c => decide (0 < mxr σ r) && decide (lnn σ c = mxr σ r) && decide (σ.2 c 0 ≤ r)) σ.1
/-- the rooms of the nest, from outside -/
def nrm (σ : mS) : Nat → Nat
  | 0 => 60
  | k + 1 => σ.2 (nxt σ (nrm σ k) - 1) 1
theorem wf.nxt_ex {σ : mS} (hw : wf σ) {r : Nat} (h : 0 < mxr σ r) : ∃ c, c < σ.1 ∧ nxt σ r = c + 1 ∧ lnn σ c = mxr σ r ∧ σ.2 c 0 ≤ r ∧ mxr σ (σ.2 c 1) = mxr σ r - 1 := by
  obtain ⟨k, hk, e⟩ := mxf_att h
  have e : (if σ.2 k 0 ≤ r then lnn σ k else 0) = mxr σ r := e
  have hk2 : σ.2 k 0 ≤ r ∧ lnn σ k = mxr σ r := by
    by_cases q : σ.2 k 0 ≤ r
    · rw [if_pos q] at e
      exact ⟨q, e⟩
    · rw [if_neg q] at e
      omega
  obtain ⟨c, h1, h2, h3⟩ := ff_ex (p := fun c => decide (0 < mxr σ r) && decide (lnn σ c = mxr σ r) && decide (σ.2 c 0 ≤ r)) (n := σ.1) ⟨k, hk, by simp [h, hk2.1, hk2.2]⟩
  simp only [Bool.and_eq_true, decide_eq_true_eq] at h2
  refine ⟨c, h1, h3, h2.1.2, h2.2, ?_⟩
  have h4 := hw.lnn_eq h1
  rw [h2.1.2] at h4
  by_cases q : lse σ c = true
  · rw [if_pos q] at h4
    omega
  · rw [if_neg q] at h4
    omega
theorem nxt_0 {σ : mS} {r : Nat} (h : mxr σ r = 0) : nxt σ r = 0 := by
  unfold nxt
  rw [h]
  exact ff_none (fun k _ => by simp)
/-- the length of the longest nest -/
def lgn (σ : mS) : Nat := mxr σ 60
theorem wf.nrm_mx {σ : mS} (hw : wf σ) : ∀ k, k ≤ lgn σ → mxr σ (nrm σ k) = lgn σ - k
  | 0, _ => rfl
  | k + 1, h => by
    have h1 := hw.nrm_mx k (by omega)
    obtain ⟨c, h2, h3, h4, h5, h6⟩ := hw.nxt_ex (r := nrm σ k) (by omega)
    rw [nrm, h3]
    show mxr σ (σ.2 c 1) = _
    omega
section NEST
variable {d : Nat} {h : zH} {v i : Nat} {V S M : oS} {σ : mS} {c : Nat}
theorem l_longestIn (hR : stR S σ) (hb : bnd σ) (hd : v + 3 ≤ i ∨ i + 7 ≤ v) {g : Nat → Nat} (hg : ∀ e, e < σ.1 → V.1 0 e = nI (g e) ∧ g e ≤ 12) {r : Nat} (hr : r ≤ 60) : ev (d + 2) 8 0 [some (.ref v), some (.ref i), some (.int (nI σ.1)), some (.int (nI r)), none, none] [] (hst (hln h v V) i S) = some (some (.int (nI (mxf (fun e => if σ.2 e 0 ≤ r then g e else 0) σ.1))), hst (hln h v V) i S) := by
  have hn := hb.1
  simp only [e8_0, e8_1, e8_3, e8_4, e8_8, e8_9, e8_12, e8_13, e8_15, e8_18, e8_19, e8_22, e8_23, e8_26, e8_28, e8_29, e8_31, e8_34, e8_35, e8_38, e8_40, e8_41, e8_43, e8_46, e8_49, e8_51, ln_is_st hd, ln_g0_st hd, ln_g1_st hd, ln_g2_st hd, ln_p2_st hd, ln_l0_st hd, ln_s0_st hd, ln_l1_st hd, ln_s1_st hd, Option.bind_some, Option.toList_some, Option.toList_none, List.cons_append, List.nil_append, true_or, or_true, and_true, true_and, i10, Bool.false_eq_true, if_true, if_false, reduceIte]
  have main := z_forI (fun (k : Nat) (s : Nat) => ev (d + 2) 8 6 [some (.ref v), some (.ref i), some (.int (nI σ.1)), some (.int (nI r)), some (.int (nI s)), some (.int (nI k))] [] (hst (hln h v V) i S)) (fun k s => if s < (if σ.2 k 0 ≤ r then g k else 0) then (if σ.2 k 0 ≤ r then g k else 0) else s) (fun _ s => s ≤ 12) (n := σ.1) (s := 0) (by omega) (fun k s hk hs => by
    have hlt : (σ.1 ≤ k) = False := eq_false (by omega)
    obtain ⟨g1, g2⟩ := hg k hk
    have b0 := (hb.2 k hk).1
    refine ⟨?_, ?_⟩
    · show ev (d + 2) 8 6 _ _ _ = ev (d + 2) 8 6 _ _ _
      rw [e8_6]
      simp only [e8_0, e8_1, e8_3, e8_4, e8_8, e8_9, e8_12, e8_13, e8_15, e8_18, e8_19, e8_22, e8_23, e8_26, e8_28, e8_29, e8_31, e8_34, e8_35, e8_38, e8_40, e8_41, e8_43, e8_46, e8_49, e8_51, st_g0, st_g1, st_g2, st_g3, st_g4, st_g5, st_g6, st_g7, st_p6, st_p7, st_l0, st_l1, st_l2, st_l3, st_l4, st_l5, st_s0, st_s1, st_s2, st_s3, st_s4, st_s5, st_is, ln_is_st hd, ln_g0_st hd, ln_g1_st hd, ln_g2_st hd, ln_p2_st hd, ln_l0_st hd, ln_s0_st hd, ln_l1_st hd, ln_s1_st hd, Option.bind_some, Option.toList_some, Option.toList_none, List.cons_append, List.nil_append, true_or, or_true, and_true, true_and, i10, Bool.false_eq_true, if_true, if_false, reduceIte, nI_lep (show σ.1 < 2147483648 by omega) (show k < 2147483648 by omega), hlt, nI_1, s_sizeOf hR hb hk, zrd_nI (show k < 12 by omega) (show 12 < 2147483648 by omega), g1, nI_ltp (show r < 2147483648 by omega) (show σ.2 k 0 < 2147483648 by omega), nI_lep (show g k < 2147483648 by omega) (show s < 2147483648 by omega)]
      by_cases q1 : σ.2 k 0 ≤ r
      · have q1' : ¬ r < σ.2 k 0 := by omega
        by_cases q2 : g k ≤ s
        · have q2' : ¬ s < g k := by omega
          simp [q1, q1', q2, q2']
        · have q2' : s < g k := by omega
          simp [q1, q1', q2, q2']
      · have q1' : r < σ.2 k 0 := by omega
        simp [q1, q1']
    · show (if s < (if σ.2 k 0 ≤ r then g k else 0) then (if σ.2 k 0 ≤ r then g k else 0) else s) ≤ 12
      by_cases q1 : σ.2 k 0 ≤ r
      · simp only [q1, if_true]
        split <;> omega
      · simp only [q1, if_false]
        split <;> omega)
  refine main.1.trans ?_
  show ev (d + 2) 8 6 _ _ _ = _
  rw [e8_6]
  simp only [e8_0, e8_1, e8_3, e8_4, e8_8, e8_9, e8_12, e8_13, e8_15, e8_18, e8_19, e8_22, e8_23, e8_26, e8_28, e8_29, e8_31, e8_34, e8_35, e8_38, e8_40, e8_41, e8_43, e8_46, e8_49, e8_51, Option.bind_some, Option.toList_some, Option.toList_none, List.cons_append, List.nil_append, true_or, or_true, and_true, true_and, i10, Bool.false_eq_true, if_true, if_false, reduceIte, Int32.le_refl]
  rfl
theorem l_first (hR : stR S σ) (hb : bnd σ) (hd : v + 3 ≤ i ∨ i + 7 ≤ v) (hw : wf σ) (hg : ∀ e, e < σ.1 → V.1 0 e = nI (lnn σ e)) {r : Nat} (hr : r ≤ 60) : ev (d + 3) 9 0 [some (.ref v), some (.ref i), some (.int (nI σ.1)), some (.int (nI r)), none, none] [] (hst (hln h v V) i S) = some (some (.int (hI (nxt σ r))), hst (hln h v V) i S) := by
  have hn := hb.1
  have hm := hw.mxr_le (r := r)
  have hl : ev (d + 2) 8 0 [some (.ref v), some (.ref i), some (.int (nI σ.1)), some (.int (nI r)), none, none] [] (hst (hln h v V) i S) = some (some (.int (nI (mxr σ r))), hst (hln h v V) i S) := l_longestIn hR hb hd (fun e he => ⟨hg e he, by have := hw.lnn_le he; omega⟩) hr
  simp only [e9_0, e9_1, e9_2, e9_3, e9_4, e9_7, e9_9, e9_10, e9_14, e9_15, e9_18, e9_20, e9_23, e9_24, e9_27, e9_29, e9_30, e9_32, e9_35, e9_36, e9_38, e9_41, e9_42, e9_45, e9_47, e9_48, e9_51, e9_54, e9_55, ln_is_st hd, ln_g0_st hd, ln_g1_st hd, ln_g2_st hd, ln_p2_st hd, ln_l0_st hd, ln_s0_st hd, ln_l1_st hd, ln_s1_st hd, Option.bind_some, Option.toList_some, Option.toList_none, List.cons_append, List.nil_append, true_or, or_true, and_true, true_and, i10, Bool.false_eq_true, if_true, if_false, reduceIte, hl]
  have main := z_first (fun k => ev (d + 3) 9 12 [some (.ref v), some (.ref i), some (.int (nI σ.1)), some (.int (nI r)), some (.int (nI (mxr σ r))), some (.int (nI k))] [] (hst (hln h v V) i S)) (fun k => some (some (.int (nI k)), hst (hln h v V) i S)) (fun k => (decide (0 < mxr σ r) && decide (lnn σ k = mxr σ r) && decide (σ.2 k 0 ≤ r)) = true) (n := σ.1) (fun k hk => by
    have hlt : (σ.1 ≤ k) = False := eq_false (by omega)
    have b0 := (hb.2 k hk).1
    have b1 := hw.lnn_le hk
    have g1 := hg k hk
    have e0 : (nI (mxr σ r) ≤ 0) = (mxr σ r ≤ 0) := nI_lep (b := 0) (by omega) (by omega)
    rw [e9_12]
    simp only [e9_0, e9_1, e9_2, e9_3, e9_4, e9_7, e9_9, e9_10, e9_14, e9_15, e9_18, e9_20, e9_23, e9_24, e9_27, e9_29, e9_30, e9_32, e9_35, e9_36, e9_38, e9_41, e9_42, e9_45, e9_47, e9_48, e9_51, e9_54, e9_55, st_g0, st_g1, st_g2, st_g3, st_g4, st_g5, st_g6, st_g7, st_p6, st_p7, st_l0, st_l1, st_l2, st_l3, st_l4, st_l5, st_s0, st_s1, st_s2, st_s3, st_s4, st_s5, st_is, ln_is_st hd, ln_g0_st hd, ln_g1_st hd, ln_g2_st hd, ln_p2_st hd, ln_l0_st hd, ln_s0_st hd, ln_l1_st hd, ln_s1_st hd, Option.bind_some, Option.toList_some, Option.toList_none, List.cons_append, List.nil_append, true_or, or_true, and_true, true_and, i10, Bool.false_eq_true, if_true, if_false, reduceIte, nI_lep (show σ.1 < 2147483648 by omega) (show k < 2147483648 by omega), hlt, nI_1, e0, zrd_nI (show k < 12 by omega) (show 12 < 2147483648 by omega), g1, nI_eqp (show lnn σ k < 2147483648 by omega) (show mxr σ r < 2147483648 by omega), s_sizeOf hR hb hk, nI_ltp (show r < 2147483648 by omega) (show σ.2 k 0 < 2147483648 by omega)]
    by_cases q1 : mxr σ r ≤ 0
    · have q1' : ¬ 0 < mxr σ r := by omega
      simp [q1, q1']
    · have q1' : 0 < mxr σ r := by omega
      by_cases q2 : lnn σ k = mxr σ r
      · by_cases q3 : σ.2 k 0 ≤ r
        · have q3' : ¬ r < σ.2 k 0 := by omega
          simp [q1, q1', q2, q3, q3']
        · have q3' : r < σ.2 k 0 := by omega
          simp [q1, q1', q2, q3, q3']
      · simp [q1, q1', q2])
  rcases main with ⟨k, k1, k2, k3, k4⟩ | ⟨k1, k2⟩
  · have : nxt σ r = k + 1 := ff_some k1 k2 (fun j hj => by
      cases q : (decide (0 < mxr σ r) && decide (lnn σ j = mxr σ r) && decide (σ.2 j 0 ≤ r)) with
      | false => rfl
      | true => exact absurd q (k3 j hj))
    rw [this, hI_s]
    exact k4
  · have : nxt σ r = 0 := ff_none (fun j hj => by
      cases q : (decide (0 < mxr σ r) && decide (lnn σ j = mxr σ r) && decide (σ.2 j 0 ≤ r)) with
      | false => rfl
      | true => exact absurd q (k1 j hj))
    rw [this, hI_0]
    refine k2.trans ?_
    show ev (d + 3) 9 12 _ _ _ = _
    rw [e9_12]
    simp only [e9_0, e9_1, e9_2, e9_3, e9_4, e9_7, e9_9, e9_10, e9_14, e9_15, e9_18, e9_20, e9_23, e9_24, e9_27, e9_29, e9_30, e9_32, e9_35, e9_36, e9_38, e9_41, e9_42, e9_45, e9_47, e9_48, e9_51, e9_54, e9_55, Option.bind_some, Option.toList_some, Option.toList_none, List.cons_append, List.nil_append, true_or, or_true, and_true, true_and, i10, Bool.false_eq_true, if_true, if_false, reduceIte, Int32.le_refl]
/-- what measure has measured at size s before crate k -/
def msI (σ : mS) (s k : Nat) (W : oS) : Prop := ∀ c, c < σ.1 → W.1 0 c = nI (if σ.2 c 0 < s ∨ (σ.2 c 0 = s ∧ c < k) then lnn σ c else 0)
theorem l_measure_in (hR : stR S σ) (hw : wf σ) (hd : v + 3 ≤ i ∨ i + 7 ≤ v) {s : Nat} (hs : s ≤ 60) : ∀ (f k : Nat) (W : oS), k + f = σ.1 → msI σ s k W → ∃ W', msI σ (s + 1) 0 W' ∧ ev (d + 4) 7 31 [some (.ref v), some (.ref i), some (.int (nI σ.1)), some (.int (nI s)), some (.int (nI k))] [] (hst (hln h v W) i S) = ev (d + 4) 7 22 [some (.ref v), some (.ref i), some (.int (nI σ.1)), some (.int (nI (s + 1))), some (.int (nI σ.1))] [] (hst (hln h v W') i S) := by
  have hb := hw.bnd
  have hn := hb.1
  intro f
  induction f with
  | zero =>
    intro k W hk hW
    have hk : k = σ.1 := by omega
    subst hk
    refine ⟨W, fun c hc => ?_, ?_⟩
    · rw [hW c hc]
      congr 1
      have : (σ.2 c 0 < s ∨ (σ.2 c 0 = s ∧ c < σ.1)) = (σ.2 c 0 < s + 1 ∨ (σ.2 c 0 = s + 1 ∧ c < 0)) := propext ⟨fun _ => by omega, fun _ => by omega⟩
      simp only [this]
    · rw [e7_31]
      simp only [e7_0, e7_1, e7_2, e7_3, e7_4, e7_7, e7_8, e7_11, e7_12, e7_13, e7_14, e7_17, e7_20, e7_21, e7_23, e7_25, e7_28, e7_29, e7_33, e7_34, e7_37, e7_38, e7_40, e7_43, e7_44, e7_47, e7_48, e7_50, e7_53, e7_56, e7_57, e7_60, e7_62, e7_63, e7_64, e7_65, e7_66, e7_67, e7_69, e7_72, e7_75, e7_76, e7_77, e7_80, e7_83, e7_86, e7_89, ln_is_st hd, ln_g0_st hd, ln_g1_st hd, ln_g2_st hd, ln_p2_st hd, ln_l0_st hd, ln_s0_st hd, ln_l1_st hd, ln_s1_st hd, Option.bind_some, Option.toList_some, Option.toList_none, List.cons_append, List.nil_append, true_or, or_true, and_true, true_and, i10, Bool.false_eq_true, if_true, if_false, reduceIte, Int32.le_refl, nI_1]
  | succ f ih =>
    intro k W hk hW
    have hk2 : k < σ.1 := by omega
    have hlt : (σ.1 ≤ k) = False := eq_false (by omega)
    have b0 := (hb.2 k hk2).1
    have b1 := (hw.2 k hk2).2.1
    have hl := l_longestIn (d := d + 1) (h := h) (V := W) (r := σ.2 k 1) (g := fun c => if σ.2 c 0 < s ∨ (σ.2 c 0 = s ∧ c < k) then lnn σ c else 0) hR hb hd (fun e he => ⟨hW e he, by
      have := hw.lnn_le he
      split <;> omega⟩) (by omega)
    rw [e7_31]
    simp only [e7_0, e7_1, e7_2, e7_3, e7_4, e7_7, e7_8, e7_11, e7_12, e7_13, e7_14, e7_17, e7_20, e7_21, e7_23, e7_25, e7_28, e7_29, e7_33, e7_34, e7_37, e7_38, e7_40, e7_43, e7_44, e7_47, e7_48, e7_50, e7_53, e7_56, e7_57, e7_60, e7_62, e7_63, e7_64, e7_65, e7_66, e7_67, e7_69, e7_72, e7_75, e7_76, e7_77, e7_80, e7_83, e7_86, e7_89, st_g0, st_g1, st_g2, st_g3, st_g4, st_g5, st_g6, st_g7, st_p6, st_p7, st_l0, st_l1, st_l2, st_l3, st_l4, st_l5, st_s0, st_s1, st_s2, st_s3, st_s4, st_s5, st_is, ln_is_st hd, ln_g0_st hd, ln_g1_st hd, ln_g2_st hd, ln_p2_st hd, ln_l0_st hd, ln_s0_st hd, ln_l1_st hd, ln_s1_st hd, Option.bind_some, Option.toList_some, Option.toList_none, List.cons_append, List.nil_append, true_or, or_true, and_true, true_and, i10, Bool.false_eq_true, if_true, if_false, reduceIte, nI_lep (show σ.1 < 2147483648 by omega) (show k < 2147483648 by omega), hlt, nI_1, s_sizeOf hR hb hk2, s_roomOf hR hb hk2, s_lse hR hb hk2, bI_0, hl, nI_eqp (show σ.2 k 0 < 2147483648 by omega) (show s < 2147483648 by omega), zin_T (show k < 12 by omega) (by decide), nI_clamp (show k < 2 ^ 31 by omega)]
    by_cases q1 : σ.2 k 0 = s
    · have e0 : mxf (fun e => if σ.2 e 0 ≤ σ.2 k 1 then (if σ.2 e 0 < s ∨ (σ.2 e 0 = s ∧ e < k) then lnn σ e else 0) else 0) σ.1 = mxr σ (σ.2 k 1) := mxf_cong (fun e he => by
        by_cases w : σ.2 e 0 ≤ σ.2 k 1
        · rw [if_pos w, if_pos w, if_pos (by omega)]
        · rw [if_neg w, if_neg w])
      by_cases q2 : lse σ k = true
      · have e1 : lnn σ k = 1 + mxr σ (σ.2 k 1) := by rw [hw.lnn_eq hk2, if_pos q2]
        obtain ⟨W', g1, g2⟩ := ih (k + 1) (setR W 0 (upd (W.1 0) k (nI (lnn σ k)))) (by omega) (fun c hc => by
          by_cases q : c = k
          · subst q
            simp [setR, upd, q1]
          · have := hW c hc
            have e : (σ.2 c 0 < s ∨ (σ.2 c 0 = s ∧ c < k)) = (σ.2 c 0 < s ∨ (σ.2 c 0 = s ∧ c < k + 1)) := propext ⟨fun _ => by omega, fun _ => by omega⟩
            simp only [e] at this
            simp [setR, upd, q, this])
        refine ⟨W', g1, ?_⟩
        have e2 : (1 + nI (mxr σ (σ.2 k 1)) : Int32) = nI (lnn σ k) := by rw [e1, Int32.add_comm, nI_1, Nat.add_comm]
        rw [if_pos q1, if_neg (by simp [q2]), e0, e2]
        exact g2
      · have e1 : lnn σ k = 0 := by rw [hw.lnn_eq hk2, if_neg q2]
        obtain ⟨W', g1, g2⟩ := ih (k + 1) W (by omega) (fun c hc => by
          by_cases q : c = k
          · subst q
            rw [hW c hc, e1]
            simp
          · have := hW c hc
            have e : (σ.2 c 0 < s ∨ (σ.2 c 0 = s ∧ c < k)) = (σ.2 c 0 < s ∨ (σ.2 c 0 = s ∧ c < k + 1)) := propext ⟨fun _ => by omega, fun _ => by omega⟩
            simp only [e] at this
            exact this)
        refine ⟨W', g1, ?_⟩
        rw [if_pos q1, if_pos q2]
        exact g2
    · obtain ⟨W', g1, g2⟩ := ih (k + 1) W (by omega) (fun c hc => by
        have := hW c hc
        have e : (σ.2 c 0 < s ∨ (σ.2 c 0 = s ∧ c < k)) = (σ.2 c 0 < s ∨ (σ.2 c 0 = s ∧ c < k + 1)) := by
          by_cases q : c = k
          · subst q
            exact propext ⟨fun _ => by omega, fun _ => by omega⟩
          · exact propext ⟨fun _ => by omega, fun _ => by omega⟩
        simp only [e] at this
        exact this)
      refine ⟨W', g1, ?_⟩
      rw [if_neg q1]
      exact g2
theorem l_measure (hR : stR S σ) (hw : wf σ) (hd : v + 3 ≤ i ∨ i + 7 ≤ v) : ∃ W', (∀ c, c < σ.1 → W'.1 0 c = nI (lnn σ c)) ∧ ev (d + 4) 7 0 [some (.ref v), some (.ref i), some (.int (nI σ.1)), none, none] [] (hst (hln h v V) i S) = some (none, hst (hln h v W') i S) := by
  have hb := hw.bnd
  have hn := hb.1
  have sizes : ∀ (f s : Nat) (x : Option Value) (W : oS), s + f = 61 → msI σ s 0 W → ∃ W', (∀ c, c < σ.1 → W'.1 0 c = nI (lnn σ c)) ∧ ev (d + 4) 7 22 [some (.ref v), some (.ref i), some (.int (nI σ.1)), some (.int (nI s)), x] [] (hst (hln h v W) i S) = some (none, hst (hln h v W') i S) := by
    intro f
    induction f with
    | zero =>
      intro s x W hs hW
      have hs : s = 61 := by omega
      subst hs
      refine ⟨W, fun c hc => ?_, ?_⟩
      · have b0 := (hb.2 c hc).1
        rw [hW c hc, if_pos (by omega)]
      · rw [e7_22]
        simp only [e7_0, e7_1, e7_2, e7_3, e7_4, e7_7, e7_8, e7_11, e7_12, e7_13, e7_14, e7_17, e7_20, e7_21, e7_23, e7_25, e7_28, e7_29, e7_33, e7_34, e7_37, e7_38, e7_40, e7_43, e7_44, e7_47, e7_48, e7_50, e7_53, e7_56, e7_57, e7_60, e7_62, e7_63, e7_64, e7_65, e7_66, e7_67, e7_69, e7_72, e7_75, e7_76, e7_77, e7_80, e7_83, e7_86, e7_89, ln_is_st hd, ln_g0_st hd, ln_g1_st hd, ln_g2_st hd, ln_p2_st hd, ln_l0_st hd, ln_s0_st hd, ln_l1_st hd, ln_s1_st hd, Option.bind_some, Option.toList_some, Option.toList_none, List.cons_append, List.nil_append, true_or, or_true, and_true, true_and, i10, Bool.false_eq_true, if_true, if_false, reduceIte, show ((60 : Int32) < nI 61) = True by decide]
    | succ f ih =>
      intro s x W hs hW
      obtain ⟨W1, g1, g2⟩ := l_measure_in (d := d) (h := h) hR hw hd (s := s) (by omega) σ.1 0 W (by omega) hW
      obtain ⟨W', g3, g4⟩ := ih (s + 1) (some (.int (nI σ.1))) W1 (by omega) g1
      refine ⟨W', g3, ?_⟩
      have e0 : ((60 : Int32) < nI s) = False := (nI_ltp (a := 60) (by omega) (by omega)).trans (eq_false (by omega))
      rw [e7_22]
      simp only [e7_0, e7_1, e7_2, e7_3, e7_4, e7_7, e7_8, e7_11, e7_12, e7_13, e7_14, e7_17, e7_20, e7_21, e7_23, e7_25, e7_28, e7_29, e7_33, e7_34, e7_37, e7_38, e7_40, e7_43, e7_44, e7_47, e7_48, e7_50, e7_53, e7_56, e7_57, e7_60, e7_62, e7_63, e7_64, e7_65, e7_66, e7_67, e7_69, e7_72, e7_75, e7_76, e7_77, e7_80, e7_83, e7_86, e7_89, ln_is_st hd, ln_g0_st hd, ln_g1_st hd, ln_g2_st hd, ln_p2_st hd, ln_l0_st hd, ln_s0_st hd, ln_l1_st hd, ln_s1_st hd, Option.bind_some, Option.toList_some, Option.toList_none, List.cons_append, List.nil_append, true_or, or_true, and_true, true_and, i10, Bool.false_eq_true, if_true, if_false, reduceIte, e0]
      exact g2.trans g4
  have zeros : ∀ (f k : Nat) (W : oS), k + f = σ.1 → (∀ c, c < k → W.1 0 c = 0) → ∃ W', (∀ c, c < σ.1 → W'.1 0 c = 0) ∧ ev (d + 4) 7 2 [some (.ref v), some (.ref i), some (.int (nI σ.1)), some (.int (nI k)), none] [] (hst (hln h v W) i S) = ev (d + 4) 7 22 [some (.ref v), some (.ref i), some (.int (nI σ.1)), some (.int (nI 1)), none] [] (hst (hln h v W') i S) := by
    intro f
    induction f with
    | zero =>
      intro k W hk hW
      have hk : k = σ.1 := by omega
      subst hk
      refine ⟨W, hW, ?_⟩
      rw [e7_2]
      simp only [e7_0, e7_1, e7_3, e7_4, e7_7, e7_8, e7_11, e7_12, e7_13, e7_14, e7_17, e7_20, e7_21, e7_23, e7_25, e7_28, e7_29, e7_33, e7_34, e7_37, e7_38, e7_40, e7_43, e7_44, e7_47, e7_48, e7_50, e7_53, e7_56, e7_57, e7_60, e7_62, e7_63, e7_64, e7_65, e7_66, e7_67, e7_69, e7_72, e7_75, e7_76, e7_77, e7_80, e7_83, e7_86, e7_89, ln_is_st hd, ln_g0_st hd, ln_g1_st hd, ln_g2_st hd, ln_p2_st hd, ln_l0_st hd, ln_s0_st hd, ln_l1_st hd, ln_s1_st hd, Option.bind_some, Option.toList_some, Option.toList_none, List.cons_append, List.nil_append, true_or, or_true, and_true, true_and, i10, Bool.false_eq_true, if_true, if_false, reduceIte, Int32.le_refl]
      rfl
    | succ f ih =>
      intro k W hk hW
      have hlt : (σ.1 ≤ k) = False := eq_false (by omega)
      obtain ⟨W', g1, g2⟩ := ih (k + 1) (setR W 0 (upd (W.1 0) k 0)) (by omega) (fun c hc => by
        by_cases q : c = k
        · subst q
          simp [setR, upd]
        · have := hW c (by omega)
          simp [setR, upd, q, this])
      refine ⟨W', g1, ?_⟩
      rw [e7_2]
      simp only [e7_0, e7_1, e7_3, e7_4, e7_7, e7_8, e7_11, e7_12, e7_13, e7_14, e7_17, e7_20, e7_21, e7_23, e7_25, e7_28, e7_29, e7_33, e7_34, e7_37, e7_38, e7_40, e7_43, e7_44, e7_47, e7_48, e7_50, e7_53, e7_56, e7_57, e7_60, e7_62, e7_63, e7_64, e7_65, e7_66, e7_67, e7_69, e7_72, e7_75, e7_76, e7_77, e7_80, e7_83, e7_86, e7_89, st_g0, st_g1, st_g2, st_g3, st_g4, st_g5, st_g6, st_g7, st_p6, st_p7, st_l0, st_l1, st_l2, st_l3, st_l4, st_l5, st_s0, st_s1, st_s2, st_s3, st_s4, st_s5, st_is, ln_is_st hd, ln_g0_st hd, ln_g1_st hd, ln_g2_st hd, ln_p2_st hd, ln_l0_st hd, ln_s0_st hd, ln_l1_st hd, ln_s1_st hd, Option.bind_some, Option.toList_some, Option.toList_none, List.cons_append, List.nil_append, true_or, or_true, and_true, true_and, i10, Bool.false_eq_true, if_true, if_false, reduceIte, nI_lep (show σ.1 < 2147483648 by omega) (show k < 2147483648 by omega), hlt, nI_1, zin_T (show k < 12 by omega) (by decide), nI_clamp (show k < 2 ^ 31 by omega)]
      exact g2
  obtain ⟨W1, g1, g2⟩ := zeros σ.1 0 V (by omega) (fun c hc => by omega)
  obtain ⟨W2, g3, g4⟩ := sizes 60 1 none W1 (by omega) (fun c hc => by
    have := (hw.2 c hc).1.1
    rw [g1 c hc, if_neg (by omega)]
    rfl)
  refine ⟨W2, g3, ?_⟩
  simp only [e7_0, e7_1, e7_3, e7_4, e7_7, e7_8, e7_11, e7_12, e7_13, e7_14, e7_17, e7_20, e7_21, e7_23, e7_25, e7_28, e7_29, e7_33, e7_34, e7_37, e7_38, e7_40, e7_43, e7_44, e7_47, e7_48, e7_50, e7_53, e7_56, e7_57, e7_60, e7_62, e7_63, e7_64, e7_65, e7_66, e7_67, e7_69, e7_72, e7_75, e7_76, e7_77, e7_80, e7_83, e7_86, e7_89, ln_is_st hd, ln_g0_st hd, ln_g1_st hd, ln_g2_st hd, ln_p2_st hd, ln_l0_st hd, ln_s0_st hd, ln_l1_st hd, ln_s1_st hd, Option.bind_some, Option.toList_some, Option.toList_none, List.cons_append, List.nil_append, true_or, or_true, and_true, true_and, i10, Bool.false_eq_true, if_true, if_false, reduceIte]
  exact g2.trans g4
/-- the nest found -/
def lnR (V : oS) (σ : mS) : Prop := V.2 0 = nI (lgn σ) ∧ ∀ k, k < lgn σ → V.1 1 k = nI (nxt σ (nrm σ k) - 1)
theorem l_find (hR : stR S σ) (hw : wf σ) (hd : v + 3 ≤ i ∨ i + 7 ≤ v) : ∃ W', lnR W' σ ∧ ev (d + 5) 6 0 [some (.ref v), some (.ref i), none, none, none, none] [] (hst (hln h v V) i S) = some (some (.int (nI (lgn σ))), hst (hln h v W') i S) := by
  have hb := hw.bnd
  have hn := hb.1
  have h0 := hR.1
  have hL : lgn σ ≤ σ.1 := hw.mxr_le
  have emin : (if (12 : Int32) < nI σ.1 then (12 : Int32) else nI σ.1) = nI σ.1 := by
    rw [if_neg]
    rw [show (12 : Int32) = nI 12 from rfl, nI_ltp (by omega) (by omega)]
    omega
  have main : ∀ (f k : Nat) (W : oS), k + f = lgn σ → (∀ c, c < σ.1 → W.1 0 c = nI (lnn σ c)) → W.2 0 = nI k → (∀ j, j < k → W.1 1 j = nI (nxt σ (nrm σ j) - 1)) → ∃ W', lnR W' σ ∧ ev (d + 5) 6 36 [some (.ref v), some (.ref i), some (.int (nI σ.1)), some (.int 60), some (.int (hI (nxt σ (nrm σ k)))), some (.int (nI k))] [] (hst (hln h v W) i S) = some (some (.int (nI (lgn σ))), hst (hln h v W') i S) := by
    intro f
    induction f with
    | zero =>
      intro k W hk g0 g1 g2
      have hk : k = lgn σ := by omega
      subst hk
      have hz : nxt σ (nrm σ (lgn σ)) = 0 := nxt_0 (by rw [hw.nrm_mx _ (Nat.le_refl _)]; omega)
      refine ⟨W, ⟨g1, g2⟩, ?_⟩
      rw [hz, hI_0, e6_36]
      simp only [e6_0, e6_1, e6_4, e6_6, e6_9, e6_10, e6_11, e6_12, e6_13, e6_16, e6_17, e6_18, e6_21, e6_23, e6_24, e6_25, e6_26, e6_27, e6_28, e6_31, e6_33, e6_34, e6_38, e6_40, e6_43, e6_45, e6_46, e6_49, e6_50, e6_53, e6_55, e6_57, e6_58, e6_59, e6_61, e6_62, e6_63, e6_66, e6_67, e6_68, e6_69, e6_70, e6_72, e6_75, e6_78, e6_80, e6_83, e6_86, e6_87, e6_90, ln_is_st hd, ln_g0_st hd, ln_g1_st hd, ln_g2_st hd, ln_p2_st hd, ln_l0_st hd, ln_s0_st hd, ln_l1_st hd, ln_s1_st hd, Option.bind_some, Option.toList_some, Option.toList_none, List.cons_append, List.nil_append, true_or, or_true, and_true, true_and, i10, Bool.false_eq_true, if_true, if_false, reduceIte, g1]
      split <;> rfl
    | succ f ih =>
      intro k W hk g0 g1 g2
      have hm := hw.nrm_mx k (by omega)
      obtain ⟨c, c1, c2, c3, c4, c5⟩ := hw.nxt_ex (r := nrm σ k) (by omega)
      have hr : nrm σ (k + 1) = σ.2 c 1 := by rw [nrm, c2]; rfl
      have b1 := (hb.2 c c1).2.1
      have hf := l_first (d := d + 1) (h := h) (V := setI (setR W 1 (upd (W.1 1) k (nI c))) 0 (nI (k + 1))) hR hb hd hw (fun e he => by
        have := g0 e he
        simp [setR, setI, this]) (r := σ.2 c 1) (by omega)
      obtain ⟨W', g3, g4⟩ := ih (k + 1) (setI (setR W 1 (upd (W.1 1) k (nI c))) 0 (nI (k + 1))) (by omega) (fun e he => by
        have := g0 e he
        simp [setR, setI, this]) (by simp [setI]) (fun j hj => by
        by_cases q : j = k
        · subst q
          simp [setR, setI, upd, c2]
        · have := g2 j (by omega)
          simp [setR, setI, upd, q, this])
      rw [hr] at g4
      refine ⟨W', g3, ?_⟩
      have e1 : ((12 : Int32) ≤ nI k) = False := (nI_lep (a := 12) (by omega) (by omega)).trans (eq_false (by omega))
      rw [c2, hI_s, e6_36]
      simp only [e6_0, e6_1, e6_4, e6_6, e6_9, e6_10, e6_11, e6_12, e6_13, e6_16, e6_17, e6_18, e6_21, e6_23, e6_24, e6_25, e6_26, e6_27, e6_28, e6_31, e6_33, e6_34, e6_38, e6_40, e6_43, e6_45, e6_46, e6_49, e6_50, e6_53, e6_55, e6_57, e6_58, e6_59, e6_61, e6_62, e6_63, e6_66, e6_67, e6_68, e6_69, e6_70, e6_72, e6_75, e6_78, e6_80, e6_83, e6_86, e6_87, e6_90, st_g0, st_g1, st_g2, st_g3, st_g4, st_g5, st_g6, st_g7, st_p6, st_p7, st_l0, st_l1, st_l2, st_l3, st_l4, st_l5, st_s0, st_s1, st_s2, st_s3, st_s4, st_s5, st_is, ln_is_st hd, ln_g0_st hd, ln_g1_st hd, ln_g2_st hd, ln_p2_st hd, ln_l0_st hd, ln_s0_st hd, ln_l1_st hd, ln_s1_st hd, Option.bind_some, Option.toList_some, Option.toList_none, List.cons_append, List.nil_append, true_or, or_true, and_true, true_and, i10, Bool.false_eq_true, if_true, if_false, reduceIte, e1, nI_m1 (show c < 2147483648 by omega), zin_T (show k < 12 by omega) (by decide), nI_clamp (show k < 2 ^ 31 by omega), nI_1, s_roomOf hR hb c1, hf]
      exact g4
  obtain ⟨W1, g1, g2⟩ := l_measure (d := d) (h := h) (V := V) hR hw hd
  have hf := l_first (d := d + 1) (h := h) (V := setI W1 0 0) hR hb hd hw (fun e he => by
    have := g1 e he
    simp [setI, this]) (r := 60) (by omega)
  obtain ⟨W', g3, g4⟩ := main (lgn σ) 0 (setI W1 0 0) (by omega) (fun e he => by
    have := g1 e he
    simp [setI, this]) (by simp [setI]; rfl) (fun j hj => by omega)
  refine ⟨W', g3, ?_⟩
  have hf' : ev (d + 1 + 3) 9 0 [some (.ref v), some (.ref i), some (.int (nI σ.1)), some (.int 60), none, none] [] (hst (hln h v (setI W1 0 0)) i S) = some (some (.int (hI (nxt σ 60))), hst (hln h v (setI W1 0 0)) i S) := hf
  simp only [e6_0, e6_1, e6_4, e6_6, e6_9, e6_10, e6_11, e6_12, e6_13, e6_16, e6_17, e6_18, e6_21, e6_23, e6_24, e6_25, e6_26, e6_27, e6_28, e6_31, e6_33, e6_34, e6_38, e6_40, e6_43, e6_45, e6_46, e6_49, e6_50, e6_53, e6_55, e6_57, e6_58, e6_59, e6_61, e6_62, e6_63, e6_66, e6_67, e6_68, e6_69, e6_70, e6_72, e6_75, e6_78, e6_80, e6_83, e6_86, e6_87, e6_90, st_g0, st_g1, st_g2, st_g3, st_g4, st_g5, st_g6, st_g7, st_p6, st_p7, st_l0, st_l1, st_l2, st_l3, st_l4, st_l5, st_s0, st_s1, st_s2, st_s3, st_s4, st_s5, st_is, ln_is_st hd, ln_g0_st hd, ln_g1_st hd, ln_g2_st hd, ln_p2_st hd, ln_l0_st hd, ln_s0_st hd, ln_l1_st hd, ln_s1_st hd, Option.bind_some, Option.toList_some, Option.toList_none, List.cons_append, List.nil_append, true_or, or_true, and_true, true_and, i10, Bool.false_eq_true, if_true, if_false, reduceIte, s_crates, h0, emin, g2, hf']
  exact g4
/-- the crate at a place of the nest, as an answer -/
def nsv (σ : mS) (x : Int32) : Int32 := if zin x (lgn σ) = true then nI (nxt σ (nrm σ x.toNatClampNeg) - 1) else -4
theorem l_crateAt (hV : lnR V σ) (hn : lgn σ ≤ 12) {x : Int32} : ev d 10 0 [some (.ref v), some (.int x)] [] (hln h v V) = some (some (.int (nsv σ x)), hln h v V) := by
  simp only [e10_0, e10_1, e10_4, e10_5, e10_6, e10_9, e10_12, e10_13, e10_16, e10_17, e10_18, e10_21, e10_23, ln_g0, ln_g1, ln_g2, ln_p2, ln_l0, ln_l1, ln_s0, ln_s1, ln_is, Option.bind_some, Option.toList_some, Option.toList_none, List.cons_append, List.nil_append, true_or, or_true, and_true, true_and, i10, Bool.false_eq_true, if_true, if_false, reduceIte, hV.1]
  unfold nsv
  rcases zin_cases (c := x) (n := lgn σ) (by omega) with ⟨h1, h2⟩ | ⟨h1, h2, h3⟩ | ⟨k, hk, rfl⟩
  · simp [h1, h2]
  · simp [h1, h2, h3]
  · have e1 := zin_T (k := k) (n := lgn σ) hk (by omega)
    have e2 := zin_T (k := k) (n := 12) (by omega) (by decide)
    have e3 : ¬ nI (lgn σ) ≤ nI k := by rw [nI_leI (by omega) (by omega)]; omega
    simp [nI_pos (show k < 2147483648 by omega), e1, e3, zrd, e2, nI_clamp (show k < 2 ^ 31 by omega), hV.2 k hk]
end NEST
