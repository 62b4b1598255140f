/-! THE WRITER OF THE CLASS -/
def lab (σ : mS) (c : Nat) : List Nat := (List.range (lts σ c)).map (fun p => 64 + σ.2 c (3 + p))
def dgs (n : Nat) : List Nat := if 10 ≤ n then [48 + n / 10, 48 + n % 10] else [48 + n % 10]
def hed (σ : mS) (c : Nat) : List Nat := lab σ c ++ (115 :: dgs (σ.2 c 0)) ++ (114 :: dgs (σ.2 c 1)) ++ (103 :: dgs (σ.2 c 2))
def cat (g : Nat → List Nat) : Nat → List Nat
  | 0 => []
  | n + 1 => cat g n ++ g n
/-- the crate at a place of a pile -/
def cip (σ : mS) (c p : Nat) : Nat := ff (fun e => decide (σ.2 e 7 = c + 1) && decide (σ.2 e 8 = p)) σ.1 - 1
def wrt (σ : mS) : Nat → Nat → List Nat
  | 0, _ => []
  | f + 1, c => hed σ c ++ if pil σ c = 0 then [] else [91] ++ cat (fun p => wrt σ f (cip σ c p)) (pil σ c) ++ [93]
theorem cip_ok {σ : mS} (hw : wf σ) {c p : Nat} (hp : p < pil σ c) : cip σ c p < σ.1 ∧ σ.2 (cip σ c p) 7 = c + 1 ∧ σ.2 (cip σ c p) 8 = p := by
  obtain ⟨e, h1, h2, h3⟩ := hw.place_ex hp
  obtain ⟨k, k1, k2, k3⟩ := ff_ex (p := fun e => decide (σ.2 e 7 = c + 1) && decide (σ.2 e 8 = p)) (n := σ.1) ⟨e, h1, by simp [h2, h3]⟩
  simp only [Bool.and_eq_true, decide_eq_true_eq] at k2
  have : cip σ c p = k := by
    unfold cip
    rw [k3]
    rfl
  rw [this]
  exact ⟨k1, k2.1, k2.2⟩
theorem dgs_len (n : Nat) : (dgs n).length ≤ 2 := by
  unfold dgs
  split <;> simp
theorem hed_len {σ : mS} {c : Nat} : (hed σ c).length ≤ 13 := by
  have h1 : (lab σ c).length ≤ 4 := by
    unfold lab
    rw [List.length_map, List.length_range]
    exact ct_le _ _
  have h2 := dgs_len (σ.2 c 0)
  have h3 := dgs_len (σ.2 c 1)
  have h4 := dgs_len (σ.2 c 2)
  unfold hed
  simp only [List.length_append, List.length_cons]
  omega
theorem cat_len {g : Nat → List Nat} {f : Nat → Int} : ∀ {n : Nat}, (∀ k, k < n → ((g k).length : Int) ≤ f k) → ((cat g n).length : Int) ≤ si f n
  | 0, _ => by simp [cat, si]
  | n + 1, h => by
    have h1 := cat_len (n := n) (fun k hk => h k (by omega))
    have h2 := h n (by omega)
    rw [cat, si, List.length_append]
    omega
theorem cip_sum {σ : mS} (hw : wf σ) {c : Nat} (F : Nat → Int) : si (fun p => F (cip σ c p)) (pil σ c) = si (fun e => if σ.2 e 7 = c + 1 then F e else 0) σ.1 := by
  rw [← hw.pile_sum]
  refine si_cong (fun p hp => ?_)
  obtain ⟨h1, h2, h3⟩ := cip_ok hw hp
  rw [si_only h1 (fun j hj hje => if_neg (fun w => hje (hw.uni hj h1 w.1 h2 (w.2.trans h3.symm)))), if_pos ⟨h2, h3⟩]
theorem si_nn {f : Nat → Int} : ∀ {n : Nat}, (∀ k, k < n → 0 ≤ f k) → 0 ≤ si f n
  | 0, _ => Int.le_refl _
  | n + 1, h => by
    have h1 := si_nn (n := n) (fun k hk => h k (by omega))
    have h2 := h n (by omega)
    rw [si]
    omega
theorem si_add15 {f : Nat → Int} : ∀ {n : Nat}, si (fun k => 15 * f k) n = 15 * si f n
  | 0 => rfl
  | n + 1 => by rw [si, si, si_add15]; omega
theorem wrt_len1 {σ : mS} (hw : wf σ) : ∀ (f c : Nat), c < σ.1 → ((wrt σ f c).length : Int) ≤ 15 * (1 + ins σ (fun _ => 1) c)
  | 0, c, hc => by
    have : 0 ≤ ins σ (fun _ => 1) c := si_nn (fun k _ => by split <;> simp)
    simp only [wrt, List.length_nil]
    omega
  | f + 1, c, hc => by
    have h0 : 0 ≤ ins σ (fun _ => 1) c := si_nn (fun k _ => by split <;> simp)
    have h1 := hed_len (σ := σ) (c := c)
    rw [wrt, List.length_append]
    by_cases q : pil σ c = 0
    · rw [if_pos q, List.length_nil]
      omega
    · rw [if_neg q, List.length_append, List.length_append]
      have h2 := cat_len (g := fun p => wrt σ f (cip σ c p)) (f := fun p => 15 * (1 + ins σ (fun _ => 1) (cip σ c p))) (n := pil σ c) (fun p hp => wrt_len1 hw f _ (cip_ok hw hp).1)
      rw [si_add15, cip_sum hw (fun e => 1 + ins σ (fun _ => 1) e), hw.ins_rec (fun _ => 1) c] at h2
      simp only [List.length_cons, List.length_nil]
      omega
theorem wrt_len {σ : mS} (hw : wf σ) {f c : Nat} (hc : c < σ.1) : (wrt σ f c).length ≤ 180 := by
  have h1 := wrt_len1 hw f c hc
  have h2 : ins σ (fun _ => 1) c < (σ.1 : Int) := (si_lt1 (p := c) (fun j _ => by split <;> simp)).2 hc (by rw [if_neg (hw.irr hc)]; omega)
  have h3 := hw.1
  omega
theorem lts_pos {σ : mS} {c p : Nat} (hl : lok (σ.2 c)) (hp : p < lts σ c) : 0 < σ.2 c (3 + p) := by
  obtain ⟨h1, h2, h3⟩ := hl
  have e : lts σ c = (if 0 < σ.2 c 3 then 1 else 0) + (if 0 < σ.2 c 4 then 1 else 0) + (if 0 < σ.2 c 5 then 1 else 0) + (if 0 < σ.2 c 6 then 1 else 0) := by
    unfold lts
    simp [ct]
  rw [e] at hp
  have hp4 : p = 0 ∨ p = 1 ∨ p = 2 ∨ p = 3 := by
    have : p < 4 := by
      refine Nat.lt_of_lt_of_le hp ?_
      split <;> split <;> split <;> split <;> omega
    omega
  rcases hp4 with q | q | q | q <;> subst q
  · exact h1
  · show 0 < σ.2 c 4
    by_cases w : 0 < σ.2 c 4
    · exact w
    · rw [if_neg w, if_neg (show ¬ 0 < σ.2 c 5 by omega), if_neg (show ¬ 0 < σ.2 c 6 by omega)] at hp
      split at hp <;> omega
  · show 0 < σ.2 c 5
    by_cases w : 0 < σ.2 c 5
    · exact w
    · rw [if_neg w, if_neg (show ¬ 0 < σ.2 c 6 by omega)] at hp
      split at hp <;> split at hp <;> omega
  · show 0 < σ.2 c 6
    by_cases w : 0 < σ.2 c 6
    · exact w
    · rw [if_neg w] at hp
      split at hp <;> split at hp <;> split at hp <;> omega
/-- the text written so far -/
def nwT (V : oS) (T : List Nat) : Prop := V.2 0 = nI T.length ∧ ∀ k x, T[k]? = some x → V.1 0 k = nI x
theorem narc : ∀ k, k < 128 → vp_nar .char (nI k) = nI k := by decide +kernel
theorem i2c_ok : ∀ k, k < 128 → ((nI k).toUInt32 % 65536).toInt32 = nI k := by decide +kernel
theorem dg1 : ∀ n, n < 61 → ((48 + nI n / 10).toUInt32 % 65536).toInt32 = nI (48 + n / 10) := by decide +kernel
theorem dg2 : ∀ n, n < 61 → ((48 + (nI n - nI n / 10 * 10)).toUInt32 % 65536).toInt32 = nI (48 + n % 10) := by decide +kernel
section WRITER
variable {d : Nat} {h : zH} {v i : Nat} {V S : oS} {σ : mS} {c : Nat} {T : List Nat}
theorem at_len' {l : List Nat} {k x : Nat} (h : l[k]? = some x) : k < l.length := by
  rcases Nat.lt_or_ge k l.length with z | z
  · exact z
  · rw [List.getElem?_eq_none z] at h
    cases h
theorem w_sign (hd : v + 2 ≤ i ∨ i + 7 ≤ v) (hT : nwT V T) (hl : T.length < 180) {x : Int32} {k : Nat} (hx : x = nI k) (hk : k < 128) : ∃ V', nwT V' (T ++ [k]) ∧ ev d 30 0 [some (.ref v), some (.int x)] [] (hst (hnw h v V) i S) = some (none, hst (hnw h v V') i S) := by
  have e1 : ((180 : Int32) ≤ nI T.length) = False := (nI_lep (a := 180) (by omega) (by omega)).trans (eq_false (by omega))
  have en : zlen (hst (hnw h v V) i S) (v + 1) = some 180 := (zlen_out (by rw [st_len]; omega)).trans nw_n0
  refine ⟨setI (setR V 0 (upd (V.1 0) T.length (nI k))) 0 (nI (T.length + 1)), ⟨?_, fun j y hj => ?_⟩, ?_⟩
  · rw [List.length_append]
    rfl
  · by_cases q : j = T.length
    · subst q
      rw [List.getElem?_append_right (Nat.le_refl _), Nat.sub_self] at hj
      simp at hj
      simp [setI, setR, upd, hj]
    · rcases Nat.lt_or_ge j T.length with z | z
      · rw [List.getElem?_append_left z] at hj
        simp [setI, setR, upd, q, hT.2 j y hj]
      · have := at_len' hj
        rw [List.length_append] at this
        simp at this
        omega
  · subst hx
    simp only [e30_0, e30_1, e30_4, e30_5, e30_8, e30_9, e30_12, e30_13, e30_16, e30_17, e30_20, e30_21, e30_22, e30_23, e30_24, e30_27, e30_28, e30_29, e30_32, nw_is_st hd, nw_g0_st hd, nw_g1_st hd, nw_p1_st hd, nw_l0_st hd, nw_s0_st hd, Option.bind_some, Option.toList_some, Option.toList_none, List.cons_append, List.nil_append, true_or, or_true, and_true, true_and, i10, Bool.false_eq_true, if_true, if_false, reduceIte, en, hT.1, e1, zin_T (show T.length < 180 by omega) (by decide), nI_clamp (show T.length < 2 ^ 31 by omega), narc k hk, setR_2, nI_1]
theorem w_number (hd : v + 2 ≤ i ∨ i + 7 ≤ v) (hT : nwT V T) {k n : Nat} (hl : T.length + (k :: dgs n).length ≤ 180) {x : Int32} (hx : x = nI k) (hk : k < 128) (hn : n ≤ 60) : ∃ V', nwT V' (T ++ (k :: dgs n)) ∧ ev (d + 1) 29 0 [some (.ref v), some (.int x), some (.int (nI n))] [] (hst (hnw h v V) i S) = some (none, hst (hnw h v V') i S) := by
  have h10 : ¬ ((10 : Int32) = 0) := by decide
  unfold dgs at hl ⊢
  by_cases q : 10 ≤ n
  · rw [if_pos q] at hl ⊢
    simp only [List.length_cons, List.length_nil] at hl
    obtain ⟨V1, a1, a2⟩ := w_sign (d := d) (h := h) (S := S) hd hT (by omega) hx hk
    obtain ⟨V2, b1, b2⟩ := w_sign (d := d) (h := h) (S := S) hd a1 (by rw [List.length_append]; simp only [List.length_cons, List.length_nil]; omega) (dg1 n (by omega)) (by omega)
    obtain ⟨V3, c1, c2⟩ := w_sign (d := d) (h := h) (S := S) hd b1 (by rw [List.length_append, List.length_append]; simp only [List.length_cons, List.length_nil]; omega) (dg2 n (by omega)) (by omega)
    have e1 : (nI n < (10 : Int32)) = False := (nI_ltp (b := 10) (by omega) (by omega)).trans (eq_false (by omega))
    have e2 : ((10 : Int32) ≤ nI n) = True := (nI_lep (a := 10) (by omega) (by omega)).trans (eq_true (by omega))
    refine ⟨V3, by simpa using c1, ?_⟩
    simp only [e29_0, e29_1, e29_2, e29_5, e29_6, e29_8, e29_11, e29_12, e29_14, e29_15, e29_18, e29_19, e29_20, e29_23, e29_24, e29_26, e29_27, e29_30, e29_31, e29_32, e29_35, e29_17 h10, e29_29 h10, nw_is_st hd, nw_g0_st hd, nw_g1_st hd, nw_p1_st hd, nw_l0_st hd, nw_s0_st hd, Option.bind_some, Option.toList_some, Option.toList_none, List.cons_append, List.nil_append, true_or, or_true, and_true, true_and, i10, Bool.false_eq_true, if_true, if_false, reduceIte, e1, e2, a2, b2, c2]
  · rw [if_neg q] at hl ⊢
    simp only [List.length_cons, List.length_nil] at hl
    obtain ⟨V1, a1, a2⟩ := w_sign (d := d) (h := h) (S := S) hd hT (by omega) hx hk
    obtain ⟨V3, c1, c2⟩ := w_sign (d := d) (h := h) (S := S) hd a1 (by rw [List.length_append]; simp only [List.length_cons, List.length_nil]; omega) (dg2 n (by omega)) (by omega)
    have e1 : (nI n < (10 : Int32)) = True := (nI_ltp (b := 10) (by omega) (by omega)).trans (eq_true (by omega))
    have e2 : ((10 : Int32) ≤ nI n) = False := (nI_lep (a := 10) (by omega) (by omega)).trans (eq_false (by omega))
    refine ⟨V3, by simpa using c1, ?_⟩
    simp only [e29_0, e29_1, e29_2, e29_5, e29_6, e29_8, e29_11, e29_12, e29_14, e29_15, e29_18, e29_19, e29_20, e29_23, e29_24, e29_26, e29_27, e29_30, e29_31, e29_32, e29_35, e29_17 h10, e29_29 h10, nw_is_st hd, nw_g0_st hd, nw_g1_st hd, nw_p1_st hd, nw_l0_st hd, nw_s0_st hd, Option.bind_some, Option.toList_some, Option.toList_none, List.cons_append, List.nil_append, true_or, or_true, and_true, true_and, i10, Bool.false_eq_true, if_true, if_false, reduceIte, e1, e2, a2, c2]
theorem w_label (hd : v + 2 ≤ i ∨ i + 7 ≤ v) (hR : stR S σ) (hw : wf σ) (hc : c < σ.1) (hT : nwT V T) (hl : T.length + (lab σ c).length ≤ 180) : ∃ V', nwT V' (T ++ lab σ c) ∧ ev (d + 3) 28 0 [some (.ref v), some (.ref i), some (.int (nI c)), none, none] [] (hst (hnw h v V) i S) = some (none, hst (hnw h v V') i S) := by
  have hb := hw.bnd
  have hL : lts σ c ≤ 4 := ct_le _ _
  have hlk := (hw.2 c hc).2.2.2.1
  have h26 := (hb.2 c hc).2.2.2.1
  have hlen : (lab σ c).length = lts σ c := by
    unfold lab
    rw [List.length_map, List.length_range]
  have main : ∀ (f p : Nat) (W : oS), p + f = lts σ c → nwT W (T ++ (List.range p).map (fun p => 64 + σ.2 c (3 + p))) → ∃ V', nwT V' (T ++ lab σ c) ∧ ev (d + 3) 28 9 [some (.ref v), some (.ref i), some (.int (nI c)), some (.int (nI (lts σ c))), some (.int (nI p))] [] (hst (hnw h v W) i S) = some (none, hst (hnw h v V') i S) := by
    intro f
    induction f with
    | zero =>
      intro p W hp hW
      have hp : p = lts σ c := by omega
      subst hp
      refine ⟨W, hW, ?_⟩
      rw [e28_9]
      simp only [e28_0, e28_1, e28_2, e28_5, e28_6, e28_7, e28_11, e28_12, e28_15, e28_16, e28_18, e28_19, e28_20, e28_22, e28_25, e28_26, e28_27, e28_30, e28_33, e28_36, nw_is_st hd, nw_g0_st hd, nw_g1_st hd, nw_p1_st hd, nw_l0_st hd, nw_s0_st hd, Option.bind_some, Option.toList_some, Option.toList_none, List.cons_append, List.nil_append, true_or, or_true, and_true, true_and, i10, Bool.false_eq_true, if_true, if_false, reduceIte, Int32.le_refl]
    | succ f ih =>
      intro p W hp hW
      have hlt : (lts σ c ≤ p) = False := eq_false (by omega)
      have hpos := lts_pos hlk (show p < lts σ c by omega)
      have hle := h26 p (by omega)
      obtain ⟨u, hu⟩ : ∃ u, σ.2 c (3 + p) = u + 1 := ⟨σ.2 c (3 + p) - 1, by omega⟩
      have hx : (((65 : Int32) + hI (σ.2 c (3 + p))).toUInt32 % 65536).toInt32 = nI (64 + σ.2 c (3 + p)) := by
        rw [hu, hI_s, show (65 : Int32) = nI 65 from rfl, nI_add, i2c_ok _ (by omega)]
        congr 1
        omega
      obtain ⟨W1, a1, a2⟩ := w_sign (d := d + 2) (h := h) (S := S) hd hW (by rw [List.length_append, List.length_map, List.length_range]; omega) hx (by omega)
      obtain ⟨V', g1, g2⟩ := ih (p + 1) W1 (by omega) (by rw [List.range_succ, List.map_append, ← List.append_assoc]; exact a1)
      refine ⟨V', g1, ?_⟩
      rw [e28_9]
      simp only [e28_0, e28_1, e28_2, e28_5, e28_6, e28_7, e28_11, e28_12, e28_15, e28_16, e28_18, e28_19, e28_20, e28_22, e28_25, e28_26, e28_27, e28_30, e28_33, e28_36, st_g0, st_g1, st_g2, st_g3, st_g4, st_g5, st_g6, st_g7, st_p6, st_p7, st_l0, st_l1, st_l2, st_l3, st_l4, st_l5, st_s0, st_s1, st_s2, st_s3, st_s4, st_s5, st_is, nw_is_st hd, nw_g0_st hd, nw_g1_st hd, nw_p1_st hd, nw_l0_st hd, nw_s0_st hd, Option.bind_some, Option.toList_some, Option.toList_none, List.cons_append, List.nil_append, true_or, or_true, and_true, true_and, i10, Bool.false_eq_true, if_true, if_false, reduceIte, nI_lep (show lts σ c < 2147483648 by omega) (show p < 2147483648 by omega), hlt, s_letterAt hR hb hc (show p < 4 by omega), a2, nI_1]
      exact g2
  obtain ⟨V', g1, g2⟩ := main (lts σ c) 0 V (by omega) (by simpa using hT)
  refine ⟨V', g1, ?_⟩
  simp only [e28_0, e28_1, e28_2, e28_5, e28_6, e28_7, e28_11, e28_12, e28_15, e28_16, e28_18, e28_19, e28_20, e28_22, e28_25, e28_26, e28_27, e28_30, e28_33, e28_36, st_g0, st_g1, st_g2, st_g3, st_g4, st_g5, st_g6, st_g7, st_p6, st_p7, st_l0, st_l1, st_l2, st_l3, st_l4, st_l5, st_s0, st_s1, st_s2, st_s3, st_s4, st_s5, st_is, nw_is_st hd, nw_g0_st hd, nw_g1_st hd, nw_p1_st hd, nw_l0_st hd, nw_s0_st hd, Option.bind_some, Option.toList_some, Option.toList_none, List.cons_append, List.nil_append, true_or, or_true, and_true, true_and, i10, Bool.false_eq_true, if_true, if_false, reduceIte, s_lettersOf hR hb hc]
  exact g2
theorem w_nest (hd : v + 2 ≤ i ∨ i + 7 ≤ v) (hR : stR S σ) (hw : wf σ) : ∀ (f e c : Nat) (V : oS) (T : List Nat), c < σ.1 → e ≤ dpt σ c → e + f = 12 → nwT V T → T.length + (wrt σ f c).length ≤ 180 → ∃ V', nwT V' (T ++ wrt σ f c) ∧ ev (d + f + 4) 27 0 [some (.ref v), some (.ref i), some (.int (nI c)), some (.int (nI e)), none, none] [] (hst (hnw h v V) i S) = some (none, hst (hnw h v V') i S) := by
  have hb := hw.bnd
  have hn := hb.1
  intro f
  induction f with
  | zero =>
    intro e c V T hc he hf
    have := hw.dpt_lt hc
    omega
  | succ f ih =>
    intro e c V T hc he hf hT hl
    have hdp := hw.dpt_lt hc
    have hpl := pil_le (c := c) hb
    have b0 := (hb.2 c hc).1
    have b1 := (hb.2 c hc).2.1
    have b2 := (hb.2 c hc).2.2.1
    have e1 : (nI e < (12 : Int32)) = True := (nI_ltp (b := 12) (by omega) (by omega)).trans (eq_true (by omega))
    have e0 : (nI (pil σ c) = 0) = (pil σ c = 0) := nI_eqp (b := 0) (by omega) (by omega)
    have ed : d + (f + 1) + 4 = d + f + 4 + 1 := by omega
    rw [ed]
    rw [wrt] at hl ⊢
    have hl2 := hl
    unfold hed at hl
    simp only [List.length_append, List.length_cons] at hl
    obtain ⟨V1, a1, a2⟩ := w_label (d := d + f + 1) (h := h) hd hR hw hc hT (by omega)
    obtain ⟨V2, c1, c2⟩ := w_number (d := d + f + 3) (h := h) (S := S) (x := 115) (k := 115) (n := σ.2 c 0) hd a1 (by simp only [List.length_append, List.length_cons]; omega) rfl (by decide) (by omega)
    obtain ⟨V3, d1, d2⟩ := w_number (d := d + f + 3) (h := h) (S := S) (x := 114) (k := 114) (n := σ.2 c 1) hd c1 (by simp only [List.length_append, List.length_cons]; omega) rfl (by decide) (by omega)
    obtain ⟨V4, f1, f2⟩ := w_number (d := d + f + 3) (h := h) (S := S) (x := 103) (k := 103) (n := σ.2 c 2) hd d1 (by simp only [List.length_append, List.length_cons]; omega) rfl (by decide) (by omega)
    have f1 : nwT V4 (T ++ hed σ c) := by
      unfold hed
      simpa [List.append_assoc] using f1
    by_cases q : pil σ c = 0
    · rw [if_pos q] at hl2 ⊢
      refine ⟨V4, by simpa using f1, ?_⟩
      simp only [e27_0, e27_1, e27_3, e27_6, e27_7, e27_8, e27_9, e27_10, e27_13, e27_14, e27_16, e27_17, e27_18, e27_21, e27_24, e27_25, e27_27, e27_28, e27_29, e27_32, e27_35, e27_36, e27_38, e27_39, e27_40, e27_43, e27_46, e27_47, e27_48, e27_51, e27_53, e27_55, e27_58, e27_59, e27_60, e27_62, e27_65, e27_66, e27_70, e27_72, e27_75, e27_76, e27_77, e27_78, e27_79, e27_81, e27_84, e27_85, e27_86, e27_87, e27_90, e27_93, e27_96, e27_97, e27_99, e27_102, st_g0, st_g1, st_g2, st_g3, st_g4, st_g5, st_g6, st_g7, st_p6, st_p7, st_l0, st_l1, st_l2, st_l3, st_l4, st_l5, st_s0, st_s1, st_s2, st_s3, st_s4, st_s5, st_is, nw_is_st hd, nw_g0_st hd, nw_g1_st hd, nw_p1_st hd, nw_l0_st hd, nw_s0_st hd, Option.bind_some, Option.toList_some, Option.toList_none, List.cons_append, List.nil_append, true_or, or_true, and_true, true_and, i10, Bool.false_eq_true, if_true, if_false, reduceIte, e1, a2, s_sizeOf hR hb hc, c2, s_roomOf hR hb hc, d2, s_gapsOf hR hb hc, f2, s_pileOf hR hb hc, e0.trans (eq_true q)]
    · rw [if_neg q] at hl2 ⊢
      simp only [List.length_append, List.length_cons, List.length_nil] at hl2
      obtain ⟨V5, g1, g2⟩ := w_sign (d := d + f + 4) (h := h) (S := S) (x := 91) (k := 91) hd f1 (by simp only [List.length_append]; omega) rfl (by decide)
      have cmono : ∀ g : Nat → List Nat, ∀ m p : Nat, p + m = pil σ c → (cat g p).length ≤ (cat g (pil σ c)).length := by
        intro g m
        induction m with
        | zero => intro p hp; rw [show p = pil σ c by omega]; exact Nat.le_refl _
        | succ m ihm =>
          intro p hp
          have := ihm (p + 1) (by omega)
          rw [cat, List.length_append] at this
          omega
      have main : ∀ (m p : Nat) (W : oS), p + m = pil σ c → nwT W (T ++ hed σ c ++ [91] ++ cat (fun p => wrt σ f (cip σ c p)) p) → ∃ V', nwT V' (T ++ (hed σ c ++ ([91] ++ cat (fun p => wrt σ f (cip σ c p)) (pil σ c) ++ [93]))) ∧ ev (d + f + 4 + 1) 27 68 [some (.ref v), some (.ref i), some (.int (nI c)), some (.int (nI e)), some (.int (nI (pil σ c))), some (.int (nI p))] [] (hst (hnw h v W) i S) = some (none, hst (hnw h v V') i S) := by
        intro m
        induction m with
        | zero =>
          intro p W hp hW
          have hp : p = pil σ c := by omega
          subst hp
          obtain ⟨V', j1, j2⟩ := w_sign (d := d + f + 4) (h := h) (S := S) (x := 93) (k := 93) hd hW (by simp only [List.length_append, List.length_cons, List.length_nil]; omega) rfl (by decide)
          refine ⟨V', by simpa [List.append_assoc] using j1, ?_⟩
          rw [e27_68]
          simp only [e27_0, e27_1, e27_3, e27_6, e27_7, e27_8, e27_9, e27_10, e27_13, e27_14, e27_16, e27_17, e27_18, e27_21, e27_24, e27_25, e27_27, e27_28, e27_29, e27_32, e27_35, e27_36, e27_38, e27_39, e27_40, e27_43, e27_46, e27_47, e27_48, e27_51, e27_53, e27_55, e27_58, e27_59, e27_60, e27_62, e27_65, e27_66, e27_70, e27_72, e27_75, e27_76, e27_77, e27_78, e27_79, e27_81, e27_84, e27_85, e27_86, e27_87, e27_90, e27_93, e27_96, e27_97, e27_99, e27_102, st_g0, st_g1, st_g2, st_g3, st_g4, st_g5, st_g6, st_g7, st_p6, st_p7, st_l0, st_l1, st_l2, st_l3, st_l4, st_l5, st_s0, st_s1, st_s2, st_s3, st_s4, st_s5, st_is, nw_is_st hd, nw_g0_st hd, nw_g1_st hd, nw_p1_st hd, nw_l0_st hd, nw_s0_st hd, Option.bind_some, Option.toList_some, Option.toList_none, List.cons_append, List.nil_append, true_or, or_true, and_true, true_and, i10, Bool.false_eq_true, if_true, if_false, reduceIte, Int32.le_refl, j2]
        | succ m ihm =>
          intro p W hp hW
          have hp2 : p < pil σ c := by omega
          obtain ⟨k1, k2, k3⟩ := cip_ok hw hp2
          have hlt : (pil σ c ≤ p) = False := eq_false (by omega)
          have dd : dpt σ (cip σ c p) = dpt σ c + 1 := by
            unfold dpt
            rw [hw.chn_s k1 k2]
            rfl
          have hcm := cmono (fun p => wrt σ f (cip σ c p)) m (p + 1) (by omega)
          rw [cat, List.length_append] at hcm
          obtain ⟨W1, l1, l2⟩ := ih (e + 1) (cip σ c p) W _ k1 (by omega) (by omega) hW (by simp only [List.length_append, List.length_cons, List.length_nil]; omega)
          obtain ⟨V', m1, m2⟩ := ihm (p + 1) W1 (by omega) (by rw [cat, ← List.append_assoc]; exact l1)
          refine ⟨V', m1, ?_⟩
          rw [e27_68]
          simp only [e27_0, e27_1, e27_3, e27_6, e27_7, e27_8, e27_9, e27_10, e27_13, e27_14, e27_16, e27_17, e27_18, e27_21, e27_24, e27_25, e27_27, e27_28, e27_29, e27_32, e27_35, e27_36, e27_38, e27_39, e27_40, e27_43, e27_46, e27_47, e27_48, e27_51, e27_53, e27_55, e27_58, e27_59, e27_60, e27_62, e27_65, e27_66, e27_70, e27_72, e27_75, e27_76, e27_77, e27_78, e27_79, e27_81, e27_84, e27_85, e27_86, e27_87, e27_90, e27_93, e27_96, e27_97, e27_99, e27_102, st_g0, st_g1, st_g2, st_g3, st_g4, st_g5, st_g6, st_g7, st_p6, st_p7, st_l0, st_l1, st_l2, st_l3, st_l4, st_l5, st_s0, st_s1, st_s2, st_s3, st_s4, st_s5, st_is, nw_is_st hd, nw_g0_st hd, nw_g1_st hd, nw_p1_st hd, nw_l0_st hd, nw_s0_st hd, Option.bind_some, Option.toList_some, Option.toList_none, List.cons_append, List.nil_append, true_or, or_true, and_true, true_and, i10, Bool.false_eq_true, if_true, if_false, reduceIte, nI_lep (show pil σ c < 2147483648 by omega) (show p < 2147483648 by omega), hlt, s_crateInPile hR hw hc (show p < 12 by omega) k1 k2 k3, nI_1, l2]
          exact m2
      obtain ⟨V', m1, m2⟩ := main (pil σ c) 0 V5 (by omega) (by simpa [cat] using g1)
      refine ⟨V', m1, ?_⟩
      simp only [e27_0, e27_1, e27_3, e27_6, e27_7, e27_8, e27_9, e27_10, e27_13, e27_14, e27_16, e27_17, e27_18, e27_21, e27_24, e27_25, e27_27, e27_28, e27_29, e27_32, e27_35, e27_36, e27_38, e27_39, e27_40, e27_43, e27_46, e27_47, e27_48, e27_51, e27_53, e27_55, e27_58, e27_59, e27_60, e27_62, e27_65, e27_66, e27_70, e27_72, e27_75, e27_76, e27_77, e27_78, e27_79, e27_81, e27_84, e27_85, e27_86, e27_87, e27_90, e27_93, e27_96, e27_97, e27_99, e27_102, st_g0, st_g1, st_g2, st_g3, st_g4, st_g5, st_g6, st_g7, st_p6, st_p7, st_l0, st_l1, st_l2, st_l3, st_l4, st_l5, st_s0, st_s1, st_s2, st_s3, st_s4, st_s5, st_is, nw_is_st hd, nw_g0_st hd, nw_g1_st hd, nw_p1_st hd, nw_l0_st hd, nw_s0_st hd, Option.bind_some, Option.toList_some, Option.toList_none, List.cons_append, List.nil_append, true_or, or_true, and_true, true_and, i10, Bool.false_eq_true, if_true, if_false, reduceIte, e1, a2, s_sizeOf hR hb hc, c2, s_roomOf hR hb hc, d2, s_gapsOf hR hb hc, f2, s_pileOf hR hb hc, e0.trans (eq_false q), g2]
      exact m2
end WRITER
