/-! THE VIEW: what it answers once it has looked -/
def vwR (V : oS) (σ : mS) : Prop := V.2 0 = nI σ.1 ∧ ∀ c, c < σ.1 → V.1 0 c = nI (σ.2 c 0) ∧ V.1 1 c = nI (dpt σ c) ∧ V.1 2 c = nI (sgs σ c)
section VIEW2
variable {d : Nat} {h : zH} {v i : Nat} {V M : oS} {σ : mS} {c : Nat}
theorem x_isPlace {p : Nat} (hp : p < 4) : ev d 124 0 [some (.int (nI p))] [] h = some (some (.int 1), h) := by
  have e1 : (nI p < 0) = False := eq_false (nI_pos (by omega))
  have e2 : ((4 : Int32) ≤ nI p) = False := by rw [show (4 : Int32) = nI 4 from rfl, nI_lep (by omega) (by omega)]; exact eq_false (by omega)
  simp only [e124_0, e124_1, e124_4, e124_5, e124_6, e124_9, e124_10, e124_13, e124_14, Option.bind_some, Option.toList_some, Option.toList_none, List.cons_append, List.nil_append, true_or, or_true, and_true, true_and, i10, Bool.false_eq_true, if_true, if_false, reduceIte, e1, e2]
theorem v_signAt (hV : vwR V σ) (hb : bnd σ) (hc : c < σ.1) {p : Nat} (hp : p < 4) : ev (d + 1) 85 0 [some (.ref v), some (.int (nI c)), some (.int (nI p)), none] [] (hvw h v V) = some (some (.int (nI (sgn σ c p))), hvw h v V) := by
  have hn := hb.1
  obtain ⟨h0, h1⟩ := hV
  obtain ⟨a0, a1, a2⟩ := h1 c hc
  have e1 : (nI c < 0) = False := eq_false (nI_pos (by omega))
  have e2 : (nI σ.1 ≤ nI c) = False := by rw [nI_lep (by omega) (by omega)]; exact eq_false (by omega)
  have hg := sgs_b hb hc
  simp only [e85_0, e85_1, e85_4, e85_5, e85_6, e85_9, e85_12, e85_13, e85_16, e85_19, e85_20, e85_23, e85_24, e85_25, e85_26, e85_29, e85_30, e85_33, e85_34, e85_35, e85_36, e85_37, e85_38, e85_39, e85_41, e85_42, e85_45, e85_47, vw_g0, vw_g1, vw_g2, vw_g3, vw_p3, vw_l0, vw_l1, vw_l2, vw_s0, vw_s1, vw_s2, vw_is, Option.bind_some, Option.toList_some, Option.toList_none, List.cons_append, List.nil_append, true_or, or_true, and_true, true_and, i10, Bool.false_eq_true, if_true, if_false, reduceIte, e1, e2, h0, x_isPlace hp, zrd_nI (show c < 12 by omega) (by decide), a2, z_unp hg hp, sgs_d hb hc hp]
theorem v_shows (hV : vwR V σ) (hb : bnd σ) (hc : c < σ.1) {p : Nat} (hp : p < 4) {x : Int32} : ev (d + 2) 86 0 [some (.ref v), some (.int (nI c)), some (.int (nI p)), some (.int x)] [] (hvw h v V) = some (some (.int (bI (x = 28 ∨ nI (sgn σ c p) = x))), hvw h v V) := by
  simp only [e86_0, e86_1, e86_3, e86_6, e86_7, e86_8, e86_9, e86_12, e86_13, e86_16, e86_17, e86_20, e86_21, vw_g0, vw_g1, vw_g2, vw_g3, vw_p3, vw_l0, vw_l1, vw_l2, vw_s0, vw_s1, vw_s2, vw_is, Option.bind_some, Option.toList_some, Option.toList_none, List.cons_append, List.nil_append, true_or, or_true, and_true, true_and, i10, Bool.false_eq_true, if_true, if_false, reduceIte, v_signAt hV hb hc hp]
  by_cases q1 : x = 28
  · subst q1; simp [bI]
  · by_cases q2 : nI (sgn σ c p) = x <;> simp [q1, q2, bI]
theorem v_lettersSeenOf (hV : vwR V σ) (hb : bnd σ) (hc : c < σ.1) : ev (d + 2) 87 0 [some (.ref v), some (.int (nI c)), none, none] [] (hvw h v V) = some (some (.int (nI (lsn σ c))), hvw h v V) := by
  have step : ∀ (k s : Nat), k < 4 → ev (d + 2) 87 4 [some (.ref v), some (.int (nI c)), some (.int (nI s)), some (.int (nI k))] [] (hvw h v V) = ev (d + 2) 87 4 [some (.ref v), some (.int (nI c)), some (.int (nI (s + if decide (sgn σ c k < 26) then 1 else 0))), some (.int (nI (k + 1)))] [] (hvw h v V) := by
    intro k s hk
    have e2 : ((4 : Int32) ≤ nI k) = False := by rw [show (4 : Int32) = nI 4 from rfl, nI_lep (by omega) (by omega)]; exact eq_false (by omega)
    have hs := sgn_b hb hc hk
    have e26 : ((26 : Int32) ≤ nI (sgn σ c k)) = (26 ≤ sgn σ c k) := by rw [show (26 : Int32) = nI 26 from rfl, nI_lep (by omega) (by omega)]
    rw [e87_4]
    simp only [e87_0, e87_1, e87_2, e87_3, e87_5, e87_6, e87_9, e87_10, e87_11, e87_12, e87_15, e87_17, e87_20, e87_23, e87_26, e87_29, e87_30, vw_g0, vw_g1, vw_g2, vw_g3, vw_p3, vw_l0, vw_l1, vw_l2, vw_s0, vw_s1, vw_s2, vw_is, Option.bind_some, Option.toList_some, Option.toList_none, List.cons_append, List.nil_append, true_or, or_true, and_true, true_and, i10, Bool.false_eq_true, if_true, if_false, reduceIte, e2, v_signAt hV hb hc hk, e26, nI_1]
    by_cases q : sgn σ c k < 26
    · have q1 : ¬ 26 ≤ sgn σ c k := by omega
      simp [q, q1]
    · have q1 : 26 ≤ sgn σ c k := by omega
      simp [q, q1]
  have fin : ∀ s : Nat, ev (d + 2) 87 4 [some (.ref v), some (.int (nI c)), some (.int (nI s)), some (.int (nI 4))] [] (hvw h v V) = some (some (.int (nI s)), hvw h v V) := by
    intro s
    rw [e87_4]
    simp only [e87_0, e87_1, e87_2, e87_3, e87_5, e87_6, e87_9, e87_10, e87_11, e87_12, e87_15, e87_17, e87_20, e87_23, e87_26, e87_29, e87_30, vw_g0, vw_g1, vw_g2, vw_g3, vw_p3, vw_l0, vw_l1, vw_l2, vw_s0, vw_s1, vw_s2, vw_is, Option.bind_some, Option.toList_some, Option.toList_none, List.cons_append, List.nil_append, true_or, or_true, and_true, true_and, i10, Bool.false_eq_true, if_true, if_false, reduceIte, show (4 : Int32) ≤ nI 4 from by decide]
  simp only [e87_0, e87_1, e87_2, e87_3, e87_5, e87_6, e87_9, e87_10, e87_11, e87_12, e87_15, e87_17, e87_20, e87_23, e87_26, e87_29, e87_30, vw_g0, vw_g1, vw_g2, vw_g3, vw_p3, vw_l0, vw_l1, vw_l2, vw_s0, vw_s1, vw_s2, vw_is, Option.bind_some, Option.toList_some, Option.toList_none, List.cons_append, List.nil_append, true_or, or_true, and_true, true_and, i10, Bool.false_eq_true, if_true, if_false, reduceIte]
  have main := z_for (fun (k : Nat) (s : Nat) => ev (d + 2) 87 4 [some (.ref v), some (.int (nI c)), some (.int (nI s)), some (.int (nI k))] [] (hvw h v V)) (fun (k : Nat) (s : Nat) => s + if decide (sgn σ c k < 26) then 1 else 0) (n := 4) (s := 0) (fun k s hk => step k s hk)
  rw [zfold_ct, fin, Nat.zero_add] at main
  exact main
theorem v_canTell (hV : vwR V σ) (hb : bnd σ) (hc : c < σ.1) : ev d 89 0 [some (.ref v), some (.int (nI c)), none] [] (hvw h v V) = some (some (.int (bI (tld σ c = true))), hvw h v V) := by
  have hn := hb.1
  obtain ⟨h0, h1⟩ := hV
  obtain ⟨b0, b1, b2⟩ := h1 c hc
  have e1 : (nI c < 0) = False := eq_false (nI_pos (by omega))
  have e2 : (nI c < nI σ.1) = True := by rw [nI_ltp (by omega) (by omega)]; exact eq_true hc
  have z2 := (hb.2 c hc).1
  have d2 := dpt_b σ c
  have g2 := sgs_b hb hc
  simp only [e89_0, e89_1, e89_4, e89_5, e89_6, e89_9, e89_12, e89_13, e89_14, e89_15, e89_17, e89_18, e89_21, e89_24, e89_25, e89_26, e89_29, e89_30, e89_33, e89_34, e89_35, e89_36, e89_39, e89_40, e89_41, e89_44, e89_45, e89_48, e89_49, e89_50, e89_51, e89_54, e89_55, e89_56, e89_59, e89_60, e89_63, e89_64, e89_65, e89_66, e89_69, e89_70, e89_71, e89_74, e89_75, e89_76, e89_79, e89_82, e89_83, vw_g0, vw_g1, vw_g2, vw_g3, vw_p3, vw_l0, vw_l1, vw_l2, vw_s0, vw_s1, vw_s2, vw_is, Option.bind_some, Option.toList_some, Option.toList_none, List.cons_append, List.nil_append, true_or, or_true, and_true, true_and, i10, Bool.false_eq_true, if_true, if_false, reduceIte, e1, e2, h0]
  have step : ∀ k, k < σ.1 → ev d 89 16 [some (.ref v), some (.int (nI c)), some (.int (nI k))] [] (hvw h v V) = if (k ≠ c ∧ lke σ c k = true) then (some (some (.int 0), hvw h v V)) else ev d 89 16 [some (.ref v), some (.int (nI c)), some (.int (nI (k + 1)))] [] (hvw h v V) := by
    intro k hk
    obtain ⟨a0, a1, a2⟩ := h1 k hk
    have hlt : (σ.1 ≤ k) = False := eq_false (by omega)
    have z1 := (hb.2 k hk).1
    have d1 := dpt_b σ k
    have g1 := sgs_b hb hk
    rw [e89_16]
    simp only [e89_0, e89_1, e89_4, e89_5, e89_6, e89_9, e89_12, e89_13, e89_14, e89_15, e89_17, e89_18, e89_21, e89_24, e89_25, e89_26, e89_29, e89_30, e89_33, e89_34, e89_35, e89_36, e89_39, e89_40, e89_41, e89_44, e89_45, e89_48, e89_49, e89_50, e89_51, e89_54, e89_55, e89_56, e89_59, e89_60, e89_63, e89_64, e89_65, e89_66, e89_69, e89_70, e89_71, e89_74, e89_75, e89_76, e89_79, e89_82, e89_83, vw_g0, vw_g1, vw_g2, vw_g3, vw_p3, vw_l0, vw_l1, vw_l2, vw_s0, vw_s1, vw_s2, vw_is, Option.bind_some, Option.toList_some, Option.toList_none, List.cons_append, List.nil_append, true_or, or_true, and_true, true_and, i10, Bool.false_eq_true, if_true, if_false, reduceIte, h0, nI_lep (show σ.1 < 2147483648 by omega) (show k < 2147483648 by omega), hlt, nI_1, nI_eqp (show k < 2147483648 by omega) (show c < 2147483648 by omega), zrd_nI (show k < 12 by omega) (by decide), zrd_nI (show c < 12 by omega) (by decide), a0, a1, a2, b0, b1, b2, nI_eqp (show σ.2 k 0 < 2147483648 by omega) (show σ.2 c 0 < 2147483648 by omega), nI_eqp (show dpt σ k < 2147483648 by omega) (show dpt σ c < 2147483648 by omega), nI_eqp (show sgs σ k < 2147483648 by omega) (show sgs σ c < 2147483648 by omega)]
    unfold lke
    by_cases q0 : k = c <;> by_cases q1 : σ.2 k 0 = σ.2 c 0 <;> by_cases q2 : dpt σ k = dpt σ c <;> by_cases q3 : sgs σ k = sgs σ c <;> simp [q0, q1, q2, q3]
  have fin : ev d 89 16 [some (.ref v), some (.int (nI c)), some (.int (nI σ.1))] [] (hvw h v V) = some (some (.int 1), hvw h v V) := by
    rw [e89_16]
    simp only [e89_0, e89_1, e89_4, e89_5, e89_6, e89_9, e89_12, e89_13, e89_14, e89_15, e89_17, e89_18, e89_21, e89_24, e89_25, e89_26, e89_29, e89_30, e89_33, e89_34, e89_35, e89_36, e89_39, e89_40, e89_41, e89_44, e89_45, e89_48, e89_49, e89_50, e89_51, e89_54, e89_55, e89_56, e89_59, e89_60, e89_63, e89_64, e89_65, e89_66, e89_69, e89_70, e89_71, e89_74, e89_75, e89_76, e89_79, e89_82, e89_83, vw_g0, vw_g1, vw_g2, vw_g3, vw_p3, vw_l0, vw_l1, vw_l2, vw_s0, vw_s1, vw_s2, vw_is, Option.bind_some, Option.toList_some, Option.toList_none, List.cons_append, List.nil_append, true_or, or_true, and_true, true_and, i10, Bool.false_eq_true, if_true, if_false, reduceIte, h0, Int32.le_refl]
  have main := z_first (fun k => ev d 89 16 [some (.ref v), some (.int (nI c)), some (.int (nI k))] [] (hvw h v V)) (fun _ => some (some (.int 0), hvw h v V)) (fun k => k ≠ c ∧ lke σ c k = true) step
  rcases main with ⟨k, hk, hp, -, e⟩ | ⟨hall, e⟩
  · refine Eq.trans e ?_
    rw [bI_f]
    intro ht
    have := alb_iff.mp ht k hk
    simp [hp.1, hp.2] at this
  · refine Eq.trans e ?_
    rw [fin, bI_t]
    refine alb_iff.mpr (fun k hk => ?_)
    have := hall k hk
    by_cases q : k = c
    · simp [q]
    · cases q1 : lke σ c k with
      | false => simp
      | true => exact absurd ⟨q, q1⟩ this
theorem v_lettersSeen (hR : vwR V σ) (hb : bnd σ)  : ev (d + 3) 88 0 [some (.ref v), none, none] [] (hvw h v V) = some (some (.int (nI (sm (lsn σ) σ.1))), hvw h v V) := by
  have hn := hb.1
  have h0 := hR.1
  have step : ∀ (k : Nat) (s : Nat), k < σ.1 → ev (d + 3) 88 4 [some (.ref v), some (.int (nI s)), some (.int (nI k))] [] (hvw h v V) = ev (d + 3) 88 4 [some (.ref v), some (.int (nI (s + lsn σ k))), some (.int (nI (k + 1)))] [] (hvw h v V) := by
    intro k s hk
    have hlt : (σ.1 ≤ k) = False := eq_false (by omega)
    rw [e88_4]
    simp only [e88_0, e88_1, e88_2, e88_3, e88_5, e88_6, e88_9, e88_12, e88_13, e88_14, e88_15, e88_18, e88_19, e88_20, e88_23, e88_26, e88_27, vw_g0, vw_g1, vw_g2, vw_g3, vw_p3, vw_l0, vw_l1, vw_l2, vw_s0, vw_s1, vw_s2, vw_is, Option.bind_some, Option.toList_some, Option.toList_none, List.cons_append, List.nil_append, true_or, or_true, and_true, true_and, i10, Bool.false_eq_true, if_true, if_false, reduceIte, h0, nI_lep (show σ.1 < 2147483648 by omega) (show k < 2147483648 by omega), hlt, nI_1, v_lettersSeenOf hR hb hk, nI_add]
    
  have fin : ∀ s : Nat, ev (d + 3) 88 4 [some (.ref v), some (.int (nI s)), some (.int (nI σ.1))] [] (hvw h v V) = some (some (.int (nI s)), hvw h v V) := by
    intro s
    rw [e88_4]
    simp only [e88_0, e88_1, e88_2, e88_3, e88_5, e88_6, e88_9, e88_12, e88_13, e88_14, e88_15, e88_18, e88_19, e88_20, e88_23, e88_26, e88_27, vw_g0, vw_g1, vw_g2, vw_g3, vw_p3, vw_l0, vw_l1, vw_l2, vw_s0, vw_s1, vw_s2, vw_is, Option.bind_some, Option.toList_some, Option.toList_none, List.cons_append, List.nil_append, true_or, or_true, and_true, true_and, i10, Bool.false_eq_true, if_true, if_false, reduceIte, h0, Int32.le_refl]
  simp only [e88_0, e88_1, e88_2, e88_3, e88_5, e88_6, e88_9, e88_12, e88_13, e88_14, e88_15, e88_18, e88_19, e88_20, e88_23, e88_26, e88_27, vw_g0, vw_g1, vw_g2, vw_g3, vw_p3, vw_l0, vw_l1, vw_l2, vw_s0, vw_s1, vw_s2, vw_is, Option.bind_some, Option.toList_some, Option.toList_none, List.cons_append, List.nil_append, true_or, or_true, and_true, true_and, i10, Bool.false_eq_true, if_true, if_false, reduceIte, h0]
  have main := z_for (fun (k : Nat) (s : Nat) => ev (d + 3) 88 4 [some (.ref v), some (.int (nI s)), some (.int (nI k))] [] (hvw h v V)) (fun (k : Nat) (s : Nat) => s + lsn σ k) (n := σ.1) (s := 0) (fun k s hk => step k s hk)
  rw [zfold_sm, Nat.zero_add, fin] at main
  exact main
theorem v_tellable (hR : vwR V σ) (hb : bnd σ)  : ev (d + 1) 90 0 [some (.ref v), none, none] [] (hvw h v V) = some (some (.int (nI (ct (tld σ) σ.1))), hvw h v V) := by
  have hn := hb.1
  have h0 := hR.1
  have step : ∀ (k : Nat) (s : Nat), k < σ.1 → ev (d + 1) 90 4 [some (.ref v), some (.int (nI s)), some (.int (nI k))] [] (hvw h v V) = ev (d + 1) 90 4 [some (.ref v), some (.int (nI (s + if tld σ k then 1 else 0))), some (.int (nI (k + 1)))] [] (hvw h v V) := by
    intro k s hk
    have hlt : (σ.1 ≤ k) = False := eq_false (by omega)
    rw [e90_4]
    simp only [e90_0, e90_1, e90_2, e90_3, e90_5, e90_6, e90_9, e90_12, e90_13, e90_14, e90_17, e90_20, e90_23, e90_26, e90_29, e90_30, vw_g0, vw_g1, vw_g2, vw_g3, vw_p3, vw_l0, vw_l1, vw_l2, vw_s0, vw_s1, vw_s2, vw_is, Option.bind_some, Option.toList_some, Option.toList_none, List.cons_append, List.nil_append, true_or, or_true, and_true, true_and, i10, Bool.false_eq_true, if_true, if_false, reduceIte, h0, nI_lep (show σ.1 < 2147483648 by omega) (show k < 2147483648 by omega), hlt, nI_1, v_canTell hR hb hk, bI_0]
    cases q : tld σ k <;> simp [q]
  have fin : ∀ s : Nat, ev (d + 1) 90 4 [some (.ref v), some (.int (nI s)), some (.int (nI σ.1))] [] (hvw h v V) = some (some (.int (nI s)), hvw h v V) := by
    intro s
    rw [e90_4]
    simp only [e90_0, e90_1, e90_2, e90_3, e90_5, e90_6, e90_9, e90_12, e90_13, e90_14, e90_17, e90_20, e90_23, e90_26, e90_29, e90_30, vw_g0, vw_g1, vw_g2, vw_g3, vw_p3, vw_l0, vw_l1, vw_l2, vw_s0, vw_s1, vw_s2, vw_is, Option.bind_some, Option.toList_some, Option.toList_none, List.cons_append, List.nil_append, true_or, or_true, and_true, true_and, i10, Bool.false_eq_true, if_true, if_false, reduceIte, h0, Int32.le_refl]
  simp only [e90_0, e90_1, e90_2, e90_3, e90_5, e90_6, e90_9, e90_12, e90_13, e90_14, e90_17, e90_20, e90_23, e90_26, e90_29, e90_30, vw_g0, vw_g1, vw_g2, vw_g3, vw_p3, vw_l0, vw_l1, vw_l2, vw_s0, vw_s1, vw_s2, vw_is, Option.bind_some, Option.toList_some, Option.toList_none, List.cons_append, List.nil_append, true_or, or_true, and_true, true_and, i10, Bool.false_eq_true, if_true, if_false, reduceIte, h0]
  have main := z_for (fun (k : Nat) (s : Nat) => ev (d + 1) 90 4 [some (.ref v), some (.int (nI s)), some (.int (nI k))] [] (hvw h v V)) (fun (k : Nat) (s : Nat) => s + if tld σ k then 1 else 0) (n := σ.1) (s := 0) (fun k s hk => step k s hk)
  rw [zfold_ct, Nat.zero_add, fin] at main
  exact main
/-- how many different rows of signs -/
def dif (σ : mS) : Nat := ct (fun c => alb (fun e => !decide (sgs σ e = sgs σ c)) c) σ.1
theorem v_differentRows (hR : vwR V σ) (hb : bnd σ) : ev d 91 0 [some (.ref v), none, none, none, none] [] (hvw h v V) = some (some (.int (nI (dif σ))), hvw h v V) := by
  have hn := hb.1
  obtain ⟨h0, h1⟩ := hR
  have inner : ∀ (c s : Nat), c < σ.1 → ev d 91 17 [some (.ref v), some (.int (nI s)), some (.int (nI c)), some (.int (bI (true = true))), some (.int (nI 0))] [] (hvw h v V) = ev d 91 17 [some (.ref v), some (.int (nI s)), some (.int (nI c)), some (.int (bI ((alb (fun e => !decide (sgs σ e = sgs σ c)) c) = true))), some (.int (nI c))] [] (hvw h v V) := by
    intro c s hc
    have := z_for (fun (k : Nat) (b : Bool) => ev d 91 17 [some (.ref v), some (.int (nI s)), some (.int (nI c)), some (.int (bI (b = true))), some (.int (nI k))] [] (hvw h v V)) (fun k b => b && !decide (sgs σ k = sgs σ c)) (n := c) (s := true) (fun k b hk => by
      obtain ⟨a0, a1, a2⟩ := h1 k (by omega)
      obtain ⟨b0, b1, b2⟩ := h1 c hc
      have g1 := sgs_b hb (show k < σ.1 by omega)
      have g2 := sgs_b hb hc
      have hlt : (c ≤ k) = False := eq_false (by omega)
      rw [e91_17]
      simp only [e91_0, e91_1, e91_2, e91_3, e91_5, e91_6, e91_9, e91_12, e91_13, e91_14, e91_15, e91_19, e91_20, e91_23, e91_24, e91_27, e91_29, e91_30, e91_31, e91_34, e91_35, e91_36, e91_39, e91_40, e91_41, e91_44, e91_47, e91_48, e91_49, e91_52, e91_53, e91_56, e91_57, e91_58, e91_59, e91_62, e91_65, e91_66, vw_g0, vw_g1, vw_g2, vw_g3, vw_p3, vw_l0, vw_l1, vw_l2, vw_s0, vw_s1, vw_s2, vw_is, Option.bind_some, Option.toList_some, Option.toList_none, List.cons_append, List.nil_append, true_or, or_true, and_true, true_and, i10, Bool.false_eq_true, if_true, if_false, reduceIte, nI_lep (show c < 2147483648 by omega) (show k < 2147483648 by omega), hlt, nI_1, zrd_nI (show k < 12 by omega) (by decide), zrd_nI (show c < 12 by omega) (by decide), a2, b2, nI_eqp (show sgs σ k < 2147483648 by omega) (show sgs σ c < 2147483648 by omega)]
      by_cases q : sgs σ k = sgs σ c <;> cases b <;> simp [q, bI])
    rw [zfold_alb, Bool.true_and] at this
    exact this
  have step : ∀ (k s : Nat) (x : Option Value × Option Value), k < σ.1 → ∃ y : Option Value × Option Value, ev d 91 4 [some (.ref v), some (.int (nI s)), some (.int (nI k)), x.1, x.2] [] (hvw h v V) = ev d 91 4 [some (.ref v), some (.int (nI (s + if alb (fun e => !decide (sgs σ e = sgs σ k)) k then 1 else 0))), some (.int (nI (k + 1))), y.1, y.2] [] (hvw h v V) := by
    intro k s x hk
    have hlt : (σ.1 ≤ k) = False := eq_false (by omega)
    have e1 : ev d 91 4 [some (.ref v), some (.int (nI s)), some (.int (nI k)), x.1, x.2] [] (hvw h v V) = ev d 91 17 [some (.ref v), some (.int (nI s)), some (.int (nI k)), some (.int (bI (true = true))), some (.int (nI 0))] [] (hvw h v V) := by
      rw [e91_4]
      simp only [e91_0, e91_1, e91_2, e91_3, e91_5, e91_6, e91_9, e91_12, e91_13, e91_14, e91_15, e91_19, e91_20, e91_23, e91_24, e91_27, e91_29, e91_30, e91_31, e91_34, e91_35, e91_36, e91_39, e91_40, e91_41, e91_44, e91_47, e91_48, e91_49, e91_52, e91_53, e91_56, e91_57, e91_58, e91_59, e91_62, e91_65, e91_66, vw_g0, vw_g1, vw_g2, vw_g3, vw_p3, vw_l0, vw_l1, vw_l2, vw_s0, vw_s1, vw_s2, vw_is, Option.bind_some, Option.toList_some, Option.toList_none, List.cons_append, List.nil_append, true_or, or_true, and_true, true_and, i10, Bool.false_eq_true, if_true, if_false, reduceIte, h0, nI_lep (show σ.1 < 2147483648 by omega) (show k < 2147483648 by omega), hlt]
      rfl
    rw [e1, inner k s hk, e91_17]
    simp only [e91_0, e91_1, e91_2, e91_3, e91_5, e91_6, e91_9, e91_12, e91_13, e91_14, e91_15, e91_19, e91_20, e91_23, e91_24, e91_27, e91_29, e91_30, e91_31, e91_34, e91_35, e91_36, e91_39, e91_40, e91_41, e91_44, e91_47, e91_48, e91_49, e91_52, e91_53, e91_56, e91_57, e91_58, e91_59, e91_62, e91_65, e91_66, vw_g0, vw_g1, vw_g2, vw_g3, vw_p3, vw_l0, vw_l1, vw_l2, vw_s0, vw_s1, vw_s2, vw_is, Option.bind_some, Option.toList_some, Option.toList_none, List.cons_append, List.nil_append, true_or, or_true, and_true, true_and, i10, Bool.false_eq_true, if_true, if_false, reduceIte, Int32.le_refl, bI_0, nI_1]
    cases q : alb (fun e => !decide (sgs σ e = sgs σ k)) k with
    | true => simp only [not_true_eq_false, Option.bind_some, Option.toList_some, Option.toList_none, List.cons_append, List.nil_append, true_or, or_true, and_true, true_and, i10, Bool.false_eq_true, if_true, if_false, reduceIte, nI_1]; exact ⟨(_, _), rfl⟩
    | false =>
      simp only [Bool.false_eq_true, not_false_eq_true, Option.bind_some, Option.toList_some, Option.toList_none, List.cons_append, List.nil_append, true_or, or_true, and_true, true_and, i10, Bool.false_eq_true, if_true, if_false, reduceIte, Nat.add_zero]
      rw [show (0 : Int32) = nI 0 from rfl, nI_add, Nat.add_zero]
      exact ⟨(_, _), rfl⟩
  have fin : ∀ (s : Nat) (x : Option Value × Option Value), ev d 91 4 [some (.ref v), some (.int (nI s)), some (.int (nI σ.1)), x.1, x.2] [] (hvw h v V) = some (some (.int (nI s)), hvw h v V) := by
    intro s x
    rw [e91_4]
    simp only [e91_0, e91_1, e91_2, e91_3, e91_5, e91_6, e91_9, e91_12, e91_13, e91_14, e91_15, e91_19, e91_20, e91_23, e91_24, e91_27, e91_29, e91_30, e91_31, e91_34, e91_35, e91_36, e91_39, e91_40, e91_41, e91_44, e91_47, e91_48, e91_49, e91_52, e91_53, e91_56, e91_57, e91_58, e91_59, e91_62, e91_65, e91_66, vw_g0, vw_g1, vw_g2, vw_g3, vw_p3, vw_l0, vw_l1, vw_l2, vw_s0, vw_s1, vw_s2, vw_is, Option.bind_some, Option.toList_some, Option.toList_none, List.cons_append, List.nil_append, true_or, or_true, and_true, true_and, i10, Bool.false_eq_true, if_true, if_false, reduceIte, h0, Int32.le_refl]
  simp only [e91_0, e91_1, e91_2, e91_3, e91_5, e91_6, e91_9, e91_12, e91_13, e91_14, e91_15, e91_19, e91_20, e91_23, e91_24, e91_27, e91_29, e91_30, e91_31, e91_34, e91_35, e91_36, e91_39, e91_40, e91_41, e91_44, e91_47, e91_48, e91_49, e91_52, e91_53, e91_56, e91_57, e91_58, e91_59, e91_62, e91_65, e91_66, vw_g0, vw_g1, vw_g2, vw_g3, vw_p3, vw_l0, vw_l1, vw_l2, vw_s0, vw_s1, vw_s2, vw_is, Option.bind_some, Option.toList_some, Option.toList_none, List.cons_append, List.nil_append, true_or, or_true, and_true, true_and, i10, Bool.false_eq_true, if_true, if_false, reduceIte]
  have main := z_forJ (fun (k s : Nat) (x : Option Value × Option Value) => ev d 91 4 [some (.ref v), some (.int (nI s)), some (.int (nI k)), x.1, x.2] [] (hvw h v V)) (fun k s => s + if alb (fun e => !decide (sgs σ e = sgs σ k)) k then 1 else 0) _ (fun k s x hk => step k s x hk) fin 0 (none, none)
  rw [zfold_ct, Nat.zero_add] at main
  exact main
end VIEW2
