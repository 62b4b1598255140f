/-! WHAT LIES WHERE; THE HISTORY OF THE CLASS -/
def at_ (H : zH) (i : Nat) (l : List zC) : Prop := ∀ k c, l[k]? = some c → zg H (i + k) = c
theorem at_self {H : zH} {i : Nat} {l : List zC} (h : at_ H i l) : hrg H i l = H := hrg_self h
theorem at_new {H : zH} {i : Nat} {l : List zC} : at_ (hrg H i l) i l := fun _ _ hk => hrg_get hk
theorem at_len {l : List zC} {k : Nat} {c : zC} (h : l[k]? = some c) : k < l.length := by
  rcases Nat.lt_or_ge k l.length with z | z
  · exact z
  · rw [List.getElem?_eq_none z] at h
    cases h
theorem at_out {H : zH} {i j : Nat} {l m : List zC} (h : at_ H j m) (hd : j + m.length ≤ i ∨ i + l.length ≤ j) : at_ (hrg H i l) j m := fun k c hk => by
  have := at_len hk
  rw [hrg_out (by omega)]
  exact h k c hk
theorem at_fr {H H' : zH} {j : Nat} {m : List zC} (h : at_ H j m) (hf : ∀ k, j ≤ k → k < j + m.length → zg H' k = zg H k) : at_ H' j m := fun k c hk => by
  have := at_len hk
  rw [hf _ (by omega) (by omega)]
  exact h k c hk
/-- the rest of a heap -/
def sme (H H' : zH) : Prop := H'.1 = H.1 ∧ H'.2.1 = H.2.1 ∧ H'.2.2.2 = H.2.2.2
theorem sme_r (H : zH) : sme H H := ⟨rfl, rfl, rfl⟩
theorem sme_hrg {H : zH} {i : Nat} {l : List zC} : sme H (hrg H i l) := ⟨rfl, rfl, rfl⟩
theorem sme_t {H H' H'' : zH} (h : sme H H') (h' : sme H' H'') : sme H H'' := ⟨h'.1.trans h.1, h'.2.1.trans h.2.1, h'.2.2.trans h.2.2⟩
def hsL (i : Nat) (P : Nat → Option Nat) (L : Int32) : List zC := [.inr (.inr (0, [.ref (i + 1), .int L])), .inr (.inl (4, P))]
theorem hs_len {i : Nat} {P : Nat → Option Nat} {L : Int32} : (hsL i P L).length = 2 := rfl
section HS
variable {H : zH} {P : Nat → Option Nat} {L : Int32}
theorem hs_is (h : at_ H 22 (hsL 22 P L)) : zis H 22 0 = true := by
  unfold zis
  rw [show zg H 22 = _ from h 0 _ rfl]
  rfl
theorem hs_g0 (h : at_ H 22 (hsL 22 P L)) : zgetf H 22 0 0 = some (.ref 23) := by
  unfold zgetf
  rw [show zg H 22 = _ from h 0 _ rfl]
  rfl
theorem hs_g1 (h : at_ H 22 (hsL 22 P L)) : zgetf H 22 0 1 = some (.int L) := by
  unfold zgetf
  rw [show zg H 22 = _ from h 0 _ rfl]
  rfl
theorem hs_p1 (h : at_ H 22 (hsL 22 P L)) {x : Int32} : zputf H 22 0 1 (.int x) = some (hrg H 22 (hsL 22 P x)) := by
  unfold zputf
  rw [show zg H 22 = _ from h 0 _ rfl]
  have := hrg_set (h := H) (i := 22) (k := 0) (l := hsL 22 P L) (c := .inr (.inr (0, [.ref (22 + 1), .int x]))) (by rw [hs_len]; omega)
  rw [at_self h] at this
  exact congrArg some this
theorem hs_a (h : at_ H 22 (hsL 22 P L)) {j : Int32} : zaldq H 23 j = if zin j 4 = true then P j.toNatClampNeg else none := by
  unfold zaldq
  rw [show zg H 23 = _ from h 1 _ rfl]
theorem hs_n (h : at_ H 22 (hsL 22 P L)) : zlen H 23 = some 4 := by
  unfold zlen
  rw [show zg H 23 = _ from h 1 _ rfl]
  rfl
theorem hs_s (h : at_ H 22 (hsL 22 P L)) {j : Int32} {k : Nat} (hj : zin j 4 = true) (hk : zis H k 5 = true) : zastq H 23 j k = some (hrg H 22 (hsL 22 (va_up P j.toNatClampNeg (some k)) L)) := by
  unfold zastq
  rw [show zg H 23 = _ from h 1 _ rfl]
  have := hrg_set (h := H) (i := 22) (k := 1) (l := hsL 22 P L) (c := .inr (.inl (4, va_up P j.toNatClampNeg (some k)))) (by rw [hs_len]; omega)
  rw [at_self h] at this
  simp only [hj, hk, and_self, if_true]
  exact congrArg some this
end HS
/-- the history: its states lie at 24, 31, 38 and 45 in some order -/
def hsI (H : zH) (e : Nat → mS × Int32) (len : Nat) : Prop := len ≤ 4 ∧ ∃ (P : Nat → Option Nat) (q : Nat → Nat), at_ H 22 (hsL 22 P (nI len)) ∧ (∀ j, j < 4 → q j < 4 ∧ P j = some (24 + 7 * q j)) ∧ (∀ j k, j < 4 → k < 4 → q j = q k → j = k) ∧ (∀ j, j < 4 → ∃ T, at_ H (24 + 7 * q j) (stL (24 + 7 * q j) T) ∧ (j < len → stR T (e j).1 ∧ T.2 1 = (e j).2 ∧ (e j).1.1 ≤ 12))
theorem at_st {H : zH} {i : Nat} {T : oS} (h : at_ H i (stL i T)) : hst H i T = H := at_self h
theorem x_keep12 {H : zH} {e : Nat → mS × Int32} {len s d : Nat} {S : oS} {σ : mS} {r : Int32} (hI : hsI H e len) (hl : len < 4) (hs : s + 7 ≤ 22) (hS : at_ H s (stL s S)) (hR : stR S σ) (h1 : S.2 1 = r) (hn : σ.1 ≤ 12) : ∃ H', hsI H' (fun j => if j = len then (σ, r) else e j) (len + 1) ∧ (∀ k, k < 22 ∨ 52 ≤ k → zg H' k = zg H k) ∧ sme H H' ∧ ev (d + 1) 2 12 [some (.ref 22), some (.ref s)] [] H = some (none, H') := by
  obtain ⟨hl4, P, q, g0, g1, g2, g3⟩ := hI
  obtain ⟨T, t1, -⟩ := g3 len hl
  obtain ⟨q1, q2⟩ := g1 len hl
  have hc := s_copyFrom (d := d) (h := H) (v := s) (i := 24 + 7 * q len) (V := S) (S := T) (by omega)
  rw [at_st hS, at_st t1] at hc
  have hal : zaldq H 23 (nI len) = some (24 + 7 * q len) := by
    rw [hs_a g0, zin_T hl (by decide), nI_clamp (by omega), if_pos rfl, q2]
  have his : zis H (24 + 7 * q len) 5 = true := by
    have := st_is (h := H) (i := 24 + 7 * q len) (S := T)
    rw [at_st t1] at this
    exact this
  have g0' : at_ (hst H (24 + 7 * q len) (cpS T S)) 22 (hsL 22 P (nI len)) := at_out g0 (by rw [hs_len, st_len]; omega)
  refine ⟨hrg (hst H (24 + 7 * q len) (cpS T S)) 22 (hsL 22 P (nI (len + 1))), ⟨by omega, P, q, at_new, g1, g2, fun j hj => ?_⟩, fun k hk => ?_, sme_t sme_hrg sme_hrg, ?_⟩
  · obtain ⟨q3, q4⟩ := g1 j hj
    by_cases w : j = len
    · subst w
      refine ⟨cpS T S, at_out at_new (by rw [hs_len, st_len]; omega), fun _ => ?_⟩
      dsimp only
      rw [if_pos rfl]
      exact ⟨stR_cp hR hn, cpS_1.trans h1, hn⟩
    · obtain ⟨U, u1, u2⟩ := g3 j hj
      have hne : q j ≠ q len := fun z => w (g2 j len hj hl z)
      refine ⟨U, at_out (at_out u1 (by rw [st_len, st_len]; omega)) (by rw [hs_len, st_len]; omega), fun hjl => ?_⟩
      dsimp only
      rw [if_neg w]
      exact u2 (by omega)
  · rw [hrg_out (by rw [hs_len]; omega)]
    exact hrg_out (by rw [st_len]; omega)
  · simp only [e2_0, e2_1, e2_4, e2_5, e2_8, e2_9, e2_12, e2_13, e2_16, e2_17, e2_20, e2_21, e2_22, e2_25, e2_26, e2_27, e2_30, e2_31, e2_32, e2_35, Option.bind_some, Option.toList_some, Option.toList_none, List.cons_append, List.nil_append, true_or, or_true, and_true, true_and, i10, Bool.false_eq_true, if_true, if_false, reduceIte, hs_g0 g0, hs_g1 g0, hal, his, hc, hs_g0 g0', hs_g1 g0', hs_p1 g0', nI_1]
theorem x_drop {H : zH} {e : Nat → mS × Int32} {d : Nat} (hI : hsI H e 4) : ∃ H', hsI H' (fun j => e (j + 1)) 3 ∧ (∀ k, k < 22 ∨ 52 ≤ k → zg H' k = zg H k) ∧ sme H H' ∧ ev d 3 0 [some (.ref 22), none, none] [] H = some (none, H') := by
  obtain ⟨-, P, q, g0, g1, g2, g3⟩ := hI
  have his : ∀ j, j < 4 → zis H (24 + 7 * q j) 5 = true := by
    intro j hj
    obtain ⟨T, t1, -⟩ := g3 j hj
    have := st_is (h := H) (i := 24 + 7 * q j) (S := T)
    rw [at_st t1] at this
    exact this
  have his2 : ∀ P' L j, j < 4 → zis (hrg H 22 (hsL 22 P' L)) (24 + 7 * q j) 5 = true := by
    intro P' L j hj
    rw [zis_out (by rw [hs_len]; omega)]
    exact his j hj
  have hh : ∀ P' L P'' L', hrg (hrg H 22 (hsL 22 P' L)) 22 (hsL 22 P'' L') = hrg H 22 (hsL 22 P'' L') := fun _ _ _ _ => hrg_hrg rfl
  have hH : hrg H 22 (hsL 22 P (nI 4)) = H := at_self g0
  have s0 : zis H (24 + 7 * q 0) 5 = true := his 0 (by decide)
  have s1 : zis H (24 + 7 * q 1) 5 = true := his 1 (by decide)
  have p0 : zaldq H 23 0 = some (24 + 7 * q 0) := (hs_a g0).trans (g1 0 (by decide)).2
  have p1 : zaldq H 23 1 = some (24 + 7 * q 1) := (hs_a g0).trans (g1 1 (by decide)).2
  have a1 : zastq H 23 0 (24 + 7 * q 1) = some (hrg H 22 (hsL 22 (va_up P 0 (some (24 + 7 * q 1))) (nI 4))) := hs_s g0 (by decide) (his 1 (by decide))
  have p2 : zaldq (hrg H 22 (hsL 22 (va_up P 0 (some (24 + 7 * q 1))) (nI 4))) 23 2 = some (24 + 7 * q 2) := (hs_a at_new).trans (g1 2 (by decide)).2
  have a2 : zastq (hrg H 22 (hsL 22 (va_up P 0 (some (24 + 7 * q 1))) (nI 4))) 23 1 (24 + 7 * q 2) = some (hrg H 22 (hsL 22 (va_up (va_up P 0 (some (24 + 7 * q 1))) 1 (some (24 + 7 * q 2))) (nI 4))) := (hs_s at_new (by decide) (his2 _ _ 2 (by decide))).trans (congrArg some (hh _ _ _ _))
  have p3 : zaldq (hrg H 22 (hsL 22 (va_up (va_up P 0 (some (24 + 7 * q 1))) 1 (some (24 + 7 * q 2))) (nI 4))) 23 3 = some (24 + 7 * q 3) := (hs_a at_new).trans (g1 3 (by decide)).2
  have a3 : zastq (hrg H 22 (hsL 22 (va_up (va_up P 0 (some (24 + 7 * q 1))) 1 (some (24 + 7 * q 2))) (nI 4))) 23 2 (24 + 7 * q 3) = some (hrg H 22 (hsL 22 (va_up (va_up (va_up P 0 (some (24 + 7 * q 1))) 1 (some (24 + 7 * q 2))) 2 (some (24 + 7 * q 3))) (nI 4))) := (hs_s at_new (by decide) (his2 _ _ 3 (by decide))).trans (congrArg some (hh _ _ _ _))
  have a4 : zastq (hrg H 22 (hsL 22 (va_up (va_up (va_up P 0 (some (24 + 7 * q 1))) 1 (some (24 + 7 * q 2))) 2 (some (24 + 7 * q 3))) (nI 4))) 23 3 (24 + 7 * q 0) = some (hrg H 22 (hsL 22 (va_up (va_up (va_up (va_up P 0 (some (24 + 7 * q 1))) 1 (some (24 + 7 * q 2))) 2 (some (24 + 7 * q 3))) 3 (some (24 + 7 * q 0))) (nI 4))) := (hs_s at_new (by decide) (his2 _ _ 0 (by decide))).trans (congrArg some (hh _ _ _ _))
  refine ⟨hrg H 22 (hsL 22 (va_up (va_up (va_up (va_up P 0 (some (24 + 7 * q 1))) 1 (some (24 + 7 * q 2))) 2 (some (24 + 7 * q 3))) 3 (some (24 + 7 * q 0))) (nI 3)), ⟨by omega, _, fun j => if j = 3 then q 0 else q (j + 1), at_new, fun j hj => ?_, fun j k hj hk hq => ?_, fun j hj => ?_⟩, fun k hk => hrg_out (by rw [hs_len]; omega), sme_hrg, ?_⟩
  · have h4 : j = 0 ∨ j = 1 ∨ j = 2 ∨ j = 3 := by omega
    have b0 := (g1 0 (by decide)).1
    have b1 := (g1 1 (by decide)).1
    have b2 := (g1 2 (by decide)).1
    have b3 := (g1 3 (by decide)).1
    rcases h4 with w | w | w | w <;> subst w
    · exact ⟨b1, rfl⟩
    · exact ⟨b2, rfl⟩
    · exact ⟨b3, rfl⟩
    · exact ⟨b0, rfl⟩
  · dsimp only at hq
    by_cases w : j = 3
    · by_cases v : k = 3
      · omega
      · rw [if_pos w, if_neg v] at hq
        have := g2 0 (k + 1) (by omega) (by omega) hq
        omega
    · by_cases v : k = 3
      · rw [if_neg w, if_pos v] at hq
        have := g2 (j + 1) 0 (by omega) (by omega) hq
        omega
      · rw [if_neg w, if_neg v] at hq
        have := g2 (j + 1) (k + 1) (by omega) (by omega) hq
        omega
  · dsimp only
    by_cases w : j = 3
    · rw [if_pos w]
      obtain ⟨T, t1, -⟩ := g3 0 (by decide)
      exact ⟨T, at_out t1 (by rw [hs_len, st_len]; omega), fun z => by omega⟩
    · rw [if_neg w]
      obtain ⟨T, t1, t2⟩ := g3 (j + 1) (by omega)
      exact ⟨T, at_out t1 (by rw [hs_len, st_len]; omega), fun z => t2 (by omega)⟩
  · have gg : ∀ P' L, zgetf (hrg H 22 (hsL 22 P' L)) 22 0 0 = some (.ref 23) := fun _ _ => hs_g0 at_new
    have gl : ∀ P' L, zgetf (hrg H 22 (hsL 22 P' L)) 22 0 1 = some (.int L) := fun _ _ => hs_g1 at_new
    have gn : ∀ P' L, zlen (hrg H 22 (hsL 22 P' L)) 23 = some 4 := fun _ _ => hs_n at_new
    have gp : ∀ P' L x, zputf (hrg H 22 (hsL 22 P' L)) 22 0 1 (.int x) = some (hrg H 22 (hsL 22 P' x)) := fun _ _ _ => (hs_p1 at_new).trans (congrArg some (hh _ _ _ _))
    have c1 : (0 + 1 : Int32) = 1 := by decide
    have c2 : (1 + 1 : Int32) = 2 := by decide
    have c3 : (2 + 1 : Int32) = 3 := by decide
    have c4 : (3 + 1 : Int32) = 4 := by decide
    have c5 : (4 - 1 : Int32) = 3 := by decide
    have l1 : ((4 : Int32) ≤ 1) = False := by decide
    have l2 : ((4 : Int32) ≤ 2) = False := by decide
    have l3 : ((4 : Int32) ≤ 3) = False := by decide
    have l4 : ((4 : Int32) ≤ 4) = True := by decide
    have c6 : nI 4 - 1 = nI 3 := by decide
    simp only [e3_0, e3_1, e3_4, e3_5, e3_6, e3_7, e3_8, e3_9, e3_10, e3_11, e3_12, e3_13, e3_16, e3_17, e3_20, e3_21, e3_24, e3_25, e3_26, e3_29, e3_30, e3_31, e3_32, e3_33, e3_34, e3_37, e3_40, e3_41, e3_44, e3_45, e3_48, e3_49, e3_50, e3_51, e3_52, e3_53, e3_54, e3_55, e3_58, e3_59, e3_60, e3_63, Option.bind_some, Option.toList_some, Option.toList_none, List.cons_append, List.nil_append, true_or, or_true, and_true, true_and, i10, Bool.false_eq_true, if_true, if_false, reduceIte, hs_g0 g0, hs_g1 g0, hs_n g0, gg, gl, gn, gp, c1, c2, c3, c4, c5, c6, l1, l2, l3, l4, p0, p1, a1, p2, a2, p3, a3, a4]
theorem x_keep {H : zH} {e : Nat → mS × Int32} {len s d : Nat} {S : oS} {σ : mS} {r : Int32} (hI : hsI H e len) (hs : s + 7 ≤ 22) (hS : at_ H s (stL s S)) (hR : stR S σ) (h1 : S.2 1 = r) (hn : σ.1 ≤ 12) : ∃ H', hsI H' (he e len (σ, r)) (hl len) ∧ (∀ k, k < 22 ∨ 52 ≤ k → zg H' k = zg H k) ∧ sme H H' ∧ ev (d + 1) 2 0 [some (.ref 22), some (.ref s)] [] H = some (none, H') := by
  have hl4 := hI.1
  obtain ⟨P, q, g0, -⟩ := hI.2
  rcases Nat.lt_or_ge len 4 with z | z
  · obtain ⟨H', a1, a2, a3, a4⟩ := x_keep12 (d := d) hI z hs hS hR h1 hn
    have e1 : ((4 : Int32) ≤ nI len) = False := (nI_lep (a := 4) (by omega) (by omega)).trans (eq_false (by omega))
    have e1' : (nI len < (4 : Int32)) = True := (nI_ltp (b := 4) (by omega) (by omega)).trans (eq_true (by omega))
    refine ⟨H', ?_, a2, a3, ?_⟩
    · have : he e len (σ, r) = fun j => if j = len then (σ, r) else e j := by
        funext j
        unfold he
        rw [if_pos z]
      rw [this]
      unfold hl
      rw [if_pos z]
      exact a1
    · simp only [e2_0, e2_1, e2_4, e2_5, e2_8, e2_9, e2_13, e2_16, e2_17, e2_20, e2_21, e2_22, e2_25, e2_26, e2_27, e2_30, e2_31, e2_32, e2_35, Option.bind_some, Option.toList_some, Option.toList_none, List.cons_append, List.nil_append, true_or, or_true, and_true, true_and, i10, Bool.false_eq_true, if_true, if_false, reduceIte, hs_g1 g0, e1, e1']
      exact a4
  · have hlen : len = 4 := by omega
    subst hlen
    obtain ⟨H1, b1, b2, b3, b4⟩ := x_drop (d := d) hI
    obtain ⟨H', a1, a2, a3, a4⟩ := x_keep12 (d := d) b1 (by decide) hs (at_fr hS (fun k hk1 hk2 => b2 k (by rw [st_len] at hk2; omega))) hR h1 hn
    refine ⟨H', ?_, fun k hk => (a2 k hk).trans (b2 k hk), sme_t b3 a3, ?_⟩
    · exact a1
    · simp only [e2_0, e2_1, e2_4, e2_5, e2_8, e2_9, e2_13, e2_16, e2_17, e2_20, e2_21, e2_22, e2_25, e2_26, e2_27, e2_30, e2_31, e2_32, e2_35, Option.bind_some, Option.toList_some, Option.toList_none, List.cons_append, List.nil_append, true_or, or_true, and_true, true_and, i10, Bool.false_eq_true, if_true, if_false, reduceIte, hs_g1 g0, hs_is g0, show (nI 4 < (4 : Int32)) = False by decide, show ((4 : Int32) ≤ nI 4) = True by decide, b4]
      exact a4
theorem x_takeBack {H : zH} {e : Nat → mS × Int32} {len s d : Nat} {S : oS} (hI : hsI H e (len + 1)) (hs : s + 7 ≤ 22) (hS : at_ H s (stL s S)) : ∃ H' S', hsI H' e len ∧ at_ H' s (stL s S') ∧ stR S' (e len).1 ∧ S'.2 1 = (e len).2 ∧ (∀ k, (k < s ∨ s + 7 ≤ k) ∧ (k < 22 ∨ 52 ≤ k) → zg H' k = zg H k) ∧ sme H H' ∧ ev (d + 1) 4 0 [some (.ref 22), some (.ref s)] [] H = some (none, H') := by
  obtain ⟨hl4, P, q, g0, g1, g2, g3⟩ := hI
  obtain ⟨T, t1, t2⟩ := g3 len (by omega)
  obtain ⟨t3, t4, t5⟩ := t2 (by omega)
  obtain ⟨q1, q2⟩ := g1 len (by omega)
  have hH1 : at_ (hrg H 22 (hsL 22 P (nI len))) 22 (hsL 22 P (nI len)) := at_new
  have hS1 : at_ (hrg H 22 (hsL 22 P (nI len))) s (stL s S) := at_out hS (by rw [hs_len, st_len]; omega)
  have hT1 : at_ (hrg H 22 (hsL 22 P (nI len))) (24 + 7 * q len) (stL (24 + 7 * q len) T) := at_out t1 (by rw [hs_len, st_len]; omega)
  have hc := s_copyFrom (d := d) (h := hrg H 22 (hsL 22 P (nI len))) (v := 24 + 7 * q len) (i := s) (V := T) (S := S) (by omega)
  rw [at_st hT1, at_st hS1] at hc
  have hal : zaldq (hrg H 22 (hsL 22 P (nI len))) 23 (nI len) = some (24 + 7 * q len) := by
    rw [hs_a hH1, zin_T (by omega) (by decide), nI_clamp (by omega), if_pos rfl, q2]
  have his : zis (hrg H 22 (hsL 22 P (nI len))) s 5 = true := by
    have := st_is (h := hrg H 22 (hsL 22 P (nI len))) (i := s) (S := S)
    rw [at_st hS1] at this
    exact this
  have e1 : (nI (len + 1) ≤ 0) = False := (nI_lep (b := 0) (by omega) (by omega)).trans (eq_false (by omega))
  have e2 : nI (len + 1) - 1 = nI len := hI_s len
  refine ⟨hst (hrg H 22 (hsL 22 P (nI len))) s (cpS S T), cpS S T, ⟨by omega, P, q, at_out hH1 (by rw [hs_len, st_len]; omega), g1, g2, fun j hj => ?_⟩, at_new, stR_cp t3 t5, cpS_1.trans t4, fun k hk => ?_, sme_t sme_hrg sme_hrg, ?_⟩
  · obtain ⟨U, u1, u2⟩ := g3 j hj
    obtain ⟨q3, q4⟩ := g1 j hj
    exact ⟨U, at_out (at_out u1 (by rw [hs_len, st_len]; omega)) (by rw [st_len, st_len]; omega), fun z => u2 (by omega)⟩
  · refine (hrg_out (by rw [st_len]; omega)).trans (hrg_out (by rw [hs_len]; omega))
  · simp only [e4_0, e4_1, e4_4, e4_7, e4_8, e4_9, e4_12, e4_13, e4_14, e4_17, e4_18, e4_19, e4_22, e4_23, e4_26, e4_27, e4_30, Option.bind_some, Option.toList_some, Option.toList_none, List.cons_append, List.nil_append, true_or, or_true, and_true, true_and, i10, Bool.false_eq_true, if_true, if_false, reduceIte, hs_g1 g0, hs_p1 g0, e1, e2, hs_g0 hH1, hs_g1 hH1, hal, his, hc]
