/-! THE READER OF THE REFERENCE -/
/-- the pad of the reference -/
def pmR (M : oS) (w : Nat → Nat) (m : Nat) : Prop := M.2 2 = nI m ∧ m ≤ 80 ∧ ∀ k, k < m → M.1 4 k = nI (w k) ∧ 33 ≤ w k ∧ w k < 128
def hre (w : Nat → Nat) (m p : Nat) : Nat := if p < m then w p else 0
/-- after takes -/
def tkS (M : oS) (b : Bool) (p : Nat) : oS := setI (setI M 4 (bI (b = true))) 3 (nI (if b = true then p + 1 else p))
def mfS (M M' : oS) : Prop := M'.1 = M.1 ∧ ∀ k, k ≠ 3 → k ≠ 4 → M'.2 k = M.2 k
theorem mfS_t {M M' M'' : oS} (h : mfS M M') (h' : mfS M' M'') : mfS M M'' := ⟨h'.1.trans h.1, fun k a b => (h'.2 k a b).trans (h.2 k a b)⟩
theorem mfS_tk {M : oS} {b : Bool} {p : Nat} : mfS M (tkS M b p) := ⟨rfl, fun k a b => by unfold tkS; rw [setI_2, if_neg a, setI_2, if_neg b]⟩
theorem tkS_4 {M : oS} {b : Bool} {p : Nat} : (tkS M b p).2 4 = bI (b = true) := by unfold tkS; rw [setI_2, if_neg (by decide), setI_2, if_pos rfl]
theorem tkS_3 {M : oS} {b : Bool} {p : Nat} : (tkS M b p).2 3 = nI (if b = true then p + 1 else p) := by unfold tkS; rw [setI_2, if_pos rfl]
theorem pmR_f {M M' : oS} {w : Nat → Nat} {m : Nat} (hP : pmR M w m) (hf : mfS M M') : pmR M' w m := by
  unfold pmR
  rw [hf.1, hf.2 2 (by decide) (by decide)]
  exact hP
/-- the second digit of a number -/
def tn2 (w : Nat → Nat) (m p v hi : Nat) : Nat × Nat := if 0 < v ∧ 48 ≤ hre w m p ∧ hre w m p ≤ 57 ∧ 10 * v + (hre w m p - 48) ≤ hi then (p + 1, 10 * v + (hre w m p - 48)) else (p, v)
section MREAD
variable {d : Nat} {h : zH} {i : Nat} {M : oS} {τ : mS} {w : Nat → Nat} {m p : Nat}
theorem hre_b (hP : pmR M w m) : hre w m p < 128 := by
  unfold hre
  split
  · exact (hP.2.2 p ‹_›).2.2
  · omega
theorem m_here (hP : pmR M w m) (hp : M.2 3 = nI p) (hb : p < 1000) : ev d 165 0 [some (.ref i)] [] (hmd h i M) = some (some (.int (nI (hre w m p))), hmd h i M) := by
  obtain ⟨k1, k2, k3⟩ := hP
  have e1 : (nI m ≤ nI p) = (m ≤ p) := nI_lep (by omega) (by omega)
  unfold hre
  by_cases q : p < m
  · have q' : ¬ m ≤ p := by omega
    simp only [e165_0, e165_1, e165_4, e165_5, e165_8, e165_11, e165_12, e165_15, e165_16, e165_19, e165_20, e165_23, e165_24, md_g0, md_g1, md_g2, md_g3, md_g4, md_g5, md_g6, md_g7, md_g8, md_g9, md_g10, md_g11, md_g12, md_g13, md_g14, md_g15, md_g16, md_g17, md_g18, md_p3, md_p5, md_p7, md_p8, md_p9, md_p11, md_p13, md_p15, md_l0, md_l1, md_l2, md_l3, md_l4, md_l5, md_l6, md_l7, md_l8, md_l9, md_l10, md_s0, md_s1, md_s2, md_s3, md_s4, md_s5, md_s6, md_s7, md_s8, md_s9, md_s10, md_is, Option.bind_some, Option.toList_some, Option.toList_none, List.cons_append, List.nil_append, true_or, or_true, and_true, true_and, i10, Bool.false_eq_true, if_true, if_false, reduceIte, hp, k1, e1, eq_false q', zrd_nI (show p < 80 by omega) (show 80 < 2147483648 by omega), (k3 p q).1, eq_true q]
  · have q' : m ≤ p := by omega
    simp only [e165_0, e165_1, e165_4, e165_5, e165_8, e165_11, e165_12, e165_15, e165_16, e165_19, e165_20, e165_23, e165_24, md_g0, md_g1, md_g2, md_g3, md_g4, md_g5, md_g6, md_g7, md_g8, md_g9, md_g10, md_g11, md_g12, md_g13, md_g14, md_g15, md_g16, md_g17, md_g18, md_p3, md_p5, md_p7, md_p8, md_p9, md_p11, md_p13, md_p15, md_l0, md_l1, md_l2, md_l3, md_l4, md_l5, md_l6, md_l7, md_l8, md_l9, md_l10, md_s0, md_s1, md_s2, md_s3, md_s4, md_s5, md_s6, md_s7, md_s8, md_s9, md_s10, md_is, Option.bind_some, Option.toList_some, Option.toList_none, List.cons_append, List.nil_append, true_or, or_true, and_true, true_and, i10, Bool.false_eq_true, if_true, if_false, reduceIte, hp, k1, e1, eq_true q', eq_false q]
    rfl
theorem m_takes {f b : Bool} (hf : M.2 4 = bI (f = true)) (hp : M.2 3 = nI p) {x : Int32} (hx : x = bI (b = true)) : ev d 166 0 [some (.ref i), some (.int x)] [] (hmd h i M) = some (none, hmd h i (tkS M (f && b) p)) := by
  subst hx
  have g1 : ∀ y, (setI M 4 y).2 4 = y := fun _ => rfl
  have g2 : ∀ y, (setI M 4 y).2 3 = nI p := fun _ => hp
  unfold tkS
  cases f with
  | false =>
    have hf0 : M.2 4 = 0 := hf
    simp only [e166_0, e166_1, e166_2, e166_5, e166_8, e166_9, e166_12, e166_13, e166_16, e166_17, e166_20, e166_21, e166_22, e166_25, e166_26, e166_29, e166_32, e166_33, e166_36, e166_37, e166_38, e166_41, md_g0, md_g1, md_g2, md_g3, md_g4, md_g5, md_g6, md_g7, md_g8, md_g9, md_g10, md_g11, md_g12, md_g13, md_g14, md_g15, md_g16, md_g17, md_g18, md_p3, md_p5, md_p7, md_p8, md_p9, md_p11, md_p13, md_p15, md_l0, md_l1, md_l2, md_l3, md_l4, md_l5, md_l6, md_l7, md_l8, md_l9, md_l10, md_s0, md_s1, md_s2, md_s3, md_s4, md_s5, md_s6, md_s7, md_s8, md_s9, md_s10, md_is, Option.bind_some, Option.toList_some, Option.toList_none, List.cons_append, List.nil_append, true_or, or_true, and_true, true_and, i10, Bool.false_eq_true, if_true, if_false, reduceIte, hf0, g1, g2, Int32.add_zero]
    rfl
  | true =>
    have hf1 : M.2 4 = 1 := hf
    cases b with
    | false =>
      have b0 : bI (false = true) = 0 := rfl
      simp only [e166_0, e166_1, e166_2, e166_5, e166_8, e166_9, e166_12, e166_13, e166_16, e166_17, e166_20, e166_21, e166_22, e166_25, e166_26, e166_29, e166_32, e166_33, e166_36, e166_37, e166_38, e166_41, md_g0, md_g1, md_g2, md_g3, md_g4, md_g5, md_g6, md_g7, md_g8, md_g9, md_g10, md_g11, md_g12, md_g13, md_g14, md_g15, md_g16, md_g17, md_g18, md_p3, md_p5, md_p7, md_p8, md_p9, md_p11, md_p13, md_p15, md_l0, md_l1, md_l2, md_l3, md_l4, md_l5, md_l6, md_l7, md_l8, md_l9, md_l10, md_s0, md_s1, md_s2, md_s3, md_s4, md_s5, md_s6, md_s7, md_s8, md_s9, md_s10, md_is, Option.bind_some, Option.toList_some, Option.toList_none, List.cons_append, List.nil_append, true_or, or_true, and_true, true_and, i10, Bool.false_eq_true, if_true, if_false, reduceIte, hf1, bI_f not_false, g1, g2, Int32.add_zero, Bool.true_and]
    | true =>
      have b1 : bI (true = true) = 1 := rfl
      simp only [e166_0, e166_1, e166_2, e166_5, e166_8, e166_9, e166_12, e166_13, e166_16, e166_17, e166_20, e166_21, e166_22, e166_25, e166_26, e166_29, e166_32, e166_33, e166_36, e166_37, e166_38, e166_41, md_g0, md_g1, md_g2, md_g3, md_g4, md_g5, md_g6, md_g7, md_g8, md_g9, md_g10, md_g11, md_g12, md_g13, md_g14, md_g15, md_g16, md_g17, md_g18, md_p3, md_p5, md_p7, md_p8, md_p9, md_p11, md_p13, md_p15, md_l0, md_l1, md_l2, md_l3, md_l4, md_l5, md_l6, md_l7, md_l8, md_l9, md_l10, md_s0, md_s1, md_s2, md_s3, md_s4, md_s5, md_s6, md_s7, md_s8, md_s9, md_s10, md_is, Option.bind_some, Option.toList_some, Option.toList_none, List.cons_append, List.nil_append, true_or, or_true, and_true, true_and, i10, Bool.false_eq_true, if_true, if_false, reduceIte, hf1, bI_t trivial, g1, g2, Bool.true_and, nI_1]
theorem m_placeIn (hR : rwR M τ) (hb : bnd τ) {k : Nat} (hk : k < τ.1) : ev d 168 0 [some (.ref i), some (.int (nI k)), none, none] [] (hmd h i M) = some (some (.int (nI (pil τ k))), hmd h i M) := by
  have hn := hb.1
  have h0 := hR.1
  have r7 : ∀ c, c < τ.1 → zrd 126 (M.1 5) (9 * nI c + 7) = some (nI (τ.2 c 7)) := fun c hc => by
    have := r9 c 7
    rw [show (9 : Int32) * nI c + 7 = nI (9 * c + 7) from this, zrd_nI (by omega) (by decide), hR.2 c hc 7 (by decide)]
  have main := z_for (fun (c s : Nat) => ev d 168 4 [some (.ref i), some (.int (nI k)), some (.int (nI s)), some (.int (nI c))] [] (hmd h i M)) (fun c s => s + if decide (τ.2 c 7 = k + 1) then 1 else 0) (n := τ.1) (s := 0) (fun c s hc => by
    have hlt : (τ.1 ≤ c) = False := eq_false (by omega)
    have h7 := (hb.2 c hc).2.2.2.2.1
    show ev d 168 4 _ _ _ = ev d 168 4 _ _ _
    rw [e168_4]
    simp only [e168_0, e168_1, e168_2, e168_3, e168_5, e168_6, e168_9, e168_12, e168_13, e168_14, e168_17, e168_19, e168_20, e168_21, e168_23, e168_24, e168_25, e168_26, e168_27, e168_28, e168_31, e168_32, e168_35, e168_36, e168_37, e168_38, e168_41, e168_44, e168_45, md_g0, md_g1, md_g2, md_g3, md_g4, md_g5, md_g6, md_g7, md_g8, md_g9, md_g10, md_g11, md_g12, md_g13, md_g14, md_g15, md_g16, md_g17, md_g18, md_p3, md_p5, md_p7, md_p8, md_p9, md_p11, md_p13, md_p15, md_l0, md_l1, md_l2, md_l3, md_l4, md_l5, md_l6, md_l7, md_l8, md_l9, md_l10, md_s0, md_s1, md_s2, md_s3, md_s4, md_s5, md_s6, md_s7, md_s8, md_s9, md_s10, md_is, Option.bind_some, Option.toList_some, Option.toList_none, List.cons_append, List.nil_append, true_or, or_true, and_true, true_and, i10, Bool.false_eq_true, if_true, if_false, reduceIte, h0, nI_lep (show τ.1 < 2147483648 by omega) (show c < 2147483648 by omega), hlt, nI_1, r7 c hc, nI_eqp (show τ.2 c 7 < 2147483648 by omega) (show k + 1 < 2147483648 by omega)]
    by_cases q : τ.2 c 7 = k + 1
    · simp [q, nI_1]
    · simp [q])
  rw [zfold_ct, Nat.zero_add] at main
  simp only [e168_0, e168_1, e168_2, e168_3, e168_5, e168_6, e168_9, e168_12, e168_13, e168_14, e168_17, e168_19, e168_20, e168_21, e168_23, e168_24, e168_25, e168_26, e168_27, e168_28, e168_31, e168_32, e168_35, e168_36, e168_37, e168_38, e168_41, e168_44, e168_45, md_g0, md_g1, md_g2, md_g3, md_g4, md_g5, md_g6, md_g7, md_g8, md_g9, md_g10, md_g11, md_g12, md_g13, md_g14, md_g15, md_g16, md_g17, md_g18, md_p3, md_p5, md_p7, md_p8, md_p9, md_p11, md_p13, md_p15, md_l0, md_l1, md_l2, md_l3, md_l4, md_l5, md_l6, md_l7, md_l8, md_l9, md_l10, md_s0, md_s1, md_s2, md_s3, md_s4, md_s5, md_s6, md_s7, md_s8, md_s9, md_s10, md_is, Option.bind_some, Option.toList_some, Option.toList_none, List.cons_append, List.nil_append, true_or, or_true, and_true, true_and, i10, Bool.false_eq_true, if_true, if_false, reduceIte]
  refine main.trans ?_
  show ev d 168 4 _ _ _ = _
  rw [e168_4]
  simp only [e168_0, e168_1, e168_2, e168_3, e168_5, e168_6, e168_9, e168_12, e168_13, e168_14, e168_17, e168_19, e168_20, e168_21, e168_23, e168_24, e168_25, e168_26, e168_27, e168_28, e168_31, e168_32, e168_35, e168_36, e168_37, e168_38, e168_41, e168_44, e168_45, md_g0, md_g1, md_g2, md_g3, md_g4, md_g5, md_g6, md_g7, md_g8, md_g9, md_g10, md_g11, md_g12, md_g13, md_g14, md_g15, md_g16, md_g17, md_g18, md_p3, md_p5, md_p7, md_p8, md_p9, md_p11, md_p13, md_p15, md_l0, md_l1, md_l2, md_l3, md_l4, md_l5, md_l6, md_l7, md_l8, md_l9, md_l10, md_s0, md_s1, md_s2, md_s3, md_s4, md_s5, md_s6, md_s7, md_s8, md_s9, md_s10, md_is, Option.bind_some, Option.toList_some, Option.toList_none, List.cons_append, List.nil_append, true_or, or_true, and_true, true_and, i10, Bool.false_eq_true, if_true, if_false, reduceIte, h0, Int32.le_refl]
  rfl
theorem m_digit2 {a b : Option Value} {v hi : Nat} (hP : pmR M w m) (hf : M.2 4 = 1) (hp : M.2 3 = nI p) (hpb : p < 900) (hv : v ≤ 60) (hh : hi ≤ 60) : ∃ M', mfS M M' ∧ M'.2 4 = 1 ∧ M'.2 3 = nI (tn2 w m p v hi).1 ∧ ev (d + 1) 167 38 [some (.ref i), a, b, some (.int (nI hi)), some (.int (nI v))] [] (hmd h i M) = some (some (.int (nI (tn2 w m p v hi).2)), hmd h i M') := by
  have stop : ∀ (N : oS) (p v : Nat), pmR N w m → N.2 4 = 1 → N.2 3 = nI p → p < 1000 → v ≤ 700 → ¬ (0 < v ∧ 48 ≤ hre w m p ∧ hre w m p ≤ 57 ∧ 10 * v + (hre w m p - 48) ≤ hi) → ev (d + 1) 167 38 [some (.ref i), a, b, some (.int (nI hi)), some (.int (nI v))] [] (hmd h i N) = some (some (.int (nI v)), hmd h i N) := by
    intro N p v hP hf hp hpb hv hn
    have hb := hre_b (p := p) hP
    have e1 : (nI v ≤ 0) = (v ≤ 0) := nI_lep (b := 0) (by omega) (by omega)
    rw [e167_38]
    by_cases q1 : v ≤ 0
    · simp only [e167_0, e167_1, e167_2, e167_5, e167_6, e167_9, e167_10, e167_13, e167_14, e167_17, e167_18, e167_21, e167_23, e167_24, e167_26, e167_27, e167_29, e167_30, e167_32, e167_35, e167_39, e167_42, e167_45, e167_47, e167_50, e167_51, e167_54, e167_56, e167_58, e167_61, e167_64, e167_66, e167_68, e167_69, e167_70, e167_73, e167_74, e167_76, e167_77, e167_78, e167_81, e167_83, e167_85, e167_86, e167_87, e167_90, e167_91, e167_93, e167_94, e167_96, e167_97, e167_98, e167_101, e167_102, e167_103, e167_106, e167_109, e167_111, md_g0, md_g1, md_g2, md_g3, md_g4, md_g5, md_g6, md_g7, md_g8, md_g9, md_g10, md_g11, md_g12, md_g13, md_g14, md_g15, md_g16, md_g17, md_g18, md_p3, md_p5, md_p7, md_p8, md_p9, md_p11, md_p13, md_p15, md_l0, md_l1, md_l2, md_l3, md_l4, md_l5, md_l6, md_l7, md_l8, md_l9, md_l10, md_s0, md_s1, md_s2, md_s3, md_s4, md_s5, md_s6, md_s7, md_s8, md_s9, md_s10, md_is, Option.bind_some, Option.toList_some, Option.toList_none, List.cons_append, List.nil_append, true_or, or_true, and_true, true_and, i10, Bool.false_eq_true, if_true, if_false, reduceIte, hf, e1, eq_true q1]
    · by_cases q2 : 48 ≤ hre w m p ∧ hre w m p ≤ 57
      · have e2 : bI ((48 : Int32) ≤ nI (hre w m p) ∧ nI (hre w m p) ≤ 57) = 1 := bI_t ⟨(nI_leI (a := 48) (by omega) (by omega)).mpr q2.1, (nI_leI (b := 57) (by omega) (by omega)).mpr q2.2⟩
        have e3 : (10 : Int32) * nI v + nI (hre w m p) - 48 = nI (10 * v + (hre w m p - 48)) := by
          rw [show (10 : Int32) * nI v = nI (10 * v) from pk_mul 10 v, nI_add, iI_nat, iI_nat, show (48 : Int32) = iI 48 from rfl, iI_sub]
          congr 1
          omega
        have e4 : (nI hi < nI (10 * v + (hre w m p - 48))) = True := (nI_ltp (by omega) (by omega)).trans (eq_true (by omega))
        simp only [e167_0, e167_1, e167_2, e167_5, e167_6, e167_9, e167_10, e167_13, e167_14, e167_17, e167_18, e167_21, e167_23, e167_24, e167_26, e167_27, e167_29, e167_30, e167_32, e167_35, e167_39, e167_42, e167_45, e167_47, e167_50, e167_51, e167_54, e167_56, e167_58, e167_61, e167_64, e167_66, e167_68, e167_69, e167_70, e167_73, e167_74, e167_76, e167_77, e167_78, e167_81, e167_83, e167_85, e167_86, e167_87, e167_90, e167_91, e167_93, e167_94, e167_96, e167_97, e167_98, e167_101, e167_102, e167_103, e167_106, e167_109, e167_111, md_g0, md_g1, md_g2, md_g3, md_g4, md_g5, md_g6, md_g7, md_g8, md_g9, md_g10, md_g11, md_g12, md_g13, md_g14, md_g15, md_g16, md_g17, md_g18, md_p3, md_p5, md_p7, md_p8, md_p9, md_p11, md_p13, md_p15, md_l0, md_l1, md_l2, md_l3, md_l4, md_l5, md_l6, md_l7, md_l8, md_l9, md_l10, md_s0, md_s1, md_s2, md_s3, md_s4, md_s5, md_s6, md_s7, md_s8, md_s9, md_s10, md_is, Option.bind_some, Option.toList_some, Option.toList_none, List.cons_append, List.nil_append, true_or, or_true, and_true, true_and, i10, Bool.false_eq_true, if_true, if_false, reduceIte, hf, e1, eq_false q1, m_here hP hp hpb, m_in, e2, e3, e4]
      · have e2 : bI ((48 : Int32) ≤ nI (hre w m p) ∧ nI (hre w m p) ≤ 57) = 0 := bI_f (fun z => q2 ⟨(nI_leI (a := 48) (by omega) (by omega)).mp z.1, (nI_leI (b := 57) (by omega) (by omega)).mp z.2⟩)
        simp only [e167_0, e167_1, e167_2, e167_5, e167_6, e167_9, e167_10, e167_13, e167_14, e167_17, e167_18, e167_21, e167_23, e167_24, e167_26, e167_27, e167_29, e167_30, e167_32, e167_35, e167_39, e167_42, e167_45, e167_47, e167_50, e167_51, e167_54, e167_56, e167_58, e167_61, e167_64, e167_66, e167_68, e167_69, e167_70, e167_73, e167_74, e167_76, e167_77, e167_78, e167_81, e167_83, e167_85, e167_86, e167_87, e167_90, e167_91, e167_93, e167_94, e167_96, e167_97, e167_98, e167_101, e167_102, e167_103, e167_106, e167_109, e167_111, md_g0, md_g1, md_g2, md_g3, md_g4, md_g5, md_g6, md_g7, md_g8, md_g9, md_g10, md_g11, md_g12, md_g13, md_g14, md_g15, md_g16, md_g17, md_g18, md_p3, md_p5, md_p7, md_p8, md_p9, md_p11, md_p13, md_p15, md_l0, md_l1, md_l2, md_l3, md_l4, md_l5, md_l6, md_l7, md_l8, md_l9, md_l10, md_s0, md_s1, md_s2, md_s3, md_s4, md_s5, md_s6, md_s7, md_s8, md_s9, md_s10, md_is, Option.bind_some, Option.toList_some, Option.toList_none, List.cons_append, List.nil_append, true_or, or_true, and_true, true_and, i10, Bool.false_eq_true, if_true, if_false, reduceIte, hf, e1, eq_false q1, m_here hP hp hpb, m_in, e2]
  unfold tn2
  by_cases q : 0 < v ∧ 48 ≤ hre w m p ∧ hre w m p ≤ 57 ∧ 10 * v + (hre w m p - 48) ≤ hi
  · rw [if_pos q]
    have hb := hre_b (p := p) hP
    have e1 : (nI v ≤ 0) = False := (nI_lep (b := 0) (by omega) (by omega)).trans (eq_false (by omega))
    have e2 : bI ((48 : Int32) ≤ nI (hre w m p) ∧ nI (hre w m p) ≤ 57) = 1 := bI_t ⟨(nI_leI (a := 48) (by omega) (by omega)).mpr q.2.1, (nI_leI (b := 57) (by omega) (by omega)).mpr q.2.2.1⟩
    have e3 : (10 : Int32) * nI v + nI (hre w m p) - 48 = nI (10 * v + (hre w m p - 48)) := by
      rw [show (10 : Int32) * nI v = nI (10 * v) from pk_mul 10 v, nI_add, iI_nat, iI_nat, show (48 : Int32) = iI 48 from rfl, iI_sub]
      congr 1
      omega
    have e4 : (nI hi < nI (10 * v + (hre w m p - 48))) = False := (nI_ltp (by omega) (by omega)).trans (eq_false (by omega))
    have F : mfS M (setI M 3 (nI (p + 1))) := ⟨rfl, fun k a b => by rw [setI_2, if_neg a]⟩
    have st := stop (setI M 3 (nI (p + 1))) (p + 1) (10 * v + (hre w m p - 48)) (pmR_f hP F) (by rw [setI_2, if_neg (by decide)]; exact hf) rfl (by omega) (by omega) (by omega)
    refine ⟨setI M 3 (nI (p + 1)), F, by rw [setI_2, if_neg (by decide)]; exact hf, rfl, ?_⟩
    rw [e167_38]
    simp only [e167_0, e167_1, e167_2, e167_5, e167_6, e167_9, e167_10, e167_13, e167_14, e167_17, e167_18, e167_21, e167_23, e167_24, e167_26, e167_27, e167_29, e167_30, e167_32, e167_35, e167_39, e167_42, e167_45, e167_47, e167_50, e167_51, e167_54, e167_56, e167_58, e167_61, e167_64, e167_66, e167_68, e167_69, e167_70, e167_73, e167_74, e167_76, e167_77, e167_78, e167_81, e167_83, e167_85, e167_86, e167_87, e167_90, e167_91, e167_93, e167_94, e167_96, e167_97, e167_98, e167_101, e167_102, e167_103, e167_106, e167_109, e167_111, md_g0, md_g1, md_g2, md_g3, md_g4, md_g5, md_g6, md_g7, md_g8, md_g9, md_g10, md_g11, md_g12, md_g13, md_g14, md_g15, md_g16, md_g17, md_g18, md_p3, md_p5, md_p7, md_p8, md_p9, md_p11, md_p13, md_p15, md_l0, md_l1, md_l2, md_l3, md_l4, md_l5, md_l6, md_l7, md_l8, md_l9, md_l10, md_s0, md_s1, md_s2, md_s3, md_s4, md_s5, md_s6, md_s7, md_s8, md_s9, md_s10, md_is, Option.bind_some, Option.toList_some, Option.toList_none, List.cons_append, List.nil_append, true_or, or_true, and_true, true_and, i10, Bool.false_eq_true, if_true, if_false, reduceIte, hf, hp, e1, m_here hP hp (show p < 1000 by omega), m_in, e2, e3, e4, nI_1]
    exact st
  · rw [if_neg q]
    exact ⟨M, ⟨rfl, fun _ _ _ => rfl⟩, hf, hp, stop M p v hP hf hp (by omega) (by omega) q⟩
/-- a number read: where it stops, and its value -/
def tnr (w : Nat → Nat) (m p mark lo hi : Nat) : Nat × Option Nat := if hre w m p ≠ mark then (p, none) else if 48 + lo ≤ hre w m (p + 1) ∧ hre w m (p + 1) ≤ 57 then ((tn2 w m (p + 2) (hre w m (p + 1) - 48) hi).1, some (tn2 w m (p + 2) (hre w m (p + 1) - 48) hi).2) else (p + 1, none)
theorem m_takesNumber {f : Bool} {mark lo hi : Nat} (hP : pmR M w m) (hf : M.2 4 = bI (f = true)) (hp : M.2 3 = nI p) (hpb : p < 800) (hmk : mark < 128) (hlo : lo ≤ 9) (hh : hi ≤ 60) {x1 x2 x3 : Int32} (g1 : x1 = nI mark) (g2 : x2 = nI lo) (g3 : x3 = nI hi) : ∃ M' x, mfS M M' ∧ M'.2 4 = bI ((f && (tnr w m p mark lo hi).2.isSome) = true) ∧ M'.2 3 = nI (if f = true then (tnr w m p mark lo hi).1 else p) ∧ (f = true → ∀ v, (tnr w m p mark lo hi).2 = some v → x = nI v) ∧ ev (d + 1) 167 0 [some (.ref i), some (.int x1), some (.int x2), some (.int x3), none] [] (hmd h i M) = some (some (.int x), hmd h i M') := by
  subst g1 g2 g3
  have hb := hre_b (p := p) hP
  have hb2 := hre_b (p := p + 1) hP
  have e1 : (nI (hre w m p) = nI mark) = (hre w m p = mark) := nI_eqp (by omega) (by omega)
  have t1 := fun (b : Bool) (x : Int32) (hx : x = bI (b = true)) => m_takes (d := d) (h := h) (i := i) (M := M) (f := f) (b := b) hf hp hx
  -- the second sign, after any outcome of the first
  have rest : ∀ (b : Bool) (q : Nat), (f && b) = b → q = (if b = true then p + 1 else p) → hre w m q < 128 → ∃ M' x, mfS M M' ∧ M'.2 4 = bI ((b && decide (48 + lo ≤ hre w m q ∧ hre w m q ≤ 57)) = true) ∧ M'.2 3 = nI (if b = true ∧ 48 + lo ≤ hre w m q ∧ hre w m q ≤ 57 then (tn2 w m (q + 1) (hre w m q - 48) hi).1 else q) ∧ (b = true → 48 + lo ≤ hre w m q ∧ hre w m q ≤ 57 → x = nI (tn2 w m (q + 1) (hre w m q - 48) hi).2) ∧ ev (d + 1) 167 17 [some (.ref i), some (.int (nI mark)), some (.int (nI lo)), some (.int (nI hi)), none] [] (hmd h i (tkS M b p)) = some (some (.int x), hmd h i M') := by
    intro b q hfb hq hbq
    have F1 : mfS M (tkS M b p) := mfS_tk
    have P1 := pmR_f hP F1
    have s3 : (tkS M b p).2 3 = nI q := by rw [tkS_3, hq]
    have s4 : (tkS M b p).2 4 = bI (b = true) := tkS_4
    have hq9 : q < 802 := by rw [hq]; split <;> omega
    have ey : nI (hre w m q) - 48 = iI ((hre w m q : Int) - 48) := by rw [iI_nat, show (48 : Int32) = iI 48 from rfl, iI_sub]
    have eP : (nI lo ≤ nI (hre w m q) - 48 ∧ nI (hre w m q) - 48 ≤ 9) ↔ (48 + lo ≤ hre w m q ∧ hre w m q ≤ 57) := by
      rw [ey, iI_nat, show (9 : Int32) = iI 9 from rfl, iI_le (by omega) (by omega), iI_le (by omega) (by omega)]
      omega
    have t2 := m_takes (d := d) (h := h) (i := i) (M := tkS M b p) (f := b) (b := decide (48 + lo ≤ hre w m q ∧ hre w m q ≤ 57)) s4 s3 (x := bI (nI lo ≤ nI (hre w m q) - 48 ∧ nI (hre w m q) - 48 ≤ 9)) (bI_congr (by rw [eP]; simp))
    have F2 : mfS M (tkS (tkS M b p) (b && decide (48 + lo ≤ hre w m q ∧ hre w m q ≤ 57)) q) := mfS_t F1 mfS_tk
    have h4 : (tkS (tkS M b p) (b && decide (48 + lo ≤ hre w m q ∧ hre w m q ≤ 57)) q).2 4 = bI ((b && decide (48 + lo ≤ hre w m q ∧ hre w m q ≤ 57)) = true) := tkS_4
    have h3 : (tkS (tkS M b p) (b && decide (48 + lo ≤ hre w m q ∧ hre w m q ≤ 57)) q).2 3 = nI (if (b && decide (48 + lo ≤ hre w m q ∧ hre w m q ≤ 57)) = true then q + 1 else q) := tkS_3
    by_cases z : b = true ∧ 48 + lo ≤ hre w m q ∧ hre w m q ≤ 57
    · have zz : (b && decide (48 + lo ≤ hre w m q ∧ hre w m q ≤ 57)) = true := by simp [z]
      rw [zz] at t2 F2 h4 h3
      rw [if_pos rfl] at h3
      have ev48 : nI (hre w m q) - 48 = nI (hre w m q - 48) := by
        rw [ey, iI_nat]
        congr 1
        omega
      obtain ⟨M', a1, a2, a3, a4⟩ := m_digit2 (d := d) (h := h) (i := i) (M := tkS (tkS M b p) true q) (a := some (.int (nI mark))) (b := some (.int (nI lo))) (v := hre w m q - 48) (hi := hi) (p := q + 1) (pmR_f hP F2) h4 h3 (by omega) (by omega) hh
      refine ⟨M', nI (tn2 w m (q + 1) (hre w m q - 48) hi).2, mfS_t F2 a1, by rw [zz]; exact a2, by rw [if_pos z]; exact a3, fun _ _ => rfl, ?_⟩
      rw [e167_17]
      simp only [e167_0, e167_1, e167_2, e167_5, e167_6, e167_9, e167_10, e167_13, e167_14, e167_18, e167_21, e167_23, e167_24, e167_26, e167_27, e167_29, e167_30, e167_32, e167_35, e167_39, e167_42, e167_45, e167_47, e167_50, e167_51, e167_54, e167_56, e167_58, e167_61, e167_64, e167_66, e167_68, e167_69, e167_70, e167_73, e167_74, e167_76, e167_77, e167_78, e167_81, e167_83, e167_85, e167_86, e167_87, e167_90, e167_91, e167_93, e167_94, e167_96, e167_97, e167_98, e167_101, e167_102, e167_103, e167_106, e167_109, e167_111, md_g0, md_g1, md_g2, md_g3, md_g4, md_g5, md_g6, md_g7, md_g8, md_g9, md_g10, md_g11, md_g12, md_g13, md_g14, md_g15, md_g16, md_g17, md_g18, md_p3, md_p5, md_p7, md_p8, md_p9, md_p11, md_p13, md_p15, md_l0, md_l1, md_l2, md_l3, md_l4, md_l5, md_l6, md_l7, md_l8, md_l9, md_l10, md_s0, md_s1, md_s2, md_s3, md_s4, md_s5, md_s6, md_s7, md_s8, md_s9, md_s10, md_is, Option.bind_some, Option.toList_some, Option.toList_none, List.cons_append, List.nil_append, true_or, or_true, and_true, true_and, i10, Bool.false_eq_true, if_true, if_false, reduceIte, m_here P1 s3 (show q < 1000 by omega), m_in, t2]
      rw [ev48]
      exact a4
    · have zz : (b && decide (48 + lo ≤ hre w m q ∧ hre w m q ≤ 57)) = false := by
        cases b with
        | false => rfl
        | true =>
          show decide _ = false
          exact decide_eq_false (fun y => z ⟨rfl, y⟩)
      rw [zz] at t2 F2 h4 h3
      have h4' : (tkS (tkS M b p) false q).2 4 = 0 := h4
      refine ⟨tkS (tkS M b p) false q, nI (hre w m q) - 48, F2, by rw [zz]; exact h4, by rw [if_neg z]; exact h3, fun y1 y2 => absurd ⟨y1, y2⟩ z, ?_⟩
      rw [e167_17]
      simp only [e167_0, e167_1, e167_2, e167_5, e167_6, e167_9, e167_10, e167_13, e167_14, e167_18, e167_21, e167_23, e167_24, e167_26, e167_27, e167_29, e167_30, e167_32, e167_35, e167_39, e167_42, e167_45, e167_47, e167_50, e167_51, e167_54, e167_56, e167_58, e167_61, e167_64, e167_66, e167_68, e167_69, e167_70, e167_73, e167_74, e167_76, e167_77, e167_78, e167_81, e167_83, e167_85, e167_86, e167_87, e167_90, e167_91, e167_93, e167_94, e167_96, e167_97, e167_98, e167_101, e167_102, e167_103, e167_106, e167_109, e167_111, md_g0, md_g1, md_g2, md_g3, md_g4, md_g5, md_g6, md_g7, md_g8, md_g9, md_g10, md_g11, md_g12, md_g13, md_g14, md_g15, md_g16, md_g17, md_g18, md_p3, md_p5, md_p7, md_p8, md_p9, md_p11, md_p13, md_p15, md_l0, md_l1, md_l2, md_l3, md_l4, md_l5, md_l6, md_l7, md_l8, md_l9, md_l10, md_s0, md_s1, md_s2, md_s3, md_s4, md_s5, md_s6, md_s7, md_s8, md_s9, md_s10, md_is, Option.bind_some, Option.toList_some, Option.toList_none, List.cons_append, List.nil_append, true_or, or_true, and_true, true_and, i10, Bool.false_eq_true, if_true, if_false, reduceIte, m_here P1 s3 (show q < 1000 by omega), m_in, t2]
      rw [e167_38]
      simp only [e167_0, e167_1, e167_2, e167_5, e167_6, e167_9, e167_10, e167_13, e167_14, e167_18, e167_21, e167_23, e167_24, e167_26, e167_27, e167_29, e167_30, e167_32, e167_35, e167_39, e167_42, e167_45, e167_47, e167_50, e167_51, e167_54, e167_56, e167_58, e167_61, e167_64, e167_66, e167_68, e167_69, e167_70, e167_73, e167_74, e167_76, e167_77, e167_78, e167_81, e167_83, e167_85, e167_86, e167_87, e167_90, e167_91, e167_93, e167_94, e167_96, e167_97, e167_98, e167_101, e167_102, e167_103, e167_106, e167_109, e167_111, md_g0, md_g1, md_g2, md_g3, md_g4, md_g5, md_g6, md_g7, md_g8, md_g9, md_g10, md_g11, md_g12, md_g13, md_g14, md_g15, md_g16, md_g17, md_g18, md_p3, md_p5, md_p7, md_p8, md_p9, md_p11, md_p13, md_p15, md_l0, md_l1, md_l2, md_l3, md_l4, md_l5, md_l6, md_l7, md_l8, md_l9, md_l10, md_s0, md_s1, md_s2, md_s3, md_s4, md_s5, md_s6, md_s7, md_s8, md_s9, md_s10, md_is, Option.bind_some, Option.toList_some, Option.toList_none, List.cons_append, List.nil_append, true_or, or_true, and_true, true_and, i10, Bool.false_eq_true, if_true, if_false, reduceIte, h4']
  have first : ev (d + 1) 167 0 [some (.ref i), some (.int (nI mark)), some (.int (nI lo)), some (.int (nI hi)), none] [] (hmd h i M) = ev (d + 1) 167 17 [some (.ref i), some (.int (nI mark)), some (.int (nI lo)), some (.int (nI hi)), none] [] (hmd h i (tkS M (f && decide (hre w m p = mark)) p)) := by
    by_cases q : hre w m p = mark
    · have := t1 true 1 rfl
      rw [decide_eq_true q]
      simp only [e167_0, e167_1, e167_2, e167_5, e167_6, e167_9, e167_10, e167_13, e167_14, e167_18, e167_21, e167_23, e167_24, e167_26, e167_27, e167_29, e167_30, e167_32, e167_35, e167_39, e167_42, e167_45, e167_47, e167_50, e167_51, e167_54, e167_56, e167_58, e167_61, e167_64, e167_66, e167_68, e167_69, e167_70, e167_73, e167_74, e167_76, e167_77, e167_78, e167_81, e167_83, e167_85, e167_86, e167_87, e167_90, e167_91, e167_93, e167_94, e167_96, e167_97, e167_98, e167_101, e167_102, e167_103, e167_106, e167_109, e167_111, md_g0, md_g1, md_g2, md_g3, md_g4, md_g5, md_g6, md_g7, md_g8, md_g9, md_g10, md_g11, md_g12, md_g13, md_g14, md_g15, md_g16, md_g17, md_g18, md_p3, md_p5, md_p7, md_p8, md_p9, md_p11, md_p13, md_p15, md_l0, md_l1, md_l2, md_l3, md_l4, md_l5, md_l6, md_l7, md_l8, md_l9, md_l10, md_s0, md_s1, md_s2, md_s3, md_s4, md_s5, md_s6, md_s7, md_s8, md_s9, md_s10, md_is, Option.bind_some, Option.toList_some, Option.toList_none, List.cons_append, List.nil_append, true_or, or_true, and_true, true_and, i10, Bool.false_eq_true, if_true, if_false, reduceIte, m_here hP hp (show p < 1000 by omega), e1, eq_true q, this]
    · have := t1 false 0 rfl
      rw [decide_eq_false q]
      simp only [e167_0, e167_1, e167_2, e167_5, e167_6, e167_9, e167_10, e167_13, e167_14, e167_18, e167_21, e167_23, e167_24, e167_26, e167_27, e167_29, e167_30, e167_32, e167_35, e167_39, e167_42, e167_45, e167_47, e167_50, e167_51, e167_54, e167_56, e167_58, e167_61, e167_64, e167_66, e167_68, e167_69, e167_70, e167_73, e167_74, e167_76, e167_77, e167_78, e167_81, e167_83, e167_85, e167_86, e167_87, e167_90, e167_91, e167_93, e167_94, e167_96, e167_97, e167_98, e167_101, e167_102, e167_103, e167_106, e167_109, e167_111, md_g0, md_g1, md_g2, md_g3, md_g4, md_g5, md_g6, md_g7, md_g8, md_g9, md_g10, md_g11, md_g12, md_g13, md_g14, md_g15, md_g16, md_g17, md_g18, md_p3, md_p5, md_p7, md_p8, md_p9, md_p11, md_p13, md_p15, md_l0, md_l1, md_l2, md_l3, md_l4, md_l5, md_l6, md_l7, md_l8, md_l9, md_l10, md_s0, md_s1, md_s2, md_s3, md_s4, md_s5, md_s6, md_s7, md_s8, md_s9, md_s10, md_is, Option.bind_some, Option.toList_some, Option.toList_none, List.cons_append, List.nil_append, true_or, or_true, and_true, true_and, i10, Bool.false_eq_true, if_true, if_false, reduceIte, m_here hP hp (show p < 1000 by omega), e1, eq_false q, this]
  rw [first]
  unfold tnr
  cases f with
  | false =>
    obtain ⟨M', x, a1, a2, a3, a4, a5⟩ := rest false p rfl rfl hb
    refine ⟨M', x, a1, a2, ?_, fun z => (by cases z), a5⟩
    rw [if_neg (fun z => by cases z.1)] at a3
    exact a3
  | true =>
    by_cases q : hre w m p = mark
    · rw [decide_eq_true q]
      obtain ⟨M', x, a1, a2, a3, a4, a5⟩ := rest true (p + 1) rfl rfl hb2
      rw [if_neg (not_not_intro q)]
      by_cases z : 48 + lo ≤ hre w m (p + 1) ∧ hre w m (p + 1) ≤ 57
      · rw [if_pos ⟨rfl, z⟩] at a3
        rw [decide_eq_true z] at a2
        rw [if_pos z]
        exact ⟨M', x, a1, a2, a3, fun _ v hv => (by cases hv; exact a4 rfl z), a5⟩
      · rw [if_neg (fun y => z y.2)] at a3
        rw [decide_eq_false z] at a2
        rw [if_neg z]
        exact ⟨M', x, a1, a2, a3, fun _ v hv => (by cases hv), a5⟩
    · rw [decide_eq_false q]
      obtain ⟨M', x, a1, a2, a3, a4, a5⟩ := rest false p rfl rfl hb
      rw [if_pos q]
      rw [if_neg (fun z => by cases z.1)] at a3
      exact ⟨M', x, a1, a2, a3, fun _ v hv => (by cases hv), a5⟩
end MREAD
