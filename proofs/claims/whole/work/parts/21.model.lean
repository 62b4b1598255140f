/-! THE REFERENCE: what it reads -/
def mdR (M : oS) (σ : mS) : Prop := M.1 0 0 = nI σ.1 ∧ ∀ c, c < σ.1 → ∀ j, j < 9 → M.1 0 (2 + 9 * c + j) = nI (σ.2 c j)
/-- the chain from the coded holder u ends within f -/
def trm (σ : mS) : Nat → Nat → Prop
  | _, 0 => True
  | 0, _ + 1 => False
  | f + 1, k + 1 => trm σ f (σ.2 k 7)
section MODEL
variable {d : Nat} {h : zH} {i : Nat} {M : oS} {σ : mS} {c : Nat}
theorem m_n (hR : mdR M σ) : zrd 110 (M.1 0) 0 = some (nI σ.1) := by
  have := zrd_nI (n := 110) (k := 0) (f := M.1 0) (by decide) (by decide)
  rw [hR.1] at this
  exact this
theorem m_ix (c j : Nat) : (2 : Int32) + 9 * nI c + nI j = nI (2 + 9 * c + j) := by
  rw [show (2 : Int32) = nI 2 from rfl, show (9 : Int32) = nI 9 from rfl, pk_mul, nI_add, nI_add]
theorem m_of (hR : mdR M σ) (hb : bnd σ) (hc : c < σ.1) (j : Nat) (hj : j < 9) : ev d 133 0 [some (.ref i), some (.int (nI c)), some (.int (nI j))] [] (hmd h i M) = some (some (.int (nI (σ.2 c j))), hmd h i M) := by
  have hn := hb.1
  simp only [e133_0, e133_1, e133_4, e133_5, e133_7, e133_8, e133_9, e133_10, e133_11, e133_12, e133_13, md_g0, md_g1, md_g2, md_g3, md_g4, md_g5, md_g6, md_g7, md_g8, md_g9, md_g10, md_g11, md_g12, md_g13, md_g14, md_g15, md_g16, md_g17, md_g18, md_p3, md_p5, md_p7, md_p8, md_p9, md_p11, md_p13, md_p15, md_l0, md_l1, md_l2, md_l3, md_l4, md_l5, md_l6, md_l7, md_l8, md_l9, md_l10, md_s0, md_s1, md_s2, md_s3, md_s4, md_s5, md_s6, md_s7, md_s8, md_s9, md_s10, md_is, Option.bind_some, Option.toList_some, Option.toList_none, List.cons_append, List.nil_append, true_or, or_true, and_true, true_and, i10, Bool.false_eq_true, if_true, if_false, reduceIte, m_ix, zrd_nI (show 2 + 9 * c + j < 110 by omega) (by decide), hR.2 c hc j hj]
theorem m_of0 (hR : mdR M σ) (hb : bnd σ) (hc : c < σ.1) : ev d 133 0 [some (.ref i), some (.int (nI c)), some (.int 0)] [] (hmd h i M) = some (some (.int (nI (σ.2 c 0))), hmd h i M) := m_of hR hb hc 0 (by decide)
theorem m_of1 (hR : mdR M σ) (hb : bnd σ) (hc : c < σ.1) : ev d 133 0 [some (.ref i), some (.int (nI c)), some (.int 1)] [] (hmd h i M) = some (some (.int (nI (σ.2 c 1))), hmd h i M) := m_of hR hb hc 1 (by decide)
theorem m_of2 (hR : mdR M σ) (hb : bnd σ) (hc : c < σ.1) : ev d 133 0 [some (.ref i), some (.int (nI c)), some (.int 2)] [] (hmd h i M) = some (some (.int (nI (σ.2 c 2))), hmd h i M) := m_of hR hb hc 2 (by decide)
theorem m_of3 (hR : mdR M σ) (hb : bnd σ) (hc : c < σ.1) : ev d 133 0 [some (.ref i), some (.int (nI c)), some (.int 3)] [] (hmd h i M) = some (some (.int (nI (σ.2 c 3))), hmd h i M) := m_of hR hb hc 3 (by decide)
theorem m_of4 (hR : mdR M σ) (hb : bnd σ) (hc : c < σ.1) : ev d 133 0 [some (.ref i), some (.int (nI c)), some (.int 4)] [] (hmd h i M) = some (some (.int (nI (σ.2 c 4))), hmd h i M) := m_of hR hb hc 4 (by decide)
theorem m_of5 (hR : mdR M σ) (hb : bnd σ) (hc : c < σ.1) : ev d 133 0 [some (.ref i), some (.int (nI c)), some (.int 5)] [] (hmd h i M) = some (some (.int (nI (σ.2 c 5))), hmd h i M) := m_of hR hb hc 5 (by decide)
theorem m_of6 (hR : mdR M σ) (hb : bnd σ) (hc : c < σ.1) : ev d 133 0 [some (.ref i), some (.int (nI c)), some (.int 6)] [] (hmd h i M) = some (some (.int (nI (σ.2 c 6))), hmd h i M) := m_of hR hb hc 6 (by decide)
theorem m_of7 (hR : mdR M σ) (hb : bnd σ) (hc : c < σ.1) : ev d 133 0 [some (.ref i), some (.int (nI c)), some (.int 7)] [] (hmd h i M) = some (some (.int (nI (σ.2 c 7))), hmd h i M) := m_of hR hb hc 7 (by decide)
theorem m_of8 (hR : mdR M σ) (hb : bnd σ) (hc : c < σ.1) : ev d 133 0 [some (.ref i), some (.int (nI c)), some (.int 8)] [] (hmd h i M) = some (some (.int (nI (σ.2 c 8))), hmd h i M) := m_of hR hb hc 8 (by decide)
theorem m_around (hR : mdR M σ) (hb : bnd σ) (hc : c < σ.1) : ev (d + 1) 135 0 [some (.ref i), some (.int (nI c))] [] (hmd h i M) = some (some (.int (hI (σ.2 c 7))), hmd h i M) := by
  simp only [e135_0, e135_1, e135_2, e135_4, e135_7, e135_8, e135_9, md_g0, md_g1, md_g2, md_g3, md_g4, md_g5, md_g6, md_g7, md_g8, md_g9, md_g10, md_g11, md_g12, md_g13, md_g14, md_g15, md_g16, md_g17, md_g18, md_p3, md_p5, md_p7, md_p8, md_p9, md_p11, md_p13, md_p15, md_l0, md_l1, md_l2, md_l3, md_l4, md_l5, md_l6, md_l7, md_l8, md_l9, md_l10, md_s0, md_s1, md_s2, md_s3, md_s4, md_s5, md_s6, md_s7, md_s8, md_s9, md_s10, md_is, Option.bind_some, Option.toList_some, Option.toList_none, List.cons_append, List.nil_append, true_or, or_true, and_true, true_and, i10, Bool.false_eq_true, if_true, if_false, reduceIte, m_of7 hR hb hc]
  rfl
theorem m_pile (hR : mdR M σ) (hb : bnd σ) (hc : c < σ.1) : ev (d + 2) 136 0 [some (.ref i), some (.int (nI c)), none, none] [] (hmd h i M) = some (some (.int (nI (pil σ c))), hmd h i M) := by
  have hn := hb.1
  have h0 := m_n hR
  have step : ∀ (k : Nat) (s : Nat), k < σ.1 → ev (d + 2) 136 4 [some (.ref i), some (.int (nI c)), some (.int (nI s)), some (.int (nI k))] [] (hmd h i M) = ev (d + 2) 136 4 [some (.ref i), some (.int (nI c)), some (.int (nI (s + if decide (σ.2 k 7 = c + 1) then 1 else 0))), some (.int (nI (k + 1)))] [] (hmd h i M) := by
    intro k s hk
    have hlt : (σ.1 ≤ k) = False := eq_false (by omega)
    have h7 := (hb.2 k hk).2.2.2.2.1
    rw [e136_4]
    simp only [e136_0, e136_1, e136_2, e136_3, e136_5, e136_6, e136_9, e136_10, e136_11, e136_14, e136_15, e136_16, e136_17, e136_20, e136_21, e136_24, e136_25, e136_28, e136_29, e136_30, e136_31, e136_34, e136_37, e136_38, md_g0, md_g1, md_g2, md_g3, md_g4, md_g5, md_g6, md_g7, md_g8, md_g9, md_g10, md_g11, md_g12, md_g13, md_g14, md_g15, md_g16, md_g17, md_g18, md_p3, md_p5, md_p7, md_p8, md_p9, md_p11, md_p13, md_p15, md_l0, md_l1, md_l2, md_l3, md_l4, md_l5, md_l6, md_l7, md_l8, md_l9, md_l10, md_s0, md_s1, md_s2, md_s3, md_s4, md_s5, md_s6, md_s7, md_s8, md_s9, md_s10, md_is, Option.bind_some, Option.toList_some, Option.toList_none, List.cons_append, List.nil_append, true_or, or_true, and_true, true_and, i10, Bool.false_eq_true, if_true, if_false, reduceIte, h0, nI_lep (show σ.1 < 2147483648 by omega) (show k < 2147483648 by omega), hlt, nI_1, m_around hR hb hk, hI_eq (show σ.2 k 7 < 2147483648 by omega) (show c < 2147483648 by omega)]
    by_cases q : σ.2 k 7 = c + 1
    · simp [q, nI_1]
    · simp [q]
  have fin : ∀ s : Nat, ev (d + 2) 136 4 [some (.ref i), some (.int (nI c)), some (.int (nI s)), some (.int (nI σ.1))] [] (hmd h i M) = some (some (.int (nI s)), hmd h i M) := by
    intro s
    rw [e136_4]
    simp only [e136_0, e136_1, e136_2, e136_3, e136_5, e136_6, e136_9, e136_10, e136_11, e136_14, e136_15, e136_16, e136_17, e136_20, e136_21, e136_24, e136_25, e136_28, e136_29, e136_30, e136_31, e136_34, e136_37, e136_38, md_g0, md_g1, md_g2, md_g3, md_g4, md_g5, md_g6, md_g7, md_g8, md_g9, md_g10, md_g11, md_g12, md_g13, md_g14, md_g15, md_g16, md_g17, md_g18, md_p3, md_p5, md_p7, md_p8, md_p9, md_p11, md_p13, md_p15, md_l0, md_l1, md_l2, md_l3, md_l4, md_l5, md_l6, md_l7, md_l8, md_l9, md_l10, md_s0, md_s1, md_s2, md_s3, md_s4, md_s5, md_s6, md_s7, md_s8, md_s9, md_s10, md_is, Option.bind_some, Option.toList_some, Option.toList_none, List.cons_append, List.nil_append, true_or, or_true, and_true, true_and, i10, Bool.false_eq_true, if_true, if_false, reduceIte, h0, Int32.le_refl]
  simp only [e136_0, e136_1, e136_2, e136_3, e136_5, e136_6, e136_9, e136_10, e136_11, e136_14, e136_15, e136_16, e136_17, e136_20, e136_21, e136_24, e136_25, e136_28, e136_29, e136_30, e136_31, e136_34, e136_37, e136_38, md_g0, md_g1, md_g2, md_g3, md_g4, md_g5, md_g6, md_g7, md_g8, md_g9, md_g10, md_g11, md_g12, md_g13, md_g14, md_g15, md_g16, md_g17, md_g18, md_p3, md_p5, md_p7, md_p8, md_p9, md_p11, md_p13, md_p15, md_l0, md_l1, md_l2, md_l3, md_l4, md_l5, md_l6, md_l7, md_l8, md_l9, md_l10, md_s0, md_s1, md_s2, md_s3, md_s4, md_s5, md_s6, md_s7, md_s8, md_s9, md_s10, md_is, Option.bind_some, Option.toList_some, Option.toList_none, List.cons_append, List.nil_append, true_or, or_true, and_true, true_and, i10, Bool.false_eq_true, if_true, if_false, reduceIte, h0]
  have main := z_for (fun (k : Nat) (s : Nat) => ev (d + 2) 136 4 [some (.ref i), some (.int (nI c)), some (.int (nI s)), some (.int (nI k))] [] (hmd h i M)) (fun (k : Nat) (s : Nat) => s + if decide (σ.2 k 7 = c + 1) then 1 else 0) (n := σ.1) (s := 0) (fun k s hk => step k s hk)
  rw [zfold_ct, Nat.zero_add, fin] at main
  exact main
theorem m_roomLeft (hR : mdR M σ) (hb : bnd σ) (hc : c < σ.1) : ev (d + 2) 138 0 [some (.ref i), some (.int (nI c)), none, none] [] (hmd h i M) = some (some (.int (iI (lft σ c))), hmd h i M) := by
  have hn := hb.1
  have h0 := m_n hR
  have step : ∀ (k : Nat) (s : Nat), k < σ.1 → ev (d + 2) 138 9 [some (.ref i), some (.int (nI c)), some (.int (iI ((σ.2 c 1 : Int) - (s : Nat)))), some (.int (nI k))] [] (hmd h i M) = ev (d + 2) 138 9 [some (.ref i), some (.int (nI c)), some (.int (iI ((σ.2 c 1 : Int) - ((s + if σ.2 k 7 = c + 1 then σ.2 k 0 else 0) : Nat)))), some (.int (nI (k + 1)))] [] (hmd h i M) := by
    intro k s hk
    have hlt : (σ.1 ≤ k) = False := eq_false (by omega)
    have h7 := (hb.2 k hk).2.2.2.2.1
    rw [e138_9]
    simp only [e138_0, e138_1, e138_2, e138_3, e138_6, e138_7, e138_8, e138_10, e138_11, e138_14, e138_15, e138_16, e138_19, e138_20, e138_21, e138_22, e138_25, e138_26, e138_29, e138_30, e138_31, e138_32, e138_35, e138_38, e138_39, e138_40, e138_41, e138_44, e138_47, e138_48, md_g0, md_g1, md_g2, md_g3, md_g4, md_g5, md_g6, md_g7, md_g8, md_g9, md_g10, md_g11, md_g12, md_g13, md_g14, md_g15, md_g16, md_g17, md_g18, md_p3, md_p5, md_p7, md_p8, md_p9, md_p11, md_p13, md_p15, md_l0, md_l1, md_l2, md_l3, md_l4, md_l5, md_l6, md_l7, md_l8, md_l9, md_l10, md_s0, md_s1, md_s2, md_s3, md_s4, md_s5, md_s6, md_s7, md_s8, md_s9, md_s10, md_is, Option.bind_some, Option.toList_some, Option.toList_none, List.cons_append, List.nil_append, true_or, or_true, and_true, true_and, i10, Bool.false_eq_true, if_true, if_false, reduceIte, h0, nI_lep (show σ.1 < 2147483648 by omega) (show k < 2147483648 by omega), hlt, nI_1, m_around hR hb hk, m_of0 hR hb hk, hI_eq (show σ.2 k 7 < 2147483648 by omega) (show c < 2147483648 by omega)]
    by_cases q : σ.2 k 7 = c + 1
    · simp only [q, iI_nat, iI_sub, Option.bind_some, Option.toList_some, Option.toList_none, List.cons_append, List.nil_append, true_or, or_true, and_true, true_and, i10, Bool.false_eq_true, if_true, if_false, reduceIte, Int.natCast_add, Int.sub_sub]
    · simp only [q, Option.bind_some, Option.toList_some, Option.toList_none, List.cons_append, List.nil_append, true_or, or_true, and_true, true_and, i10, Bool.false_eq_true, if_true, if_false, reduceIte, Nat.add_zero, show (0 : Int32) = iI 0 from rfl, iI_sub, Int.sub_zero]
  have fin : ∀ s : Nat, ev (d + 2) 138 9 [some (.ref i), some (.int (nI c)), some (.int (iI ((σ.2 c 1 : Int) - (s : Nat)))), some (.int (nI σ.1))] [] (hmd h i M) = some (some (.int (iI ((σ.2 c 1 : Int) - (s : Nat)))), hmd h i M) := by
    intro s
    rw [e138_9]
    simp only [e138_0, e138_1, e138_2, e138_3, e138_6, e138_7, e138_8, e138_10, e138_11, e138_14, e138_15, e138_16, e138_19, e138_20, e138_21, e138_22, e138_25, e138_26, e138_29, e138_30, e138_31, e138_32, e138_35, e138_38, e138_39, e138_40, e138_41, e138_44, e138_47, e138_48, md_g0, md_g1, md_g2, md_g3, md_g4, md_g5, md_g6, md_g7, md_g8, md_g9, md_g10, md_g11, md_g12, md_g13, md_g14, md_g15, md_g16, md_g17, md_g18, md_p3, md_p5, md_p7, md_p8, md_p9, md_p11, md_p13, md_p15, md_l0, md_l1, md_l2, md_l3, md_l4, md_l5, md_l6, md_l7, md_l8, md_l9, md_l10, md_s0, md_s1, md_s2, md_s3, md_s4, md_s5, md_s6, md_s7, md_s8, md_s9, md_s10, md_is, Option.bind_some, Option.toList_some, Option.toList_none, List.cons_append, List.nil_append, true_or, or_true, and_true, true_and, i10, Bool.false_eq_true, if_true, if_false, reduceIte, h0, Int32.le_refl]
  simp only [e138_0, e138_1, e138_2, e138_3, e138_6, e138_7, e138_8, e138_10, e138_11, e138_14, e138_15, e138_16, e138_19, e138_20, e138_21, e138_22, e138_25, e138_26, e138_29, e138_30, e138_31, e138_32, e138_35, e138_38, e138_39, e138_40, e138_41, e138_44, e138_47, e138_48, md_g0, md_g1, md_g2, md_g3, md_g4, md_g5, md_g6, md_g7, md_g8, md_g9, md_g10, md_g11, md_g12, md_g13, md_g14, md_g15, md_g16, md_g17, md_g18, md_p3, md_p5, md_p7, md_p8, md_p9, md_p11, md_p13, md_p15, md_l0, md_l1, md_l2, md_l3, md_l4, md_l5, md_l6, md_l7, md_l8, md_l9, md_l10, md_s0, md_s1, md_s2, md_s3, md_s4, md_s5, md_s6, md_s7, md_s8, md_s9, md_s10, md_is, Option.bind_some, Option.toList_some, Option.toList_none, List.cons_append, List.nil_append, true_or, or_true, and_true, true_and, i10, Bool.false_eq_true, if_true, if_false, reduceIte, h0, m_of1 hR hb hc]
  have main := z_for (fun (k : Nat) (s : Nat) => ev (d + 2) 138 9 [some (.ref i), some (.int (nI c)), some (.int (iI ((σ.2 c 1 : Int) - (s : Nat)))), some (.int (nI k))] [] (hmd h i M)) (fun (k : Nat) (s : Nat) => s + if σ.2 k 7 = c + 1 then σ.2 k 0 else 0) (n := σ.1) (s := 0) (fun k s hk => step k s hk)
  rw [zfold_sm, Nat.zero_add, fin] at main
  rw [iI_nat]
  have e0 : ((σ.2 c 1 : Int) - ((0 : Nat) : Int)) = (σ.2 c 1 : Int) := by omega
  rw [e0] at main
  exact main
theorem hI_neg {u : Nat} (hu : u < 2147483648) : (hI u < 0) = (u = 0) := by
  cases u with
  | zero => rw [hI_0]; exact propext ⟨fun _ => rfl, fun _ => by decide⟩
  | succ k => rw [hI_s]; exact propext ⟨fun h => absurd h (nI_pos (by omega)), fun h => by omega⟩
theorem m_depth1 (hR : mdR M σ) (hb : bnd σ) : ∀ (f s u : Nat), trm σ f u → u ≤ σ.1 → ev (d + 2) 139 8 [some (.ref i), some (.int (nI c)), some (.int (nI s)), some (.int (hI u))] [] (hmd h i M) = some (some (.int (nI (s + (chu σ f u).length))), hmd h i M) := by
  intro f
  induction f with
  | zero =>
    intro s u ht hu
    have hn := hb.1
    cases u with
    | succ k => exact ht.elim
    | zero =>
      rw [e139_8]
      simp only [e139_0, e139_1, e139_2, e139_3, e139_4, e139_7, e139_9, e139_12, e139_15, e139_16, e139_17, e139_20, e139_21, e139_24, e139_25, md_g0, md_g1, md_g2, md_g3, md_g4, md_g5, md_g6, md_g7, md_g8, md_g9, md_g10, md_g11, md_g12, md_g13, md_g14, md_g15, md_g16, md_g17, md_g18, md_p3, md_p5, md_p7, md_p8, md_p9, md_p11, md_p13, md_p15, md_l0, md_l1, md_l2, md_l3, md_l4, md_l5, md_l6, md_l7, md_l8, md_l9, md_l10, md_s0, md_s1, md_s2, md_s3, md_s4, md_s5, md_s6, md_s7, md_s8, md_s9, md_s10, md_is, Option.bind_some, Option.toList_some, Option.toList_none, List.cons_append, List.nil_append, true_or, or_true, and_true, true_and, i10, Bool.false_eq_true, if_true, if_false, reduceIte, hI_neg (show 0 < 2147483648 by omega), chu, List.length_nil, Nat.add_zero]
  | succ f ih =>
    intro s u ht hu
    have hn := hb.1
    rw [e139_8]
    cases u with
    | zero => simp only [e139_0, e139_1, e139_2, e139_3, e139_4, e139_7, e139_9, e139_12, e139_15, e139_16, e139_17, e139_20, e139_21, e139_24, e139_25, md_g0, md_g1, md_g2, md_g3, md_g4, md_g5, md_g6, md_g7, md_g8, md_g9, md_g10, md_g11, md_g12, md_g13, md_g14, md_g15, md_g16, md_g17, md_g18, md_p3, md_p5, md_p7, md_p8, md_p9, md_p11, md_p13, md_p15, md_l0, md_l1, md_l2, md_l3, md_l4, md_l5, md_l6, md_l7, md_l8, md_l9, md_l10, md_s0, md_s1, md_s2, md_s3, md_s4, md_s5, md_s6, md_s7, md_s8, md_s9, md_s10, md_is, Option.bind_some, Option.toList_some, Option.toList_none, List.cons_append, List.nil_append, true_or, or_true, and_true, true_and, i10, Bool.false_eq_true, if_true, if_false, reduceIte, hI_neg (show 0 < 2147483648 by omega), chu, List.length_nil, Nat.add_zero]
    | succ k =>
      have h7 := (hb.2 k (by omega)).2.2.2.2.1
      have hne : (nI k < 0) = False := eq_false (nI_pos (by omega))
      simp only [e139_0, e139_1, e139_2, e139_3, e139_4, e139_7, e139_9, e139_12, e139_15, e139_16, e139_17, e139_20, e139_21, e139_24, e139_25, md_g0, md_g1, md_g2, md_g3, md_g4, md_g5, md_g6, md_g7, md_g8, md_g9, md_g10, md_g11, md_g12, md_g13, md_g14, md_g15, md_g16, md_g17, md_g18, md_p3, md_p5, md_p7, md_p8, md_p9, md_p11, md_p13, md_p15, md_l0, md_l1, md_l2, md_l3, md_l4, md_l5, md_l6, md_l7, md_l8, md_l9, md_l10, md_s0, md_s1, md_s2, md_s3, md_s4, md_s5, md_s6, md_s7, md_s8, md_s9, md_s10, md_is, Option.bind_some, Option.toList_some, Option.toList_none, List.cons_append, List.nil_append, true_or, or_true, and_true, true_and, i10, Bool.false_eq_true, if_true, if_false, reduceIte, hI_s, hne, m_around hR hb (show k < σ.1 by omega), nI_1]
      rw [ih (s + 1) (σ.2 k 7) ht h7]
      rw [chu, List.length_cons, show s + 1 + (chu σ f (σ.2 k 7)).length = s + ((chu σ f (σ.2 k 7)).length + 1) by omega]
theorem m_depthOf (hR : mdR M σ) (hb : bnd σ) (hc : c < σ.1) (ht : trm σ 12 (σ.2 c 7)) : ev (d + 2) 139 0 [some (.ref i), some (.int (nI c)), none, none] [] (hmd h i M) = some (some (.int (nI (dpt σ c))), hmd h i M) := by
  simp only [e139_0, e139_1, e139_2, e139_3, e139_4, e139_7, e139_9, e139_12, e139_15, e139_16, e139_17, e139_20, e139_21, e139_24, e139_25, md_g0, md_g1, md_g2, md_g3, md_g4, md_g5, md_g6, md_g7, md_g8, md_g9, md_g10, md_g11, md_g12, md_g13, md_g14, md_g15, md_g16, md_g17, md_g18, md_p3, md_p5, md_p7, md_p8, md_p9, md_p11, md_p13, md_p15, md_l0, md_l1, md_l2, md_l3, md_l4, md_l5, md_l6, md_l7, md_l8, md_l9, md_l10, md_s0, md_s1, md_s2, md_s3, md_s4, md_s5, md_s6, md_s7, md_s8, md_s9, md_s10, md_is, Option.bind_some, Option.toList_some, Option.toList_none, List.cons_append, List.nil_append, true_or, or_true, and_true, true_and, i10, Bool.false_eq_true, if_true, if_false, reduceIte, m_around hR hb hc]
  have := m_depth1 (d := d) (h := h) (i := i) (c := c) hR hb 12 0 (σ.2 c 7) ht (hb.2 c hc).2.2.2.2.1
  rw [Nat.zero_add] at this
  exact this
theorem m_holds1 (hR : mdR M σ) (hb : bnd σ) {o x : Nat} (ho : o < σ.1) : ∀ (f u : Nat), trm σ f u → u ≤ σ.1 → ev (d + 2) 140 2 [some (.ref i), some (.int (nI o)), some (.int (nI x)), some (.int (hI u))] [] (hmd h i M) = some (some (.int (bI (o ∈ chu σ f u))), hmd h i M) := by
  have hn := hb.1
  have base : ∀ f, ev (d + 2) 140 2 [some (.ref i), some (.int (nI o)), some (.int (nI x)), some (.int (hI 0))] [] (hmd h i M) = some (some (.int (bI (o ∈ chu σ f 0))), hmd h i M) := by
    intro f
    have e0 : (hI 0 = nI o) = False := by rw [hI_eq (by omega) (by omega)]; exact eq_false (by omega)
    have e1 : chu σ f 0 = [] := by cases f <;> rfl
    rw [e140_2]
    simp only [e140_0, e140_1, e140_3, e140_6, e140_7, e140_8, e140_11, e140_12, e140_13, e140_16, e140_17, e140_20, e140_21, e140_22, e140_25, e140_26, e140_29, e140_30, md_g0, md_g1, md_g2, md_g3, md_g4, md_g5, md_g6, md_g7, md_g8, md_g9, md_g10, md_g11, md_g12, md_g13, md_g14, md_g15, md_g16, md_g17, md_g18, md_p3, md_p5, md_p7, md_p8, md_p9, md_p11, md_p13, md_p15, md_l0, md_l1, md_l2, md_l3, md_l4, md_l5, md_l6, md_l7, md_l8, md_l9, md_l10, md_s0, md_s1, md_s2, md_s3, md_s4, md_s5, md_s6, md_s7, md_s8, md_s9, md_s10, md_is, Option.bind_some, Option.toList_some, Option.toList_none, List.cons_append, List.nil_append, true_or, or_true, and_true, true_and, i10, Bool.false_eq_true, if_true, if_false, reduceIte, hI_neg (show 0 < 2147483648 by omega), e0, e1, bI, List.not_mem_nil]
  intro f
  induction f with
  | zero =>
    intro u ht hu
    cases u with
    | succ k => exact ht.elim
    | zero => exact base 0
  | succ f ih =>
    intro u ht hu
    cases u with
    | zero => exact base (f + 1)
    | succ k =>
      have h7 := (hb.2 k (by omega)).2.2.2.2.1
      have hne : (nI k < 0) = False := eq_false (nI_pos (by omega))
      rw [e140_2]
      simp only [e140_0, e140_1, e140_3, e140_6, e140_7, e140_8, e140_11, e140_12, e140_13, e140_16, e140_17, e140_20, e140_21, e140_22, e140_25, e140_26, e140_29, e140_30, md_g0, md_g1, md_g2, md_g3, md_g4, md_g5, md_g6, md_g7, md_g8, md_g9, md_g10, md_g11, md_g12, md_g13, md_g14, md_g15, md_g16, md_g17, md_g18, md_p3, md_p5, md_p7, md_p8, md_p9, md_p11, md_p13, md_p15, md_l0, md_l1, md_l2, md_l3, md_l4, md_l5, md_l6, md_l7, md_l8, md_l9, md_l10, md_s0, md_s1, md_s2, md_s3, md_s4, md_s5, md_s6, md_s7, md_s8, md_s9, md_s10, md_is, Option.bind_some, Option.toList_some, Option.toList_none, List.cons_append, List.nil_append, true_or, or_true, and_true, true_and, i10, Bool.false_eq_true, if_true, if_false, reduceIte, hI_s, hne, nI_eqp (show k < 2147483648 by omega) (show o < 2147483648 by omega), m_around hR hb (show k < σ.1 by omega)]
      by_cases q : k = o
      · subst q
        simp only [Option.bind_some, Option.toList_some, Option.toList_none, List.cons_append, List.nil_append, true_or, or_true, and_true, true_and, i10, Bool.false_eq_true, if_true, if_false, reduceIte, chu, bI, List.mem_cons]
      · rw [if_neg q, ih (σ.2 k 7) ht h7]
        rw [bI_congr (p := o ∈ chu σ (f + 1) (k + 1)) (q := o ∈ chu σ f (σ.2 k 7)) (by rw [chu, List.mem_cons]; exact ⟨fun z => z.resolve_left (fun w => q w.symm), Or.inr⟩)]
theorem m_holds (hR : mdR M σ) (hb : bnd σ) {o : Nat} (ho : o < σ.1) (hc : c < σ.1) (ht : trm σ 12 (σ.2 c 7)) : ev (d + 2) 140 0 [some (.ref i), some (.int (nI o)), some (.int (nI c)), none] [] (hmd h i M) = some (some (.int (bI (o = c ∨ o ∈ chn σ c))), hmd h i M) := by
  simp only [e140_0, e140_1, e140_3, e140_6, e140_7, e140_8, e140_11, e140_12, e140_13, e140_16, e140_17, e140_20, e140_21, e140_22, e140_25, e140_26, e140_29, e140_30, md_g0, md_g1, md_g2, md_g3, md_g4, md_g5, md_g6, md_g7, md_g8, md_g9, md_g10, md_g11, md_g12, md_g13, md_g14, md_g15, md_g16, md_g17, md_g18, md_p3, md_p5, md_p7, md_p8, md_p9, md_p11, md_p13, md_p15, md_l0, md_l1, md_l2, md_l3, md_l4, md_l5, md_l6, md_l7, md_l8, md_l9, md_l10, md_s0, md_s1, md_s2, md_s3, md_s4, md_s5, md_s6, md_s7, md_s8, md_s9, md_s10, md_is, Option.bind_some, Option.toList_some, Option.toList_none, List.cons_append, List.nil_append, true_or, or_true, and_true, true_and, i10, Bool.false_eq_true, if_true, if_false, reduceIte]
  have := m_holds1 (d := d) (h := h) (i := i) (x := c) hR hb ho 13 (c + 1) ht (by omega)
  rw [hI_s] at this
  rw [this]
  rw [bI_congr (p := o ∈ chu σ 13 (c + 1)) (q := o = c ∨ o ∈ chn σ c) (by rw [chu, List.mem_cons]; exact Iff.rfl)]
theorem m_loadOf (hR : mdR M σ) (hb : bnd σ) (hc : c < σ.1) (ht : ∀ x, x < σ.1 → trm σ 12 (σ.2 x 7)) (hir : c ∉ chn σ c) : ev (d + 3) 141 0 [some (.ref i), some (.int (nI c)), none, none] [] (hmd h i M) = some (some (.int (nI (lod σ c))), hmd h i M) := by
  have hn := hb.1
  have h0 := m_n hR
  have step : ∀ (k : Nat) (s : Nat), k < σ.1 → ev (d + 3) 141 4 [some (.ref i), some (.int (nI c)), some (.int (nI s)), some (.int (nI k))] [] (hmd h i M) = ev (d + 3) 141 4 [some (.ref i), some (.int (nI c)), some (.int (nI (s + if decide (c ∈ chn σ k) then 1 else 0))), some (.int (nI (k + 1)))] [] (hmd h i M) := by
    intro k s hk
    have hlt : (σ.1 ≤ k) = False := eq_false (by omega)
    rw [e141_4]
    simp only [e141_0, e141_1, e141_2, e141_3, e141_5, e141_6, e141_9, e141_10, e141_11, e141_14, e141_15, e141_16, e141_17, e141_20, e141_21, e141_22, e141_23, e141_26, e141_29, e141_30, e141_33, e141_34, e141_35, e141_36, e141_39, e141_42, e141_43, md_g0, md_g1, md_g2, md_g3, md_g4, md_g5, md_g6, md_g7, md_g8, md_g9, md_g10, md_g11, md_g12, md_g13, md_g14, md_g15, md_g16, md_g17, md_g18, md_p3, md_p5, md_p7, md_p8, md_p9, md_p11, md_p13, md_p15, md_l0, md_l1, md_l2, md_l3, md_l4, md_l5, md_l6, md_l7, md_l8, md_l9, md_l10, md_s0, md_s1, md_s2, md_s3, md_s4, md_s5, md_s6, md_s7, md_s8, md_s9, md_s10, md_is, Option.bind_some, Option.toList_some, Option.toList_none, List.cons_append, List.nil_append, true_or, or_true, and_true, true_and, i10, Bool.false_eq_true, if_true, if_false, reduceIte, h0, nI_lep (show σ.1 < 2147483648 by omega) (show k < 2147483648 by omega), hlt, nI_1, nI_eqp (show k < 2147483648 by omega) (show c < 2147483648 by omega), m_holds hR hb hc hk (ht k hk), bI_0]
    by_cases q0 : k = c
    · subst q0
      simp [hir]
    · by_cases q : c ∈ chn σ k
      · simp [q, q0, nI_1]
      · have q1 : ¬ (c = k ∨ c ∈ chn σ k) := fun z => z.elim (fun w => q0 w.symm) q
        have q2 : ¬ c = k := fun w => q0 w.symm
        simp [q, q0, q1, q2]
  have fin : ∀ s : Nat, ev (d + 3) 141 4 [some (.ref i), some (.int (nI c)), some (.int (nI s)), some (.int (nI σ.1))] [] (hmd h i M) = some (some (.int (nI s)), hmd h i M) := by
    intro s
    rw [e141_4]
    simp only [e141_0, e141_1, e141_2, e141_3, e141_5, e141_6, e141_9, e141_10, e141_11, e141_14, e141_15, e141_16, e141_17, e141_20, e141_21, e141_22, e141_23, e141_26, e141_29, e141_30, e141_33, e141_34, e141_35, e141_36, e141_39, e141_42, e141_43, md_g0, md_g1, md_g2, md_g3, md_g4, md_g5, md_g6, md_g7, md_g8, md_g9, md_g10, md_g11, md_g12, md_g13, md_g14, md_g15, md_g16, md_g17, md_g18, md_p3, md_p5, md_p7, md_p8, md_p9, md_p11, md_p13, md_p15, md_l0, md_l1, md_l2, md_l3, md_l4, md_l5, md_l6, md_l7, md_l8, md_l9, md_l10, md_s0, md_s1, md_s2, md_s3, md_s4, md_s5, md_s6, md_s7, md_s8, md_s9, md_s10, md_is, Option.bind_some, Option.toList_some, Option.toList_none, List.cons_append, List.nil_append, true_or, or_true, and_true, true_and, i10, Bool.false_eq_true, if_true, if_false, reduceIte, h0, Int32.le_refl]
  simp only [e141_0, e141_1, e141_2, e141_3, e141_5, e141_6, e141_9, e141_10, e141_11, e141_14, e141_15, e141_16, e141_17, e141_20, e141_21, e141_22, e141_23, e141_26, e141_29, e141_30, e141_33, e141_34, e141_35, e141_36, e141_39, e141_42, e141_43, md_g0, md_g1, md_g2, md_g3, md_g4, md_g5, md_g6, md_g7, md_g8, md_g9, md_g10, md_g11, md_g12, md_g13, md_g14, md_g15, md_g16, md_g17, md_g18, md_p3, md_p5, md_p7, md_p8, md_p9, md_p11, md_p13, md_p15, md_l0, md_l1, md_l2, md_l3, md_l4, md_l5, md_l6, md_l7, md_l8, md_l9, md_l10, md_s0, md_s1, md_s2, md_s3, md_s4, md_s5, md_s6, md_s7, md_s8, md_s9, md_s10, md_is, Option.bind_some, Option.toList_some, Option.toList_none, List.cons_append, List.nil_append, true_or, or_true, and_true, true_and, i10, Bool.false_eq_true, if_true, if_false, reduceIte, h0]
  have main := z_for (fun (k : Nat) (s : Nat) => ev (d + 3) 141 4 [some (.ref i), some (.int (nI c)), some (.int (nI s)), some (.int (nI k))] [] (hmd h i M)) (fun (k : Nat) (s : Nat) => s + if decide (c ∈ chn σ k) then 1 else 0) (n := σ.1) (s := 0) (fun k s hk => step k s hk)
  rw [zfold_ct, Nat.zero_add, fin] at main
  exact main
/-- the topmost one of its pile -/
def tpb (σ : mS) (c : Nat) : Bool := match σ.2 c 7 with
  | 0 => true
  | k + 1 => decide (σ.2 c 8 + 1 = pil σ k)
theorem m_isTop (hR : mdR M σ) (hb : bnd σ) (hc : c < σ.1) : ev (d + 3) 142 0 [some (.ref i), some (.int (nI c))] [] (hmd h i M) = some (some (.int (bI (tpb σ c = true))), hmd h i M) := by
  have hn := hb.1
  have h7 := (hb.2 c hc).2.2.2.2.1
  have h8 := (hb.2 c hc).2.2.2.2.2
  simp only [e142_0, e142_1, e142_2, e142_5, e142_8, e142_9, e142_10, e142_12, e142_15, e142_16, e142_17, e142_18, e142_21, e142_24, e142_25, e142_26, e142_29, e142_30, e142_33, e142_34, md_g0, md_g1, md_g2, md_g3, md_g4, md_g5, md_g6, md_g7, md_g8, md_g9, md_g10, md_g11, md_g12, md_g13, md_g14, md_g15, md_g16, md_g17, md_g18, md_p3, md_p5, md_p7, md_p8, md_p9, md_p11, md_p13, md_p15, md_l0, md_l1, md_l2, md_l3, md_l4, md_l5, md_l6, md_l7, md_l8, md_l9, md_l10, md_s0, md_s1, md_s2, md_s3, md_s4, md_s5, md_s6, md_s7, md_s8, md_s9, md_s10, md_is, Option.bind_some, Option.toList_some, Option.toList_none, List.cons_append, List.nil_append, true_or, or_true, and_true, true_and, i10, Bool.false_eq_true, if_true, if_false, reduceIte, m_around hR hb hc, hI_neg (show σ.2 c 7 < 2147483648 by omega), m_of8 hR hb hc]
  cases q : σ.2 c 7 with
  | zero =>
    have : tpb σ c = true := by unfold tpb; rw [q]
    rw [if_pos rfl, bI_t this]
  | succ k =>
    have hp := pil_le (c := k) hb
    have e1 : (nI (σ.2 c 8) = nI (pil σ k) - 1) = (σ.2 c 8 + 1 = pil σ k) := by
      rw [show (1 : Int32) = nI 1 from rfl, iI_nat, iI_nat, iI_nat, iI_sub, iI_eq (by omega) (by omega)]
      exact propext ⟨fun z => by omega, fun z => by omega⟩
    rw [if_neg (by omega)]
    simp only [hI_s, m_pile hR hb (show k < σ.1 by omega), e142_0, e142_1, e142_2, e142_5, e142_8, e142_9, e142_10, e142_12, e142_15, e142_16, e142_17, e142_18, e142_21, e142_24, e142_25, e142_26, e142_29, e142_30, e142_33, e142_34, md_g0, md_g1, md_g2, md_g3, md_g4, md_g5, md_g6, md_g7, md_g8, md_g9, md_g10, md_g11, md_g12, md_g13, md_g14, md_g15, md_g16, md_g17, md_g18, md_p3, md_p5, md_p7, md_p8, md_p9, md_p11, md_p13, md_p15, md_l0, md_l1, md_l2, md_l3, md_l4, md_l5, md_l6, md_l7, md_l8, md_l9, md_l10, md_s0, md_s1, md_s2, md_s3, md_s4, md_s5, md_s6, md_s7, md_s8, md_s9, md_s10, md_is, Option.bind_some, Option.toList_some, Option.toList_none, List.cons_append, List.nil_append, true_or, or_true, and_true, true_and, i10, Bool.false_eq_true, if_true, if_false, reduceIte, e1]
    have e2 : tpb σ c = decide (σ.2 c 8 + 1 = pil σ k) := by unfold tpb; rw [q]
    by_cases z : σ.2 c 8 + 1 = pil σ k
    · rw [if_pos z, bI_t (by rw [e2]; exact decide_eq_true z)]
    · rw [if_neg z, bI_f (by rw [e2]; simpa using z)]
/-- letters of a label -/
def lts (σ : mS) (c : Nat) : Nat := ct (fun p => decide (0 < σ.2 c (3 + p))) 4
end MODEL
