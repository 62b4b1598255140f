/-! THE WRITER OF THE REFERENCE -/
def mwT (M : oS) (T : List Nat) : Prop := M.2 7 = nI T.length ∧ ∀ k x, T[k]? = some x → M.1 7 k = nI x
/-- only the text differs -/
def mf7 (M M' : oS) : Prop := (∀ r, r ≠ 7 → M'.1 r = M.1 r) ∧ ∀ k, k ≠ 7 → M'.2 k = M.2 k
theorem mf7_r (M : oS) : mf7 M M := ⟨fun _ _ => rfl, fun _ _ => rfl⟩
theorem mf7_t {M M' M'' : oS} (h : mf7 M M') (h' : mf7 M' M'') : mf7 M M'' := ⟨fun r hr => (h'.1 r hr).trans (h.1 r hr), fun k hk => (h'.2 k hk).trans (h.2 k hk)⟩
theorem mdR_eq {M M' : oS} {σ : mS} (hR : mdR M σ) (h : M'.1 0 = M.1 0) : mdR M' σ := by
  unfold mdR
  rw [h]
  exact hR
theorem dh1 : ∀ n, n < 61 → 48 + nI n / 10 = nI (48 + n / 10) := by decide +kernel
theorem dh2 : ∀ n, n < 61 → 48 + (nI n - nI n / 10 * 10) = nI (48 + n % 10) := by decide +kernel
theorem zf_none {α : Type} {P : Nat → Prop} [DecidablePred P] {g : Nat → α} {s : α} : ∀ {n : Nat}, (∀ k, k < n → ¬ P k) → zfold (fun k s => if P k then g k else s) n s = s
  | 0, _ => rfl
  | n + 1, h => by rw [zfold, zf_none (fun k hk => h k (by omega)), if_neg (h n (by omega))]
theorem zf_one {α : Type} {P : Nat → Prop} [DecidablePred P] {g : Nat → α} {s : α} {e : Nat} : ∀ {n : Nat}, e < n → P e → (∀ k, k < n → k ≠ e → ¬ P k) → zfold (fun k s => if P k then g k else s) n s = g e
  | 0, he, _, _ => by omega
  | n + 1, he, hp, h => by
    rw [zfold]
    by_cases q : e = n
    · subst q
      rw [if_pos hp]
    · rw [if_neg (h n (by omega) (fun z => q z.symm)), zf_one (by omega) hp (fun k hk => h k (by omega))]
section WRITER2
variable {d : Nat} {h : zH} {i : Nat} {M : oS} {σ : mS} {c : Nat} {T : List Nat}
theorem m_writes (hT : mwT M T) (hl : T.length < 240) {x : Int32} {k : Nat} (hx : x = nI k) : ∃ M', mwT M' (T ++ [k]) ∧ mf7 M M' ∧ ev d 174 0 [some (.ref i), some (.int x)] [] (hmd h i M) = some (none, hmd h i M') := by
  refine ⟨setI (setR M 7 (upd (M.1 7) T.length (nI k))) 7 (nI (T.length + 1)), ⟨?_, fun j y hj => ?_⟩, ⟨fun r hr => ?_, fun r hr => ?_⟩, ?_⟩
  · rw [List.length_append]
    rfl
  · by_cases q : j = T.length
    · subst q
      rw [List.getElem?_append_right (Nat.le_refl _), Nat.sub_self] at hj
      simp at hj
      simp [setI, setR, upd, hj]
    · rcases Nat.lt_or_ge j T.length with z | z
      · rw [List.getElem?_append_left z] at hj
        simp [setI, setR, upd, q, hT.2 j y hj]
      · have := at_len' hj
        rw [List.length_append] at this
        simp at this
        omega
  · rw [setI_1, setR_1, if_neg hr]
  · rw [setI_2, if_neg hr, setR_2]
  · subst hx
    simp only [e174_0, e174_1, e174_4, e174_5, e174_8, e174_9, e174_10, e174_11, e174_12, e174_15, e174_16, e174_17, e174_20, md_g0, md_g1, md_g2, md_g3, md_g4, md_g5, md_g6, md_g7, md_g8, md_g9, md_g10, md_g11, md_g12, md_g13, md_g14, md_g15, md_g16, md_g17, md_g18, md_p3, md_p5, md_p7, md_p8, md_p9, md_p11, md_p13, md_p15, md_l0, md_l1, md_l2, md_l3, md_l4, md_l5, md_l6, md_l7, md_l8, md_l9, md_l10, md_s0, md_s1, md_s2, md_s3, md_s4, md_s5, md_s6, md_s7, md_s8, md_s9, md_s10, md_is, Option.bind_some, Option.toList_some, Option.toList_none, List.cons_append, List.nil_append, true_or, or_true, and_true, true_and, i10, Bool.false_eq_true, if_true, if_false, reduceIte, hT.1, zin_T (show T.length < 240 by omega) (by decide), nI_clamp (show T.length < 2 ^ 31 by omega), setR_2, nI_1]
theorem m_writesNumber (hT : mwT M T) {k n : Nat} (hl : T.length + (k :: dgs n).length ≤ 240) {x : Int32} (hx : x = nI k) (hn : n ≤ 60) : ∃ M', mwT M' (T ++ (k :: dgs n)) ∧ mf7 M M' ∧ ev (d + 1) 175 0 [some (.ref i), some (.int x), some (.int (nI n))] [] (hmd h i M) = some (none, hmd h i M') := by
  have h10 : ¬ ((10 : Int32) = 0) := by decide
  unfold dgs at hl ⊢
  by_cases q : 10 ≤ n
  · rw [if_pos q] at hl ⊢
    simp only [List.length_cons, List.length_nil] at hl
    obtain ⟨V1, a1, a3, a2⟩ := m_writes (d := d) (h := h) (i := i) hT (by omega) hx
    obtain ⟨V2, b1, b3, b2⟩ := m_writes (d := d) (h := h) (i := i) a1 (by rw [List.length_append]; simp only [List.length_cons, List.length_nil]; omega) (dh1 n (by omega))
    obtain ⟨V3, c1, c3, c2⟩ := m_writes (d := d) (h := h) (i := i) b1 (by rw [List.length_append, List.length_append]; simp only [List.length_cons, List.length_nil]; omega) (dh2 n (by omega))
    have e1 : (nI n ≤ (9 : Int32)) = False := (nI_lep (b := 9) (by omega) (by omega)).trans (eq_false (by omega))
    have e2 : ((9 : Int32) < nI n) = True := (nI_ltp (a := 9) (by omega) (by omega)).trans (eq_true (by omega))
    refine ⟨V3, by simpa using c1, mf7_t (mf7_t a3 b3) c3, ?_⟩
    simp only [e175_0, e175_1, e175_2, e175_5, e175_6, e175_8, e175_11, e175_12, e175_14, e175_15, e175_18, e175_19, e175_22, e175_23, e175_25, e175_26, e175_29, e175_30, e175_33, e175_17 h10, e175_28 h10, md_g0, md_g1, md_g2, md_g3, md_g4, md_g5, md_g6, md_g7, md_g8, md_g9, md_g10, md_g11, md_g12, md_g13, md_g14, md_g15, md_g16, md_g17, md_g18, md_p3, md_p5, md_p7, md_p8, md_p9, md_p11, md_p13, md_p15, md_l0, md_l1, md_l2, md_l3, md_l4, md_l5, md_l6, md_l7, md_l8, md_l9, md_l10, md_s0, md_s1, md_s2, md_s3, md_s4, md_s5, md_s6, md_s7, md_s8, md_s9, md_s10, md_is, Option.bind_some, Option.toList_some, Option.toList_none, List.cons_append, List.nil_append, true_or, or_true, and_true, true_and, i10, Bool.false_eq_true, if_true, if_false, reduceIte, e1, e2, a2, b2, c2]
  · rw [if_neg q] at hl ⊢
    simp only [List.length_cons, List.length_nil] at hl
    obtain ⟨V1, a1, a3, a2⟩ := m_writes (d := d) (h := h) (i := i) hT (by omega) hx
    obtain ⟨V3, c1, c3, c2⟩ := m_writes (d := d) (h := h) (i := i) a1 (by rw [List.length_append]; simp only [List.length_cons, List.length_nil]; omega) (dh2 n (by omega))
    have e1 : (nI n ≤ (9 : Int32)) = True := (nI_lep (b := 9) (by omega) (by omega)).trans (eq_true (by omega))
    have e2 : ((9 : Int32) < nI n) = False := (nI_ltp (a := 9) (by omega) (by omega)).trans (eq_false (by omega))
    refine ⟨V3, by simpa using c1, mf7_t a3 c3, ?_⟩
    simp only [e175_0, e175_1, e175_2, e175_5, e175_6, e175_8, e175_11, e175_12, e175_14, e175_15, e175_18, e175_19, e175_22, e175_23, e175_25, e175_26, e175_29, e175_30, e175_33, e175_17 h10, e175_28 h10, md_g0, md_g1, md_g2, md_g3, md_g4, md_g5, md_g6, md_g7, md_g8, md_g9, md_g10, md_g11, md_g12, md_g13, md_g14, md_g15, md_g16, md_g17, md_g18, md_p3, md_p5, md_p7, md_p8, md_p9, md_p11, md_p13, md_p15, md_l0, md_l1, md_l2, md_l3, md_l4, md_l5, md_l6, md_l7, md_l8, md_l9, md_l10, md_s0, md_s1, md_s2, md_s3, md_s4, md_s5, md_s6, md_s7, md_s8, md_s9, md_s10, md_is, Option.bind_some, Option.toList_some, Option.toList_none, List.cons_append, List.nil_append, true_or, or_true, and_true, true_and, i10, Bool.false_eq_true, if_true, if_false, reduceIte, e1, e2, a2, c2]
theorem m_writesHead (hR : mdR M σ) (hw : wf σ) (hc : c < σ.1) (hT : mwT M T) (hl : T.length + (hed σ c).length + 1 ≤ 240) : ∃ M', mwT M' (T ++ (hed σ c ++ if pil σ c = 0 then [] else [91])) ∧ mf7 M M' ∧ ev (d + 3) 176 0 [some (.ref i), some (.int (nI c)), none] [] (hmd h i M) = some (some (.int (bI (pil σ c ≠ 0))), hmd h i M') := by
  have hb := hw.bnd
  have hn := hb.1
  have hL : lts σ c ≤ 4 := ct_le _ _
  have hlk := (hw.2 c hc).2.2.2.1
  have h26 := (hb.2 c hc).2.2.2.1
  have b0 := (hb.2 c hc).1
  have b1 := (hb.2 c hc).2.1
  have b2 := (hb.2 c hc).2.2.1
  have hpl := pil_le (c := c) hb
  have hlen : (lab σ c).length = lts σ c := by
    unfold lab
    rw [List.length_map, List.length_range]
  unfold hed at hl
  simp only [List.length_append, List.length_cons] at hl
  have main : ∀ (f p : Nat) (W : oS), p + f = lts σ c → mf7 M W → mwT W (T ++ (List.range p).map (fun p => 64 + σ.2 c (3 + p))) → ∃ V', mf7 M V' ∧ mwT V' (T ++ lab σ c) ∧ ev (d + 3) 176 2 [some (.ref i), some (.int (nI c)), some (.int (nI p))] [] (hmd h i W) = ev (d + 3) 176 34 [some (.ref i), some (.int (nI c)), some (.int (nI (lts σ c)))] [] (hmd h i V') := by
    intro f
    induction f with
    | zero =>
      intro p W hp hF hW
      have hp : p = lts σ c := by omega
      subst hp
      have hR' := mdR_eq hR (hF.1 0 (by decide))
      refine ⟨W, hF, hW, ?_⟩
      rw [e176_2]
      simp only [e176_0, e176_1, e176_3, e176_4, e176_5, e176_8, e176_11, e176_12, e176_14, e176_15, e176_16, e176_17, e176_18, e176_19, e176_22, e176_23, e176_24, e176_25, e176_28, e176_31, e176_35, e176_37, e176_38, e176_39, e176_40, e176_43, e176_46, e176_47, e176_49, e176_50, e176_51, e176_52, e176_55, e176_58, e176_59, e176_61, e176_62, e176_63, e176_64, e176_67, e176_70, e176_71, e176_72, e176_75, e176_78, e176_79, e176_81, e176_84, e176_85, e176_86, e176_89, e176_92, e176_93, e176_96, e176_97, md_g0, md_g1, md_g2, md_g3, md_g4, md_g5, md_g6, md_g7, md_g8, md_g9, md_g10, md_g11, md_g12, md_g13, md_g14, md_g15, md_g16, md_g17, md_g18, md_p3, md_p5, md_p7, md_p8, md_p9, md_p11, md_p13, md_p15, md_l0, md_l1, md_l2, md_l3, md_l4, md_l5, md_l6, md_l7, md_l8, md_l9, md_l10, md_s0, md_s1, md_s2, md_s3, md_s4, md_s5, md_s6, md_s7, md_s8, md_s9, md_s10, md_is, Option.bind_some, Option.toList_some, Option.toList_none, List.cons_append, List.nil_append, true_or, or_true, and_true, true_and, i10, Bool.false_eq_true, if_true, if_false, reduceIte, m_letters hR' hb hc, Int32.le_refl]
    | succ f ih =>
      intro p W hp hF hW
      have hR' := mdR_eq hR (hF.1 0 (by decide))
      have hlt : (lts σ c ≤ p) = False := eq_false (by omega)
      have hpos := lts_pos hlk (show p < lts σ c by omega)
      have hle := h26 p (by omega)
      have hx : (65 : Int32) + nI (σ.2 c (3 + p)) - 1 = nI (64 + σ.2 c (3 + p)) := by
        rw [show (65 : Int32) = nI 65 from rfl, nI_add, show 65 + σ.2 c (3 + p) = (64 + σ.2 c (3 + p)) + 1 by omega]
        exact hI_s _
      have e3 : (3 : Int32) + nI p = nI (3 + p) := nI_add 3 p
      obtain ⟨W1, a1, a3, a2⟩ := m_writes (d := d + 2) (h := h) (i := i) hW (by rw [List.length_append, List.length_map, List.length_range]; omega) hx
      obtain ⟨V', g1, g3, g2⟩ := ih (p + 1) W1 (by omega) (mf7_t hF a3) (by rw [List.range_succ, List.map_append, ← List.append_assoc]; exact a1)
      refine ⟨V', g1, g3, ?_⟩
      rw [e176_2]
      simp only [e176_0, e176_1, e176_3, e176_4, e176_5, e176_8, e176_11, e176_12, e176_14, e176_15, e176_16, e176_17, e176_18, e176_19, e176_22, e176_23, e176_24, e176_25, e176_28, e176_31, e176_35, e176_37, e176_38, e176_39, e176_40, e176_43, e176_46, e176_47, e176_49, e176_50, e176_51, e176_52, e176_55, e176_58, e176_59, e176_61, e176_62, e176_63, e176_64, e176_67, e176_70, e176_71, e176_72, e176_75, e176_78, e176_79, e176_81, e176_84, e176_85, e176_86, e176_89, e176_92, e176_93, e176_96, e176_97, md_g0, md_g1, md_g2, md_g3, md_g4, md_g5, md_g6, md_g7, md_g8, md_g9, md_g10, md_g11, md_g12, md_g13, md_g14, md_g15, md_g16, md_g17, md_g18, md_p3, md_p5, md_p7, md_p8, md_p9, md_p11, md_p13, md_p15, md_l0, md_l1, md_l2, md_l3, md_l4, md_l5, md_l6, md_l7, md_l8, md_l9, md_l10, md_s0, md_s1, md_s2, md_s3, md_s4, md_s5, md_s6, md_s7, md_s8, md_s9, md_s10, md_is, Option.bind_some, Option.toList_some, Option.toList_none, List.cons_append, List.nil_append, true_or, or_true, and_true, true_and, i10, Bool.false_eq_true, if_true, if_false, reduceIte, m_letters hR' hb hc, nI_lep (show lts σ c < 2147483648 by omega) (show p < 2147483648 by omega), hlt, e3, m_of hR' hb hc (3 + p) (show 3 + p < 9 by omega), a2, nI_1]
      exact g2
  obtain ⟨V1, a3, a1, a2⟩ := main (lts σ c) 0 M (by omega) (mf7_r M) (by simpa using hT)
  obtain ⟨V2, c1, c3, c2⟩ := m_writesNumber (d := d + 1) (h := h) (i := i) (x := 115) (k := 115) (n := σ.2 c 0) a1 (by simp only [List.length_append, List.length_cons]; omega) rfl (by omega)
  obtain ⟨V3, d1, d3, d2⟩ := m_writesNumber (d := d + 1) (h := h) (i := i) (x := 114) (k := 114) (n := σ.2 c 1) c1 (by simp only [List.length_append, List.length_cons]; omega) rfl (by omega)
  obtain ⟨V4, f1, f3, f2⟩ := m_writesNumber (d := d + 1) (h := h) (i := i) (x := 103) (k := 103) (n := σ.2 c 2) d1 (by simp only [List.length_append, List.length_cons]; omega) rfl (by omega)
  have f1 : mwT V4 (T ++ hed σ c) := by
    unfold hed
    simpa [List.append_assoc] using f1
  have F1 := a3
  have F2 := mf7_t F1 c3
  have F3 := mf7_t F2 d3
  have F4 := mf7_t F3 f3
  have R1 := mdR_eq hR (F1.1 0 (by decide))
  have R2 := mdR_eq hR (F2.1 0 (by decide))
  have R3 := mdR_eq hR (F3.1 0 (by decide))
  have R4 := mdR_eq hR (F4.1 0 (by decide))
  have e0 : (nI (pil σ c) ≤ 0) = (pil σ c ≤ 0) := nI_lep (b := 0) (by omega) (by omega)
  have e0' : (0 < nI (pil σ c)) = (0 < pil σ c) := nI_ltp (a := 0) (by omega) (by omega)
  by_cases q : pil σ c = 0
  · rw [if_pos q, List.append_nil]
    refine ⟨V4, f1, F4, ?_⟩
    have q1 : (pil σ c ≤ 0) = True := eq_true (by omega)
    have q2 : (0 < pil σ c) = False := eq_false (by omega)
    simp only [e176_0, e176_1, e176_3, e176_4, e176_5, e176_8, e176_11, e176_12, e176_14, e176_15, e176_16, e176_17, e176_18, e176_19, e176_22, e176_23, e176_24, e176_25, e176_28, e176_31, e176_35, e176_37, e176_38, e176_39, e176_40, e176_43, e176_46, e176_47, e176_49, e176_50, e176_51, e176_52, e176_55, e176_58, e176_59, e176_61, e176_62, e176_63, e176_64, e176_67, e176_70, e176_71, e176_72, e176_75, e176_78, e176_79, e176_81, e176_84, e176_85, e176_86, e176_89, e176_92, e176_93, e176_96, e176_97, Option.bind_some, Option.toList_some, Option.toList_none, List.cons_append, List.nil_append, true_or, or_true, and_true, true_and, i10, Bool.false_eq_true, if_true, if_false, reduceIte]
    refine a2.trans ?_
    rw [e176_34, bI_f (show ¬ pil σ c ≠ 0 from fun z => z q)]
    simp only [e176_0, e176_1, e176_3, e176_4, e176_5, e176_8, e176_11, e176_12, e176_14, e176_15, e176_16, e176_17, e176_18, e176_19, e176_22, e176_23, e176_24, e176_25, e176_28, e176_31, e176_35, e176_37, e176_38, e176_39, e176_40, e176_43, e176_46, e176_47, e176_49, e176_50, e176_51, e176_52, e176_55, e176_58, e176_59, e176_61, e176_62, e176_63, e176_64, e176_67, e176_70, e176_71, e176_72, e176_75, e176_78, e176_79, e176_81, e176_84, e176_85, e176_86, e176_89, e176_92, e176_93, e176_96, e176_97, md_g0, md_g1, md_g2, md_g3, md_g4, md_g5, md_g6, md_g7, md_g8, md_g9, md_g10, md_g11, md_g12, md_g13, md_g14, md_g15, md_g16, md_g17, md_g18, md_p3, md_p5, md_p7, md_p8, md_p9, md_p11, md_p13, md_p15, md_l0, md_l1, md_l2, md_l3, md_l4, md_l5, md_l6, md_l7, md_l8, md_l9, md_l10, md_s0, md_s1, md_s2, md_s3, md_s4, md_s5, md_s6, md_s7, md_s8, md_s9, md_s10, md_is, Option.bind_some, Option.toList_some, Option.toList_none, List.cons_append, List.nil_append, true_or, or_true, and_true, true_and, i10, Bool.false_eq_true, if_true, if_false, reduceIte, m_of0 R1 hb hc, c2, m_of1 R2 hb hc, d2, m_of2 R3 hb hc, f2, m_pile R4 hb hc, e0, e0', q1, q2]
  · rw [if_neg q]
    obtain ⟨V5, g1, g3, g2⟩ := m_writes (d := d + 2) (h := h) (i := i) (x := 91) (k := 91) f1 (by unfold hed; simp only [List.length_append, List.length_cons]; omega) rfl
    have R5 := mdR_eq hR ((mf7_t F4 g3).1 0 (by decide))
    refine ⟨V5, by rw [← List.append_assoc]; exact g1, mf7_t F4 g3, ?_⟩
    have q1 : (pil σ c ≤ 0) = False := eq_false (by omega)
    have q2 : (0 < pil σ c) = True := eq_true (by omega)
    simp only [e176_0, e176_1, e176_3, e176_4, e176_5, e176_8, e176_11, e176_12, e176_14, e176_15, e176_16, e176_17, e176_18, e176_19, e176_22, e176_23, e176_24, e176_25, e176_28, e176_31, e176_35, e176_37, e176_38, e176_39, e176_40, e176_43, e176_46, e176_47, e176_49, e176_50, e176_51, e176_52, e176_55, e176_58, e176_59, e176_61, e176_62, e176_63, e176_64, e176_67, e176_70, e176_71, e176_72, e176_75, e176_78, e176_79, e176_81, e176_84, e176_85, e176_86, e176_89, e176_92, e176_93, e176_96, e176_97, Option.bind_some, Option.toList_some, Option.toList_none, List.cons_append, List.nil_append, true_or, or_true, and_true, true_and, i10, Bool.false_eq_true, if_true, if_false, reduceIte]
    refine a2.trans ?_
    rw [e176_34, bI_t (show pil σ c ≠ 0 from q)]
    simp only [e176_0, e176_1, e176_3, e176_4, e176_5, e176_8, e176_11, e176_12, e176_14, e176_15, e176_16, e176_17, e176_18, e176_19, e176_22, e176_23, e176_24, e176_25, e176_28, e176_31, e176_35, e176_37, e176_38, e176_39, e176_40, e176_43, e176_46, e176_47, e176_49, e176_50, e176_51, e176_52, e176_55, e176_58, e176_59, e176_61, e176_62, e176_63, e176_64, e176_67, e176_70, e176_71, e176_72, e176_75, e176_78, e176_79, e176_81, e176_84, e176_85, e176_86, e176_89, e176_92, e176_93, e176_96, e176_97, md_g0, md_g1, md_g2, md_g3, md_g4, md_g5, md_g6, md_g7, md_g8, md_g9, md_g10, md_g11, md_g12, md_g13, md_g14, md_g15, md_g16, md_g17, md_g18, md_p3, md_p5, md_p7, md_p8, md_p9, md_p11, md_p13, md_p15, md_l0, md_l1, md_l2, md_l3, md_l4, md_l5, md_l6, md_l7, md_l8, md_l9, md_l10, md_s0, md_s1, md_s2, md_s3, md_s4, md_s5, md_s6, md_s7, md_s8, md_s9, md_s10, md_is, Option.bind_some, Option.toList_some, Option.toList_none, List.cons_append, List.nil_append, true_or, or_true, and_true, true_and, i10, Bool.false_eq_true, if_true, if_false, reduceIte, m_of0 R1 hb hc, c2, m_of1 R2 hb hc, d2, m_of2 R3 hb hc, f2, m_pile R4 hb hc, e0, e0', q1, q2, g2, m_pile R5 hb hc]
theorem m_piled (hR : mdR M σ) (hw : wf σ) (hc : c < σ.1) {p : Nat} (hp : p ≤ pil σ c) : ev (d + 2) 137 0 [some (.ref i), some (.int (nI c)), some (.int (nI p)), none, none] [] (hmd h i M) = some (some (.int (if p < pil σ c then nI (cip σ c p) else -4)), hmd h i M) := by
  have hb := hw.bnd
  have hn := hb.1
  have h0 := m_n hR
  have hpl := pil_le (c := c) hb
  have main := z_for (fun (k : Nat) (s : Int32) => ev (d + 2) 137 6 [some (.ref i), some (.int (nI c)), some (.int (nI p)), some (.int s), some (.int (nI k))] [] (hmd h i M)) (fun k s => if σ.2 k 7 = c + 1 ∧ σ.2 k 8 = p then nI k else s) (n := σ.1) (s := -4) (fun k s hk => by
    have hlt : (σ.1 ≤ k) = False := eq_false (by omega)
    have b7 := (hb.2 k hk).2.2.2.2.1
    have b8 := (hb.2 k hk).2.2.2.2.2
    show ev (d + 2) 137 6 _ _ _ = ev (d + 2) 137 6 _ _ _
    rw [e137_6]
    simp only [e137_0, e137_2, e137_3, e137_4, e137_8, e137_9, e137_12, e137_13, e137_14, e137_17, e137_18, e137_20, e137_23, e137_24, e137_27, e137_28, e137_30, e137_32, e137_35, e137_36, e137_39, e137_41, e137_44, e137_45, e137_46, e137_49, e137_52, e137_53, md_g0, md_g1, md_g2, md_g3, md_g4, md_g5, md_g6, md_g7, md_g8, md_g9, md_g10, md_g11, md_g12, md_g13, md_g14, md_g15, md_g16, md_g17, md_g18, md_p3, md_p5, md_p7, md_p8, md_p9, md_p11, md_p13, md_p15, md_l0, md_l1, md_l2, md_l3, md_l4, md_l5, md_l6, md_l7, md_l8, md_l9, md_l10, md_s0, md_s1, md_s2, md_s3, md_s4, md_s5, md_s6, md_s7, md_s8, md_s9, md_s10, md_is, Option.bind_some, Option.toList_some, Option.toList_none, List.cons_append, List.nil_append, true_or, or_true, and_true, true_and, i10, Bool.false_eq_true, if_true, if_false, reduceIte, h0, nI_lep (show σ.1 < 2147483648 by omega) (show k < 2147483648 by omega), hlt, nI_1, m_around hR hb hk, hI_eq (show σ.2 k 7 < 2147483648 by omega) (show c < 2147483648 by omega), m_of8 hR hb hk, nI_eqp (show σ.2 k 8 < 2147483648 by omega) (show p < 2147483648 by omega)]
    by_cases q1 : σ.2 k 7 = c + 1
    · by_cases q2 : σ.2 k 8 = p
      · simp [q1, q2]
      · simp [q1, q2]
    · simp [q1])
  simp only [e137_0, e137_2, e137_3, e137_4, e137_8, e137_9, e137_12, e137_13, e137_14, e137_17, e137_18, e137_20, e137_23, e137_24, e137_27, e137_28, e137_30, e137_32, e137_35, e137_36, e137_39, e137_41, e137_44, e137_45, e137_46, e137_49, e137_52, e137_53, Option.bind_some, Option.toList_some, Option.toList_none, List.cons_append, List.nil_append, true_or, or_true, and_true, true_and, i10, Bool.false_eq_true, if_true, if_false, reduceIte]
  refine main.trans ?_
  show ev (d + 2) 137 6 _ _ _ = _
  rw [e137_6]
  simp only [e137_0, e137_2, e137_3, e137_4, e137_8, e137_9, e137_12, e137_13, e137_14, e137_17, e137_18, e137_20, e137_23, e137_24, e137_27, e137_28, e137_30, e137_32, e137_35, e137_36, e137_39, e137_41, e137_44, e137_45, e137_46, e137_49, e137_52, e137_53, md_g0, md_g1, md_g2, md_g3, md_g4, md_g5, md_g6, md_g7, md_g8, md_g9, md_g10, md_g11, md_g12, md_g13, md_g14, md_g15, md_g16, md_g17, md_g18, md_p3, md_p5, md_p7, md_p8, md_p9, md_p11, md_p13, md_p15, md_l0, md_l1, md_l2, md_l3, md_l4, md_l5, md_l6, md_l7, md_l8, md_l9, md_l10, md_s0, md_s1, md_s2, md_s3, md_s4, md_s5, md_s6, md_s7, md_s8, md_s9, md_s10, md_is, Option.bind_some, Option.toList_some, Option.toList_none, List.cons_append, List.nil_append, true_or, or_true, and_true, true_and, i10, Bool.false_eq_true, if_true, if_false, reduceIte, h0, Int32.le_refl]
  congr 3
  by_cases q : p < pil σ c
  · rw [if_pos q]
    obtain ⟨k1, k2, k3⟩ := cip_ok hw q
    exact congrArg _ (zf_one k1 ⟨k2, k3⟩ (fun j hj hje w => hje (hw.uni hj k1 w.1 k2 (w.2.trans k3.symm))))
  · rw [if_neg q]
    exact congrArg _ (zf_none (fun k hk w => by
      have := (hw.2 k hk).2.2.2.2.2.2.2.1 c w.1
      omega))
/-- rows of the text and of the stack apart -/
def mf9 (l : Nat) (M M' : oS) : Prop := (∀ r, r ≠ 7 → r ≠ 8 → r ≠ 9 → M'.1 r = M.1 r) ∧ (∀ k, k ≠ 7 → M'.2 k = M.2 k) ∧ ∀ j, j < l → M'.1 8 j = M.1 8 j ∧ M'.1 9 j = M.1 9 j
theorem mf9_t {l : Nat} {M M' M'' : oS} (h : mf9 l M M') (h' : mf9 l M' M'') : mf9 l M M'' := ⟨fun r h1 h2 h3 => (h'.1 r h1 h2 h3).trans (h.1 r h1 h2 h3), fun k hk => (h'.2.1 k hk).trans (h.2.1 k hk), fun j hj => ⟨((h'.2.2 j hj).1).trans (h.2.2 j hj).1, ((h'.2.2 j hj).2).trans (h.2.2 j hj).2⟩⟩
theorem mf9_w {l m : Nat} {M M' : oS} (h : mf9 m M M') (hl : l ≤ m) : mf9 l M M' := ⟨h.1, h.2.1, fun j hj => h.2.2 j (by omega)⟩
theorem mf7_9 {l : Nat} {M M' : oS} (h : mf7 M M') : mf9 l M M' := ⟨fun r h1 _ _ => h.1 r h1, h.2, fun j _ => ⟨by rw [h.1 8 (by decide)], by rw [h.1 9 (by decide)]⟩⟩
theorem mf9_9 {l k : Nat} {M : oS} {x : Int32} (hk : l ≤ k) : mf9 l M (setR M 9 (upd (M.1 9) k x)) := ⟨fun r _ _ hr => by rw [setR_1, if_neg hr], fun _ _ => rfl, fun j hj => ⟨rfl, by
  have hne : ¬ j = k := by omega
  simp [setR, upd, hne]⟩⟩
theorem mf9_8 {l k : Nat} {M : oS} {x : Int32} (hk : l ≤ k) : mf9 l M (setR M 8 (upd (M.1 8) k x)) := ⟨fun r _ hr _ => by rw [setR_1, if_neg hr], fun _ _ => rfl, fun j hj => ⟨by
  have hne : ¬ j = k := by omega
  simp [setR, upd, hne], rfl⟩⟩
theorem m_run (hw : wf σ) {C : Nat} : ∀ (f e c : Nat), c < σ.1 → e ≤ dpt σ c → e + (f + 1) = 12 → ∀ (l : Nat) (M : oS) (T : List Nat) (x y : Option Value), l ≤ e → mdR M σ → mwT M T → M.1 8 l = nI c → M.1 9 l = nI 0 → T.length + (cat (fun p => wrt σ f (cip σ c p)) (pil σ c)).length + 1 ≤ 180 → ∃ (M' : oS) (x' y' : Option Value), mwT M' (T ++ cat (fun p => wrt σ f (cip σ c p)) (pil σ c) ++ [93]) ∧ mf9 l M M' ∧ ev (d + 4) 177 31 [some (.ref i), some (.int (nI C)), some (.int (nI (l + 1))), x, y] [] (hmd h i M) = ev (d + 4) 177 31 [some (.ref i), some (.int (nI C)), some (.int (nI l)), x', y'] [] (hmd h i M') := by
  have hb := hw.bnd
  have hn := hb.1
  intro f
  induction f using Nat.strongRecOn with
  | ind f ih =>
    intro e c hc he hf l M T x y hl hR hT h8 h9 hlen
    have hdp := hw.dpt_lt hc
    have hpl := pil_le (c := c) hb
    have cmono : ∀ g : Nat → List Nat, ∀ m p : Nat, p + m = pil σ c → (cat g p).length ≤ (cat g (pil σ c)).length := by
      intro g m
      induction m with
      | zero => intro p hp; rw [show p = pil σ c by omega]; exact Nat.le_refl _
      | succ m ihm =>
        intro p hp
        have := ihm (p + 1) (by omega)
        rw [cat, List.length_append] at this
        omega
    have el1 : (nI (l + 1) ≤ 0) = False := (nI_lep (b := 0) (by omega) (by omega)).trans (eq_false (by omega))
    have el2 : nI (l + 1) - 1 = nI l := hI_s l
    have el3 : nI (l + 1) + (-1) = nI l := (hI_pred (l + 1)).trans (hI_s l)
    have main : ∀ (m p : Nat) (W : oS) (x y : Option Value), p + m = pil σ c → mdR W σ → mf9 l M W → W.1 8 l = nI c → W.1 9 l = nI p → mwT W (T ++ cat (fun p => wrt σ f (cip σ c p)) p) → ∃ (M' : oS) (x' y' : Option Value), mwT M' (T ++ cat (fun p => wrt σ f (cip σ c p)) (pil σ c) ++ [93]) ∧ mf9 l M M' ∧ ev (d + 4) 177 31 [some (.ref i), some (.int (nI C)), some (.int (nI (l + 1))), x, y] [] (hmd h i W) = ev (d + 4) 177 31 [some (.ref i), some (.int (nI C)), some (.int (nI l)), x', y'] [] (hmd h i M') := by
      intro m
      induction m with
      | zero =>
        intro p W x y hp hRW hF w8 w9 hW
        have hp : p = pil σ c := by omega
        subst hp
        obtain ⟨V1, a1, a3, a2⟩ := m_writes (d := d + 3) (h := h) (i := i) (M := setR W 9 (upd (W.1 9) l (nI (pil σ c + 1)))) (x := 93) (k := 93) hW (by rw [List.length_append]; omega) rfl
        have hpd := m_piled (d := d + 1) (h := h) (i := i) hRW hw hc (p := pil σ c) (Nat.le_refl _)
        rw [if_neg (Nat.lt_irrefl _)] at hpd
        refine ⟨V1, some (.int (nI c)), some (.int (-4)), a1, mf9_t hF (mf9_t (mf9_9 (Nat.le_refl l)) (mf7_9 a3)), ?_⟩
        · rw [e177_31]
          simp only [e177_0, e177_1, e177_2, e177_5, e177_6, e177_7, e177_8, e177_9, e177_12, e177_15, e177_16, e177_19, e177_20, e177_21, e177_22, e177_23, e177_26, e177_27, e177_28, e177_29, e177_30, e177_32, e177_35, e177_36, e177_39, e177_40, e177_41, e177_42, e177_43, e177_44, e177_45, e177_46, e177_47, e177_50, e177_51, e177_52, e177_53, e177_54, e177_57, e177_59, e177_60, e177_63, e177_64, e177_65, e177_66, e177_67, e177_68, e177_69, e177_70, e177_71, e177_73, e177_76, e177_77, e177_79, e177_82, e177_85, e177_88, e177_89, e177_91, e177_94, e177_97, e177_98, e177_101, e177_102, e177_104, e177_105, e177_106, e177_109, e177_110, e177_111, e177_112, e177_115, e177_118, md_g0, md_g1, md_g2, md_g3, md_g4, md_g5, md_g6, md_g7, md_g8, md_g9, md_g10, md_g11, md_g12, md_g13, md_g14, md_g15, md_g16, md_g17, md_g18, md_p3, md_p5, md_p7, md_p8, md_p9, md_p11, md_p13, md_p15, md_l0, md_l1, md_l2, md_l3, md_l4, md_l5, md_l6, md_l7, md_l8, md_l9, md_l10, md_s0, md_s1, md_s2, md_s3, md_s4, md_s5, md_s6, md_s7, md_s8, md_s9, md_s10, md_is, Option.bind_some, Option.toList_some, Option.toList_none, List.cons_append, List.nil_append, true_or, or_true, and_true, true_and, i10, Bool.false_eq_true, if_true, if_false, reduceIte, el1, el2, el3, zrd_nI (show l < 13 by omega) (show 13 < 2147483648 by omega), w8, w9, hpd, zin_T (show l < 13 by omega) (by decide), nI_clamp (show l < 2 ^ 31 by omega), nI_1, show ((-4 : Int32) < 0) = True by decide, show ((0 : Int32) ≤ -4) = False by decide, a2]
      | succ m ihm =>
        intro p W x y hp hRW hF w8 w9 hW
        have hp2 : p < pil σ c := by omega
        obtain ⟨k1, k2, k3⟩ := cip_ok hw hp2
        have dd : dpt σ (cip σ c p) = dpt σ c + 1 := by
          unfold dpt
          rw [hw.chn_s k1 k2]
          rfl
        have kd := hw.dpt_lt k1
        obtain ⟨g, rfl⟩ : ∃ g, f = g + 1 := ⟨f - 1, by omega⟩
        have hcm := cmono (fun p => wrt σ (g + 1) (cip σ c p)) m (p + 1) (by omega)
        rw [cat, List.length_append] at hcm
        have hwl : (wrt σ (g + 1) (cip σ c p)).length = (hed σ (cip σ c p)).length + (if pil σ (cip σ c p) = 0 then [] else [91] ++ cat (fun q => wrt σ g (cip σ (cip σ c p) q)) (pil σ (cip σ c p)) ++ [93]).length := by rw [wrt, List.length_append]
        have hpd := m_piled (d := d + 1) (h := h) (i := i) hRW hw hc (p := p) (by omega)
        rw [if_pos hp2] at hpd
        have hR1 : mdR (setR W 9 (upd (W.1 9) l (nI (p + 1)))) σ := mdR_eq hRW rfl
        obtain ⟨V1, a1, a3, a2⟩ := m_writesHead (d := d) (h := h) (i := i) (M := setR W 9 (upd (W.1 9) l (nI (p + 1)))) hR1 hw k1 hW (by rw [List.length_append]; omega)
        have F1 : mf9 l M V1 := mf9_t hF (mf9_t (mf9_9 (Nat.le_refl l)) (mf7_9 a3))
        have v8 : V1.1 8 l = nI c := by rw [a3.1 8 (by decide)]; exact w8
        have v9 : V1.1 9 l = nI (p + 1) := by rw [a3.1 9 (by decide)]; simp [setR, upd]
        have hRV : mdR V1 σ := mdR_eq hR1 (a3.1 0 (by decide))
        have ek : (nI (cip σ c p) < 0) = False := eq_false (nI_pos (by omega))
        have ek' : (0 ≤ nI (cip σ c p)) = True := eq_true (Int32.not_lt.mp (nI_pos (by omega)))
        by_cases q : pil σ (cip σ c p) = 0
        · rw [if_pos q, List.append_nil] at a1
          rw [bI_f (show ¬ pil σ (cip σ c p) ≠ 0 from fun z => z q)] at a2
          obtain ⟨M', x', y', m1, m2, m3⟩ := ihm (p + 1) V1 (some (.int (nI c))) (some (.int (nI (cip σ c p)))) (by omega) hRV F1 v8 v9 (by
            rw [cat, wrt, if_pos q, List.append_nil, ← List.append_assoc]
            exact a1)
          refine ⟨M', x', y', m1, m2, ?_⟩
          rw [e177_31]
          simp only [e177_0, e177_1, e177_2, e177_5, e177_6, e177_7, e177_8, e177_9, e177_12, e177_15, e177_16, e177_19, e177_20, e177_21, e177_22, e177_23, e177_26, e177_27, e177_28, e177_29, e177_30, e177_32, e177_35, e177_36, e177_39, e177_40, e177_41, e177_42, e177_43, e177_44, e177_45, e177_46, e177_47, e177_50, e177_51, e177_52, e177_53, e177_54, e177_57, e177_59, e177_60, e177_63, e177_64, e177_65, e177_66, e177_67, e177_68, e177_69, e177_70, e177_71, e177_73, e177_76, e177_77, e177_79, e177_82, e177_85, e177_88, e177_89, e177_91, e177_94, e177_97, e177_98, e177_101, e177_102, e177_104, e177_105, e177_106, e177_109, e177_110, e177_111, e177_112, e177_115, e177_118, md_g0, md_g1, md_g2, md_g3, md_g4, md_g5, md_g6, md_g7, md_g8, md_g9, md_g10, md_g11, md_g12, md_g13, md_g14, md_g15, md_g16, md_g17, md_g18, md_p3, md_p5, md_p7, md_p8, md_p9, md_p11, md_p13, md_p15, md_l0, md_l1, md_l2, md_l3, md_l4, md_l5, md_l6, md_l7, md_l8, md_l9, md_l10, md_s0, md_s1, md_s2, md_s3, md_s4, md_s5, md_s6, md_s7, md_s8, md_s9, md_s10, md_is, Option.bind_some, Option.toList_some, Option.toList_none, List.cons_append, List.nil_append, true_or, or_true, and_true, true_and, i10, Bool.false_eq_true, if_true, if_false, reduceIte, el1, el2, el3, zrd_nI (show l < 13 by omega) (show 13 < 2147483648 by omega), w8, w9, hpd, zin_T (show l < 13 by omega) (by decide), nI_clamp (show l < 2 ^ 31 by omega), nI_1, ek, ek', a2]
          exact m3
        · rw [if_neg q] at a1 hwl
          simp only [List.length_append, List.length_cons, List.length_nil] at hwl
          rw [bI_t (show pil σ (cip σ c p) ≠ 0 from q)] at a2
          have ez : (upd (V1.1 9) (l + 1) 0) = upd (V1.1 9) (l + 1) (nI 0) := rfl
          obtain ⟨V2, x2, y2, b1, b2, b3⟩ := ih g (by omega) (e + 1) (cip σ c p) k1 (by omega) (by omega) (l + 1) (setR (setR V1 8 (upd (V1.1 8) (l + 1) (nI (cip σ c p)))) 9 (upd (V1.1 9) (l + 1) 0)) (T ++ cat (fun p => wrt σ (g + 1) (cip σ c p)) p ++ (hed σ (cip σ c p) ++ [91])) (some (.int (nI c))) (some (.int (nI (cip σ c p)))) (by omega) (mdR_eq hRV rfl) a1 (by simp [setR, upd]) (by simp [setR, upd]; rfl) (by simp only [List.length_append, List.length_cons, List.length_nil]; omega)
          have F2 : mf9 (l + 1) V1 V2 := mf9_t (mf9_t (mf9_8 (Nat.le_refl (l + 1))) (mf9_9 (Nat.le_refl (l + 1)))) b2
          obtain ⟨M', x', y', m1, m2, m3⟩ := ihm (p + 1) V2 x2 y2 (by omega) (mdR_eq hRV (F2.1 0 (by decide) (by decide) (by decide))) (mf9_t F1 (mf9_w F2 (by omega))) ((F2.2.2 l (by omega)).1.trans v8) ((F2.2.2 l (by omega)).2.trans v9) (by
            rw [cat, wrt, if_neg q]
            simpa [List.append_assoc] using b1)
          refine ⟨M', x', y', m1, m2, ?_⟩
          rw [e177_31]
          simp only [e177_0, e177_1, e177_2, e177_5, e177_6, e177_7, e177_8, e177_9, e177_12, e177_15, e177_16, e177_19, e177_20, e177_21, e177_22, e177_23, e177_26, e177_27, e177_28, e177_29, e177_30, e177_32, e177_35, e177_36, e177_39, e177_40, e177_41, e177_42, e177_43, e177_44, e177_45, e177_46, e177_47, e177_50, e177_51, e177_52, e177_53, e177_54, e177_57, e177_59, e177_60, e177_63, e177_64, e177_65, e177_66, e177_67, e177_68, e177_69, e177_70, e177_71, e177_73, e177_76, e177_77, e177_79, e177_82, e177_85, e177_88, e177_89, e177_91, e177_94, e177_97, e177_98, e177_101, e177_102, e177_104, e177_105, e177_106, e177_109, e177_110, e177_111, e177_112, e177_115, e177_118, md_g0, md_g1, md_g2, md_g3, md_g4, md_g5, md_g6, md_g7, md_g8, md_g9, md_g10, md_g11, md_g12, md_g13, md_g14, md_g15, md_g16, md_g17, md_g18, md_p3, md_p5, md_p7, md_p8, md_p9, md_p11, md_p13, md_p15, md_l0, md_l1, md_l2, md_l3, md_l4, md_l5, md_l6, md_l7, md_l8, md_l9, md_l10, md_s0, md_s1, md_s2, md_s3, md_s4, md_s5, md_s6, md_s7, md_s8, md_s9, md_s10, md_is, Option.bind_some, Option.toList_some, Option.toList_none, List.cons_append, List.nil_append, true_or, or_true, and_true, true_and, i10, Bool.false_eq_true, if_true, if_false, reduceIte, el1, el2, el3, zrd_nI (show l < 13 by omega) (show 13 < 2147483648 by omega), w8, w9, hpd, zin_T (show l < 13 by omega) (by decide), nI_clamp (show l < 2 ^ 31 by omega), nI_1, ek, ek', a2, zin_T (show l + 1 < 13 by omega) (by decide), nI_clamp (show l + 1 < 2 ^ 31 by omega)]
          exact b3.trans m3
    exact main (pil σ c) 0 M x y (by omega) hR ⟨fun _ _ _ _ => rfl, fun _ _ => rfl, fun _ _ => ⟨rfl, rfl⟩⟩ h8 h9 (by simpa [cat] using hT)
theorem m_writesNest (hR : mdR M σ) (hw : wf σ) (hc : c < σ.1) : ∃ M', mwT M' (wrt σ 12 c) ∧ mf9 0 M M' ∧ ev (d + 4) 177 0 [some (.ref i), some (.int (nI c)), none, none, none] [] (hmd h i M) = some (none, hmd h i M') := by
  have hlen := wrt_len hw (f := 12) hc
  rw [wrt, List.length_append] at hlen
  have h7 : mwT (setI M 7 0) [] := ⟨rfl, fun k x hk => by simp at hk⟩
  have hR1 : mdR (setI M 7 0) σ := mdR_eq hR rfl
  obtain ⟨V1, a1, a3, a2⟩ := m_writesHead (d := d) (h := h) (i := i) hR1 hw hc h7 (by rw [List.length_nil]; omega)
  rw [List.nil_append] at a1
  have F0 : mf9 0 M V1 := mf9_t (M' := setI M 7 0) ⟨fun _ _ _ _ => rfl, fun k hk => by rw [setI_2, if_neg hk], fun j hj => by omega⟩ (mf7_9 a3)
  by_cases q : pil σ c = 0
  · rw [if_pos q, List.append_nil] at a1
    rw [bI_f (show ¬ pil σ c ≠ 0 from fun z => z q)] at a2
    refine ⟨V1, by rw [wrt, if_pos q, List.append_nil]; exact a1, F0, ?_⟩
    simp only [e177_0, e177_1, e177_2, e177_5, e177_6, e177_7, e177_8, e177_9, e177_12, e177_15, e177_16, e177_19, e177_20, e177_21, e177_22, e177_23, e177_26, e177_27, e177_28, e177_29, e177_30, e177_32, e177_35, e177_36, e177_39, e177_40, e177_41, e177_42, e177_43, e177_44, e177_45, e177_46, e177_47, e177_50, e177_51, e177_52, e177_53, e177_54, e177_57, e177_59, e177_60, e177_63, e177_64, e177_65, e177_66, e177_67, e177_68, e177_69, e177_70, e177_71, e177_73, e177_76, e177_77, e177_79, e177_82, e177_85, e177_88, e177_89, e177_91, e177_94, e177_97, e177_98, e177_101, e177_102, e177_104, e177_105, e177_106, e177_109, e177_110, e177_111, e177_112, e177_115, e177_118, md_g0, md_g1, md_g2, md_g3, md_g4, md_g5, md_g6, md_g7, md_g8, md_g9, md_g10, md_g11, md_g12, md_g13, md_g14, md_g15, md_g16, md_g17, md_g18, md_p3, md_p5, md_p7, md_p8, md_p9, md_p11, md_p13, md_p15, md_l0, md_l1, md_l2, md_l3, md_l4, md_l5, md_l6, md_l7, md_l8, md_l9, md_l10, md_s0, md_s1, md_s2, md_s3, md_s4, md_s5, md_s6, md_s7, md_s8, md_s9, md_s10, md_is, Option.bind_some, Option.toList_some, Option.toList_none, List.cons_append, List.nil_append, true_or, or_true, and_true, true_and, i10, Bool.false_eq_true, if_true, if_false, reduceIte, a2]
    rw [e177_31]
    simp only [e177_0, e177_1, e177_2, e177_5, e177_6, e177_7, e177_8, e177_9, e177_12, e177_15, e177_16, e177_19, e177_20, e177_21, e177_22, e177_23, e177_26, e177_27, e177_28, e177_29, e177_30, e177_32, e177_35, e177_36, e177_39, e177_40, e177_41, e177_42, e177_43, e177_44, e177_45, e177_46, e177_47, e177_50, e177_51, e177_52, e177_53, e177_54, e177_57, e177_59, e177_60, e177_63, e177_64, e177_65, e177_66, e177_67, e177_68, e177_69, e177_70, e177_71, e177_73, e177_76, e177_77, e177_79, e177_82, e177_85, e177_88, e177_89, e177_91, e177_94, e177_97, e177_98, e177_101, e177_102, e177_104, e177_105, e177_106, e177_109, e177_110, e177_111, e177_112, e177_115, e177_118, md_g0, md_g1, md_g2, md_g3, md_g4, md_g5, md_g6, md_g7, md_g8, md_g9, md_g10, md_g11, md_g12, md_g13, md_g14, md_g15, md_g16, md_g17, md_g18, md_p3, md_p5, md_p7, md_p8, md_p9, md_p11, md_p13, md_p15, md_l0, md_l1, md_l2, md_l3, md_l4, md_l5, md_l6, md_l7, md_l8, md_l9, md_l10, md_s0, md_s1, md_s2, md_s3, md_s4, md_s5, md_s6, md_s7, md_s8, md_s9, md_s10, md_is, Option.bind_some, Option.toList_some, Option.toList_none, List.cons_append, List.nil_append, true_or, or_true, and_true, true_and, i10, Bool.false_eq_true, if_true, if_false, reduceIte, Int32.le_refl]
  · rw [if_neg q] at a1 hlen
    simp only [List.length_append, List.length_cons, List.length_nil] at hlen
    rw [bI_t (show pil σ c ≠ 0 from q)] at a2
    have hRV : mdR V1 σ := mdR_eq hR1 (a3.1 0 (by decide))
    obtain ⟨M', x', y', m1, m2, m3⟩ := m_run (d := d) (h := h) (i := i) hw (C := c) 11 0 c hc (Nat.zero_le _) (by omega) 0 (setR (setR V1 8 (upd (V1.1 8) 0 (nI c))) 9 (upd (V1.1 9) 0 0)) (hed σ c ++ [91]) none none (Nat.le_refl _) (mdR_eq hRV rfl) a1 (by simp [setR, upd]) (by simp [setR, upd]; rfl) (by simp only [List.length_append, List.length_cons, List.length_nil]; omega)
    refine ⟨M', by rw [wrt, if_neg q]; simpa [List.append_assoc] using m1, mf9_t (mf9_t F0 (mf9_t (mf9_8 (Nat.le_refl 0)) (mf9_9 (Nat.le_refl 0)))) m2, ?_⟩
    have z0 : zin 0 13 = true := by decide
    simp only [e177_0, e177_1, e177_2, e177_5, e177_6, e177_7, e177_8, e177_9, e177_12, e177_15, e177_16, e177_19, e177_20, e177_21, e177_22, e177_23, e177_26, e177_27, e177_28, e177_29, e177_30, e177_32, e177_35, e177_36, e177_39, e177_40, e177_41, e177_42, e177_43, e177_44, e177_45, e177_46, e177_47, e177_50, e177_51, e177_52, e177_53, e177_54, e177_57, e177_59, e177_60, e177_63, e177_64, e177_65, e177_66, e177_67, e177_68, e177_69, e177_70, e177_71, e177_73, e177_76, e177_77, e177_79, e177_82, e177_85, e177_88, e177_89, e177_91, e177_94, e177_97, e177_98, e177_101, e177_102, e177_104, e177_105, e177_106, e177_109, e177_110, e177_111, e177_112, e177_115, e177_118, md_g0, md_g1, md_g2, md_g3, md_g4, md_g5, md_g6, md_g7, md_g8, md_g9, md_g10, md_g11, md_g12, md_g13, md_g14, md_g15, md_g16, md_g17, md_g18, md_p3, md_p5, md_p7, md_p8, md_p9, md_p11, md_p13, md_p15, md_l0, md_l1, md_l2, md_l3, md_l4, md_l5, md_l6, md_l7, md_l8, md_l9, md_l10, md_s0, md_s1, md_s2, md_s3, md_s4, md_s5, md_s6, md_s7, md_s8, md_s9, md_s10, md_is, Option.bind_some, Option.toList_some, Option.toList_none, List.cons_append, List.nil_append, true_or, or_true, and_true, true_and, i10, Bool.false_eq_true, if_true, if_false, reduceIte, a2, z0, cl0]
    have m3' : ev (d + 4) 177 31 [some (.ref i), some (.int (nI c)), some (.int 1), none, none] [] (hmd h i (setR (setR V1 8 (upd (V1.1 8) 0 (nI c))) 9 (upd (V1.1 9) 0 0))) = _ := m3
    refine m3'.trans ?_
    rw [e177_31]
    simp only [e177_0, e177_1, e177_2, e177_5, e177_6, e177_7, e177_8, e177_9, e177_12, e177_15, e177_16, e177_19, e177_20, e177_21, e177_22, e177_23, e177_26, e177_27, e177_28, e177_29, e177_30, e177_32, e177_35, e177_36, e177_39, e177_40, e177_41, e177_42, e177_43, e177_44, e177_45, e177_46, e177_47, e177_50, e177_51, e177_52, e177_53, e177_54, e177_57, e177_59, e177_60, e177_63, e177_64, e177_65, e177_66, e177_67, e177_68, e177_69, e177_70, e177_71, e177_73, e177_76, e177_77, e177_79, e177_82, e177_85, e177_88, e177_89, e177_91, e177_94, e177_97, e177_98, e177_101, e177_102, e177_104, e177_105, e177_106, e177_109, e177_110, e177_111, e177_112, e177_115, e177_118, md_g0, md_g1, md_g2, md_g3, md_g4, md_g5, md_g6, md_g7, md_g8, md_g9, md_g10, md_g11, md_g12, md_g13, md_g14, md_g15, md_g16, md_g17, md_g18, md_p3, md_p5, md_p7, md_p8, md_p9, md_p11, md_p13, md_p15, md_l0, md_l1, md_l2, md_l3, md_l4, md_l5, md_l6, md_l7, md_l8, md_l9, md_l10, md_s0, md_s1, md_s2, md_s3, md_s4, md_s5, md_s6, md_s7, md_s8, md_s9, md_s10, md_is, Option.bind_some, Option.toList_some, Option.toList_none, List.cons_append, List.nil_append, true_or, or_true, and_true, true_and, i10, Bool.false_eq_true, if_true, if_false, reduceIte, show (nI 0 ≤ 0) = True by decide]
/-- a sign of a text, as an answer -/
def sgv (T : List Nat) (x : Int32) : Int32 := if zin x T.length = true then nI (T.getD x.toNatClampNeg 0) else -4
theorem m_sign (hR : mdR M σ) (hw : wf σ) (hc : c < σ.1) {x : Int32} : ∃ M', mf9 0 M M' ∧ ev (d + 5) 178 0 [some (.ref i), some (.int (nI c)), some (.int x)] [] (hmd h i M) = some (some (.int (if x < 0 then -1 else sgv (wrt σ 12 c) x)), hmd h i M') := by
  have hb := hw.bnd
  have hlen := wrt_len hw (f := 12) hc
  rcases zin_cases (c := x) (n := (wrt σ 12 c).length) (by omega) with ⟨h1, h2⟩ | ⟨h1, h2, h3⟩ | ⟨k, hk, rfl⟩
  · refine ⟨M, ⟨fun _ _ _ _ => rfl, fun _ _ => rfl, fun _ _ => ⟨rfl, rfl⟩⟩, ?_⟩
    have h1' : (0 ≤ x) = False := eq_false (Int32.not_le.mpr h1)
    simp only [e178_0, e178_1, e178_2, e178_5, e178_8, e178_9, e178_12, e178_13, e178_14, e178_15, e178_16, e178_19, e178_20, e178_21, e178_24, e178_27, e178_28, e178_31, e178_32, e178_33, e178_36, e178_38, md_g0, md_g1, md_g2, md_g3, md_g4, md_g5, md_g6, md_g7, md_g8, md_g9, md_g10, md_g11, md_g12, md_g13, md_g14, md_g15, md_g16, md_g17, md_g18, md_p3, md_p5, md_p7, md_p8, md_p9, md_p11, md_p13, md_p15, md_l0, md_l1, md_l2, md_l3, md_l4, md_l5, md_l6, md_l7, md_l8, md_l9, md_l10, md_s0, md_s1, md_s2, md_s3, md_s4, md_s5, md_s6, md_s7, md_s8, md_s9, md_s10, md_is, Option.bind_some, Option.toList_some, Option.toList_none, List.cons_append, List.nil_append, true_or, or_true, and_true, true_and, i10, Bool.false_eq_true, if_true, if_false, reduceIte, m_isCrate_k hR hb hc, h1', eq_true h1]
  · obtain ⟨M', a1, a3, a2⟩ := m_writesNest (d := d) (h := h) (i := i) hR hw hc
    refine ⟨M', a3, ?_⟩
    have h1' : (0 ≤ x) = True := eq_true (Int32.not_lt.mp h1)
    unfold sgv
    simp only [e178_0, e178_1, e178_2, e178_5, e178_8, e178_9, e178_12, e178_13, e178_14, e178_15, e178_16, e178_19, e178_20, e178_21, e178_24, e178_27, e178_28, e178_31, e178_32, e178_33, e178_36, e178_38, md_g0, md_g1, md_g2, md_g3, md_g4, md_g5, md_g6, md_g7, md_g8, md_g9, md_g10, md_g11, md_g12, md_g13, md_g14, md_g15, md_g16, md_g17, md_g18, md_p3, md_p5, md_p7, md_p8, md_p9, md_p11, md_p13, md_p15, md_l0, md_l1, md_l2, md_l3, md_l4, md_l5, md_l6, md_l7, md_l8, md_l9, md_l10, md_s0, md_s1, md_s2, md_s3, md_s4, md_s5, md_s6, md_s7, md_s8, md_s9, md_s10, md_is, Option.bind_some, Option.toList_some, Option.toList_none, List.cons_append, List.nil_append, true_or, or_true, and_true, true_and, i10, Bool.false_eq_true, if_true, if_false, reduceIte, m_isCrate_k hR hb hc, h1', eq_false h1, a2, a1.1, eq_true h2, h3]
  · obtain ⟨M', a1, a3, a2⟩ := m_writesNest (d := d) (h := h) (i := i) hR hw hc
    refine ⟨M', a3, ?_⟩
    have h1 : (nI k < 0) = False := eq_false (nI_pos (by omega))
    have h1' : (0 ≤ nI k) = True := eq_true (Int32.not_lt.mp (nI_pos (by omega)))
    have h4 : (nI (wrt σ 12 c).length ≤ nI k) = False := (nI_lep (by omega) (by omega)).trans (eq_false (by omega))
    have hg : (wrt σ 12 c)[k]? = some ((wrt σ 12 c).getD k 0) := by
      rw [List.getD_eq_getElem?_getD, List.getElem?_eq_getElem hk]
      rfl
    unfold sgv
    simp only [e178_0, e178_1, e178_2, e178_5, e178_8, e178_9, e178_12, e178_13, e178_14, e178_15, e178_16, e178_19, e178_20, e178_21, e178_24, e178_27, e178_28, e178_31, e178_32, e178_33, e178_36, e178_38, md_g0, md_g1, md_g2, md_g3, md_g4, md_g5, md_g6, md_g7, md_g8, md_g9, md_g10, md_g11, md_g12, md_g13, md_g14, md_g15, md_g16, md_g17, md_g18, md_p3, md_p5, md_p7, md_p8, md_p9, md_p11, md_p13, md_p15, md_l0, md_l1, md_l2, md_l3, md_l4, md_l5, md_l6, md_l7, md_l8, md_l9, md_l10, md_s0, md_s1, md_s2, md_s3, md_s4, md_s5, md_s6, md_s7, md_s8, md_s9, md_s10, md_is, Option.bind_some, Option.toList_some, Option.toList_none, List.cons_append, List.nil_append, true_or, or_true, and_true, true_and, i10, Bool.false_eq_true, if_true, if_false, reduceIte, m_isCrate_k hR hb hc, h1, h1', a2, a1.1, h4, zin_T hk (show (wrt σ 12 c).length < 2 ^ 31 by omega), nI_clamp (show k < 2 ^ 31 by omega), zrd_nI (show k < 240 by omega) (show 240 < 2147483648 by omega), a1.2 k _ hg]
theorem w_signAt {V : oS} {v : Nat} {T : List Nat} (hT : nwT V T) (hl : T.length ≤ 180) {x : Int32} : ev d 26 0 [some (.ref v), some (.int x)] [] (hnw h v V) = some (some (.int (sgv T x)), hnw h v V) := by
  unfold sgv
  rcases zin_cases (c := x) (n := T.length) (by omega) with ⟨h1, h2⟩ | ⟨h1, h2, h3⟩ | ⟨k, hk, rfl⟩
  · simp only [e26_0, e26_1, e26_4, e26_5, e26_6, e26_9, e26_12, e26_13, e26_16, e26_17, e26_18, e26_21, e26_23, nw_g0, nw_g1, nw_p1, nw_l0, nw_s0, nw_is, Option.bind_some, Option.toList_some, Option.toList_none, List.cons_append, List.nil_append, true_or, or_true, and_true, true_and, i10, Bool.false_eq_true, if_true, if_false, reduceIte, eq_true h1, h2]
  · simp only [e26_0, e26_1, e26_4, e26_5, e26_6, e26_9, e26_12, e26_13, e26_16, e26_17, e26_18, e26_21, e26_23, nw_g0, nw_g1, nw_p1, nw_l0, nw_s0, nw_is, Option.bind_some, Option.toList_some, Option.toList_none, List.cons_append, List.nil_append, true_or, or_true, and_true, true_and, i10, Bool.false_eq_true, if_true, if_false, reduceIte, eq_false h1, hT.1, eq_true h2, h3]
  · have h1 : (nI k < 0) = False := eq_false (nI_pos (by omega))
    have h4 : (nI T.length ≤ nI k) = False := (nI_lep (by omega) (by omega)).trans (eq_false (by omega))
    have hg : T[k]? = some (T.getD k 0) := by
      rw [List.getD_eq_getElem?_getD, List.getElem?_eq_getElem hk]
      rfl
    simp only [e26_0, e26_1, e26_4, e26_5, e26_6, e26_9, e26_12, e26_13, e26_16, e26_17, e26_18, e26_21, e26_23, nw_g0, nw_g1, nw_p1, nw_l0, nw_s0, nw_is, Option.bind_some, Option.toList_some, Option.toList_none, List.cons_append, List.nil_append, true_or, or_true, and_true, true_and, i10, Bool.false_eq_true, if_true, if_false, reduceIte, h1, hT.1, h4, zin_T hk (show T.length < 2 ^ 31 by omega), nI_clamp (show k < 2 ^ 31 by omega), zrd_nI (show k < 180 by omega) (show 180 < 2147483648 by omega), hT.2 k _ hg]
theorem w_write {V S : oS} {v : Nat} (hd : v + 2 ≤ i ∨ i + 7 ≤ v) (hR : stR S σ) (hw : wf σ) (hc : c < σ.1) : ∃ V', nwT V' (wrt σ 12 c) ∧ ev (d + 17) 25 0 [some (.ref v), some (.ref i), some (.int (nI c))] [] (hst (hnw h v V) i S) = some (none, hst (hnw h v V') i S) := by
  have h7 : nwT (setI V 0 0) [] := ⟨rfl, fun k x hk => by simp at hk⟩
  have hlen := wrt_len hw (f := 12) hc
  obtain ⟨V', a1, a2⟩ := w_nest (d := d) (h := h) hd hR hw 12 0 c (setI V 0 0) [] hc (Nat.zero_le _) (by omega) h7 (by rw [List.length_nil]; omega)
  refine ⟨V', a1, ?_⟩
  have a2' : ev (d + 16) 27 0 [some (.ref v), some (.ref i), some (.int (nI c)), some (.int 0), none, none] [] (hst (hnw h v (setI V 0 0)) i S) = some (none, hst (hnw h v V') i S) := a2
  simp only [e25_0, e25_1, e25_2, e25_5, e25_6, e25_7, e25_8, e25_9, e25_12, st_g0, st_g1, st_g2, st_g3, st_g4, st_g5, st_g6, st_g7, st_p6, st_p7, st_l0, st_l1, st_l2, st_l3, st_l4, st_l5, st_s0, st_s1, st_s2, st_s3, st_s4, st_s5, st_is, nw_is_st hd, nw_g0_st hd, nw_g1_st hd, nw_p1_st hd, nw_l0_st hd, nw_s0_st hd, Option.bind_some, Option.toList_some, Option.toList_none, List.cons_append, List.nil_append, true_or, or_true, and_true, true_and, i10, Bool.false_eq_true, if_true, if_false, reduceIte, a2']
end WRITER2
