/-! CHANGES OF THE REFERENCE -/
def cpf (f g : Nat → Int32) (a b n : Nat) : Nat → Int32 := fun x => if b ≤ x ∧ x < b + n then f (a + (x - b)) else g x
theorem cpf_s {f g : Nat → Int32} {a b n : Nat} : upd (cpf f g a b n) (b + n) (f (a + n)) = cpf f g a b (n + 1) := by
  funext x
  by_cases q : x = b + n
  · subst q
    simp [upd, cpf]
  · simp only [upd, cpf, q, if_false]
    by_cases w : b ≤ x ∧ x < b + n
    · rw [if_pos w, if_pos (by omega)]
    · rw [if_neg w, if_neg (by omega)]
theorem cpf_0 {f g : Nat → Int32} {a b : Nat} : cpf f g a b 0 = g := by
  funext x
  exact if_neg (by omega)
/-- a state in a row of the reference, from o on -/
def mrw (f : Nat → Int32) (o : Nat) (σ : mS) (r : Int32) : Prop := f o = nI σ.1 ∧ f (o + 1) = r ∧ ∀ c, c < σ.1 → ∀ j, j < 9 → f (o + (2 + 9 * c + j)) = nI (σ.2 c j)
theorem mrw_cpf {f g : Nat → Int32} {a b : Nat} {σ : mS} {r : Int32} (hn : σ.1 ≤ 12) (h : mrw f a σ r) : mrw (cpf f g a b 110) b σ r := by
  obtain ⟨h1, h2, h3⟩ := h
  refine ⟨?_, ?_, fun c hc j hj => ?_⟩
  · unfold cpf
    rw [if_pos (by omega), show a + (b - b) = a by omega]
    exact h1
  · unfold cpf
    rw [if_pos (by omega), show a + (b + 1 - b) = a + 1 by omega]
    exact h2
  · unfold cpf
    rw [if_pos (by omega), show a + (b + (2 + 9 * c + j) - b) = a + (2 + 9 * c + j) by omega]
    exact h3 c hc j hj
theorem mrw_out {f g : Nat → Int32} {a b o : Nat} {σ : mS} {r : Int32} (hn : σ.1 ≤ 12) (ho : o + 110 ≤ b ∨ b + 110 ≤ o) (h : mrw g o σ r) : mrw (cpf f g a b 110) o σ r := by
  obtain ⟨h1, h2, h3⟩ := h
  refine ⟨?_, ?_, fun c hc j hj => ?_⟩
  · unfold cpf
    rw [if_neg (by omega)]
    exact h1
  · unfold cpf
    rw [if_neg (by omega)]
    exact h2
  · unfold cpf
    rw [if_neg (by omega)]
    exact h3 c hc j hj
theorem mrw_R {M : oS} {σ : mS} {r : Int32} (h : mrw (M.1 0) 0 σ r) : mdR M σ := ⟨h.1, fun c hc j hj => by
  have := h.2.2 c hc j hj
  rw [Nat.zero_add] at this
  exact this⟩
/-- the history of the reference -/
def mhi (M : oS) (e : Nat → mS × Int32) (len : Nat) : Prop := M.2 0 = nI len ∧ ∀ j, j < len → mrw (M.1 2) (110 * j) (e j).1 (e j).2
def he (e : Nat → mS × Int32) (len : Nat) (x : mS × Int32) : Nat → mS × Int32 := fun j => if len < 4 then (if j = len then x else e j) else (if j = 3 then x else e (j + 1))
def hl (len : Nat) : Nat := if len < 4 then len + 1 else 4
theorem sa_mdR {M : oS} {σ : mS} {r : Int32} (h : mrw (M.1 0) 0 σ r) (c j u : Nat) (hj : j < 9) : mrw (upd (M.1 0) (2 + 9 * c + j) (nI u)) 0 (sa σ c j u) r := by
  obtain ⟨h1, h2, h3⟩ := h
  refine ⟨?_, ?_, fun a ha b hb => ?_⟩
  · have : ¬ 0 = 2 + 9 * c + j := by omega
    simp only [upd, this, if_false]
    exact h1
  · have : ¬ 0 + 1 = 2 + 9 * c + j := by omega
    simp only [upd, this, if_false]
    exact h2
  · have := h3 a ha b hb
    rw [sa_2]
    by_cases q : a = c ∧ b = j
    · rw [if_pos q, q.1, q.2]
      simp [upd]
    · rw [if_neg q]
      have w : ¬ 0 + (2 + 9 * a + b) = 2 + 9 * c + j := by omega
      simp only [upd, w, if_false]
      exact this
theorem k110 : ∀ l, l < 4 → (110 : Int32) * nI l = nI (110 * l) := by decide
section MCHANGE
variable {d : Nat} {h : zH} {i : Nat} {M : oS} {σ : mS} {c : Nat} {x : Int32}
theorem m_lays {j : Nat} (hc : c < 12) (hj : j < 9) : ev d 134 0 [some (.ref i), some (.int (nI c)), some (.int (nI j)), some (.int x)] [] (hmd h i M) = some (none, hmd h i (setR M 0 (upd (M.1 0) (2 + 9 * c + j) x))) := by
  simp only [e134_0, e134_1, e134_4, e134_5, e134_7, e134_8, e134_9, e134_10, e134_11, e134_12, e134_13, e134_14, md_g0, md_g1, md_g2, md_g3, md_g4, md_g5, md_g6, md_g7, md_g8, md_g9, md_g10, md_g11, md_g12, md_g13, md_g14, md_g15, md_g16, md_g17, md_g18, md_p3, md_p5, md_p7, md_p8, md_p9, md_p11, md_p13, md_p15, md_l0, md_l1, md_l2, md_l3, md_l4, md_l5, md_l6, md_l7, md_l8, md_l9, md_l10, md_s0, md_s1, md_s2, md_s3, md_s4, md_s5, md_s6, md_s7, md_s8, md_s9, md_s10, md_is, Option.bind_some, Option.toList_some, Option.toList_none, List.cons_append, List.nil_append, true_or, or_true, and_true, true_and, i10, Bool.false_eq_true, if_true, if_false, reduceIte, m_ix, zin_T (show 2 + 9 * c + j < 110 by omega) (by decide), nI_clamp (show 2 + 9 * c + j < 2 ^ 31 by omega)]
theorem m_turned {g : Nat} (hg : g < 16) : ev d 160 0 [some (.int (nI g))] [] h = some (some (.int (nI (tnd g))), h) := by
  simp only [e160_0, e160_1, e160_2, e160_3, e160_4, e160_5, e160_6, e160_7, e160_9, e160_10, Option.bind_some, Option.toList_some, Option.toList_none, List.cons_append, List.nil_append, true_or, or_true, and_true, true_and, i10, Bool.false_eq_true, if_true, if_false, reduceIte, tnd_e g hg]
theorem m_refuses : ev d 154 0 [some (.ref i), some (.int x)] [] (hmd h i M) = some (some (.int x), hmd h i (setR M 0 (upd (M.1 0) 1 (M.1 0 1 + 1)))) := by
  have z1 : zrd 110 (M.1 0) 1 = some (M.1 0 1) := zrd_nI (k := 1) (by decide) (by decide)
  have z2 : zin 1 110 = true := by decide
  have z3 : Int32.toNatClampNeg 1 = 1 := by decide
  simp only [e154_0, e154_1, e154_4, e154_5, e154_6, e154_7, e154_8, e154_9, e154_10, e154_11, md_g0, md_g1, md_g2, md_g3, md_g4, md_g5, md_g6, md_g7, md_g8, md_g9, md_g10, md_g11, md_g12, md_g13, md_g14, md_g15, md_g16, md_g17, md_g18, md_p3, md_p5, md_p7, md_p8, md_p9, md_p11, md_p13, md_p15, md_l0, md_l1, md_l2, md_l3, md_l4, md_l5, md_l6, md_l7, md_l8, md_l9, md_l10, md_s0, md_s1, md_s2, md_s3, md_s4, md_s5, md_s6, md_s7, md_s8, md_s9, md_s10, md_is, Option.bind_some, Option.toList_some, Option.toList_none, List.cons_append, List.nil_append, true_or, or_true, and_true, true_and, i10, Bool.false_eq_true, if_true, if_false, reduceIte, z1, z2, z3]
theorem m_lays0 (hc : c < 12) : ev d 134 0 [some (.ref i), some (.int (nI c)), some (.int 0), some (.int x)] [] (hmd h i M) = some (none, hmd h i (setR M 0 (upd (M.1 0) (2 + 9 * c + 0) x))) := m_lays (j := 0) hc (by decide)
theorem m_lays1 (hc : c < 12) : ev d 134 0 [some (.ref i), some (.int (nI c)), some (.int 1), some (.int x)] [] (hmd h i M) = some (none, hmd h i (setR M 0 (upd (M.1 0) (2 + 9 * c + 1) x))) := m_lays (j := 1) hc (by decide)
theorem m_lays2 (hc : c < 12) : ev d 134 0 [some (.ref i), some (.int (nI c)), some (.int 2), some (.int x)] [] (hmd h i M) = some (none, hmd h i (setR M 0 (upd (M.1 0) (2 + 9 * c + 2) x))) := m_lays (j := 2) hc (by decide)
theorem m_lays3 (hc : c < 12) : ev d 134 0 [some (.ref i), some (.int (nI c)), some (.int 3), some (.int x)] [] (hmd h i M) = some (none, hmd h i (setR M 0 (upd (M.1 0) (2 + 9 * c + 3) x))) := m_lays (j := 3) hc (by decide)
theorem m_lays4 (hc : c < 12) : ev d 134 0 [some (.ref i), some (.int (nI c)), some (.int 4), some (.int x)] [] (hmd h i M) = some (none, hmd h i (setR M 0 (upd (M.1 0) (2 + 9 * c + 4) x))) := m_lays (j := 4) hc (by decide)
theorem m_lays5 (hc : c < 12) : ev d 134 0 [some (.ref i), some (.int (nI c)), some (.int 5), some (.int x)] [] (hmd h i M) = some (none, hmd h i (setR M 0 (upd (M.1 0) (2 + 9 * c + 5) x))) := m_lays (j := 5) hc (by decide)
theorem m_lays6 (hc : c < 12) : ev d 134 0 [some (.ref i), some (.int (nI c)), some (.int 6), some (.int x)] [] (hmd h i M) = some (none, hmd h i (setR M 0 (upd (M.1 0) (2 + 9 * c + 6) x))) := m_lays (j := 6) hc (by decide)
theorem m_lays7 (hc : c < 12) : ev d 134 0 [some (.ref i), some (.int (nI c)), some (.int 7), some (.int x)] [] (hmd h i M) = some (none, hmd h i (setR M 0 (upd (M.1 0) (2 + 9 * c + 7) x))) := m_lays (j := 7) hc (by decide)
theorem m_lays8 (hc : c < 12) : ev d 134 0 [some (.ref i), some (.int (nI c)), some (.int 8), some (.int x)] [] (hmd h i M) = some (none, hmd h i (setR M 0 (upd (M.1 0) (2 + 9 * c + 8) x))) := m_lays (j := 8) hc (by decide)
theorem m_copies_0_2 {a b : Nat} (ha : a + 110 ≤ 110) (hb : b + 110 ≤ 440) : ev d 130 0 [some (.ref (i + 1)), some (.int (nI a)), some (.ref (i + 3)), some (.int (nI b)), none] [] (hmd h i M) = some (none, hmd h i (setR M 2 (cpf (M.1 0) (M.1 2) a b 110))) := by
  have main : ∀ (f k : Nat), k + f = 110 → ev d 130 3 [some (.ref (i + 1)), some (.int (nI a)), some (.ref (i + 3)), some (.int (nI b)), some (.int (nI k))] [] (hmd h i (setR M 2 (cpf (M.1 0) (M.1 2) a b k))) = some (none, hmd h i (setR M 2 (cpf (M.1 0) (M.1 2) a b 110))) := by
    intro f
    induction f with
    | zero =>
      intro k hk
      have hk : k = 110 := by omega
      subst hk
      rw [e130_3]
      simp only [e130_0, e130_1, e130_5, e130_7, e130_10, e130_11, e130_12, e130_14, e130_15, e130_16, e130_17, e130_19, e130_20, e130_21, e130_22, e130_25, e130_28, Option.bind_some, Option.toList_some, Option.toList_none, List.cons_append, List.nil_append, true_or, or_true, and_true, true_and, i10, Bool.false_eq_true, if_true, if_false, reduceIte, show ((110 : Int32) ≤ nI 110) = True by decide]
    | succ f ih =>
      intro k hk
      have e1 : ((110 : Int32) ≤ nI k) = False := (nI_lep (a := 110) (by omega) (by omega)).trans (eq_false (by omega))
      have e2 : (setR M 2 (cpf (M.1 0) (M.1 2) a b k)).1 0 = M.1 0 := rfl
      have e3 : (setR M 2 (cpf (M.1 0) (M.1 2) a b k)).1 2 = cpf (M.1 0) (M.1 2) a b k := rfl
      rw [e130_3]
      simp only [e130_0, e130_1, e130_5, e130_7, e130_10, e130_11, e130_12, e130_14, e130_15, e130_16, e130_17, e130_19, e130_20, e130_21, e130_22, e130_25, e130_28, md_g0, md_g1, md_g2, md_g3, md_g4, md_g5, md_g6, md_g7, md_g8, md_g9, md_g10, md_g11, md_g12, md_g13, md_g14, md_g15, md_g16, md_g17, md_g18, md_p3, md_p5, md_p7, md_p8, md_p9, md_p11, md_p13, md_p15, md_l0, md_l1, md_l2, md_l3, md_l4, md_l5, md_l6, md_l7, md_l8, md_l9, md_l10, md_s0, md_s1, md_s2, md_s3, md_s4, md_s5, md_s6, md_s7, md_s8, md_s9, md_s10, md_is, Option.bind_some, Option.toList_some, Option.toList_none, List.cons_append, List.nil_append, true_or, or_true, and_true, true_and, i10, Bool.false_eq_true, if_true, if_false, reduceIte, e1, e2, e3, nI_add, nI_1, zrd_nI (show a + k < 110 by omega) (show 110 < 2147483648 by omega), zin_T (show b + k < 440 by omega) (by decide), nI_clamp (show b + k < 2 ^ 31 by omega), setR_setR, cpf_s]
      exact ih (k + 1) (by omega)
  have := main 110 0 (by omega)
  rw [cpf_0, setR_self] at this
  simp only [e130_0, e130_1, e130_5, e130_7, e130_10, e130_11, e130_12, e130_14, e130_15, e130_16, e130_17, e130_19, e130_20, e130_21, e130_22, e130_25, e130_28, Option.bind_some, Option.toList_some, Option.toList_none, List.cons_append, List.nil_append, true_or, or_true, and_true, true_and, i10, Bool.false_eq_true, if_true, if_false, reduceIte]
  exact this
theorem m_copies_2_0 {a b : Nat} (ha : a + 110 ≤ 440) (hb : b + 110 ≤ 110) : ev d 130 0 [some (.ref (i + 3)), some (.int (nI a)), some (.ref (i + 1)), some (.int (nI b)), none] [] (hmd h i M) = some (none, hmd h i (setR M 0 (cpf (M.1 2) (M.1 0) a b 110))) := by
  have main : ∀ (f k : Nat), k + f = 110 → ev d 130 3 [some (.ref (i + 3)), some (.int (nI a)), some (.ref (i + 1)), some (.int (nI b)), some (.int (nI k))] [] (hmd h i (setR M 0 (cpf (M.1 2) (M.1 0) a b k))) = some (none, hmd h i (setR M 0 (cpf (M.1 2) (M.1 0) a b 110))) := by
    intro f
    induction f with
    | zero =>
      intro k hk
      have hk : k = 110 := by omega
      subst hk
      rw [e130_3]
      simp only [e130_0, e130_1, e130_5, e130_7, e130_10, e130_11, e130_12, e130_14, e130_15, e130_16, e130_17, e130_19, e130_20, e130_21, e130_22, e130_25, e130_28, Option.bind_some, Option.toList_some, Option.toList_none, List.cons_append, List.nil_append, true_or, or_true, and_true, true_and, i10, Bool.false_eq_true, if_true, if_false, reduceIte, show ((110 : Int32) ≤ nI 110) = True by decide]
    | succ f ih =>
      intro k hk
      have e1 : ((110 : Int32) ≤ nI k) = False := (nI_lep (a := 110) (by omega) (by omega)).trans (eq_false (by omega))
      have e2 : (setR M 0 (cpf (M.1 2) (M.1 0) a b k)).1 2 = M.1 2 := rfl
      have e3 : (setR M 0 (cpf (M.1 2) (M.1 0) a b k)).1 0 = cpf (M.1 2) (M.1 0) a b k := rfl
      rw [e130_3]
      simp only [e130_0, e130_1, e130_5, e130_7, e130_10, e130_11, e130_12, e130_14, e130_15, e130_16, e130_17, e130_19, e130_20, e130_21, e130_22, e130_25, e130_28, md_g0, md_g1, md_g2, md_g3, md_g4, md_g5, md_g6, md_g7, md_g8, md_g9, md_g10, md_g11, md_g12, md_g13, md_g14, md_g15, md_g16, md_g17, md_g18, md_p3, md_p5, md_p7, md_p8, md_p9, md_p11, md_p13, md_p15, md_l0, md_l1, md_l2, md_l3, md_l4, md_l5, md_l6, md_l7, md_l8, md_l9, md_l10, md_s0, md_s1, md_s2, md_s3, md_s4, md_s5, md_s6, md_s7, md_s8, md_s9, md_s10, md_is, Option.bind_some, Option.toList_some, Option.toList_none, List.cons_append, List.nil_append, true_or, or_true, and_true, true_and, i10, Bool.false_eq_true, if_true, if_false, reduceIte, e1, e2, e3, nI_add, nI_1, zrd_nI (show a + k < 440 by omega) (show 440 < 2147483648 by omega), zin_T (show b + k < 110 by omega) (by decide), nI_clamp (show b + k < 2 ^ 31 by omega), setR_setR, cpf_s]
      exact ih (k + 1) (by omega)
  have := main 110 0 (by omega)
  rw [cpf_0, setR_self] at this
  simp only [e130_0, e130_1, e130_5, e130_7, e130_10, e130_11, e130_12, e130_14, e130_15, e130_16, e130_17, e130_19, e130_20, e130_21, e130_22, e130_25, e130_28, Option.bind_some, Option.toList_some, Option.toList_none, List.cons_append, List.nil_append, true_or, or_true, and_true, true_and, i10, Bool.false_eq_true, if_true, if_false, reduceIte]
  exact this
theorem m_copies_0_3 {a b : Nat} (ha : a + 110 ≤ 110) (hb : b + 110 ≤ 110) : ev d 130 0 [some (.ref (i + 1)), some (.int (nI a)), some (.ref (i + 4)), some (.int (nI b)), none] [] (hmd h i M) = some (none, hmd h i (setR M 3 (cpf (M.1 0) (M.1 3) a b 110))) := by
  have main : ∀ (f k : Nat), k + f = 110 → ev d 130 3 [some (.ref (i + 1)), some (.int (nI a)), some (.ref (i + 4)), some (.int (nI b)), some (.int (nI k))] [] (hmd h i (setR M 3 (cpf (M.1 0) (M.1 3) a b k))) = some (none, hmd h i (setR M 3 (cpf (M.1 0) (M.1 3) a b 110))) := by
    intro f
    induction f with
    | zero =>
      intro k hk
      have hk : k = 110 := by omega
      subst hk
      rw [e130_3]
      simp only [e130_0, e130_1, e130_5, e130_7, e130_10, e130_11, e130_12, e130_14, e130_15, e130_16, e130_17, e130_19, e130_20, e130_21, e130_22, e130_25, e130_28, Option.bind_some, Option.toList_some, Option.toList_none, List.cons_append, List.nil_append, true_or, or_true, and_true, true_and, i10, Bool.false_eq_true, if_true, if_false, reduceIte, show ((110 : Int32) ≤ nI 110) = True by decide]
    | succ f ih =>
      intro k hk
      have e1 : ((110 : Int32) ≤ nI k) = False := (nI_lep (a := 110) (by omega) (by omega)).trans (eq_false (by omega))
      have e2 : (setR M 3 (cpf (M.1 0) (M.1 3) a b k)).1 0 = M.1 0 := rfl
      have e3 : (setR M 3 (cpf (M.1 0) (M.1 3) a b k)).1 3 = cpf (M.1 0) (M.1 3) a b k := rfl
      rw [e130_3]
      simp only [e130_0, e130_1, e130_5, e130_7, e130_10, e130_11, e130_12, e130_14, e130_15, e130_16, e130_17, e130_19, e130_20, e130_21, e130_22, e130_25, e130_28, md_g0, md_g1, md_g2, md_g3, md_g4, md_g5, md_g6, md_g7, md_g8, md_g9, md_g10, md_g11, md_g12, md_g13, md_g14, md_g15, md_g16, md_g17, md_g18, md_p3, md_p5, md_p7, md_p8, md_p9, md_p11, md_p13, md_p15, md_l0, md_l1, md_l2, md_l3, md_l4, md_l5, md_l6, md_l7, md_l8, md_l9, md_l10, md_s0, md_s1, md_s2, md_s3, md_s4, md_s5, md_s6, md_s7, md_s8, md_s9, md_s10, md_is, Option.bind_some, Option.toList_some, Option.toList_none, List.cons_append, List.nil_append, true_or, or_true, and_true, true_and, i10, Bool.false_eq_true, if_true, if_false, reduceIte, e1, e2, e3, nI_add, nI_1, zrd_nI (show a + k < 110 by omega) (show 110 < 2147483648 by omega), zin_T (show b + k < 110 by omega) (by decide), nI_clamp (show b + k < 2 ^ 31 by omega), setR_setR, cpf_s]
      exact ih (k + 1) (by omega)
  have := main 110 0 (by omega)
  rw [cpf_0, setR_self] at this
  simp only [e130_0, e130_1, e130_5, e130_7, e130_10, e130_11, e130_12, e130_14, e130_15, e130_16, e130_17, e130_19, e130_20, e130_21, e130_22, e130_25, e130_28, Option.bind_some, Option.toList_some, Option.toList_none, List.cons_append, List.nil_append, true_or, or_true, and_true, true_and, i10, Bool.false_eq_true, if_true, if_false, reduceIte]
  exact this
theorem m_copies_3_0 {a b : Nat} (ha : a + 110 ≤ 110) (hb : b + 110 ≤ 110) : ev d 130 0 [some (.ref (i + 4)), some (.int (nI a)), some (.ref (i + 1)), some (.int (nI b)), none] [] (hmd h i M) = some (none, hmd h i (setR M 0 (cpf (M.1 3) (M.1 0) a b 110))) := by
  have main : ∀ (f k : Nat), k + f = 110 → ev d 130 3 [some (.ref (i + 4)), some (.int (nI a)), some (.ref (i + 1)), some (.int (nI b)), some (.int (nI k))] [] (hmd h i (setR M 0 (cpf (M.1 3) (M.1 0) a b k))) = some (none, hmd h i (setR M 0 (cpf (M.1 3) (M.1 0) a b 110))) := by
    intro f
    induction f with
    | zero =>
      intro k hk
      have hk : k = 110 := by omega
      subst hk
      rw [e130_3]
      simp only [e130_0, e130_1, e130_5, e130_7, e130_10, e130_11, e130_12, e130_14, e130_15, e130_16, e130_17, e130_19, e130_20, e130_21, e130_22, e130_25, e130_28, Option.bind_some, Option.toList_some, Option.toList_none, List.cons_append, List.nil_append, true_or, or_true, and_true, true_and, i10, Bool.false_eq_true, if_true, if_false, reduceIte, show ((110 : Int32) ≤ nI 110) = True by decide]
    | succ f ih =>
      intro k hk
      have e1 : ((110 : Int32) ≤ nI k) = False := (nI_lep (a := 110) (by omega) (by omega)).trans (eq_false (by omega))
      have e2 : (setR M 0 (cpf (M.1 3) (M.1 0) a b k)).1 3 = M.1 3 := rfl
      have e3 : (setR M 0 (cpf (M.1 3) (M.1 0) a b k)).1 0 = cpf (M.1 3) (M.1 0) a b k := rfl
      rw [e130_3]
      simp only [e130_0, e130_1, e130_5, e130_7, e130_10, e130_11, e130_12, e130_14, e130_15, e130_16, e130_17, e130_19, e130_20, e130_21, e130_22, e130_25, e130_28, md_g0, md_g1, md_g2, md_g3, md_g4, md_g5, md_g6, md_g7, md_g8, md_g9, md_g10, md_g11, md_g12, md_g13, md_g14, md_g15, md_g16, md_g17, md_g18, md_p3, md_p5, md_p7, md_p8, md_p9, md_p11, md_p13, md_p15, md_l0, md_l1, md_l2, md_l3, md_l4, md_l5, md_l6, md_l7, md_l8, md_l9, md_l10, md_s0, md_s1, md_s2, md_s3, md_s4, md_s5, md_s6, md_s7, md_s8, md_s9, md_s10, md_is, Option.bind_some, Option.toList_some, Option.toList_none, List.cons_append, List.nil_append, true_or, or_true, and_true, true_and, i10, Bool.false_eq_true, if_true, if_false, reduceIte, e1, e2, e3, nI_add, nI_1, zrd_nI (show a + k < 110 by omega) (show 110 < 2147483648 by omega), zin_T (show b + k < 110 by omega) (by decide), nI_clamp (show b + k < 2 ^ 31 by omega), setR_setR, cpf_s]
      exact ih (k + 1) (by omega)
  have := main 110 0 (by omega)
  rw [cpf_0, setR_self] at this
  simp only [e130_0, e130_1, e130_5, e130_7, e130_10, e130_11, e130_12, e130_14, e130_15, e130_16, e130_17, e130_19, e130_20, e130_21, e130_22, e130_25, e130_28, Option.bind_some, Option.toList_some, Option.toList_none, List.cons_append, List.nil_append, true_or, or_true, and_true, true_and, i10, Bool.false_eq_true, if_true, if_false, reduceIte]
  exact this
theorem m_records {r : Int32} {e : Nat → mS × Int32} {len : Nat} (hlen : len ≤ 4) (hM : mhi M e len) (h0 : mrw (M.1 0) 0 σ r) (hn : σ.1 ≤ 12) (hen : ∀ j, j < len → (e j).1.1 ≤ 12) : ∃ P, mhi (setI (setR M 2 P) 0 (nI (hl len))) (he e len (σ, r)) (hl len) ∧ ev (d + 1) 131 0 [some (.ref i), none] [] (hmd h i M) = some (none, hmd h i (setI (setR M 2 P) 0 (nI (hl len)))) := by
  rcases Nat.lt_or_ge len 4 with hl4 | hl4
  · have e1 : (nI len = 4) = False := (nI_eqp (b := 4) (by omega) (by omega)).trans (eq_false (by omega))
    have hl' : hl len = len + 1 := if_pos hl4
    refine ⟨cpf (M.1 0) (M.1 2) 0 (110 * len) 110, ⟨rfl, fun j hj => ?_⟩, ?_⟩
    · show mrw (cpf (M.1 0) (M.1 2) 0 (110 * len) 110) (110 * j) (he e len (σ, r) j).1 (he e len (σ, r) j).2
      rw [hl'] at hj
      unfold he
      rw [if_pos hl4]
      by_cases q : j = len
      · subst q
        rw [if_pos rfl]
        exact mrw_cpf hn h0
      · rw [if_neg q]
        exact mrw_out (hen j (by omega)) (by omega) (hM.2 j (by omega))
    · have hc := m_copies_0_2 (d := d) (h := h) (i := i) (M := M) (a := 0) (b := 110 * len) (by omega) (by omega)
      have hc' : ev d 130 0 [some (.ref (i + 1)), some (.int 0), some (.ref (i + 3)), some (.int (nI (110 * len))), none] [] (hmd h i M) = _ := hc
      have e2 : (setR M 2 (cpf (M.1 0) (M.1 2) 0 (110 * len) 110)).2 0 = nI len := hM.1
      rw [hl']
      simp only [e131_0, e131_1, e131_4, e131_5, e131_8, e131_9, e131_11, e131_14, e131_17, e131_18, e131_21, e131_22, e131_23, e131_26, e131_27, e131_29, e131_30, e131_31, e131_32, e131_35, e131_38, e131_39, e131_40, e131_43, e131_44, e131_45, e131_48, e131_49, e131_52, e131_53, e131_54, e131_57, e131_59, e131_60, e131_63, e131_64, e131_67, e131_68, e131_69, e131_72, e131_73, e131_74, e131_77, md_g0, md_g1, md_g2, md_g3, md_g4, md_g5, md_g6, md_g7, md_g8, md_g9, md_g10, md_g11, md_g12, md_g13, md_g14, md_g15, md_g16, md_g17, md_g18, md_p3, md_p5, md_p7, md_p8, md_p9, md_p11, md_p13, md_p15, md_l0, md_l1, md_l2, md_l3, md_l4, md_l5, md_l6, md_l7, md_l8, md_l9, md_l10, md_s0, md_s1, md_s2, md_s3, md_s4, md_s5, md_s6, md_s7, md_s8, md_s9, md_s10, md_is, Option.bind_some, Option.toList_some, Option.toList_none, List.cons_append, List.nil_append, true_or, or_true, and_true, true_and, i10, Bool.false_eq_true, if_true, if_false, reduceIte, hM.1, e1, k110 len hl4, hc', e2, nI_1]
  · have hl' : len = 4 := by omega
    subst hl'
    have main : ∀ (f k : Nat), k + f = 330 → ev (d + 1) 131 10 [some (.ref i), some (.int (nI k))] [] (hmd h i (setR M 2 (cpf (M.1 2) (M.1 2) 110 0 k))) = ev (d + 1) 131 38 [some (.ref i), some (.int (nI 330))] [] (hmd h i (setR M 2 (cpf (M.1 2) (M.1 2) 110 0 330))) := by
      intro f
      induction f with
      | zero =>
        intro k hk
        have hk : k = 330 := by omega
        subst hk
        rw [e131_10]
        simp only [e131_0, e131_1, e131_4, e131_5, e131_8, e131_9, e131_11, e131_14, e131_17, e131_18, e131_21, e131_22, e131_23, e131_26, e131_27, e131_29, e131_30, e131_31, e131_32, e131_35, e131_39, e131_40, e131_43, e131_44, e131_45, e131_48, e131_49, e131_52, e131_53, e131_54, e131_57, e131_59, e131_60, e131_63, e131_64, e131_67, e131_68, e131_69, e131_72, e131_73, e131_74, e131_77, Option.bind_some, Option.toList_some, Option.toList_none, List.cons_append, List.nil_append, true_or, or_true, and_true, true_and, i10, Bool.false_eq_true, if_true, if_false, reduceIte, show ((330 : Int32) ≤ nI 330) = True by decide]
      | succ f ih =>
        intro k hk
        have e1 : ((330 : Int32) ≤ nI k) = False := (nI_lep (a := 330) (by omega) (by omega)).trans (eq_false (by omega))
        have e3 : (setR M 2 (cpf (M.1 2) (M.1 2) 110 0 k)).1 2 = cpf (M.1 2) (M.1 2) 110 0 k := rfl
        have e4 : cpf (M.1 2) (M.1 2) 110 0 k (k + 110) = M.1 2 (110 + k) := by
          unfold cpf
          rw [if_neg (by omega), Nat.add_comm]
        have e5 : (nI k + 110 : Int32) = nI (k + 110) := nI_add k 110
        have e6 := cpf_s (f := M.1 2) (g := M.1 2) (a := 110) (b := 0) (n := k)
        rw [Nat.zero_add] at e6
        rw [e131_10]
        simp only [e131_0, e131_1, e131_4, e131_5, e131_8, e131_9, e131_11, e131_14, e131_17, e131_18, e131_21, e131_22, e131_23, e131_26, e131_27, e131_29, e131_30, e131_31, e131_32, e131_35, e131_39, e131_40, e131_43, e131_44, e131_45, e131_48, e131_49, e131_52, e131_53, e131_54, e131_57, e131_59, e131_60, e131_63, e131_64, e131_67, e131_68, e131_69, e131_72, e131_73, e131_74, e131_77, md_g0, md_g1, md_g2, md_g3, md_g4, md_g5, md_g6, md_g7, md_g8, md_g9, md_g10, md_g11, md_g12, md_g13, md_g14, md_g15, md_g16, md_g17, md_g18, md_p3, md_p5, md_p7, md_p8, md_p9, md_p11, md_p13, md_p15, md_l0, md_l1, md_l2, md_l3, md_l4, md_l5, md_l6, md_l7, md_l8, md_l9, md_l10, md_s0, md_s1, md_s2, md_s3, md_s4, md_s5, md_s6, md_s7, md_s8, md_s9, md_s10, md_is, Option.bind_some, Option.toList_some, Option.toList_none, List.cons_append, List.nil_append, true_or, or_true, and_true, true_and, i10, Bool.false_eq_true, if_true, if_false, reduceIte, e1, e3, e5, nI_1, zrd_nI (show k + 110 < 440 by omega) (show 440 < 2147483648 by omega), e4, zin_T (show k < 440 by omega) (by decide), nI_clamp (show k < 2 ^ 31 by omega), setR_setR, e6]
        exact ih (k + 1) (by omega)
    have m0 := main 330 0 (by omega)
    rw [cpf_0, setR_self] at m0
    refine ⟨cpf (M.1 0) (cpf (M.1 2) (M.1 2) 110 0 330) 0 330 110, ⟨rfl, fun j hj => ?_⟩, ?_⟩
    · show mrw (cpf (M.1 0) (cpf (M.1 2) (M.1 2) 110 0 330) 0 330 110) (110 * j) (he e 4 (σ, r) j).1 (he e 4 (σ, r) j).2
      have hj : j < 4 := hj
      unfold he
      rw [if_neg (by omega)]
      by_cases q : j = 3
      · subst q
        rw [if_pos rfl]
        exact mrw_cpf hn h0
      · rw [if_neg q]
        have hn2 := hen (j + 1) (by omega)
        refine mrw_out hn2 (by omega) ?_
        obtain ⟨h1, h2, h3⟩ := hM.2 (j + 1) (by omega)
        refine ⟨?_, ?_, fun c hc b hb => ?_⟩
        · unfold cpf
          rw [if_pos (by omega), show 110 + (110 * j - 0) = 110 * (j + 1) by omega]
          exact h1
        · unfold cpf
          rw [if_pos (by omega), show 110 + (110 * j + 1 - 0) = 110 * (j + 1) + 1 by omega]
          exact h2
        · unfold cpf
          rw [if_pos (by omega), show 110 + (110 * j + (2 + 9 * c + b) - 0) = 110 * (j + 1) + (2 + 9 * c + b) by omega]
          exact h3 c hc b hb
    · have hc := m_copies_0_2 (d := d) (h := h) (i := i) (M := setI (setR M 2 (cpf (M.1 2) (M.1 2) 110 0 330)) 0 (nI 3)) (a := 0) (b := 330) (by omega) (by omega)
      have hc' : ev d 130 0 [some (.ref (i + 1)), some (.int 0), some (.ref (i + 3)), some (.int (nI 330)), none] [] (hmd h i (setI (setR M 2 (cpf (M.1 2) (M.1 2) 110 0 330)) 0 (nI 3))) = some (none, hmd h i (setI (setR M 2 (cpf (M.1 0) (cpf (M.1 2) (M.1 2) 110 0 330) 0 330 110)) 0 (nI 3))) := by
        refine hc.trans ?_
        congr 3
        refine Prod.ext (funext fun j => ?_) rfl
        simp only [setR, setI]
        by_cases q : j = 2 <;> simp [q]
      have e1 : (nI 4 = 4) = True := by decide
      have e2 : (setR M 2 (cpf (M.1 2) (M.1 2) 110 0 330)).2 0 = nI 4 := hM.1
      have e3 : nI 4 - 1 = nI 3 := by decide
      have e4 : (110 : Int32) * nI 3 = nI 330 := by decide
      have e5 : ∀ (N : oS) (x : Int32), (setI N 0 x).2 0 = x := fun _ _ => rfl
      have e6 : nI 3 + 1 = nI (hl 4) := by decide
      have e7 : ∀ (N : oS) (x y : Int32), setI (setI N 0 x) 0 y = setI N 0 y := by
        intro N x y
        refine Prod.ext rfl (funext fun j => ?_)
        simp only [setI]
        by_cases q : j = 0 <;> simp [q]
      simp only [e131_0, e131_1, e131_4, e131_5, e131_8, e131_9, e131_11, e131_14, e131_17, e131_18, e131_21, e131_22, e131_23, e131_26, e131_27, e131_29, e131_30, e131_31, e131_32, e131_35, e131_39, e131_40, e131_43, e131_44, e131_45, e131_48, e131_49, e131_52, e131_53, e131_54, e131_57, e131_59, e131_60, e131_63, e131_64, e131_67, e131_68, e131_69, e131_72, e131_73, e131_74, e131_77, md_g0, md_g1, md_g2, md_g3, md_g4, md_g5, md_g6, md_g7, md_g8, md_g9, md_g10, md_g11, md_g12, md_g13, md_g14, md_g15, md_g16, md_g17, md_g18, md_p3, md_p5, md_p7, md_p8, md_p9, md_p11, md_p13, md_p15, md_l0, md_l1, md_l2, md_l3, md_l4, md_l5, md_l6, md_l7, md_l8, md_l9, md_l10, md_s0, md_s1, md_s2, md_s3, md_s4, md_s5, md_s6, md_s7, md_s8, md_s9, md_s10, md_is, Option.bind_some, Option.toList_some, Option.toList_none, List.cons_append, List.nil_append, true_or, or_true, and_true, true_and, i10, Bool.false_eq_true, if_true, if_false, reduceIte, hM.1, e1]
      refine m0.trans ?_
      rw [e131_38]
      simp only [e131_0, e131_1, e131_4, e131_5, e131_8, e131_9, e131_11, e131_14, e131_17, e131_18, e131_21, e131_22, e131_23, e131_26, e131_27, e131_29, e131_30, e131_31, e131_32, e131_35, e131_39, e131_40, e131_43, e131_44, e131_45, e131_48, e131_49, e131_52, e131_53, e131_54, e131_57, e131_59, e131_60, e131_63, e131_64, e131_67, e131_68, e131_69, e131_72, e131_73, e131_74, e131_77, md_g0, md_g1, md_g2, md_g3, md_g4, md_g5, md_g6, md_g7, md_g8, md_g9, md_g10, md_g11, md_g12, md_g13, md_g14, md_g15, md_g16, md_g17, md_g18, md_p3, md_p5, md_p7, md_p8, md_p9, md_p11, md_p13, md_p15, md_l0, md_l1, md_l2, md_l3, md_l4, md_l5, md_l6, md_l7, md_l8, md_l9, md_l10, md_s0, md_s1, md_s2, md_s3, md_s4, md_s5, md_s6, md_s7, md_s8, md_s9, md_s10, md_is, Option.bind_some, Option.toList_some, Option.toList_none, List.cons_append, List.nil_append, true_or, or_true, and_true, true_and, i10, Bool.false_eq_true, if_true, if_false, reduceIte, e2, e3, e5, e4, hc', e6, e7]
end MCHANGE
