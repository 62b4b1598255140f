/-! THE LONGEST NEST, IN THE REFERENCE -/
theorem setR_setR (M : oS) (k : Nat) (f g : Nat → Int32) : setR (setR M k f) k g = setR M k g := by
  unfold setR
  refine Prod.ext (funext fun j => ?_) rfl
  by_cases h : j = k <;> simp [h]
theorem setR_self (M : oS) (k : Nat) : setR M k (M.1 k) = M := by
  unfold setR
  refine Prod.ext (funext fun j => ?_) rfl
  by_cases h : j = k <;> simp [h]
theorem z0_10 : ((0 : Nat) = 10) = False := by decide
theorem mdR_10 {M : oS} {σ : mS} (hR : mdR M σ) (f : Nat → Int32) : mdR (setR M 10 f) σ := by
  unfold mdR
  simp only [setR_1, z0_10, if_false]
  exact hR
/-- how far the relaxation has come -/
def nP (σ : mS) (r c e : Nat) (g : Nat → Nat) : Prop := (∀ x, x < σ.1 → (lse σ x = true → 1 ≤ g x) ∧ g x ≤ lnn σ x) ∧ (∀ x, x < σ.1 → min (lnn σ x) (r + 1) ≤ g x) ∧ (∀ x, x < σ.1 → x < c → min (lnn σ x) (r + 2) ≤ g x) ∧ (∀ x, x < σ.1 → x < e → lse σ c = true → lse σ x = true → σ.2 x 0 ≤ σ.2 c 1 → min (lnn σ x) (r + 1) + 1 ≤ g c)
theorem wf.lnn_pos {σ : mS} (hw : wf σ) {c : Nat} (hc : c < σ.1) (h : 0 < lnn σ c) : lse σ c = true := by
  cases q : lse σ c with
  | true => rfl
  | false =>
    rw [hw.lnn_eq hc, q] at h
    simp at h
theorem mxr_ub {σ : mS} {r e : Nat} (he : e < σ.1) (h : σ.2 e 0 ≤ r) : lnn σ e ≤ mxr σ r := by
  have := mxf_ub (f := fun e => if σ.2 e 0 ≤ r then lnn σ e else 0) he
  simp only [h, if_true] at this
  exact this
theorem nP_c {σ : mS} (hw : wf σ) {r c : Nat} {g : Nat → Nat} (hc : c < σ.1) (h : nP σ r c σ.1 g) : nP σ r (c + 1) 0 g := by
  obtain ⟨h1, h2, h3, h4⟩ := h
  refine ⟨h1, h2, fun x hx hxc => ?_, fun x _ hx => by omega⟩
  by_cases q : x = c
  · subst q
    have e := hw.lnn_eq hx
    by_cases q : lse σ x = true
    · rw [if_pos q] at e
      rcases Nat.eq_zero_or_pos (mxr σ (σ.2 x 1)) with z | z
      · have := (h1 x hx).1 q
        omega
      · obtain ⟨y, y1, y2, y3, y4, y5⟩ := hw.nxt_ex z
        have := h4 y y1 y1 q (hw.lnn_pos y1 (by omega)) y4
        omega
    · rw [if_neg q] at e
      omega
  · exact h3 x hx (by omega)
theorem nP_r {σ : mS} {r : Nat} {g : Nat → Nat} (h : nP σ r σ.1 0 g) : nP σ (r + 1) 0 0 g := by
  obtain ⟨h1, h2, h3, h4⟩ := h
  exact ⟨h1, fun x hx => h3 x hx hx, fun x _ hx => by omega, fun x _ hx => by omega⟩
theorem nP_e {σ : mS} (hw : wf σ) {r c e : Nat} {g : Nat → Nat} (hc : c < σ.1) (he : e < σ.1) (h : nP σ r c e g) : nP σ r c (e + 1) (fun x => if x = c then (if 0 < g c ∧ 0 < g e ∧ σ.2 e 0 ≤ σ.2 c 1 ∧ g c < g e + 1 then g e + 1 else g c) else g x) := by
  obtain ⟨h1, h2, h3, h4⟩ := h
  have ec := hw.lnn_eq hc
  have mono : g c ≤ (if 0 < g c ∧ 0 < g e ∧ σ.2 e 0 ≤ σ.2 c 1 ∧ g c < g e + 1 then g e + 1 else g c) := by split <;> omega
  refine ⟨fun x hx => ?_, fun x hx => ?_, fun x hx hxc => ?_, fun x hx hxe l1 l2 l3 => ?_⟩
  · by_cases q : x = c
    · subst q
      simp only [if_true]
      refine ⟨fun l => by have := (h1 x hx).1 l; omega, ?_⟩
      by_cases w : 0 < g x ∧ 0 < g e ∧ σ.2 e 0 ≤ σ.2 x 1 ∧ g x < g e + 1
      · rw [if_pos w]
        have u1 := mxr_ub he w.2.2.1
        have u2 := (h1 x hx).2
        have u3 := (h1 e he).2
        have u4 := hw.lnn_pos hx (by omega)
        rw [if_pos u4] at ec
        omega
      · rw [if_neg w]
        exact (h1 x hx).2
    · simp only [q, if_false]
      exact h1 x hx
  · by_cases q : x = c
    · subst q
      simp only [if_true]
      have := h2 x hx
      omega
    · simp only [q, if_false]
      exact h2 x hx
  · have q : ¬ x = c := by omega
    simp only [q, if_false]
    exact h3 x hx hxc
  · simp only [if_true]
    by_cases q : x = e
    · subst q
      have u1 := (h1 c hc).1 l1
      have u2 := (h1 x hx).1 l2
      have u3 := h2 x hx
      by_cases w : g c < g x + 1
      · rw [if_pos ⟨by omega, by omega, l3, w⟩]
        omega
      · rw [if_neg (fun z => w z.2.2.2)]
        omega
    · have := h4 x hx (by omega) l1 l2 l3
      omega
section NEST2
variable {d : Nat} {h : zH} {i : Nat} {M : oS} {σ : mS} {c : Nat}
theorem m_lays_e (hR : mdR M σ) (hw : wf σ) {r : Nat} (hc : c < σ.1) : ∀ (f e : Nat) (x : Option Value) (ρ : Nat → Int32) (g : Nat → Nat), e + f = σ.1 → (∀ x, x < σ.1 → ρ x = nI (g x)) → nP σ r c e g → ∃ (ρ' : Nat → Int32) (g' : Nat → Nat) (y z : Option Value), (∀ x, x < σ.1 → ρ' x = nI (g' x)) ∧ nP σ r (c + 1) 0 g' ∧ ev (d + 4) 189 63 [some (.ref i), some (.int (nI r)), some (.int (nI c)), some (.int (nI e)), x] [] (hmd h i (setR M 10 ρ)) = ev (d + 4) 189 51 [some (.ref i), some (.int (nI r)), some (.int (nI (c + 1))), y, z] [] (hmd h i (setR M 10 ρ')) := by
  have hb := hw.bnd
  have hn := hb.1
  have h0 := m_n hR
  intro f
  induction f with
  | zero =>
    intro e x ρ g he hg hP
    have he : e = σ.1 := by omega
    subst he
    refine ⟨ρ, g, some (.int (nI σ.1)), x, hg, nP_c hw hc hP, ?_⟩
    rw [e189_63]
    simp only [e189_0, e189_1, e189_2, e189_3, e189_4, e189_7, e189_8, e189_9, e189_12, e189_13, e189_16, e189_17, e189_18, e189_19, e189_22, e189_25, e189_26, e189_29, e189_30, e189_31, e189_34, e189_37, e189_38, e189_39, e189_40, e189_41, e189_44, e189_45, e189_46, e189_49, e189_50, e189_52, e189_53, e189_56, e189_57, e189_58, e189_61, e189_62, e189_64, e189_65, e189_68, e189_69, e189_70, e189_73, e189_74, e189_77, e189_78, e189_79, e189_82, e189_83, e189_86, e189_87, e189_88, e189_91, e189_92, e189_93, e189_94, e189_97, e189_98, e189_99, e189_100, e189_103, e189_106, e189_107, e189_110, e189_111, e189_113, e189_114, e189_117, e189_118, e189_120, e189_123, e189_124, e189_127, e189_128, e189_129, e189_130, e189_131, e189_132, e189_135, e189_136, e189_137, e189_140, e189_141, e189_144, e189_145, e189_146, e189_147, e189_148, e189_151, e189_152, e189_155, e189_156, e189_157, e189_158, e189_161, e189_164, e189_167, e189_170, e189_173, e189_176, md_g0, md_g1, md_g2, md_g3, md_g4, md_g5, md_g6, md_g7, md_g8, md_g9, md_g10, md_g11, md_g12, md_g13, md_g14, md_g15, md_g16, md_g17, md_g18, md_p3, md_p5, md_p7, md_p8, md_p9, md_p11, md_p13, md_p15, md_l0, md_l1, md_l2, md_l3, md_l4, md_l5, md_l6, md_l7, md_l8, md_l9, md_l10, md_s0, md_s1, md_s2, md_s3, md_s4, md_s5, md_s6, md_s7, md_s8, md_s9, md_s10, md_is, Option.bind_some, Option.toList_some, Option.toList_none, List.cons_append, List.nil_append, true_or, or_true, and_true, true_and, i10, Bool.false_eq_true, if_true, if_false, reduceIte, setR_1, z0_10, h0, Int32.le_refl, nI_1]
  | succ f ih =>
    intro e x ρ g he hg hP
    have he2 : e < σ.1 := by omega
    have hlt : (σ.1 ≤ e) = False := eq_false (by omega)
    have hR' := mdR_10 hR ρ
    have b1 := hw.lnn_le hc
    have b2 := hw.lnn_le he2
    have b3 := (hP.1 c hc).2
    have b4 := (hP.1 e he2).2
    have b5 := (hb.2 e he2).1
    have b6 := (hb.2 c hc).2.1
    have e1 : (nI (g c) ≤ 0) = (g c ≤ 0) := nI_lep (b := 0) (by omega) (by omega)
    have e2 : (nI (g e) ≤ 0) = (g e ≤ 0) := nI_lep (b := 0) (by omega) (by omega)
    obtain ⟨ρ', g', y, z, g1, g2, g3⟩ := ih (e + 1) (some (.int (bI (0 < g c ∧ 0 < g e ∧ σ.2 e 0 ≤ σ.2 c 1)))) (upd ρ c (nI (if 0 < g c ∧ 0 < g e ∧ σ.2 e 0 ≤ σ.2 c 1 ∧ g c < g e + 1 then g e + 1 else g c))) (fun x => if x = c then (if 0 < g c ∧ 0 < g e ∧ σ.2 e 0 ≤ σ.2 c 1 ∧ g c < g e + 1 then g e + 1 else g c) else g x) (by omega) (fun x hx => by
      by_cases q : x = c
      · simp [upd, q]
      · simp [upd, q, hg x hx]) (nP_e hw hc he2 hP)
    refine ⟨ρ', g', y, z, g1, g2, ?_⟩
    rw [e189_63]
    simp only [e189_0, e189_1, e189_2, e189_3, e189_4, e189_7, e189_8, e189_9, e189_12, e189_13, e189_16, e189_17, e189_18, e189_19, e189_22, e189_25, e189_26, e189_29, e189_30, e189_31, e189_34, e189_37, e189_38, e189_39, e189_40, e189_41, e189_44, e189_45, e189_46, e189_49, e189_50, e189_52, e189_53, e189_56, e189_57, e189_58, e189_61, e189_62, e189_64, e189_65, e189_68, e189_69, e189_70, e189_73, e189_74, e189_77, e189_78, e189_79, e189_82, e189_83, e189_86, e189_87, e189_88, e189_91, e189_92, e189_93, e189_94, e189_97, e189_98, e189_99, e189_100, e189_103, e189_106, e189_107, e189_110, e189_111, e189_113, e189_114, e189_117, e189_118, e189_120, e189_123, e189_124, e189_127, e189_128, e189_129, e189_130, e189_131, e189_132, e189_135, e189_136, e189_137, e189_140, e189_141, e189_144, e189_145, e189_146, e189_147, e189_148, e189_151, e189_152, e189_155, e189_156, e189_157, e189_158, e189_161, e189_164, e189_167, e189_170, e189_173, e189_176, md_g0, md_g1, md_g2, md_g3, md_g4, md_g5, md_g6, md_g7, md_g8, md_g9, md_g10, md_g11, md_g12, md_g13, md_g14, md_g15, md_g16, md_g17, md_g18, md_p3, md_p5, md_p7, md_p8, md_p9, md_p11, md_p13, md_p15, md_l0, md_l1, md_l2, md_l3, md_l4, md_l5, md_l6, md_l7, md_l8, md_l9, md_l10, md_s0, md_s1, md_s2, md_s3, md_s4, md_s5, md_s6, md_s7, md_s8, md_s9, md_s10, md_is, Option.bind_some, Option.toList_some, Option.toList_none, List.cons_append, List.nil_append, true_or, or_true, and_true, true_and, i10, Bool.false_eq_true, if_true, if_false, reduceIte, setR_1, z0_10, h0, nI_lep (show σ.1 < 2147483648 by omega) (show e < 2147483648 by omega), hlt, zrd_nI (show c < 12 by omega) (show 12 < 2147483648 by omega), zrd_nI (show e < 12 by omega) (show 12 < 2147483648 by omega), hg c hc, hg e he2, e1, e2, m_of0 hR' hb he2, m_of1 hR' hb hc, nI_ltp (show σ.2 c 1 < 2147483648 by omega) (show σ.2 e 0 < 2147483648 by omega), nI_1, nI_lep (show g e + 1 < 2147483648 by omega) (show g c < 2147483648 by omega), zin_T (show c < 12 by omega) (by decide), nI_clamp (show c < 2 ^ 31 by omega), setR_setR]
    by_cases q1 : g c ≤ 0
    · have q1' : ¬ 0 < g c := by omega
      simp only [q1', false_and, if_false, bI_f not_false] at g3
      simp only [q1, if_true]
      exact g3
    · have q1' : 0 < g c := by omega
      by_cases q2 : g e ≤ 0
      · have q2' : ¬ 0 < g e := by omega
        simp only [q2', false_and, and_false, if_false, bI_f not_false] at g3
        simp only [q1, q2, if_true, if_false]
        exact g3
      · have q2' : 0 < g e := by omega
        by_cases q3 : σ.2 e 0 ≤ σ.2 c 1
        · have q3' : ¬ σ.2 c 1 < σ.2 e 0 := by omega
          by_cases q4 : g c < g e + 1
          · have q4' : ¬ g e + 1 ≤ g c := by omega
            simp only [q1', q2', q3, q4, true_and, and_true, if_true, bI_t trivial] at g3
            simp only [q1, q2, q3', q4', if_false]
            exact g3
          · have q4' : g e + 1 ≤ g c := by omega
            simp only [q1', q2', q3, q4, true_and, and_true, and_false, if_true, if_false, bI_t trivial] at g3
            simp only [q1, q2, q3', q4', if_false, if_true]
            exact g3
        · have q3' : σ.2 c 1 < σ.2 e 0 := by omega
          simp only [q3, false_and, and_false, if_false, bI_f not_false] at g3
          simp only [q1, q2, q3', if_true, if_false]
          exact g3
theorem m_lays_c (hR : mdR M σ) (hw : wf σ) {r : Nat} : ∀ (f c : Nat) (x y : Option Value) (ρ : Nat → Int32) (g : Nat → Nat), c + f = σ.1 → (∀ x, x < σ.1 → ρ x = nI (g x)) → nP σ r c 0 g → ∃ (ρ' : Nat → Int32) (g' : Nat → Nat) (y' z' t' : Option Value), (∀ x, x < σ.1 → ρ' x = nI (g' x)) ∧ nP σ (r + 1) 0 0 g' ∧ ev (d + 4) 189 51 [some (.ref i), some (.int (nI r)), some (.int (nI c)), x, y] [] (hmd h i (setR M 10 ρ)) = ev (d + 4) 189 39 [some (.ref i), some (.int (nI (r + 1))), y', z', t'] [] (hmd h i (setR M 10 ρ')) := by
  have hb := hw.bnd
  have hn := hb.1
  have h0 := m_n hR
  intro f
  induction f with
  | zero =>
    intro c x y ρ g hc hg hP
    have hc : c = σ.1 := by omega
    subst hc
    refine ⟨ρ, g, some (.int (nI σ.1)), x, y, hg, nP_r hP, ?_⟩
    rw [e189_51]
    simp only [e189_0, e189_1, e189_2, e189_3, e189_4, e189_7, e189_8, e189_9, e189_12, e189_13, e189_16, e189_17, e189_18, e189_19, e189_22, e189_25, e189_26, e189_29, e189_30, e189_31, e189_34, e189_37, e189_38, e189_40, e189_41, e189_44, e189_45, e189_46, e189_49, e189_50, e189_52, e189_53, e189_56, e189_57, e189_58, e189_61, e189_62, e189_64, e189_65, e189_68, e189_69, e189_70, e189_73, e189_74, e189_77, e189_78, e189_79, e189_82, e189_83, e189_86, e189_87, e189_88, e189_91, e189_92, e189_93, e189_94, e189_97, e189_98, e189_99, e189_100, e189_103, e189_106, e189_107, e189_110, e189_111, e189_113, e189_114, e189_117, e189_118, e189_120, e189_123, e189_124, e189_127, e189_128, e189_129, e189_130, e189_131, e189_132, e189_135, e189_136, e189_137, e189_140, e189_141, e189_144, e189_145, e189_146, e189_147, e189_148, e189_151, e189_152, e189_155, e189_156, e189_157, e189_158, e189_161, e189_164, e189_167, e189_170, e189_173, e189_176, md_g0, md_g1, md_g2, md_g3, md_g4, md_g5, md_g6, md_g7, md_g8, md_g9, md_g10, md_g11, md_g12, md_g13, md_g14, md_g15, md_g16, md_g17, md_g18, md_p3, md_p5, md_p7, md_p8, md_p9, md_p11, md_p13, md_p15, md_l0, md_l1, md_l2, md_l3, md_l4, md_l5, md_l6, md_l7, md_l8, md_l9, md_l10, md_s0, md_s1, md_s2, md_s3, md_s4, md_s5, md_s6, md_s7, md_s8, md_s9, md_s10, md_is, Option.bind_some, Option.toList_some, Option.toList_none, List.cons_append, List.nil_append, true_or, or_true, and_true, true_and, i10, Bool.false_eq_true, if_true, if_false, reduceIte, setR_1, z0_10, h0, Int32.le_refl, nI_1]
  | succ f ih =>
    intro c x y ρ g hc hg hP
    have hc2 : c < σ.1 := by omega
    have hlt : (σ.1 ≤ c) = False := eq_false (by omega)
    obtain ⟨ρ1, g1, y1, z1, a1, a2, a3⟩ := m_lays_e (d := d) (h := h) (i := i) hR hw hc2 σ.1 0 y ρ g (by omega) hg hP
    obtain ⟨ρ2, g2, y2, z2, t2, b1, b2, b3⟩ := ih (c + 1) y1 z1 ρ1 g1 (by omega) a1 a2
    refine ⟨ρ2, g2, y2, z2, t2, b1, b2, ?_⟩
    rw [e189_51]
    simp only [e189_0, e189_1, e189_2, e189_3, e189_4, e189_7, e189_8, e189_9, e189_12, e189_13, e189_16, e189_17, e189_18, e189_19, e189_22, e189_25, e189_26, e189_29, e189_30, e189_31, e189_34, e189_37, e189_38, e189_40, e189_41, e189_44, e189_45, e189_46, e189_49, e189_50, e189_52, e189_53, e189_56, e189_57, e189_58, e189_61, e189_62, e189_64, e189_65, e189_68, e189_69, e189_70, e189_73, e189_74, e189_77, e189_78, e189_79, e189_82, e189_83, e189_86, e189_87, e189_88, e189_91, e189_92, e189_93, e189_94, e189_97, e189_98, e189_99, e189_100, e189_103, e189_106, e189_107, e189_110, e189_111, e189_113, e189_114, e189_117, e189_118, e189_120, e189_123, e189_124, e189_127, e189_128, e189_129, e189_130, e189_131, e189_132, e189_135, e189_136, e189_137, e189_140, e189_141, e189_144, e189_145, e189_146, e189_147, e189_148, e189_151, e189_152, e189_155, e189_156, e189_157, e189_158, e189_161, e189_164, e189_167, e189_170, e189_173, e189_176, md_g0, md_g1, md_g2, md_g3, md_g4, md_g5, md_g6, md_g7, md_g8, md_g9, md_g10, md_g11, md_g12, md_g13, md_g14, md_g15, md_g16, md_g17, md_g18, md_p3, md_p5, md_p7, md_p8, md_p9, md_p11, md_p13, md_p15, md_l0, md_l1, md_l2, md_l3, md_l4, md_l5, md_l6, md_l7, md_l8, md_l9, md_l10, md_s0, md_s1, md_s2, md_s3, md_s4, md_s5, md_s6, md_s7, md_s8, md_s9, md_s10, md_is, Option.bind_some, Option.toList_some, Option.toList_none, List.cons_append, List.nil_append, true_or, or_true, and_true, true_and, i10, Bool.false_eq_true, if_true, if_false, reduceIte, setR_1, z0_10, h0, nI_lep (show σ.1 < 2147483648 by omega) (show c < 2147483648 by omega), hlt]
    exact a3.trans b3
theorem m_lays_r (hR : mdR M σ) (hw : wf σ) : ∀ (f r : Nat) (x y z : Option Value) (ρ : Nat → Int32) (g : Nat → Nat), r + f = σ.1 → (∀ x, x < σ.1 → ρ x = nI (g x)) → nP σ r 0 0 g → ∃ (ρ' : Nat → Int32), (∀ x, x < σ.1 → ρ' x = nI (lnn σ x)) ∧ ev (d + 4) 189 39 [some (.ref i), some (.int (nI r)), x, y, z] [] (hmd h i (setR M 10 ρ)) = some (none, hmd h i (setR M 10 ρ')) := by
  have hb := hw.bnd
  have hn := hb.1
  have h0 := m_n hR
  intro f
  induction f with
  | zero =>
    intro r x y z ρ g hr hg hP
    have hr : r = σ.1 := by omega
    subst hr
    refine ⟨ρ, fun x hx => ?_, ?_⟩
    · have u1 := (hP.1 x hx).2
      have u2 := hP.2.1 x hx
      have u3 := hw.lnn_le hx
      rw [hg x hx]
      congr 1
      omega
    · rw [e189_39]
      simp only [e189_0, e189_1, e189_2, e189_3, e189_4, e189_7, e189_8, e189_9, e189_12, e189_13, e189_16, e189_17, e189_18, e189_19, e189_22, e189_25, e189_26, e189_29, e189_30, e189_31, e189_34, e189_37, e189_38, e189_40, e189_41, e189_44, e189_45, e189_46, e189_49, e189_50, e189_52, e189_53, e189_56, e189_57, e189_58, e189_61, e189_62, e189_64, e189_65, e189_68, e189_69, e189_70, e189_73, e189_74, e189_77, e189_78, e189_79, e189_82, e189_83, e189_86, e189_87, e189_88, e189_91, e189_92, e189_93, e189_94, e189_97, e189_98, e189_99, e189_100, e189_103, e189_106, e189_107, e189_110, e189_111, e189_113, e189_114, e189_117, e189_118, e189_120, e189_123, e189_124, e189_127, e189_128, e189_129, e189_130, e189_131, e189_132, e189_135, e189_136, e189_137, e189_140, e189_141, e189_144, e189_145, e189_146, e189_147, e189_148, e189_151, e189_152, e189_155, e189_156, e189_157, e189_158, e189_161, e189_164, e189_167, e189_170, e189_173, e189_176, md_g0, md_g1, md_g2, md_g3, md_g4, md_g5, md_g6, md_g7, md_g8, md_g9, md_g10, md_g11, md_g12, md_g13, md_g14, md_g15, md_g16, md_g17, md_g18, md_p3, md_p5, md_p7, md_p8, md_p9, md_p11, md_p13, md_p15, md_l0, md_l1, md_l2, md_l3, md_l4, md_l5, md_l6, md_l7, md_l8, md_l9, md_l10, md_s0, md_s1, md_s2, md_s3, md_s4, md_s5, md_s6, md_s7, md_s8, md_s9, md_s10, md_is, Option.bind_some, Option.toList_some, Option.toList_none, List.cons_append, List.nil_append, true_or, or_true, and_true, true_and, i10, Bool.false_eq_true, if_true, if_false, reduceIte, setR_1, z0_10, h0, Int32.le_refl]
  | succ f ih =>
    intro r x y z ρ g hr hg hP
    have hlt : (σ.1 ≤ r) = False := eq_false (by omega)
    obtain ⟨ρ1, g1, y1, z1, t1, a1, a2, a3⟩ := m_lays_c (d := d) (h := h) (i := i) hR hw σ.1 0 y z ρ g (by omega) hg hP
    obtain ⟨ρ2, b1, b2⟩ := ih (r + 1) y1 z1 t1 ρ1 g1 (by omega) a1 a2
    refine ⟨ρ2, b1, ?_⟩
    rw [e189_39]
    simp only [e189_0, e189_1, e189_2, e189_3, e189_4, e189_7, e189_8, e189_9, e189_12, e189_13, e189_16, e189_17, e189_18, e189_19, e189_22, e189_25, e189_26, e189_29, e189_30, e189_31, e189_34, e189_37, e189_38, e189_40, e189_41, e189_44, e189_45, e189_46, e189_49, e189_50, e189_52, e189_53, e189_56, e189_57, e189_58, e189_61, e189_62, e189_64, e189_65, e189_68, e189_69, e189_70, e189_73, e189_74, e189_77, e189_78, e189_79, e189_82, e189_83, e189_86, e189_87, e189_88, e189_91, e189_92, e189_93, e189_94, e189_97, e189_98, e189_99, e189_100, e189_103, e189_106, e189_107, e189_110, e189_111, e189_113, e189_114, e189_117, e189_118, e189_120, e189_123, e189_124, e189_127, e189_128, e189_129, e189_130, e189_131, e189_132, e189_135, e189_136, e189_137, e189_140, e189_141, e189_144, e189_145, e189_146, e189_147, e189_148, e189_151, e189_152, e189_155, e189_156, e189_157, e189_158, e189_161, e189_164, e189_167, e189_170, e189_173, e189_176, md_g0, md_g1, md_g2, md_g3, md_g4, md_g5, md_g6, md_g7, md_g8, md_g9, md_g10, md_g11, md_g12, md_g13, md_g14, md_g15, md_g16, md_g17, md_g18, md_p3, md_p5, md_p7, md_p8, md_p9, md_p11, md_p13, md_p15, md_l0, md_l1, md_l2, md_l3, md_l4, md_l5, md_l6, md_l7, md_l8, md_l9, md_l10, md_s0, md_s1, md_s2, md_s3, md_s4, md_s5, md_s6, md_s7, md_s8, md_s9, md_s10, md_is, Option.bind_some, Option.toList_some, Option.toList_none, List.cons_append, List.nil_append, true_or, or_true, and_true, true_and, i10, Bool.false_eq_true, if_true, if_false, reduceIte, setR_1, z0_10, h0, nI_lep (show σ.1 < 2147483648 by omega) (show r < 2147483648 by omega), hlt]
    exact a3.trans b2
theorem m_lays_0 (hR : mdR M σ) (hw : wf σ) : ∀ (f k : Nat) (ρ : Nat → Int32), k + f = σ.1 → (∀ x, x < k → ρ x = nI (if lse σ x = true then 1 else 0)) → ∃ (ρ' : Nat → Int32), (∀ x, x < σ.1 → ρ' x = nI (if lse σ x = true then 1 else 0)) ∧ ev (d + 4) 189 2 [some (.ref i), some (.int (nI k)), none, none, none] [] (hmd h i (setR M 10 ρ)) = ev (d + 4) 189 39 [some (.ref i), some (.int (nI 0)), none, none, none] [] (hmd h i (setR M 10 ρ')) := by
  have hb := hw.bnd
  have hn := hb.1
  have h0 := m_n hR
  intro f
  induction f with
  | zero =>
    intro k ρ hk hg
    have hk : k = σ.1 := by omega
    subst hk
    refine ⟨ρ, hg, ?_⟩
    rw [e189_2]
    simp only [e189_0, e189_1, e189_3, e189_4, e189_7, e189_8, e189_9, e189_12, e189_13, e189_16, e189_17, e189_18, e189_19, e189_22, e189_25, e189_26, e189_29, e189_30, e189_31, e189_34, e189_37, e189_38, e189_40, e189_41, e189_44, e189_45, e189_46, e189_49, e189_50, e189_52, e189_53, e189_56, e189_57, e189_58, e189_61, e189_62, e189_64, e189_65, e189_68, e189_69, e189_70, e189_73, e189_74, e189_77, e189_78, e189_79, e189_82, e189_83, e189_86, e189_87, e189_88, e189_91, e189_92, e189_93, e189_94, e189_97, e189_98, e189_99, e189_100, e189_103, e189_106, e189_107, e189_110, e189_111, e189_113, e189_114, e189_117, e189_118, e189_120, e189_123, e189_124, e189_127, e189_128, e189_129, e189_130, e189_131, e189_132, e189_135, e189_136, e189_137, e189_140, e189_141, e189_144, e189_145, e189_146, e189_147, e189_148, e189_151, e189_152, e189_155, e189_156, e189_157, e189_158, e189_161, e189_164, e189_167, e189_170, e189_173, e189_176, md_g0, md_g1, md_g2, md_g3, md_g4, md_g5, md_g6, md_g7, md_g8, md_g9, md_g10, md_g11, md_g12, md_g13, md_g14, md_g15, md_g16, md_g17, md_g18, md_p3, md_p5, md_p7, md_p8, md_p9, md_p11, md_p13, md_p15, md_l0, md_l1, md_l2, md_l3, md_l4, md_l5, md_l6, md_l7, md_l8, md_l9, md_l10, md_s0, md_s1, md_s2, md_s3, md_s4, md_s5, md_s6, md_s7, md_s8, md_s9, md_s10, md_is, Option.bind_some, Option.toList_some, Option.toList_none, List.cons_append, List.nil_append, true_or, or_true, and_true, true_and, i10, Bool.false_eq_true, if_true, if_false, reduceIte, setR_1, z0_10, h0, Int32.le_refl]
    rfl
  | succ f ih =>
    intro k ρ hk hg
    have hk2 : k < σ.1 := by omega
    have hlt : (σ.1 ≤ k) = False := eq_false (by omega)
    have hR' := mdR_10 hR ρ
    obtain ⟨ρ', g1, g2⟩ := ih (k + 1) (upd ρ k (nI (if lse σ k = true then 1 else 0))) (by omega) (fun x hx => by
      by_cases q : x = k
      · subst q
        simp [upd]
      · simp [upd, q, hg x (by omega)])
    refine ⟨ρ', g1, ?_⟩
    rw [e189_2]
    simp only [e189_0, e189_1, e189_3, e189_4, e189_7, e189_8, e189_9, e189_12, e189_13, e189_16, e189_17, e189_18, e189_19, e189_22, e189_25, e189_26, e189_29, e189_30, e189_31, e189_34, e189_37, e189_38, e189_40, e189_41, e189_44, e189_45, e189_46, e189_49, e189_50, e189_52, e189_53, e189_56, e189_57, e189_58, e189_61, e189_62, e189_64, e189_65, e189_68, e189_69, e189_70, e189_73, e189_74, e189_77, e189_78, e189_79, e189_82, e189_83, e189_86, e189_87, e189_88, e189_91, e189_92, e189_93, e189_94, e189_97, e189_98, e189_99, e189_100, e189_103, e189_106, e189_107, e189_110, e189_111, e189_113, e189_114, e189_117, e189_118, e189_120, e189_123, e189_124, e189_127, e189_128, e189_129, e189_130, e189_131, e189_132, e189_135, e189_136, e189_137, e189_140, e189_141, e189_144, e189_145, e189_146, e189_147, e189_148, e189_151, e189_152, e189_155, e189_156, e189_157, e189_158, e189_161, e189_164, e189_167, e189_170, e189_173, e189_176, md_g0, md_g1, md_g2, md_g3, md_g4, md_g5, md_g6, md_g7, md_g8, md_g9, md_g10, md_g11, md_g12, md_g13, md_g14, md_g15, md_g16, md_g17, md_g18, md_p3, md_p5, md_p7, md_p8, md_p9, md_p11, md_p13, md_p15, md_l0, md_l1, md_l2, md_l3, md_l4, md_l5, md_l6, md_l7, md_l8, md_l9, md_l10, md_s0, md_s1, md_s2, md_s3, md_s4, md_s5, md_s6, md_s7, md_s8, md_s9, md_s10, md_is, Option.bind_some, Option.toList_some, Option.toList_none, List.cons_append, List.nil_append, true_or, or_true, and_true, true_and, i10, Bool.false_eq_true, if_true, if_false, reduceIte, setR_1, z0_10, h0, nI_lep (show σ.1 < 2147483648 by omega) (show k < 2147483648 by omega), hlt, m_isLoose hR' hb hk2, bI_0, zin_T (show k < 12 by omega) (by decide), nI_clamp (show k < 2 ^ 31 by omega), setR_setR, nI_1]
    by_cases q : lse σ k = true
    · rw [if_pos q] at g2
      rw [if_neg (not_not_intro q)]
      exact g2
    · rw [if_neg q] at g2
      rw [if_pos q]
      exact g2
theorem m_laysNests (hR : mdR M σ) (hw : wf σ) : ∃ (ρ' : Nat → Int32), (∀ x, x < σ.1 → ρ' x = nI (lnn σ x)) ∧ ev (d + 4) 189 0 [some (.ref i), none, none, none, none] [] (hmd h i M) = some (none, hmd h i (setR M 10 ρ')) := by
  obtain ⟨ρ1, a1, a2⟩ := m_lays_0 (d := d) (h := h) (i := i) hR hw σ.1 0 (M.1 10) (by omega) (fun x hx => by omega)
  obtain ⟨ρ2, b1, b2⟩ := m_lays_r (d := d) (h := h) (i := i) hR hw σ.1 0 none none none ρ1 (fun x => if lse σ x = true then 1 else 0) (by omega) a1 ⟨fun x hx => by
    have e := hw.lnn_eq hx
    dsimp only
    by_cases q : lse σ x = true
    · rw [if_pos q] at e ⊢
      exact ⟨fun _ => Nat.le_refl _, by omega⟩
    · rw [if_neg q] at e ⊢
      exact ⟨fun w => absurd w q, by omega⟩, fun x hx => by
    have e := hw.lnn_eq hx
    dsimp only
    by_cases q : lse σ x = true
    · rw [if_pos q]
      omega
    · rw [if_neg q] at e ⊢
      omega, fun x _ hx => by omega, fun x _ hx => by omega⟩
  refine ⟨ρ2, b1, ?_⟩
  rw [setR_self] at a2
  simp only [e189_0, e189_1, e189_3, e189_4, e189_7, e189_8, e189_9, e189_12, e189_13, e189_16, e189_17, e189_18, e189_19, e189_22, e189_25, e189_26, e189_29, e189_30, e189_31, e189_34, e189_37, e189_38, e189_40, e189_41, e189_44, e189_45, e189_46, e189_49, e189_50, e189_52, e189_53, e189_56, e189_57, e189_58, e189_61, e189_62, e189_64, e189_65, e189_68, e189_69, e189_70, e189_73, e189_74, e189_77, e189_78, e189_79, e189_82, e189_83, e189_86, e189_87, e189_88, e189_91, e189_92, e189_93, e189_94, e189_97, e189_98, e189_99, e189_100, e189_103, e189_106, e189_107, e189_110, e189_111, e189_113, e189_114, e189_117, e189_118, e189_120, e189_123, e189_124, e189_127, e189_128, e189_129, e189_130, e189_131, e189_132, e189_135, e189_136, e189_137, e189_140, e189_141, e189_144, e189_145, e189_146, e189_147, e189_148, e189_151, e189_152, e189_155, e189_156, e189_157, e189_158, e189_161, e189_164, e189_167, e189_170, e189_173, e189_176, Option.bind_some, Option.toList_some, Option.toList_none, List.cons_append, List.nil_append, true_or, or_true, and_true, true_and, i10, Bool.false_eq_true, if_true, if_false, reduceIte]
  exact a2.trans b2
theorem wf.mxf_lnn {σ : mS} (hw : wf σ) : mxf (lnn σ) σ.1 = lgn σ := mxf_cong (fun k hk => by
  have := (hw.2 k hk).1.2
  rw [if_pos this])
theorem m_longestNest (hR : mdR M σ) (hw : wf σ) : ∃ (ρ' : Nat → Int32), (∀ x, x < σ.1 → ρ' x = nI (lnn σ x)) ∧ ev (d + 5) 190 0 [some (.ref i), none, none] [] (hmd h i M) = some (some (.int (nI (lgn σ))), hmd h i (setR M 10 ρ')) := by
  have hb := hw.bnd
  have hn := hb.1
  have h0 := m_n hR
  obtain ⟨ρ, g1, g2⟩ := m_laysNests (d := d) (h := h) (i := i) hR hw
  refine ⟨ρ, g1, ?_⟩
  have main := z_forI (fun (k s : Nat) => ev (d + 5) 190 8 [some (.ref i), some (.int (nI s)), some (.int (nI k))] [] (hmd h i (setR M 10 ρ))) (fun k s => if s < lnn σ k then lnn σ k else s) (fun _ s => s ≤ 12) (n := σ.1) (s := 0) (by omega) (fun k s hk hs => by
    have hlt : (σ.1 ≤ k) = False := eq_false (by omega)
    have b1 := hw.lnn_le hk
    refine ⟨?_, ?_⟩
    · show ev (d + 5) 190 8 _ _ _ = ev (d + 5) 190 8 _ _ _
      rw [e190_8]
      simp only [e190_0, e190_1, e190_4, e190_5, e190_6, e190_7, e190_9, e190_10, e190_13, e190_14, e190_15, e190_18, e190_19, e190_22, e190_23, e190_24, e190_25, e190_28, e190_29, e190_32, e190_33, e190_34, e190_37, e190_38, e190_39, e190_42, e190_45, e190_46, md_g0, md_g1, md_g2, md_g3, md_g4, md_g5, md_g6, md_g7, md_g8, md_g9, md_g10, md_g11, md_g12, md_g13, md_g14, md_g15, md_g16, md_g17, md_g18, md_p3, md_p5, md_p7, md_p8, md_p9, md_p11, md_p13, md_p15, md_l0, md_l1, md_l2, md_l3, md_l4, md_l5, md_l6, md_l7, md_l8, md_l9, md_l10, md_s0, md_s1, md_s2, md_s3, md_s4, md_s5, md_s6, md_s7, md_s8, md_s9, md_s10, md_is, Option.bind_some, Option.toList_some, Option.toList_none, List.cons_append, List.nil_append, true_or, or_true, and_true, true_and, i10, Bool.false_eq_true, if_true, if_false, reduceIte, setR_1, z0_10, h0, nI_lep (show σ.1 < 2147483648 by omega) (show k < 2147483648 by omega), hlt, nI_1, zrd_nI (show k < 12 by omega) (show 12 < 2147483648 by omega), g1 k hk, nI_lep (show lnn σ k < 2147483648 by omega) (show s < 2147483648 by omega)]
      by_cases q : lnn σ k ≤ s
      · have q' : ¬ s < lnn σ k := by omega
        simp only [q, q', if_true, if_false]
      · have q' : s < lnn σ k := by omega
        simp only [q, q', if_true, if_false]
    · split <;> omega)
  simp only [e190_0, e190_1, e190_4, e190_5, e190_6, e190_7, e190_9, e190_10, e190_13, e190_14, e190_15, e190_18, e190_19, e190_22, e190_23, e190_24, e190_25, e190_28, e190_29, e190_32, e190_33, e190_34, e190_37, e190_38, e190_39, e190_42, e190_45, e190_46, md_g0, md_g1, md_g2, md_g3, md_g4, md_g5, md_g6, md_g7, md_g8, md_g9, md_g10, md_g11, md_g12, md_g13, md_g14, md_g15, md_g16, md_g17, md_g18, md_p3, md_p5, md_p7, md_p8, md_p9, md_p11, md_p13, md_p15, md_l0, md_l1, md_l2, md_l3, md_l4, md_l5, md_l6, md_l7, md_l8, md_l9, md_l10, md_s0, md_s1, md_s2, md_s3, md_s4, md_s5, md_s6, md_s7, md_s8, md_s9, md_s10, md_is, Option.bind_some, Option.toList_some, Option.toList_none, List.cons_append, List.nil_append, true_or, or_true, and_true, true_and, i10, Bool.false_eq_true, if_true, if_false, reduceIte, g2]
  refine main.1.trans ?_
  rw [show zfold (fun k s => if s < lnn σ k then lnn σ k else s) σ.1 0 = lgn σ from hw.mxf_lnn]
  show ev (d + 5) 190 8 _ _ _ = _
  rw [e190_8]
  simp only [e190_0, e190_1, e190_4, e190_5, e190_6, e190_7, e190_9, e190_10, e190_13, e190_14, e190_15, e190_18, e190_19, e190_22, e190_23, e190_24, e190_25, e190_28, e190_29, e190_32, e190_33, e190_34, e190_37, e190_38, e190_39, e190_42, e190_45, e190_46, md_g0, md_g1, md_g2, md_g3, md_g4, md_g5, md_g6, md_g7, md_g8, md_g9, md_g10, md_g11, md_g12, md_g13, md_g14, md_g15, md_g16, md_g17, md_g18, md_p3, md_p5, md_p7, md_p8, md_p9, md_p11, md_p13, md_p15, md_l0, md_l1, md_l2, md_l3, md_l4, md_l5, md_l6, md_l7, md_l8, md_l9, md_l10, md_s0, md_s1, md_s2, md_s3, md_s4, md_s5, md_s6, md_s7, md_s8, md_s9, md_s10, md_is, Option.bind_some, Option.toList_some, Option.toList_none, List.cons_append, List.nil_append, true_or, or_true, and_true, true_and, i10, Bool.false_eq_true, if_true, if_false, reduceIte, setR_1, z0_10, h0, Int32.le_refl]
theorem hI_pred (m : Nat) : nI m + (-1) = hI m := by
  unfold hI
  rw [Int32.sub_eq_add_neg]
theorem m_nest_in (hR : mdR M σ) (hw : wf σ) {ρ : Nat → Int32} (hg : ∀ x, x < σ.1 → ρ x = nI (lnn σ x)) {p t r : Nat} (ht : t < lgn σ) (hr : r ≤ 60) {B : Int32} : ∀ (m : Nat) (X : Int32), m ≤ σ.1 → ev (d + 6) 191 49 [some (.ref i), some (.int (nI p)), some (.int (nI (lgn σ))), some (.int B), some (.int (nI r)), some (.int (nI t)), some (.int X), some (.int (hI m))] [] (hmd h i (setR M 10 ρ)) = ev (d + 6) 191 95 [some (.ref i), some (.int (nI p)), some (.int (nI (lgn σ))), some (.int B), some (.int (nI r)), some (.int (nI t)), some (.int (if ff (fun c => decide (lnn σ c = lgn σ - t) && decide (σ.2 c 0 ≤ r)) m = 0 then X else cB (ff (fun c => decide (lnn σ c = lgn σ - t) && decide (σ.2 c 0 ≤ r)) m))), some (.int (hI 0))] [] (hmd h i (setR M 10 ρ)) := by
  have hb := hw.bnd
  have hn := hb.1
  have h0 := m_n hR
  have hL : lgn σ ≤ σ.1 := hw.mxr_le
  have hR' := mdR_10 hR ρ
  have et : nI (lgn σ) - nI t = nI (lgn σ - t) := by
    rw [iI_nat, iI_nat, iI_nat, iI_sub]
    congr 1
    omega
  intro m
  induction m with
  | zero =>
    intro X hm
    rw [e191_49]
    simp only [e191_0, e191_1, e191_4, e191_5, e191_6, e191_7, e191_10, e191_11, e191_12, e191_13, e191_16, e191_18, e191_19, e191_21, e191_22, e191_24, e191_26, e191_27, e191_29, e191_31, e191_32, e191_35, e191_37, e191_39, e191_40, e191_43, e191_44, e191_45, e191_46, e191_47, e191_51, e191_54, e191_55, e191_58, e191_60, e191_61, e191_62, e191_64, e191_65, e191_68, e191_69, e191_71, e191_72, e191_75, e191_77, e191_80, e191_82, e191_85, e191_87, e191_89, e191_92, e191_97, e191_98, e191_99, e191_100, e191_101, e191_104, e191_106, e191_109, e191_112, e191_113, md_g0, md_g1, md_g2, md_g3, md_g4, md_g5, md_g6, md_g7, md_g8, md_g9, md_g10, md_g11, md_g12, md_g13, md_g14, md_g15, md_g16, md_g17, md_g18, md_p3, md_p5, md_p7, md_p8, md_p9, md_p11, md_p13, md_p15, md_l0, md_l1, md_l2, md_l3, md_l4, md_l5, md_l6, md_l7, md_l8, md_l9, md_l10, md_s0, md_s1, md_s2, md_s3, md_s4, md_s5, md_s6, md_s7, md_s8, md_s9, md_s10, md_is, Option.bind_some, Option.toList_some, Option.toList_none, List.cons_append, List.nil_append, true_or, or_true, and_true, true_and, i10, Bool.false_eq_true, if_true, if_false, reduceIte, hI_0, show ((-1 : Int32) < 0) = True by decide, ff]
  | succ m ih =>
    intro X hm
    have hm2 : m < σ.1 := by omega
    have b1 := hw.lnn_le hm2
    have b0 := (hb.2 m hm2).1
    rw [e191_49, hI_s]
    simp only [e191_0, e191_1, e191_4, e191_5, e191_6, e191_7, e191_10, e191_11, e191_12, e191_13, e191_16, e191_18, e191_19, e191_21, e191_22, e191_24, e191_26, e191_27, e191_29, e191_31, e191_32, e191_35, e191_37, e191_39, e191_40, e191_43, e191_44, e191_45, e191_46, e191_47, e191_51, e191_54, e191_55, e191_58, e191_60, e191_61, e191_62, e191_64, e191_65, e191_68, e191_69, e191_71, e191_72, e191_75, e191_77, e191_80, e191_82, e191_85, e191_87, e191_89, e191_92, e191_97, e191_98, e191_99, e191_100, e191_101, e191_104, e191_106, e191_109, e191_112, e191_113, md_g0, md_g1, md_g2, md_g3, md_g4, md_g5, md_g6, md_g7, md_g8, md_g9, md_g10, md_g11, md_g12, md_g13, md_g14, md_g15, md_g16, md_g17, md_g18, md_p3, md_p5, md_p7, md_p8, md_p9, md_p11, md_p13, md_p15, md_l0, md_l1, md_l2, md_l3, md_l4, md_l5, md_l6, md_l7, md_l8, md_l9, md_l10, md_s0, md_s1, md_s2, md_s3, md_s4, md_s5, md_s6, md_s7, md_s8, md_s9, md_s10, md_is, Option.bind_some, Option.toList_some, Option.toList_none, List.cons_append, List.nil_append, true_or, or_true, and_true, true_and, i10, Bool.false_eq_true, if_true, if_false, reduceIte, setR_1, z0_10, show (nI m < 0) = False from eq_false (nI_pos (by omega)), zrd_nI (show m < 12 by omega) (show 12 < 2147483648 by omega), hg m hm2, et, nI_eqp (show lnn σ m < 2147483648 by omega) (show lgn σ - t < 2147483648 by omega), m_of0 hR' hb hm2, nI_ltp (show r < 2147483648 by omega) (show σ.2 m 0 < 2147483648 by omega), hI_pred]
    rw [ff]
    by_cases q1 : lnn σ m = lgn σ - t
    · by_cases q2 : σ.2 m 0 ≤ r
      · have q2' : ¬ r < σ.2 m 0 := by omega
        rw [if_pos q1, if_neg q2', ih _ (by omega)]
        by_cases q3 : ff (fun c => decide (lnn σ c = lgn σ - t) && decide (σ.2 c 0 ≤ r)) m = 0
        · simp [q3, q1, q2, cB]
        · simp [q3]
      · have q2' : r < σ.2 m 0 := by omega
        rw [if_pos q1, if_pos q2', ih _ (by omega)]
        by_cases q3 : ff (fun c => decide (lnn σ c = lgn σ - t) && decide (σ.2 c 0 ≤ r)) m = 0
        · simp [q3, q1, q2]
        · simp [q3]
    · rw [if_neg q1, ih _ (by omega)]
      by_cases q3 : ff (fun c => decide (lnn σ c = lgn σ - t) && decide (σ.2 c 0 ≤ r)) m = 0
      · simp [q3, q1]
      · simp [q3]
theorem m_nest_out (hR : mdR M σ) (hw : wf σ) {ρ : Nat → Int32} (hg : ∀ x, x < σ.1 → ρ x = nI (lnn σ x)) {p : Nat} (hp : p < lgn σ) : ∀ (f t : Nat) (B : Int32) (x y : Option Value), t + f = p + 1 → (f = 0 → B = nI (nxt σ (nrm σ p) - 1)) → ev (d + 6) 191 29 [some (.ref i), some (.int (nI p)), some (.int (nI (lgn σ))), some (.int B), some (.int (nI (nrm σ t))), some (.int (nI t)), x, y] [] (hmd h i (setR M 10 ρ)) = some (some (.int (nI (nxt σ (nrm σ p) - 1))), hmd h i (setR M 10 ρ)) := by
  have hb := hw.bnd
  have hn := hb.1
  have h0 := m_n hR
  have hL : lgn σ ≤ σ.1 := hw.mxr_le
  have hR' := mdR_10 hR ρ
  have en : nI σ.1 - 1 = hI σ.1 := rfl
  have hnr : ∀ t, t ≤ p → nrm σ t ≤ 60 := by
    intro t
    cases t with
    | zero => intro _; exact Nat.le_refl _
    | succ t =>
      intro ht
      have hm := hw.nrm_mx t (by omega)
      obtain ⟨c, c1, c2, -, -, -⟩ := hw.nxt_ex (r := nrm σ t) (by omega)
      rw [nrm, c2]
      exact (hb.2 c c1).2.1
  intro f
  induction f with
  | zero =>
    intro t B x y ht hB
    have e1 : (nI p < nI t) = True := (nI_ltp (by omega) (by omega)).trans (eq_true (by omega))
    rw [e191_29]
    simp only [e191_0, e191_1, e191_4, e191_5, e191_6, e191_7, e191_10, e191_11, e191_12, e191_13, e191_16, e191_18, e191_19, e191_21, e191_22, e191_24, e191_26, e191_27, e191_31, e191_32, e191_35, e191_37, e191_39, e191_40, e191_43, e191_44, e191_45, e191_46, e191_47, e191_51, e191_54, e191_55, e191_58, e191_60, e191_61, e191_62, e191_64, e191_65, e191_68, e191_69, e191_71, e191_72, e191_75, e191_77, e191_80, e191_82, e191_85, e191_87, e191_89, e191_92, e191_95, e191_97, e191_98, e191_99, e191_100, e191_101, e191_104, e191_106, e191_109, e191_112, e191_113, md_g0, md_g1, md_g2, md_g3, md_g4, md_g5, md_g6, md_g7, md_g8, md_g9, md_g10, md_g11, md_g12, md_g13, md_g14, md_g15, md_g16, md_g17, md_g18, md_p3, md_p5, md_p7, md_p8, md_p9, md_p11, md_p13, md_p15, md_l0, md_l1, md_l2, md_l3, md_l4, md_l5, md_l6, md_l7, md_l8, md_l9, md_l10, md_s0, md_s1, md_s2, md_s3, md_s4, md_s5, md_s6, md_s7, md_s8, md_s9, md_s10, md_is, Option.bind_some, Option.toList_some, Option.toList_none, List.cons_append, List.nil_append, true_or, or_true, and_true, true_and, i10, Bool.false_eq_true, if_true, if_false, reduceIte, e1, hB rfl]
  | succ f ih =>
    intro t B x y ht hB
    have e1 : (nI p < nI t) = False := (nI_ltp (by omega) (by omega)).trans (eq_false (by omega))
    have hm := hw.nrm_mx t (by omega)
    obtain ⟨c, c1, c2, c3, c4, c5⟩ := hw.nxt_ex (r := nrm σ t) (by omega)
    have hff : ff (fun c => decide (lnn σ c = lgn σ - t) && decide (σ.2 c 0 ≤ nrm σ t)) σ.1 = c + 1 := by
      rw [← c2]
      unfold nxt
      congr 1
      funext e
      rw [hm]
      have : 0 < lgn σ - t := by omega
      simp [this]
    have hin := m_nest_in (d := d) (h := h) (i := i) hR hw hg (p := p) (t := t) (r := nrm σ t) (B := B) (by omega) (hnr t (by omega)) σ.1 (-4) (Nat.le_refl _)
    rw [hff, if_neg (by omega)] at hin
    have hin : ev (d + 6) 191 49 [some (.ref i), some (.int (nI p)), some (.int (nI (lgn σ))), some (.int B), some (.int (nI (nrm σ t))), some (.int (nI t)), some (.int (-4)), some (.int (hI σ.1))] [] (hmd h i (setR M 10 ρ)) = ev (d + 6) 191 95 [some (.ref i), some (.int (nI p)), some (.int (nI (lgn σ))), some (.int B), some (.int (nI (nrm σ t))), some (.int (nI t)), some (.int (nI c)), some (.int (hI 0))] [] (hmd h i (setR M 10 ρ)) := hin
    have hr : nrm σ (t + 1) = σ.2 c 1 := by rw [nrm, c2]; rfl
    have ih2 := ih (t + 1) (nI c) (some (.int (nI c))) (some (.int (hI 0))) (by omega) (fun hf => by
      have : t = p := by omega
      subst this
      rw [c2]
      rfl)
    rw [hr] at ih2
    rw [e191_29]
    simp only [e191_0, e191_1, e191_4, e191_5, e191_6, e191_7, e191_10, e191_11, e191_12, e191_13, e191_16, e191_18, e191_19, e191_21, e191_22, e191_24, e191_26, e191_27, e191_31, e191_32, e191_35, e191_37, e191_39, e191_40, e191_43, e191_44, e191_45, e191_46, e191_47, e191_51, e191_54, e191_55, e191_58, e191_60, e191_61, e191_62, e191_64, e191_65, e191_68, e191_69, e191_71, e191_72, e191_75, e191_77, e191_80, e191_82, e191_85, e191_87, e191_89, e191_92, e191_95, e191_97, e191_98, e191_99, e191_100, e191_101, e191_104, e191_106, e191_109, e191_112, e191_113, md_g0, md_g1, md_g2, md_g3, md_g4, md_g5, md_g6, md_g7, md_g8, md_g9, md_g10, md_g11, md_g12, md_g13, md_g14, md_g15, md_g16, md_g17, md_g18, md_p3, md_p5, md_p7, md_p8, md_p9, md_p11, md_p13, md_p15, md_l0, md_l1, md_l2, md_l3, md_l4, md_l5, md_l6, md_l7, md_l8, md_l9, md_l10, md_s0, md_s1, md_s2, md_s3, md_s4, md_s5, md_s6, md_s7, md_s8, md_s9, md_s10, md_is, Option.bind_some, Option.toList_some, Option.toList_none, List.cons_append, List.nil_append, true_or, or_true, and_true, true_and, i10, Bool.false_eq_true, if_true, if_false, reduceIte, e1, setR_1, z0_10, h0, en, hin, m_of1 hR' hb c1, nI_1]
    exact ih2
theorem m_nest (hR : mdR M σ) (hw : wf σ) {x : Int32} : ∃ (ρ' : Nat → Int32), ev (d + 6) 191 0 [some (.ref i), some (.int x), none, none, none, none, none, none] [] (hmd h i M) = some (some (.int (if x < 0 then -1 else nsv σ x)), hmd h i (setR M 10 ρ')) := by
  have hb := hw.bnd
  have hn := hb.1
  have h0 := m_n hR
  have hL : lgn σ ≤ σ.1 := hw.mxr_le
  obtain ⟨ρ, g1, g2⟩ := m_longestNest (d := d) (h := h) (i := i) hR hw
  rcases zin_cases (c := x) (n := lgn σ) (by omega) with ⟨h1, h2⟩ | ⟨h1, h2, h3⟩ | ⟨k, hk, rfl⟩
  · refine ⟨M.1 10, ?_⟩
    rw [setR_self, if_pos h1]
    have h1' : (0 ≤ x) = False := eq_false (Int32.not_le.mpr h1)
    simp only [e191_0, e191_1, e191_4, e191_5, e191_6, e191_7, e191_10, e191_11, e191_12, e191_13, e191_16, e191_18, e191_19, e191_21, e191_22, e191_24, e191_26, e191_27, e191_31, e191_32, e191_35, e191_37, e191_39, e191_40, e191_43, e191_44, e191_45, e191_46, e191_47, e191_49, e191_51, e191_54, e191_55, e191_58, e191_60, e191_61, e191_62, e191_64, e191_65, e191_68, e191_69, e191_71, e191_72, e191_75, e191_77, e191_80, e191_82, e191_85, e191_87, e191_89, e191_92, e191_95, e191_97, e191_98, e191_99, e191_100, e191_101, e191_104, e191_106, e191_109, e191_112, e191_113, md_g0, md_g1, md_g2, md_g3, md_g4, md_g5, md_g6, md_g7, md_g8, md_g9, md_g10, md_g11, md_g12, md_g13, md_g14, md_g15, md_g16, md_g17, md_g18, md_p3, md_p5, md_p7, md_p8, md_p9, md_p11, md_p13, md_p15, md_l0, md_l1, md_l2, md_l3, md_l4, md_l5, md_l6, md_l7, md_l8, md_l9, md_l10, md_s0, md_s1, md_s2, md_s3, md_s4, md_s5, md_s6, md_s7, md_s8, md_s9, md_s10, md_is, Option.bind_some, Option.toList_some, Option.toList_none, List.cons_append, List.nil_append, true_or, or_true, and_true, true_and, i10, Bool.false_eq_true, if_true, if_false, reduceIte, h1', eq_true h1]
  · refine ⟨ρ, ?_⟩
    rw [if_neg h1]
    have h1' : (0 ≤ x) = True := eq_true (Int32.not_lt.mp h1)
    have h4 : (x < nI (lgn σ)) = False := eq_false (Int32.not_lt.mpr h2)
    unfold nsv
    simp only [e191_0, e191_1, e191_4, e191_5, e191_6, e191_7, e191_10, e191_11, e191_12, e191_13, e191_16, e191_18, e191_19, e191_21, e191_22, e191_24, e191_26, e191_27, e191_31, e191_32, e191_35, e191_37, e191_39, e191_40, e191_43, e191_44, e191_45, e191_46, e191_47, e191_49, e191_51, e191_54, e191_55, e191_58, e191_60, e191_61, e191_62, e191_64, e191_65, e191_68, e191_69, e191_71, e191_72, e191_75, e191_77, e191_80, e191_82, e191_85, e191_87, e191_89, e191_92, e191_95, e191_97, e191_98, e191_99, e191_100, e191_101, e191_104, e191_106, e191_109, e191_112, e191_113, md_g0, md_g1, md_g2, md_g3, md_g4, md_g5, md_g6, md_g7, md_g8, md_g9, md_g10, md_g11, md_g12, md_g13, md_g14, md_g15, md_g16, md_g17, md_g18, md_p3, md_p5, md_p7, md_p8, md_p9, md_p11, md_p13, md_p15, md_l0, md_l1, md_l2, md_l3, md_l4, md_l5, md_l6, md_l7, md_l8, md_l9, md_l10, md_s0, md_s1, md_s2, md_s3, md_s4, md_s5, md_s6, md_s7, md_s8, md_s9, md_s10, md_is, Option.bind_some, Option.toList_some, Option.toList_none, List.cons_append, List.nil_append, true_or, or_true, and_true, true_and, i10, Bool.false_eq_true, if_true, if_false, reduceIte, h1', eq_false h1, g2, h4, eq_true h2, h3]
  · refine ⟨ρ, ?_⟩
    have h1 : (nI k < 0) = False := eq_false (nI_pos (by omega))
    have h1' : (0 ≤ nI k) = True := eq_true (Int32.not_lt.mp (nI_pos (by omega)))
    have h4 : (nI k < nI (lgn σ)) = True := (nI_ltp (by omega) (by omega)).trans (eq_true hk)
    have h5 : (nI (lgn σ) ≤ nI k) = False := (nI_lep (by omega) (by omega)).trans (eq_false (by omega))
    unfold nsv
    simp only [e191_0, e191_1, e191_4, e191_5, e191_6, e191_7, e191_10, e191_11, e191_12, e191_13, e191_16, e191_18, e191_19, e191_21, e191_22, e191_24, e191_26, e191_27, e191_31, e191_32, e191_35, e191_37, e191_39, e191_40, e191_43, e191_44, e191_45, e191_46, e191_47, e191_49, e191_51, e191_54, e191_55, e191_58, e191_60, e191_61, e191_62, e191_64, e191_65, e191_68, e191_69, e191_71, e191_72, e191_75, e191_77, e191_80, e191_82, e191_85, e191_87, e191_89, e191_92, e191_95, e191_97, e191_98, e191_99, e191_100, e191_101, e191_104, e191_106, e191_109, e191_112, e191_113, md_g0, md_g1, md_g2, md_g3, md_g4, md_g5, md_g6, md_g7, md_g8, md_g9, md_g10, md_g11, md_g12, md_g13, md_g14, md_g15, md_g16, md_g17, md_g18, md_p3, md_p5, md_p7, md_p8, md_p9, md_p11, md_p13, md_p15, md_l0, md_l1, md_l2, md_l3, md_l4, md_l5, md_l6, md_l7, md_l8, md_l9, md_l10, md_s0, md_s1, md_s2, md_s3, md_s4, md_s5, md_s6, md_s7, md_s8, md_s9, md_s10, md_is, Option.bind_some, Option.toList_some, Option.toList_none, List.cons_append, List.nil_append, true_or, or_true, and_true, true_and, i10, Bool.false_eq_true, if_true, if_false, reduceIte, h1, h1', g2, h4, h5, zin_T hk (show lgn σ < 2 ^ 31 by omega), nI_clamp (show k < 2 ^ 31 by omega)]
    exact m_nest_out hR hw g1 hk (k + 1) 0 (-4) none none (by omega) (fun h => by omega)
end NEST2
