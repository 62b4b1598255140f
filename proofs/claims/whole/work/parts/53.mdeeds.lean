/-! THE DEEDS OF THE REFERENCE -/
theorem zin_iff {x : Int32} {n : Nat} (hn : n ≤ 12) : (0 ≤ x ∧ x ≤ nI n - 1) ↔ zin x n = true := by
  have e1 : nI n - 1 = iI ((n : Int) - 1) := by rw [iI_nat, show (1 : Int32) = iI 1 from rfl, iI_sub]
  rcases zin_cases (c := x) (n := n) (by omega) with ⟨h1, h2⟩ | ⟨h1, h2, h3⟩ | ⟨k, hk, rfl⟩
  · exact ⟨fun z => absurd z.1 (Int32.not_le.mpr h1), fun z => by rw [h2] at z; cases z⟩
  · refine ⟨fun z => ?_, fun z => by rw [h3] at z; cases z⟩
    have a1 := Int32.le_iff_toInt_le.mp z.2
    have a2 := Int32.le_iff_toInt_le.mp h2
    rw [e1, iI_toInt (by omega) (by omega)] at a1
    rw [nI_toInt (by omega)] at a2
    omega
  · refine ⟨fun _ => by rw [zin_nI (by omega)]; exact decide_eq_true hk, fun _ => ⟨nI_pos' (by omega), ?_⟩⟩
    rw [e1, iI_nat, iI_le (by omega) (by omega)]
    omega
/-- a number between two bounds -/
theorem rng {x : Int32} {a b : Nat} (h1 : nI a ≤ x) (h2 : x ≤ nI b) (ha : a ≤ b) (hb : b < 2147483647) : ∃ k, a ≤ k ∧ k ≤ b ∧ x = nI k := by
  rcases zin_cases (c := x) (n := b + 1) (by omega) with ⟨q, -⟩ | ⟨-, q, -⟩ | ⟨k, hk, rfl⟩
  · have := Int32.le_iff_toInt_le.mp h1
    have e := Int32.lt_iff_toInt_lt.mp q
    have e2 : Int32.toInt 0 = 0 := by decide
    rw [nI_toInt (by omega)] at this
    omega
  · have := Int32.le_iff_toInt_le.mp h2
    have e := Int32.le_iff_toInt_le.mp q
    rw [nI_toInt (by omega)] at this e
    omega
  · exact ⟨k, (nI_leI (by omega) (by omega)).mp h1, by omega, rfl⟩
/-- the reference's state -/
def mSt (M : oS) (σ : mS) (r : Int32) (e : Nat → mS × Int32) (len : Nat) : Prop := mrw (M.1 0) 0 σ r ∧ mhi M e len
/-- snapshot and pad stay -/
def mfK (M M' : oS) : Prop := M'.1 3 = M.1 3 ∧ M'.1 4 = M.1 4 ∧ M'.2 1 = M.2 1 ∧ M'.2 2 = M.2 2
theorem mfK_r {M : oS} : mfK M M := ⟨rfl, rfl, rfl, rfl⟩
theorem mfK_t {M M' M'' : oS} (h : mfK M M') (h' : mfK M' M'') : mfK M M'' := ⟨h'.1.trans h.1, h'.2.1.trans h.2.1, h'.2.2.1.trans h.2.2.1, h'.2.2.2.trans h.2.2.2⟩
theorem mfK_0 {M : oS} {f : Nat → Int32} : mfK M (setR M 0 f) := ⟨rfl, rfl, rfl, rfl⟩
theorem mrw_r {f : Nat → Int32} {σ : mS} {r : Int32} (h : mrw f 0 σ r) : mrw (upd f 1 (f 1 + 1)) 0 σ (r + 1) := by
  obtain ⟨h1, h2, h3⟩ := h
  have h2 : f 1 = r := h2
  refine ⟨by simp [upd, h1], by simp [upd, h2], fun c hc j hj => ?_⟩
  have : ¬ 0 + (2 + 9 * c + j) = 1 := by omega
  simp only [upd, this, if_false]
  exact h3 c hc j hj
theorem put_wf {σ : mS} {c u : Nat} (hw : wf σ) (hc : c < σ.1) (hu : u < σ.1) (h0 : rpt σ c u = 0) : wf (laid σ c u) := by
  unfold rpt at h0
  by_cases q1 : tpb σ c = false
  · rw [if_pos q1] at h0
    cases h0
  · rw [if_neg q1] at h0
    by_cases q2 : c = u ∨ c ∈ chn σ u
    · rw [if_pos q2] at h0
      cases h0
    · rw [if_neg q2] at h0
      by_cases q3 : σ.2 c 7 ≠ u + 1 ∧ lft σ u < (σ.2 c 0 : Int)
      · rw [if_pos q3] at h0
        cases h0
      · refine laid_wf (gnd_wf hw hc (by simpa using q1)) hc hu (fun z => q2 (Or.inl z)) ?_
        have h9 := (hw.2 u hu).2.2.2.2.2.2.2.2.1
        have ho := pis_o (k := u) hc
        by_cases z : σ.2 c 7 = u + 1
        · rw [if_pos z] at ho
          omega
        · rw [if_neg z] at ho
          have : ¬ lft σ u < (σ.2 c 0 : Int) := fun y => q3 ⟨z, y⟩
          unfold lft at this
          omega
theorem laid_e {σ : mS} {c k : Nat} : sa (sa (sa σ c 7 0) c 8 (pil (sa σ c 7 0) k)) c 7 (k + 1) = laid σ c k := by
  have : pil (gnd σ c) k = pil (sa σ c 7 0) k := ct_cong (fun a _ => by
    show decide ((sa (sa σ c 7 0) c 8 0).2 a 7 = k + 1) = _
    rw [sa_2, if_neg (by omega)])
  unfold laid
  rw [this]
  unfold gnd
  rw [sa_sa]
theorem rgd_0 {σ : mS} {c : Nat} (h0 : rgd σ c = 0) : tpb σ c = true := by
  unfold rgd at h0
  cases q : tpb σ c with
  | true => rfl
  | false =>
    rw [if_pos q] at h0
    cases h0
theorem rbk_0 {σ : mS} {c : Nat} (h0 : rbk σ c = 0) : tpb σ c = true ∧ pil σ c = 0 := by
  unfold rbk at h0
  cases q : tpb σ c with
  | true =>
    rw [if_neg (by rw [q]; decide)] at h0
    by_cases z : 0 < pil σ c
    · rw [if_pos z] at h0
      cases h0
    · exact ⟨rfl, by omega⟩
  | false =>
    rw [if_pos q] at h0
    cases h0
theorem rpt_5 {σ : mS} {c u : Nat} : rpt σ c u ≤ 5 := by
  unfold rpt
  split
  · omega
  · split
    · omega
    · split <;> omega
theorem rgd_5 {σ : mS} {c : Nat} : rgd σ c ≤ 5 := by
  unfold rgd
  split
  · omega
  · split <;> omega
theorem rbk_5 {σ : mS} {c : Nat} : rbk σ c ≤ 5 := by
  unfold rbk
  split
  · omega
  · split <;> omega
theorem tnd_15 {g : Nat} : tnd g ≤ 15 := by
  unfold tnd
  omega
/-- a crate as it is made -/
def mkA (s t g l : Nat) : Nat → Nat := fun j => if j = 0 then s else if j = 1 then t else if j = 2 then g else if j = 3 then l % 27 else if j = 4 then l / 27 % 27 else if j = 5 then l / 27 / 27 % 27 else if j = 6 then l / 27 / 27 / 27 % 27 else 0
theorem mkA_lbl {s t g l : Nat} (hl : l ≤ 531440) : lbl (mkA s t g l) = l := by
  show l % 27 + 27 * (l / 27 % 27 + 27 * (l / 27 / 27 % 27 + 27 * (l / 27 / 27 / 27 % 27))) = l
  omega
/-- what may be made -/
def okm (x0 x1 x2 x3 : Int32) : Prop := ((1 ≤ x0 ∧ x0 ≤ 60) ∧ (0 ≤ x1 ∧ x1 ≤ x0 - 1)) ∧ (0 ≤ x2 ∧ x2 ≤ 15) ∧ lbk x3 = true
theorem okm_n {x0 x1 x2 x3 : Int32} (h : okm x0 x1 x2 x3) : ∃ s t g l, 1 ≤ s ∧ s ≤ 60 ∧ t < s ∧ g ≤ 15 ∧ 1 ≤ l ∧ l ≤ 531440 ∧ lbo 4 l = true ∧ x0 = nI s ∧ x1 = nI t ∧ x2 = nI g ∧ x3 = nI l := by
  obtain ⟨⟨⟨a1, a2⟩, a3, a4⟩, ⟨b1, b2⟩, b3⟩ := h
  obtain ⟨s, s1, s2, rfl⟩ := rng (a := 1) (b := 60) a1 a2 (by omega) (by omega)
  obtain ⟨u, rfl⟩ : ∃ u, s = u + 1 := ⟨s - 1, by omega⟩
  rw [nI_s1] at a4
  obtain ⟨t, t1, t2, rfl⟩ := rng (a := 0) (b := u) a3 a4 (by omega) (by omega)
  obtain ⟨g, g1, g2, rfl⟩ := rng (a := 0) (b := 15) b1 b2 (by omega) (by omega)
  unfold lbk at b3
  simp only [Bool.and_eq_true, decide_eq_true_eq] at b3
  obtain ⟨l, l1, l2, rfl⟩ := labn b3.1.1 b3.1.2
  rw [nI_clamp (by omega)] at b3
  exact ⟨u + 1, t, g, l, s1, s2, by omega, g2, l1, l2, b3.2, rfl, rfl, rfl, rfl⟩
theorem mkA_lok {s t g l : Nat} (h1 : 1 ≤ l) (h2 : lbo 4 l = true) (hl : l ≤ 531440) : lok (mkA s t g l) := by
  simp [lbo] at h2
  show 0 < l % 27 ∧ (l / 27 % 27 = 0 → l / 27 / 27 % 27 = 0) ∧ (l / 27 / 27 % 27 = 0 → l / 27 / 27 / 27 % 27 = 0)
  omega
theorem make_wf {σ : mS} {s t g l : Nat} (hw : wf σ) (hn : σ.1 < 12) (h1 : 1 ≤ s ∧ s ≤ 60) (h2 : t < s) (h3 : g ≤ 15) (h4 : 1 ≤ l) (h5 : l ≤ 531440) (h6 : lbo 4 l = true) : wf (addd σ (mkA s t g l)) := by
  refine add_wf hw hn h1 h2 h3 (mkA_lok h4 h6 h5) (fun p hp => ?_) rfl rfl
  have h4 : p = 0 ∨ p = 1 ∨ p = 2 ∨ p = 3 := by omega
  rcases h4 with q | q | q | q <;> subst q
  · show l % 27 ≤ 26
    omega
  · show l / 27 % 27 ≤ 26
    omega
  · show l / 27 / 27 % 27 ≤ 26
    omega
  · show l / 27 / 27 / 27 % 27 ≤ 26
    omega
section MDEEDS
variable {d : Nat} {h : zH} {i : Nat} {M : oS} {σ τ : mS} {r : Int32} {e : Nat → mS × Int32} {len c u : Nat} {x y : Int32}
theorem m_isC (hR : mdR M σ) (hn : σ.1 ≤ 12) : ev (d + 1) 132 0 [some (.ref i), some (.int x)] [] (hmd h i M) = some (some (.int (bI (zin x σ.1 = true))), hmd h i M) := by
  rw [m_isCrate hR, bI_congr (zin_iff hn)]
theorem m_isC1 (hR : mdR M σ) (hn : σ.1 ≤ 12) (hc : c < σ.1) : ev (d + 1) 132 0 [some (.ref i), some (.int (nI c))] [] (hmd h i M) = some (some (.int 1), hmd h i M) := by
  rw [m_isC hR hn, s_zi hc (by omega)]
theorem m_isC0 (hR : mdR M σ) (hn : σ.1 ≤ 12) (hz : zin x σ.1 = false) : ev (d + 1) 132 0 [some (.ref i), some (.int x)] [] (hmd h i M) = some (some (.int 0), hmd h i M) := by
  rw [m_isC hR hn, bI_f (by rw [hz]; decide)]
theorem m_rec (hlen : len ≤ 4) (hS : mSt M σ r e len) (hn : σ.1 ≤ 12) (hen : ∀ j, j < len → (e j).1.1 ≤ 12) : ∃ M1, M1.1 0 = M.1 0 ∧ mfK M M1 ∧ mhi M1 (he e len (σ, r)) (hl len) ∧ (∀ q, q ≠ 2 → M1.1 q = M.1 q) ∧ (∀ q, q ≠ 0 → M1.2 q = M.2 q) ∧ ev (d + 1) 131 0 [some (.ref i), none] [] (hmd h i M) = some (none, hmd h i M1) := by
  obtain ⟨P, a1, a2⟩ := m_records (d := d) (h := h) (i := i) hlen hS.2 hS.1 hn hen
  exact ⟨setI (setR M 2 P) 0 (nI (hl len)), rfl, ⟨rfl, rfl, rfl, rfl⟩, a1, fun q hq => by rw [setI_1, setR_1, if_neg hq], fun q hq => by rw [setI_2, if_neg hq, setR_2], a2⟩
theorem m_put0 (hR : mdR M σ) (hn : σ.1 ≤ 12) (hz : zin x σ.1 = false ∨ zin y σ.1 = false) : ev (d + 6) 158 0 [some (.ref i), some (.int x), some (.int y), none] [] (hmd h i M) = some (some (.int (-1)), hmd h i M) := by
  cases q : zin x σ.1 with
  | false => simp only [e158_0, e158_1, e158_2, e158_5, e158_8, e158_9, e158_10, e158_13, e158_16, e158_17, e158_18, e158_19, e158_22, e158_23, e158_24, e158_25, e158_28, e158_29, e158_30, e158_33, e158_34, e158_35, e158_38, e158_39, e158_40, e158_41, e158_43, e158_44, e158_47, e158_48, e158_49, e158_51, e158_52, e158_53, e158_56, e158_59, e158_60, e158_61, e158_63, e158_64, e158_65, e158_66, e158_69, e158_71, e158_72, e158_73, e158_76, e158_77, md_g0, md_g1, md_g2, md_g3, md_g4, md_g5, md_g6, md_g7, md_g8, md_g9, md_g10, md_g11, md_g12, md_g13, md_g14, md_g15, md_g16, md_g17, md_g18, md_p3, md_p5, md_p7, md_p8, md_p9, md_p11, md_p13, md_p15, md_l0, md_l1, md_l2, md_l3, md_l4, md_l5, md_l6, md_l7, md_l8, md_l9, md_l10, md_s0, md_s1, md_s2, md_s3, md_s4, md_s5, md_s6, md_s7, md_s8, md_s9, md_s10, md_is, Option.bind_some, Option.toList_some, Option.toList_none, List.cons_append, List.nil_append, true_or, or_true, and_true, true_and, i10, Bool.false_eq_true, if_true, if_false, reduceIte, m_isC0 hR hn q]
  | true =>
    obtain ⟨k, hk, rfl⟩ := zin_some (by omega) q
    have hz2 : zin y σ.1 = false := hz.resolve_left (by rw [q]; decide)
    simp only [e158_0, e158_1, e158_2, e158_5, e158_8, e158_9, e158_10, e158_13, e158_16, e158_17, e158_18, e158_19, e158_22, e158_23, e158_24, e158_25, e158_28, e158_29, e158_30, e158_33, e158_34, e158_35, e158_38, e158_39, e158_40, e158_41, e158_43, e158_44, e158_47, e158_48, e158_49, e158_51, e158_52, e158_53, e158_56, e158_59, e158_60, e158_61, e158_63, e158_64, e158_65, e158_66, e158_69, e158_71, e158_72, e158_73, e158_76, e158_77, md_g0, md_g1, md_g2, md_g3, md_g4, md_g5, md_g6, md_g7, md_g8, md_g9, md_g10, md_g11, md_g12, md_g13, md_g14, md_g15, md_g16, md_g17, md_g18, md_p3, md_p5, md_p7, md_p8, md_p9, md_p11, md_p13, md_p15, md_l0, md_l1, md_l2, md_l3, md_l4, md_l5, md_l6, md_l7, md_l8, md_l9, md_l10, md_s0, md_s1, md_s2, md_s3, md_s4, md_s5, md_s6, md_s7, md_s8, md_s9, md_s10, md_is, Option.bind_some, Option.toList_some, Option.toList_none, List.cons_append, List.nil_append, true_or, or_true, and_true, true_and, i10, Bool.false_eq_true, if_true, if_false, reduceIte, m_isC1 hR hn hk, m_isC0 hR hn hz2]
theorem m_put (hlen : len ≤ 4) (hS : mSt M σ r e len) (hw : wf σ) (hen : ∀ j, j < len → (e j).1.1 ≤ 12) (hc : c < σ.1) (hu : u < σ.1) : ∃ M', mfK M M' ∧ mSt M' (if rpt σ c u = 0 then laid σ c u else σ) (if rpt σ c u = 0 then r else r + 1) (he e len (σ, r)) (hl len) ∧ ev (d + 6) 158 0 [some (.ref i), some (.int (nI c)), some (.int (nI u)), none] [] (hmd h i M) = some (some (.int (if rpt σ c u = 0 then nI (10 + dpt (laid σ c u) c) else nI (rpt σ c u))), hmd h i M') := by
  have hb := hw.bnd
  have hn := hb.1
  have hR := mrw_R hS.1
  obtain ⟨M1, a1, a2, a3, -, -, a4⟩ := m_rec (d := d + 4) (h := h) (i := i) hlen hS hn hen
  have hR1 : mdR M1 σ := mdR_eq hR a1
  have h01 : mrw (M1.1 0) 0 σ r := by rw [a1]; exact hS.1
  have rr := m_reasonPut (d := d + 1) (h := h) (i := i) hR1 hw hc hu
  have e1 : (nI (rpt σ c u) ≤ 0) = (rpt σ c u ≤ 0) := nI_lep (b := 0) (by have := rpt_5 (σ := σ) (c := c) (u := u); omega) (by omega)
  have e2 : (0 < nI (rpt σ c u)) = (0 < rpt σ c u) := nI_ltp (a := 0) (by omega) (by have := rpt_5 (σ := σ) (c := c) (u := u); omega)
  by_cases q : rpt σ c u = 0
  · have hwl := put_wf hw hc hu q
    have hb1 : bnd (sa σ c 7 0) := bnd_h hb (Nat.zero_le _)
    have b1 := sa_mdR h01 c 7 0 (by decide)
    have b2 := sa_mdR (M := setR M1 0 (upd (M1.1 0) (2 + 9 * c + 7) (nI 0))) b1 c 8 (pil (sa σ c 7 0) u) (by decide)
    have b3 := sa_mdR (M := setR M1 0 (upd ((setR M1 0 (upd (M1.1 0) (2 + 9 * c + 7) (nI 0))).1 0) (2 + 9 * c + 8) (nI (pil (sa σ c 7 0) u)))) b2 c 7 (u + 1) (by decide)
    rw [laid_e] at b3
    have n0 : nI 0 = 0 := rfl
    have pl := m_pile (d := d + 3) (h := h) (i := i) (M := setR M1 0 (upd (M1.1 0) (2 + 9 * c + 7) (nI 0))) (mrw_R b1) hb1 (show u < (sa σ c 7 0).1 from hu)
    have dp := m_depthOf (d := d + 3) (h := h) (i := i) (M := setR M1 0 (upd ((setR M1 0 (upd ((setR M1 0 (upd (M1.1 0) (2 + 9 * c + 7) (nI 0))).1 0) (2 + 9 * c + 8) (nI (pil (sa σ c 7 0) u)))).1 0) (2 + 9 * c + 7) (nI (u + 1)))) (mrw_R b3) hwl.bnd hc (hwl.ends hc)
    rw [n0] at pl dp
    have hr : ∀ f g : Nat → Int32, setR (setR M1 0 f) 0 g = setR M1 0 g := fun f g => setR_setR M1 0 f g
    have g0 : ∀ f, (setR M1 0 f).1 0 = f := fun _ => rfl
    simp only [g0] at dp b3
    have e10 : (10 : Int32) + nI (dpt (laid σ c u) c) = nI (10 + dpt (laid σ c u) c) := nI_add 10 _
    refine ⟨_, mfK_t a2 (mfK_0 (f := upd (upd (upd (M1.1 0) (2 + 9 * c + 7) 0) (2 + 9 * c + 8) (nI (pil (sa σ c 7 0) u))) (2 + 9 * c + 7) (nI (u + 1)))), ?_, ?_⟩
    · rw [if_pos q, if_pos q]
      exact ⟨b3, a3⟩
    · rw [if_pos q]
      simp only [e158_0, e158_1, e158_2, e158_5, e158_8, e158_9, e158_10, e158_13, e158_16, e158_17, e158_18, e158_19, e158_22, e158_23, e158_24, e158_25, e158_28, e158_29, e158_30, e158_33, e158_34, e158_35, e158_38, e158_39, e158_40, e158_41, e158_43, e158_44, e158_47, e158_48, e158_49, e158_51, e158_52, e158_53, e158_56, e158_59, e158_60, e158_61, e158_63, e158_64, e158_65, e158_66, e158_69, e158_71, e158_72, e158_73, e158_76, e158_77, md_g0, md_g1, md_g2, md_g3, md_g4, md_g5, md_g6, md_g7, md_g8, md_g9, md_g10, md_g11, md_g12, md_g13, md_g14, md_g15, md_g16, md_g17, md_g18, md_p3, md_p5, md_p7, md_p8, md_p9, md_p11, md_p13, md_p15, md_l0, md_l1, md_l2, md_l3, md_l4, md_l5, md_l6, md_l7, md_l8, md_l9, md_l10, md_s0, md_s1, md_s2, md_s3, md_s4, md_s5, md_s6, md_s7, md_s8, md_s9, md_s10, md_is, Option.bind_some, Option.toList_some, Option.toList_none, List.cons_append, List.nil_append, true_or, or_true, and_true, true_and, i10, Bool.false_eq_true, if_true, if_false, reduceIte, m_isC1 hR hn hc, m_isC1 hR hn hu, a4, rr, q, show (nI 0 ≤ 0) = True by decide, show (0 < nI 0) = False by decide, m_lays7 (show c < 12 by omega), m_lays8 (show c < 12 by omega), hr, g0, pl, nI_1, dp, e10]
  · refine ⟨_, mfK_t a2 (mfK_0 (f := upd (M1.1 0) 1 (M1.1 0 1 + 1))), ?_, ?_⟩
    · rw [if_neg q, if_neg q]
      exact ⟨mrw_r h01, a3⟩
    · rw [if_neg q]
      simp only [e158_0, e158_1, e158_2, e158_5, e158_8, e158_9, e158_10, e158_13, e158_16, e158_17, e158_18, e158_19, e158_22, e158_23, e158_24, e158_25, e158_28, e158_29, e158_30, e158_33, e158_34, e158_35, e158_38, e158_39, e158_40, e158_41, e158_43, e158_44, e158_47, e158_48, e158_49, e158_51, e158_52, e158_53, e158_56, e158_59, e158_60, e158_61, e158_63, e158_64, e158_65, e158_66, e158_69, e158_71, e158_72, e158_73, e158_76, e158_77, md_g0, md_g1, md_g2, md_g3, md_g4, md_g5, md_g6, md_g7, md_g8, md_g9, md_g10, md_g11, md_g12, md_g13, md_g14, md_g15, md_g16, md_g17, md_g18, md_p3, md_p5, md_p7, md_p8, md_p9, md_p11, md_p13, md_p15, md_l0, md_l1, md_l2, md_l3, md_l4, md_l5, md_l6, md_l7, md_l8, md_l9, md_l10, md_s0, md_s1, md_s2, md_s3, md_s4, md_s5, md_s6, md_s7, md_s8, md_s9, md_s10, md_is, Option.bind_some, Option.toList_some, Option.toList_none, List.cons_append, List.nil_append, true_or, or_true, and_true, true_and, i10, Bool.false_eq_true, if_true, if_false, reduceIte, m_isC1 hR hn hc, m_isC1 hR hn hu, a4, rr, e1, e2, eq_false (show ¬ rpt σ c u ≤ 0 by omega), eq_true (show 0 < rpt σ c u by omega), m_refuses]
theorem m_ground0 (hR : mdR M σ) (hn : σ.1 ≤ 12) (hz : zin x σ.1 = false) : ev (d + 6) 159 0 [some (.ref i), some (.int x), none] [] (hmd h i M) = some (some (.int (-1)), hmd h i M) := by
  simp only [e159_0, e159_1, e159_2, e159_5, e159_8, e159_9, e159_10, e159_11, e159_14, e159_15, e159_16, e159_19, e159_20, e159_21, e159_24, e159_25, e159_26, e159_29, e159_30, e159_31, e159_32, e159_34, e159_35, e159_38, e159_39, e159_40, e159_42, e159_43, e159_46, e159_48, md_g0, md_g1, md_g2, md_g3, md_g4, md_g5, md_g6, md_g7, md_g8, md_g9, md_g10, md_g11, md_g12, md_g13, md_g14, md_g15, md_g16, md_g17, md_g18, md_p3, md_p5, md_p7, md_p8, md_p9, md_p11, md_p13, md_p15, md_l0, md_l1, md_l2, md_l3, md_l4, md_l5, md_l6, md_l7, md_l8, md_l9, md_l10, md_s0, md_s1, md_s2, md_s3, md_s4, md_s5, md_s6, md_s7, md_s8, md_s9, md_s10, md_is, Option.bind_some, Option.toList_some, Option.toList_none, List.cons_append, List.nil_append, true_or, or_true, and_true, true_and, i10, Bool.false_eq_true, if_true, if_false, reduceIte, m_isC0 hR hn hz]
theorem m_ground (hlen : len ≤ 4) (hS : mSt M σ r e len) (hw : wf σ) (hen : ∀ j, j < len → (e j).1.1 ≤ 12) (hc : c < σ.1) : ∃ M', mfK M M' ∧ mSt M' (if rgd σ c = 0 then gnd σ c else σ) (if rgd σ c = 0 then r else r + 1) (he e len (σ, r)) (hl len) ∧ ev (d + 6) 159 0 [some (.ref i), some (.int (nI c)), none] [] (hmd h i M) = some (some (.int (if rgd σ c = 0 then 10 else nI (rgd σ c))), hmd h i M') := by
  have hb := hw.bnd
  have hn := hb.1
  have hR := mrw_R hS.1
  obtain ⟨M1, a1, a2, a3, -, -, a4⟩ := m_rec (d := d + 4) (h := h) (i := i) hlen hS hn hen
  have hR1 : mdR M1 σ := mdR_eq hR a1
  have h01 : mrw (M1.1 0) 0 σ r := by rw [a1]; exact hS.1
  have rr := m_reasonGround (d := d + 1) (h := h) (i := i) hR1 hb hc
  have e1 : (nI (rgd σ c) ≤ 0) = (rgd σ c ≤ 0) := nI_lep (b := 0) (by have := rgd_5 (σ := σ) (c := c); omega) (by omega)
  have e2 : (0 < nI (rgd σ c)) = (0 < rgd σ c) := nI_ltp (a := 0) (by omega) (by have := rgd_5 (σ := σ) (c := c); omega)
  have hr : ∀ f g : Nat → Int32, setR (setR M1 0 f) 0 g = setR M1 0 g := fun f g => setR_setR M1 0 f g
  have g0 : ∀ f, (setR M1 0 f).1 0 = f := fun _ => rfl
  by_cases q : rgd σ c = 0
  · have b1 := sa_mdR h01 c 7 0 (by decide)
    have b2 := sa_mdR (M := setR M1 0 (upd (M1.1 0) (2 + 9 * c + 7) (nI 0))) b1 c 8 0 (by decide)
    refine ⟨_, mfK_t a2 (mfK_0 (f := upd (upd (M1.1 0) (2 + 9 * c + 7) 0) (2 + 9 * c + 8) 0)), ?_, ?_⟩
    · rw [if_pos q, if_pos q]
      exact ⟨b2, a3⟩
    · rw [if_pos q]
      simp only [e159_0, e159_1, e159_2, e159_5, e159_8, e159_9, e159_10, e159_11, e159_14, e159_15, e159_16, e159_19, e159_20, e159_21, e159_24, e159_25, e159_26, e159_29, e159_30, e159_31, e159_32, e159_34, e159_35, e159_38, e159_39, e159_40, e159_42, e159_43, e159_46, e159_48, md_g0, md_g1, md_g2, md_g3, md_g4, md_g5, md_g6, md_g7, md_g8, md_g9, md_g10, md_g11, md_g12, md_g13, md_g14, md_g15, md_g16, md_g17, md_g18, md_p3, md_p5, md_p7, md_p8, md_p9, md_p11, md_p13, md_p15, md_l0, md_l1, md_l2, md_l3, md_l4, md_l5, md_l6, md_l7, md_l8, md_l9, md_l10, md_s0, md_s1, md_s2, md_s3, md_s4, md_s5, md_s6, md_s7, md_s8, md_s9, md_s10, md_is, Option.bind_some, Option.toList_some, Option.toList_none, List.cons_append, List.nil_append, true_or, or_true, and_true, true_and, i10, Bool.false_eq_true, if_true, if_false, reduceIte, m_isC1 hR hn hc, a4, rr, q, show (nI 0 ≤ 0) = True by decide, show (0 < nI 0) = False by decide, m_lays7 (show c < 12 by omega), m_lays8 (show c < 12 by omega), hr, g0]
  · refine ⟨_, mfK_t a2 (mfK_0 (f := upd (M1.1 0) 1 (M1.1 0 1 + 1))), ?_, ?_⟩
    · rw [if_neg q, if_neg q]
      exact ⟨mrw_r h01, a3⟩
    · rw [if_neg q]
      simp only [e159_0, e159_1, e159_2, e159_5, e159_8, e159_9, e159_10, e159_11, e159_14, e159_15, e159_16, e159_19, e159_20, e159_21, e159_24, e159_25, e159_26, e159_29, e159_30, e159_31, e159_32, e159_34, e159_35, e159_38, e159_39, e159_40, e159_42, e159_43, e159_46, e159_48, md_g0, md_g1, md_g2, md_g3, md_g4, md_g5, md_g6, md_g7, md_g8, md_g9, md_g10, md_g11, md_g12, md_g13, md_g14, md_g15, md_g16, md_g17, md_g18, md_p3, md_p5, md_p7, md_p8, md_p9, md_p11, md_p13, md_p15, md_l0, md_l1, md_l2, md_l3, md_l4, md_l5, md_l6, md_l7, md_l8, md_l9, md_l10, md_s0, md_s1, md_s2, md_s3, md_s4, md_s5, md_s6, md_s7, md_s8, md_s9, md_s10, md_is, Option.bind_some, Option.toList_some, Option.toList_none, List.cons_append, List.nil_append, true_or, or_true, and_true, true_and, i10, Bool.false_eq_true, if_true, if_false, reduceIte, m_isC1 hR hn hc, a4, rr, e1, e2, eq_false (show ¬ rgd σ c ≤ 0 by omega), eq_true (show 0 < rgd σ c by omega), m_refuses]
theorem m_turn0 (hR : mdR M σ) (hn : σ.1 ≤ 12) (hz : zin x σ.1 = false) : ev (d + 6) 161 0 [some (.ref i), some (.int x)] [] (hmd h i M) = some (some (.int (-1)), hmd h i M) := by
  simp only [e161_0, e161_1, e161_2, e161_5, e161_8, e161_9, e161_10, e161_11, e161_14, e161_15, e161_16, e161_17, e161_18, e161_19, e161_20, e161_23, e161_26, e161_29, e161_30, e161_31, e161_32, e161_35, md_g0, md_g1, md_g2, md_g3, md_g4, md_g5, md_g6, md_g7, md_g8, md_g9, md_g10, md_g11, md_g12, md_g13, md_g14, md_g15, md_g16, md_g17, md_g18, md_p3, md_p5, md_p7, md_p8, md_p9, md_p11, md_p13, md_p15, md_l0, md_l1, md_l2, md_l3, md_l4, md_l5, md_l6, md_l7, md_l8, md_l9, md_l10, md_s0, md_s1, md_s2, md_s3, md_s4, md_s5, md_s6, md_s7, md_s8, md_s9, md_s10, md_is, Option.bind_some, Option.toList_some, Option.toList_none, List.cons_append, List.nil_append, true_or, or_true, and_true, true_and, i10, Bool.false_eq_true, if_true, if_false, reduceIte, m_isC0 hR hn hz]
theorem m_turn (hlen : len ≤ 4) (hS : mSt M σ r e len) (hw : wf σ) (hen : ∀ j, j < len → (e j).1.1 ≤ 12) (hc : c < σ.1) : ∃ M', mfK M M' ∧ mSt M' (sa σ c 2 (tnd (σ.2 c 2))) r (he e len (σ, r)) (hl len) ∧ ev (d + 6) 161 0 [some (.ref i), some (.int (nI c))] [] (hmd h i M) = some (some (.int (nI (tnd (σ.2 c 2)))), hmd h i M') := by
  have hb := hw.bnd
  have hn := hb.1
  have hR := mrw_R hS.1
  have h2 := (hb.2 c hc).2.2.1
  obtain ⟨M1, a1, a2, a3, -, -, a4⟩ := m_rec (d := d + 4) (h := h) (i := i) hlen hS hn hen
  have hR1 : mdR M1 σ := mdR_eq hR a1
  have h01 : mrw (M1.1 0) 0 σ r := by rw [a1]; exact hS.1
  have b1 := sa_mdR h01 c 2 (tnd (σ.2 c 2)) (by decide)
  have hwt := turn_wf hw (c := c) (tnd_15 (g := σ.2 c 2))
  have of2 := m_of2 (d := d + 5) (h := h) (i := i) (M := setR M1 0 (upd (M1.1 0) (2 + 9 * c + 2) (nI (tnd (σ.2 c 2))))) (mrw_R b1) hwt.bnd (c := c) hc
  rw [sa_2, if_pos ⟨rfl, rfl⟩] at of2
  refine ⟨_, mfK_t a2 (mfK_0 (f := upd (M1.1 0) (2 + 9 * c + 2) (nI (tnd (σ.2 c 2))))), ⟨b1, a3⟩, ?_⟩
  simp only [e161_0, e161_1, e161_2, e161_5, e161_8, e161_9, e161_10, e161_11, e161_14, e161_15, e161_16, e161_17, e161_18, e161_19, e161_20, e161_23, e161_26, e161_29, e161_30, e161_31, e161_32, e161_35, md_g0, md_g1, md_g2, md_g3, md_g4, md_g5, md_g6, md_g7, md_g8, md_g9, md_g10, md_g11, md_g12, md_g13, md_g14, md_g15, md_g16, md_g17, md_g18, md_p3, md_p5, md_p7, md_p8, md_p9, md_p11, md_p13, md_p15, md_l0, md_l1, md_l2, md_l3, md_l4, md_l5, md_l6, md_l7, md_l8, md_l9, md_l10, md_s0, md_s1, md_s2, md_s3, md_s4, md_s5, md_s6, md_s7, md_s8, md_s9, md_s10, md_is, Option.bind_some, Option.toList_some, Option.toList_none, List.cons_append, List.nil_append, true_or, or_true, and_true, true_and, i10, Bool.false_eq_true, if_true, if_false, reduceIte, m_isC1 hR hn hc, a4, m_of2 hR1 hb hc, m_turned (show σ.2 c 2 < 16 by omega), m_lays2 (show c < 12 by omega), of2]
/-! undo, save, restore -/
theorem m_undo0 (hS : mSt M σ r e 0) : ev (d + 6) 200 0 [some (.ref i)] [] (hmd h i M) = some (some (.int (-2)), hmd h i M) := by
  have h0 : M.2 0 = 0 := hS.2.1
  simp only [e200_0, e200_1, e200_4, e200_7, e200_9, e200_10, e200_11, e200_12, e200_15, e200_16, e200_17, e200_20, e200_21, e200_24, e200_26, e200_27, e200_30, e200_31, e200_32, e200_35, e200_36, e200_39, e200_40, e200_43, md_g0, md_g1, md_g2, md_g3, md_g4, md_g5, md_g6, md_g7, md_g8, md_g9, md_g10, md_g11, md_g12, md_g13, md_g14, md_g15, md_g16, md_g17, md_g18, md_p3, md_p5, md_p7, md_p8, md_p9, md_p11, md_p13, md_p15, md_l0, md_l1, md_l2, md_l3, md_l4, md_l5, md_l6, md_l7, md_l8, md_l9, md_l10, md_s0, md_s1, md_s2, md_s3, md_s4, md_s5, md_s6, md_s7, md_s8, md_s9, md_s10, md_is, Option.bind_some, Option.toList_some, Option.toList_none, List.cons_append, List.nil_append, true_or, or_true, and_true, true_and, i10, Bool.false_eq_true, if_true, if_false, reduceIte, h0]
theorem m_undo (hlen : len < 4) (hS : mSt M σ r e (len + 1)) (hn : (e len).1.1 ≤ 12) : ∃ M', mfK M M' ∧ mSt M' (e len).1 (e len).2 e len ∧ ev (d + 6) 200 0 [some (.ref i)] [] (hmd h i M) = some (some (.int (nI len)), hmd h i M') := by
  have h0 : M.2 0 = nI (len + 1) := hS.2.1
  have e0 : (nI (len + 1) = 0) = False := (nI_eqp (b := 0) (by omega) (by omega)).trans (eq_false (by omega))
  have cp := m_copies_2_0 (d := d + 5) (h := h) (i := i) (M := setI M 0 (nI len)) (a := 110 * len) (b := 0) (by omega) (by omega)
  rw [show nI 0 = 0 from rfl] at cp
  have g1 : ∀ y, (setI M 0 y).2 0 = y := fun _ => rfl
  refine ⟨setR (setI M 0 (nI len)) 0 (cpf ((setI M 0 (nI len)).1 2) ((setI M 0 (nI len)).1 0) (110 * len) 0 110), ⟨rfl, rfl, rfl, rfl⟩, ⟨mrw_cpf hn (hS.2.2 len (by omega)), rfl, fun j hj => hS.2.2 j (by omega)⟩, ?_⟩
  simp only [e200_0, e200_1, e200_4, e200_7, e200_9, e200_10, e200_11, e200_12, e200_15, e200_16, e200_17, e200_20, e200_21, e200_24, e200_26, e200_27, e200_30, e200_31, e200_32, e200_35, e200_36, e200_39, e200_40, e200_43, md_g0, md_g1, md_g2, md_g3, md_g4, md_g5, md_g6, md_g7, md_g8, md_g9, md_g10, md_g11, md_g12, md_g13, md_g14, md_g15, md_g16, md_g17, md_g18, md_p3, md_p5, md_p7, md_p8, md_p9, md_p11, md_p13, md_p15, md_l0, md_l1, md_l2, md_l3, md_l4, md_l5, md_l6, md_l7, md_l8, md_l9, md_l10, md_s0, md_s1, md_s2, md_s3, md_s4, md_s5, md_s6, md_s7, md_s8, md_s9, md_s10, md_is, Option.bind_some, Option.toList_some, Option.toList_none, List.cons_append, List.nil_append, true_or, or_true, and_true, true_and, i10, Bool.false_eq_true, if_true, if_false, reduceIte, h0, e0, nI_s1, g1, k110 len hlen, cp, setR_2]
theorem m_save (hS : mSt M σ r e len) (hn : σ.1 ≤ 12) : ∃ M', mSt M' σ r e len ∧ mrw (M'.1 3) 0 σ r ∧ M'.2 1 = 1 ∧ M'.1 4 = M.1 4 ∧ M'.2 2 = M.2 2 ∧ ev (d + 6) 201 0 [some (.ref i)] [] (hmd h i M) = some (some (.int (nI σ.1)), hmd h i M') := by
  have cp := m_copies_0_3 (d := d + 5) (h := h) (i := i) (M := M) (a := 0) (b := 0) (by omega) (by omega)
  rw [show nI 0 = 0 from rfl] at cp
  refine ⟨setI (setR M 3 (cpf (M.1 0) (M.1 3) 0 0 110)) 1 1, hS, mrw_cpf hn hS.1, rfl, rfl, rfl, ?_⟩
  have z0 : zrd 110 ((setR M 3 (cpf (M.1 0) (M.1 3) 0 0 110)).1 0) 0 = some (nI σ.1) := m_n (mrw_R hS.1)
  simp only [e201_0, e201_1, e201_4, e201_5, e201_6, e201_9, e201_10, e201_13, e201_14, e201_15, e201_18, e201_19, e201_22, e201_23, e201_24, md_g0, md_g1, md_g2, md_g3, md_g4, md_g5, md_g6, md_g7, md_g8, md_g9, md_g10, md_g11, md_g12, md_g13, md_g14, md_g15, md_g16, md_g17, md_g18, md_p3, md_p5, md_p7, md_p8, md_p9, md_p11, md_p13, md_p15, md_l0, md_l1, md_l2, md_l3, md_l4, md_l5, md_l6, md_l7, md_l8, md_l9, md_l10, md_s0, md_s1, md_s2, md_s3, md_s4, md_s5, md_s6, md_s7, md_s8, md_s9, md_s10, md_is, Option.bind_some, Option.toList_some, Option.toList_none, List.cons_append, List.nil_append, true_or, or_true, and_true, true_and, i10, Bool.false_eq_true, if_true, if_false, reduceIte, cp, setI_1, z0]
theorem m_restore0 (hk : M.2 1 = 0) : ev (d + 6) 202 0 [some (.ref i)] [] (hmd h i M) = some (some (.int (-2)), hmd h i M) := by
  simp only [e202_0, e202_1, e202_4, e202_7, e202_9, e202_10, e202_11, e202_14, e202_15, e202_18, e202_19, e202_20, e202_23, e202_24, e202_27, e202_28, e202_31, e202_32, e202_33, md_g0, md_g1, md_g2, md_g3, md_g4, md_g5, md_g6, md_g7, md_g8, md_g9, md_g10, md_g11, md_g12, md_g13, md_g14, md_g15, md_g16, md_g17, md_g18, md_p3, md_p5, md_p7, md_p8, md_p9, md_p11, md_p13, md_p15, md_l0, md_l1, md_l2, md_l3, md_l4, md_l5, md_l6, md_l7, md_l8, md_l9, md_l10, md_s0, md_s1, md_s2, md_s3, md_s4, md_s5, md_s6, md_s7, md_s8, md_s9, md_s10, md_is, Option.bind_some, Option.toList_some, Option.toList_none, List.cons_append, List.nil_append, true_or, or_true, and_true, true_and, i10, Bool.false_eq_true, if_true, if_false, reduceIte, hk]
theorem m_restore {κ : mS} {ρ : Int32} (hlen : len ≤ 4) (hS : mSt M σ r e len) (hn : σ.1 ≤ 12) (hen : ∀ j, j < len → (e j).1.1 ≤ 12) (hk : M.2 1 = 1) (h3 : mrw (M.1 3) 0 κ ρ) (hnk : κ.1 ≤ 12) : ∃ M', mfK M M' ∧ mSt M' κ ρ (he e len (σ, r)) (hl len) ∧ ev (d + 6) 202 0 [some (.ref i)] [] (hmd h i M) = some (some (.int (nI κ.1)), hmd h i M') := by
  obtain ⟨M1, a1, a2, a3, -, -, a4⟩ := m_rec (d := d + 4) (h := h) (i := i) hlen hS hn hen
  have cp := m_copies_3_0 (d := d + 5) (h := h) (i := i) (M := M1) (a := 0) (b := 0) (by omega) (by omega)
  rw [show nI 0 = 0 from rfl] at cp
  have h31 : mrw (M1.1 3) 0 κ ρ := by rw [a2.1]; exact h3
  have b1 := mrw_cpf (g := M1.1 0) (b := 0) hnk h31
  refine ⟨_, mfK_t a2 (mfK_0 (f := cpf (M1.1 3) (M1.1 0) 0 0 110)), ⟨b1, a3⟩, ?_⟩
  have z0 : zrd 110 ((setR M1 0 (cpf (M1.1 3) (M1.1 0) 0 0 110)).1 0) 0 = some (nI κ.1) := m_n (mrw_R b1)
  simp only [e202_0, e202_1, e202_4, e202_7, e202_9, e202_10, e202_11, e202_14, e202_15, e202_18, e202_19, e202_20, e202_23, e202_24, e202_27, e202_28, e202_31, e202_32, e202_33, md_g0, md_g1, md_g2, md_g3, md_g4, md_g5, md_g6, md_g7, md_g8, md_g9, md_g10, md_g11, md_g12, md_g13, md_g14, md_g15, md_g16, md_g17, md_g18, md_p3, md_p5, md_p7, md_p8, md_p9, md_p11, md_p13, md_p15, md_l0, md_l1, md_l2, md_l3, md_l4, md_l5, md_l6, md_l7, md_l8, md_l9, md_l10, md_s0, md_s1, md_s2, md_s3, md_s4, md_s5, md_s6, md_s7, md_s8, md_s9, md_s10, md_is, Option.bind_some, Option.toList_some, Option.toList_none, List.cons_append, List.nil_append, true_or, or_true, and_true, true_and, i10, Bool.false_eq_true, if_true, if_false, reduceIte, hk, a4, cp, z0]
/-! make -/
theorem m_make0 {z1 z2 : Int32} (hk : ¬ okm x y z1 z2) : ev (d + 6) 157 0 [some (.ref i), some (.int x), some (.int y), some (.int z1), some (.int z2), none, none] [] (hmd h i M) = some (some (.int (-1)), hmd h i M) := by
  have n0 : bI False = 0 := rfl
  by_cases q1 : (1 : Int32) ≤ x ∧ x ≤ 60
  · have b1 := bI_t q1
    by_cases q2 : (0 : Int32) ≤ y ∧ y ≤ x - 1
    · have b2 := bI_t q2
      by_cases q3 : (0 : Int32) ≤ z1 ∧ z1 ≤ 15
      · have b3 := bI_t q3
        have q4 : ¬ lbk z2 = true := fun w => hk ⟨⟨q1, q2⟩, q3, w⟩
        have b4 := bI_f q4
        simp only [e157_0, e157_1, e157_2, e157_4, e157_7, e157_10, e157_11, e157_12, e157_13, e157_14, e157_15, e157_18, e157_21, e157_22, e157_23, e157_25, e157_28, e157_31, e157_33, e157_36, e157_39, e157_40, e157_41, e157_42, e157_45, e157_46, e157_47, e157_49, e157_52, e157_54, e157_55, e157_56, e157_59, e157_61, e157_63, e157_64, e157_68, e157_69, e157_72, e157_73, e157_74, e157_77, e157_78, e157_79, e157_80, e157_82, e157_83, e157_85, e157_87, e157_88, e157_91, e157_93, e157_95, e157_96, e157_98, e157_101, e157_104, e157_105, e157_106, e157_107, e157_108, e157_109, e157_110, e157_113, e157_114, e157_117, e157_118, e157_119, e157_120, e157_121, Option.bind_some, Option.toList_some, Option.toList_none, List.cons_append, List.nil_append, true_or, or_true, and_true, true_and, i10, Bool.false_eq_true, if_true, if_false, reduceIte, m_in, m_isLabel, b1, b2, b3, b4]
      · have b3 := bI_f q3
        simp only [e157_0, e157_1, e157_2, e157_4, e157_7, e157_10, e157_11, e157_12, e157_13, e157_14, e157_15, e157_18, e157_21, e157_22, e157_23, e157_25, e157_28, e157_31, e157_33, e157_36, e157_39, e157_40, e157_41, e157_42, e157_45, e157_46, e157_47, e157_49, e157_52, e157_54, e157_55, e157_56, e157_59, e157_61, e157_63, e157_64, e157_68, e157_69, e157_72, e157_73, e157_74, e157_77, e157_78, e157_79, e157_80, e157_82, e157_83, e157_85, e157_87, e157_88, e157_91, e157_93, e157_95, e157_96, e157_98, e157_101, e157_104, e157_105, e157_106, e157_107, e157_108, e157_109, e157_110, e157_113, e157_114, e157_117, e157_118, e157_119, e157_120, e157_121, Option.bind_some, Option.toList_some, Option.toList_none, List.cons_append, List.nil_append, true_or, or_true, and_true, true_and, i10, Bool.false_eq_true, if_true, if_false, reduceIte, m_in, b1, b2, b3]
    · have b2 := bI_f q2
      simp only [e157_0, e157_1, e157_2, e157_4, e157_7, e157_10, e157_11, e157_12, e157_13, e157_14, e157_15, e157_18, e157_21, e157_22, e157_23, e157_25, e157_28, e157_31, e157_33, e157_36, e157_39, e157_40, e157_41, e157_42, e157_45, e157_46, e157_47, e157_49, e157_52, e157_54, e157_55, e157_56, e157_59, e157_61, e157_63, e157_64, e157_68, e157_69, e157_72, e157_73, e157_74, e157_77, e157_78, e157_79, e157_80, e157_82, e157_83, e157_85, e157_87, e157_88, e157_91, e157_93, e157_95, e157_96, e157_98, e157_101, e157_104, e157_105, e157_106, e157_107, e157_108, e157_109, e157_110, e157_113, e157_114, e157_117, e157_118, e157_119, e157_120, e157_121, Option.bind_some, Option.toList_some, Option.toList_none, List.cons_append, List.nil_append, true_or, or_true, and_true, true_and, i10, Bool.false_eq_true, if_true, if_false, reduceIte, m_in, b1, b2]
  · have b1 := bI_f q1
    simp only [e157_0, e157_1, e157_2, e157_4, e157_7, e157_10, e157_11, e157_12, e157_13, e157_14, e157_15, e157_18, e157_21, e157_22, e157_23, e157_25, e157_28, e157_31, e157_33, e157_36, e157_39, e157_40, e157_41, e157_42, e157_45, e157_46, e157_47, e157_49, e157_52, e157_54, e157_55, e157_56, e157_59, e157_61, e157_63, e157_64, e157_68, e157_69, e157_72, e157_73, e157_74, e157_77, e157_78, e157_79, e157_80, e157_82, e157_83, e157_85, e157_87, e157_88, e157_91, e157_93, e157_95, e157_96, e157_98, e157_101, e157_104, e157_105, e157_106, e157_107, e157_108, e157_109, e157_110, e157_113, e157_114, e157_117, e157_118, e157_119, e157_120, e157_121, Option.bind_some, Option.toList_some, Option.toList_none, List.cons_append, List.nil_append, true_or, or_true, and_true, true_and, i10, Bool.false_eq_true, if_true, if_false, reduceIte, m_in, b1]
theorem m_makeF {z1 z2 : Int32} (hR : mdR M σ) (hk : okm x y z1 z2) (h12 : σ.1 = 12) : ev (d + 6) 157 0 [some (.ref i), some (.int x), some (.int y), some (.int z1), some (.int z2), none, none] [] (hmd h i M) = some (some (.int (-3)), hmd h i M) := by
  obtain ⟨⟨q1, q2⟩, q3, q4⟩ := hk
  have z0 := m_n hR
  rw [h12] at z0
  have e : (nI 12 = 12) = True := by decide
  simp only [e157_0, e157_1, e157_2, e157_4, e157_7, e157_10, e157_11, e157_12, e157_13, e157_14, e157_15, e157_18, e157_21, e157_22, e157_23, e157_25, e157_28, e157_31, e157_33, e157_36, e157_39, e157_40, e157_41, e157_42, e157_45, e157_46, e157_47, e157_49, e157_52, e157_54, e157_55, e157_56, e157_59, e157_61, e157_63, e157_64, e157_68, e157_69, e157_72, e157_73, e157_74, e157_77, e157_78, e157_79, e157_80, e157_82, e157_83, e157_85, e157_87, e157_88, e157_91, e157_93, e157_95, e157_96, e157_98, e157_101, e157_104, e157_105, e157_106, e157_107, e157_108, e157_109, e157_110, e157_113, e157_114, e157_117, e157_118, e157_119, e157_120, e157_121, md_g0, md_g1, md_g2, md_g3, md_g4, md_g5, md_g6, md_g7, md_g8, md_g9, md_g10, md_g11, md_g12, md_g13, md_g14, md_g15, md_g16, md_g17, md_g18, md_p3, md_p5, md_p7, md_p8, md_p9, md_p11, md_p13, md_p15, md_l0, md_l1, md_l2, md_l3, md_l4, md_l5, md_l6, md_l7, md_l8, md_l9, md_l10, md_s0, md_s1, md_s2, md_s3, md_s4, md_s5, md_s6, md_s7, md_s8, md_s9, md_s10, md_is, Option.bind_some, Option.toList_some, Option.toList_none, List.cons_append, List.nil_append, true_or, or_true, and_true, true_and, i10, Bool.false_eq_true, if_true, if_false, reduceIte, m_in, m_isLabel, bI_t q1, bI_t q2, bI_t q3, bI_t q4, z0, e]
theorem m_make {s t g l : Nat} (hlen : len ≤ 4) (hS : mSt M σ r e len) (hw : wf σ) (hen : ∀ j, j < len → (e j).1.1 ≤ 12) (hk : okm (nI s) (nI t) (nI g) (nI l)) (h12 : σ.1 < 12) (hl5 : l ≤ 531440) : ∃ M', mfK M M' ∧ mSt M' (addd σ (mkA s t g l)) r (he e len (σ, r)) (hl len) ∧ ev (d + 6) 157 0 [some (.ref i), some (.int (nI s)), some (.int (nI t)), some (.int (nI g)), some (.int (nI l)), none, none] [] (hmd h i M) = some (some (.int (nI σ.1)), hmd h i M') := by
  obtain ⟨⟨q1, q2⟩, q3, q4⟩ := hk
  have hb := hw.bnd
  have hn := hb.1
  have hR := mrw_R hS.1
  have z0 := m_n hR
  obtain ⟨M1, a1, a2, a3, -, -, a4⟩ := m_rec (d := d + 4) (h := h) (i := i) hlen hS hn hen
  have h01 : mrw (M1.1 0) 0 σ r := by rw [a1]; exact hS.1
  have e12 : (nI σ.1 = 12) = False := (nI_eqp (b := 12) (by omega) (by omega)).trans (eq_false (by omega))
  have h27 : ¬ ((27 : Int32) = 0) := by decide
  have zl : ∀ f : Nat → Int32, f 0 = nI σ.1 → zrd 110 f 0 = some (nI σ.1) := fun f hf => by
    rw [show (0 : Int32) = nI 0 from rfl, zrd_nI (by decide) (by decide), hf]
  have w1 : zrd 110 (M1.1 0) 0 = some (nI σ.1) := zl _ h01.1
  have up : ∀ (f : Nat → Int32) (k : Nat) (x : Int32), f 0 = nI σ.1 → upd f (2 + 9 * σ.1 + k) x 0 = nI σ.1 := fun f k x hf => by
    have : ¬ 0 = 2 + 9 * σ.1 + k := by omega
    simp only [upd, this, if_false]
    exact hf
  have w2 : zrd 110 (upd (M1.1 0) (2 + 9 * σ.1 + 3) (nI (l % 27))) 0 = some (nI σ.1) := zl _ (up _ _ _ h01.1)
  have w3 : zrd 110 (upd (upd (M1.1 0) (2 + 9 * σ.1 + 3) (nI (l % 27))) (2 + 9 * σ.1 + 4) (nI (l / 27 % 27))) 0 = some (nI σ.1) := zl _ (up _ _ _ (up _ _ _ h01.1))
  have w4 : zrd 110 (upd (upd (upd (M1.1 0) (2 + 9 * σ.1 + 3) (nI (l % 27))) (2 + 9 * σ.1 + 4) (nI (l / 27 % 27))) (2 + 9 * σ.1 + 5) (nI (l / 27 / 27 % 27))) 0 = some (nI σ.1) := zl _ (up _ _ _ (up _ _ _ (up _ _ _ h01.1)))
  have hl4 : upd (upd (upd (upd (M1.1 0) (2 + 9 * σ.1 + 3) (nI (l % 27))) (2 + 9 * σ.1 + 4) (nI (l / 27 % 27))) (2 + 9 * σ.1 + 5) (nI (l / 27 / 27 % 27))) (2 + 9 * σ.1 + 6) (nI (l / 27 / 27 / 27 % 27)) = l4f (M1.1 0) σ.1 (nI (l % 27)) (nI (l / 27 % 27)) (nI (l / 27 / 27 % 27)) (nI (l / 27 / 27 / 27 % 27)) := rfl
  have hg4 : mrw (l4f (M1.1 0) σ.1 (nI (l % 27)) (nI (l / 27 % 27)) (nI (l / 27 / 27 % 27)) (nI (l / 27 / 27 / 27 % 27))) 0 σ r := mrw_l4f h01
  have hnew := mrw_adds (A := mkA s t g l) hg4 (fun q hq => by
    have h4 : q = 0 ∨ q = 1 ∨ q = 2 ∨ q = 3 := by omega
    rcases h4 with w | w | w | w <;> subst w <;> simp [l4f, upd, mkA])
  have ad := m_adds (d := d + 4) (h := h) (i := i) (M := setR M1 0 (l4f (M1.1 0) σ.1 (nI (l % 27)) (nI (l / 27 % 27)) (nI (l / 27 / 27 % 27)) (nI (l / 27 / 27 / 27 % 27)))) hg4.1 h12 (x0 := nI s) (x1 := nI t) (x2 := nI g) (x7 := nI 0) (x8 := 0) (y := -1) (by decide)
  have w5 : zrd 110 (upd (adf (l4f (M1.1 0) σ.1 (nI (l % 27)) (nI (l / 27 % 27)) (nI (l / 27 / 27 % 27)) (nI (l / 27 / 27 / 27 % 27))) σ.1 (nI s) (nI t) (nI g) (nI 0) 0) 0 (nI (σ.1 + 1))) 0 = some (nI (σ.1 + 1)) := by
    rw [show zrd 110 _ 0 = zrd 110 _ (nI 0) from rfl, zrd_nI (by decide) (by decide)]
    rfl
  have hr : ∀ f g : Nat → Int32, setR (setR M1 0 f) 0 g = setR M1 0 g := fun f g => setR_setR M1 0 f g
  have g0 : ∀ f, (setR M1 0 f).1 0 = f := fun _ => rfl
  have c1 : (0 + 1 : Int32) = 1 := by decide
  have c2 : (1 + 1 : Int32) = 2 := by decide
  have c3 : (2 + 1 : Int32) = 3 := by decide
  have c4 : (3 + 1 : Int32) = 4 := by decide
  have d0 : (3 + 0 : Int32) = 3 := by decide
  have d2 : (3 + 2 : Int32) = 5 := by decide
  have d3 : (3 + 3 : Int32) = 6 := by decide
  have l0 : ((4 : Int32) ≤ 0) = False := by decide
  have l1 : ((4 : Int32) ≤ 1) = False := by decide
  have l2 : ((4 : Int32) ≤ 2) = False := by decide
  have l3 : ((4 : Int32) ≤ 3) = False := by decide
  simp only [g0] at ad
  refine ⟨_, mfK_t a2 (mfK_0 (f := upd (adf (l4f (M1.1 0) σ.1 (nI (l % 27)) (nI (l / 27 % 27)) (nI (l / 27 / 27 % 27)) (nI (l / 27 / 27 / 27 % 27))) σ.1 (nI s) (nI t) (nI g) (nI 0) 0) 0 (nI (σ.1 + 1)))), ⟨hnew, a3⟩, ?_⟩
  simp only [e157_0, e157_1, e157_2, e157_4, e157_7, e157_10, e157_11, e157_12, e157_13, e157_14, e157_15, e157_18, e157_21, e157_22, e157_23, e157_25, e157_28, e157_31, e157_33, e157_36, e157_39, e157_40, e157_41, e157_42, e157_45, e157_46, e157_47, e157_49, e157_52, e157_54, e157_55, e157_56, e157_59, e157_61, e157_63, e157_64, e157_66, e157_68, e157_69, e157_72, e157_73, e157_74, e157_77, e157_78, e157_79, e157_80, e157_82, e157_83, e157_85, e157_88, e157_91, e157_93, e157_96, e157_98, e157_101, e157_104, e157_105, e157_106, e157_107, e157_108, e157_109, e157_110, e157_113, e157_114, e157_117, e157_118, e157_119, e157_120, e157_121, e157_87 h27, e157_95 h27, md_g0, md_g1, md_g2, md_g3, md_g4, md_g5, md_g6, md_g7, md_g8, md_g9, md_g10, md_g11, md_g12, md_g13, md_g14, md_g15, md_g16, md_g17, md_g18, md_p3, md_p5, md_p7, md_p8, md_p9, md_p11, md_p13, md_p15, md_l0, md_l1, md_l2, md_l3, md_l4, md_l5, md_l6, md_l7, md_l8, md_l9, md_l10, md_s0, md_s1, md_s2, md_s3, md_s4, md_s5, md_s6, md_s7, md_s8, md_s9, md_s10, md_is, Option.bind_some, Option.toList_some, Option.toList_none, List.cons_append, List.nil_append, true_or, or_true, and_true, true_and, i10, Bool.false_eq_true, if_true, if_false, reduceIte, m_in, m_isLabel, bI_t q1, bI_t q2, bI_t q3, bI_t q4, z0, e12, a4, w1, w2, w3, w4, w5, g0, hr, c1, c2, c3, c4, d0, d2, d3, l0, l1, l2, l3, Int32.le_refl, nI_div27 (show l < 2 ^ 31 by omega), nI_rem27 (show l < 2 ^ 31 by omega), nI_div27 (show l / 27 < 2 ^ 31 by omega), nI_rem27 (show l / 27 < 2 ^ 31 by omega), nI_div27 (show l / 27 / 27 < 2 ^ 31 by omega), nI_rem27 (show l / 27 / 27 < 2 ^ 31 by omega), nI_div27 (show l / 27 / 27 / 27 < 2 ^ 31 by omega), nI_rem27 (show l / 27 / 27 / 27 < 2 ^ 31 by omega), m_lays3 h12, m_lays4 h12, m_lays5 h12, m_lays6 h12, hl4, ad, nI_s1]
end MDEEDS
