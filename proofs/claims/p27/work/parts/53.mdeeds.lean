/-! THE DEEDS OF THE REFERENCE -/
theorem zin_iff {x : Int32} {n : Nat} (hn : n ≤ 12) : (0 ≤ x ∧ x ≤ nI n - 1) ↔ zin x n = true := by
  have e1 : nI n - 1 = iI ((n : Int) - 1) := by rw [iI_nat, show (1 : Int32) = iI 1 from rfl, iI_sub]
  rcases zin_cases (c := x) (n := n) (by omega) with ⟨h1, h2⟩ | ⟨h1, h2, h3⟩ | ⟨k, hk, rfl⟩
  · exact ⟨fun z => absurd z.1 (Int32.not_le.mpr h1), fun z => by rw [h2] at z; cases z⟩
  · refine ⟨fun z => ?_, fun z => by rw [h3] at z; cases z⟩
    have a1 := Int32.le_iff_toInt_le.mp z.2
    have a2 := Int32.le_iff_toInt_le.mp h2
    rw [e1, iI_toInt (by omega) (by omega)] at a1
    rw [nI_toInt (by omega)] at a2
    omega
  · refine ⟨fun _ => by rw [zin_nI (by omega)]; exact decide_eq_true hk, fun _ => ⟨nI_pos' (by omega), ?_⟩⟩
    rw [e1, iI_nat, iI_le (by omega) (by omega)]
    omega
/-- a number between two bounds -/
theorem rng {x : Int32} {a b : Nat} (h1 : nI a ≤ x) (h2 : x ≤ nI b) (ha : a ≤ b) (hb : b < 2147483647) : ∃ k, a ≤ k ∧ k ≤ b ∧ x = nI k := by
  rcases zin_cases (c := x) (n := b + 1) (by omega) with ⟨q, -⟩ | ⟨-, q, -⟩ | ⟨k, hk, rfl⟩
  · have := Int32.le_iff_toInt_le.mp h1
    have e := Int32.lt_iff_toInt_lt.mp q
    have e2 : Int32.toInt 0 = 0 := by decide
    rw [nI_toInt (by omega)] at this
    omega
  · have := Int32.le_iff_toInt_le.mp h2
    have e := Int32.le_iff_toInt_le.mp q
    rw [nI_toInt (by omega)] at this e
    omega
  · exact ⟨k, (nI_leI (by omega) (by omega)).mp h1, by omega, rfl⟩
/-- snapshot and pad stay -/
def mfK (M M' : oS) : Prop := M'.1 3 = M.1 3 ∧ M'.1 4 = M.1 4 ∧ M'.2 1 = M.2 1 ∧ M'.2 2 = M.2 2
theorem mfK_r {M : oS} : mfK M M := ⟨rfl, rfl, rfl, rfl⟩
theorem mfK_t {M M' M'' : oS} (h : mfK M M') (h' : mfK M' M'') : mfK M M'' := ⟨h'.1.trans h.1, h'.2.1.trans h.2.1, h'.2.2.1.trans h.2.2.1, h'.2.2.2.trans h.2.2.2⟩
theorem mfK_0 {M : oS} {f : Nat → Int32} : mfK M (setR M 0 f) := ⟨rfl, rfl, rfl, rfl⟩
theorem put_wf {σ : mS} {c u : Nat} (hw : wf σ) (hc : c < σ.1) (hu : u < σ.1) (h0 : rpt σ c u = 0) : wf (laid σ c u) := by
  unfold rpt at h0
  by_cases q1 : tpb σ c = false
  · rw [if_pos q1] at h0
    cases h0
  · rw [if_neg q1] at h0
    by_cases q2 : c = u ∨ c ∈ chn σ u
    · rw [if_pos q2] at h0
      cases h0
    · rw [if_neg q2] at h0
      by_cases q3 : σ.2 c 7 ≠ u + 1 ∧ lft σ u < (σ.2 c 0 : Int)
      · rw [if_pos q3] at h0
        cases h0
      · refine laid_wf (gnd_wf hw hc (by simpa using q1)) hc hu (fun z => q2 (Or.inl z)) ?_
        have h9 := (hw.2 u hu).2.2.2.2.2.2.2.2.1
        have ho := pis_o (k := u) hc
        by_cases z : σ.2 c 7 = u + 1
        · rw [if_pos z] at ho
          omega
        · rw [if_neg z] at ho
          have : ¬ lft σ u < (σ.2 c 0 : Int) := fun y => q3 ⟨z, y⟩
          unfold lft at this
          omega
theorem laid_e {σ : mS} {c k : Nat} : sa (sa (sa σ c 7 0) c 8 (pil (sa σ c 7 0) k)) c 7 (k + 1) = laid σ c k := by
  have : pil (gnd σ c) k = pil (sa σ c 7 0) k := ct_cong (fun a _ => by
    show decide ((sa (sa σ c 7 0) c 8 0).2 a 7 = k + 1) = _
    rw [sa_2, if_neg (by omega)])
  unfold laid
  rw [this]
  unfold gnd
  rw [sa_sa]
theorem rgd_0 {σ : mS} {c : Nat} (h0 : rgd σ c = 0) : tpb σ c = true := by
  unfold rgd at h0
  cases q : tpb σ c with
  | true => rfl
  | false =>
    rw [if_pos q] at h0
    cases h0
theorem rbk_0 {σ : mS} {c : Nat} (h0 : rbk σ c = 0) : tpb σ c = true ∧ pil σ c = 0 := by
  unfold rbk at h0
  cases q : tpb σ c with
  | true =>
    rw [if_neg (by rw [q]; decide)] at h0
    by_cases z : 0 < pil σ c
    · rw [if_pos z] at h0
      cases h0
    · exact ⟨rfl, by omega⟩
  | false =>
    rw [if_pos q] at h0
    cases h0
theorem rpt_5 {σ : mS} {c u : Nat} : rpt σ c u ≤ 5 := by
  unfold rpt
  split
  · omega
  · split
    · omega
    · split <;> omega
theorem rgd_5 {σ : mS} {c : Nat} : rgd σ c ≤ 5 := by
  unfold rgd
  split
  · omega
  · split <;> omega
theorem rbk_5 {σ : mS} {c : Nat} : rbk σ c ≤ 5 := by
  unfold rbk
  split
  · omega
  · split <;> omega
theorem tnd_15 {g : Nat} : tnd g ≤ 15 := by
  unfold tnd
  omega
/-- a crate as it is made -/
def mkA (s t g l : Nat) : Nat → Nat := fun j => if j = 0 then s else if j = 1 then t else if j = 2 then g else if j = 3 then l % 27 else if j = 4 then l / 27 % 27 else if j = 5 then l / 27 / 27 % 27 else if j = 6 then l / 27 / 27 / 27 % 27 else 0
theorem mkA_lbl {s t g l : Nat} (hl : l ≤ 531440) : lbl (mkA s t g l) = l := by
  show l % 27 + 27 * (l / 27 % 27 + 27 * (l / 27 / 27 % 27 + 27 * (l / 27 / 27 / 27 % 27))) = l
  omega
/-- what may be made -/
def okm (x0 x1 x2 x3 : Int32) : Prop := ((1 ≤ x0 ∧ x0 ≤ 60) ∧ (0 ≤ x1 ∧ x1 ≤ x0 - 1)) ∧ (0 ≤ x2 ∧ x2 ≤ 15) ∧ lbk x3 = true
theorem okm_n {x0 x1 x2 x3 : Int32} (h : okm x0 x1 x2 x3) : ∃ s t g l, 1 ≤ s ∧ s ≤ 60 ∧ t < s ∧ g ≤ 15 ∧ 1 ≤ l ∧ l ≤ 531440 ∧ lbo 4 l = true ∧ x0 = nI s ∧ x1 = nI t ∧ x2 = nI g ∧ x3 = nI l := by
  obtain ⟨⟨⟨a1, a2⟩, a3, a4⟩, ⟨b1, b2⟩, b3⟩ := h
  obtain ⟨s, s1, s2, rfl⟩ := rng (a := 1) (b := 60) a1 a2 (by omega) (by omega)
  obtain ⟨u, rfl⟩ : ∃ u, s = u + 1 := ⟨s - 1, by omega⟩
  rw [nI_s1] at a4
  obtain ⟨t, t1, t2, rfl⟩ := rng (a := 0) (b := u) a3 a4 (by omega) (by omega)
  obtain ⟨g, g1, g2, rfl⟩ := rng (a := 0) (b := 15) b1 b2 (by omega) (by omega)
  unfold lbk at b3
  simp only [Bool.and_eq_true, decide_eq_true_eq] at b3
  obtain ⟨l, l1, l2, rfl⟩ := labn b3.1.1 b3.1.2
  rw [nI_clamp (by omega)] at b3
  exact ⟨u + 1, t, g, l, s1, s2, by omega, g2, l1, l2, b3.2, rfl, rfl, rfl, rfl⟩
theorem mkA_lok {s t g l : Nat} (h1 : 1 ≤ l) (h2 : lbo 4 l = true) (hl : l ≤ 531440) : lok (mkA s t g l) := by
  simp [lbo] at h2
  show 0 < l % 27 ∧ (l / 27 % 27 = 0 → l / 27 / 27 % 27 = 0) ∧ (l / 27 / 27 % 27 = 0 → l / 27 / 27 / 27 % 27 = 0)
  omega
theorem make_wf {σ : mS} {s t g l : Nat} (hw : wf σ) (hn : σ.1 < 12) (h1 : 1 ≤ s ∧ s ≤ 60) (h2 : t < s) (h3 : g ≤ 15) (h4 : 1 ≤ l) (h5 : l ≤ 531440) (h6 : lbo 4 l = true) : wf (addd σ (mkA s t g l)) := by
  refine add_wf hw hn h1 h2 h3 (mkA_lok h4 h6 h5) (fun p hp => ?_) rfl rfl
  have h4 : p = 0 ∨ p = 1 ∨ p = 2 ∨ p = 3 := by omega
  rcases h4 with q | q | q | q <;> subst q
  · show l % 27 ≤ 26
    omega
  · show l / 27 % 27 ≤ 26
    omega
  · show l / 27 / 27 % 27 ≤ 26
    omega
  · show l / 27 / 27 / 27 % 27 ≤ 26
    omega
section MDEEDS
variable {d : Nat} {h : zH} {i : Nat} {M : oS} {σ τ : mS} {r : Int32} {e : Nat → mS × Int32} {len c u : Nat} {x y : Int32}
end MDEEDS
