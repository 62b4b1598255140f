/-! THE LOOKS OF THE REFERENCE -/
theorem sI_bI {p : Nat → Bool} : ∀ {n : Nat}, sI (fun k => bI (p k = true)) n = nI (ct p n)
  | 0 => rfl
  | n + 1 => by
    rw [sI, sI_bI, ct]
    cases p n with
    | true =>
      rw [bI_t rfl, nI_1]
      rfl
    | false =>
      rw [bI_f Bool.false_ne_true, Int32.add_zero]
      rfl
theorem si_sub {a b : Nat → Nat} : ∀ {n : Nat}, si (fun k => (a k : Int) - (b k : Int)) n = (sm a n : Int) - (sm b n : Int)
  | 0 => rfl
  | n + 1 => by
    rw [si, si_sub, sm, sm]
    omega
theorem sm_add {a b : Nat → Nat} : ∀ {n : Nat}, sm (fun k => a k + b k) n = sm a n + sm b n
  | 0 => rfl
  | n + 1 => by
    rw [sm, sm_add, sm, sm]
    omega
theorem sm_swap {f : Nat → Nat → Nat} {m : Nat} : ∀ {n : Nat}, sm (fun c => sm (fun a => f c a) m) n = sm (fun a => sm (fun c => f c a) n) m
  | 0 => by
    rw [sm]
    exact (sm_zero (fun k _ => rfl)).symm
  | n + 1 => by
    rw [sm, sm_swap, ← sm_add]
    rfl
theorem sm_one {u x : Nat} : ∀ {n : Nat}, sm (fun c => if u = c + 1 then x else 0) n = if 1 ≤ u ∧ u ≤ n then x else 0
  | 0 => by
    rw [sm, if_neg (by omega)]
  | n + 1 => by
    rw [sm, sm_one]
    by_cases q : u = n + 1
    · rw [if_neg (by omega), if_pos q, if_pos (by omega), Nat.zero_add]
    · rw [if_neg q, Nat.add_zero]
      by_cases z : 1 ≤ u ∧ u ≤ n
      · rw [if_pos z, if_pos (by omega)]
      · rw [if_neg z, if_neg (by omega)]
/-- the sizes of the crates that lie -/
def lyg (σ : mS) : Nat := sm (fun c => if σ.2 c 7 = 0 then 0 else σ.2 c 0) σ.1
def rms (σ : mS) : Nat := sm (fun c => σ.2 c 1) σ.1
theorem pis_sum {σ : mS} (hb : bnd σ) : sm (pis σ) σ.1 = lyg σ := by
  show sm (fun c => sm (fun a => if σ.2 a 7 = c + 1 then σ.2 a 0 else 0) σ.1) σ.1 = _
  rw [sm_swap]
  refine sm_cong (fun a ha => ?_)
  have h7 := (hb.2 a ha).2.2.2.2.1
  rw [sm_one]
  by_cases z : σ.2 a 7 = 0
  · rw [if_neg (by omega), if_pos z]
  · rw [if_pos (by omega), if_neg z]
theorem lft_sum {σ : mS} (hb : bnd σ) : si (lft σ) σ.1 = (rms σ : Int) - (lyg σ : Int) := by
  rw [← pis_sum hb]
  exact si_sub
theorem rms_b {σ : mS} (hb : bnd σ) : rms σ ≤ 720 := by
  have h1 := sm_le (f := fun c => σ.2 c 1) (m := 60) (n := σ.1) (fun k hk => (hb.2 k hk).2.1)
  have h2 := hb.1
  have : σ.1 * 60 ≤ 12 * 60 := Nat.mul_le_mul_right 60 h2
  unfold rms
  omega
theorem lyg_b {σ : mS} (hb : bnd σ) : lyg σ ≤ 720 := by
  have h1 := sm_le (f := fun c => if σ.2 c 7 = 0 then 0 else σ.2 c 0) (m := 60) (n := σ.1) (fun k hk => by
    have := (hb.2 k hk).1
    split <;> omega)
  have h2 := hb.1
  have : σ.1 * 60 ≤ 12 * 60 := Nat.mul_le_mul_right 60 h2
  unfold lyg
  omega
theorem swd {x : Int32} {b : Nat} (hb : b < 2147483648) (h : ¬ (0 ≤ x ∧ x ≤ nI b)) : x.toInt < 0 ∨ (b : Int) < x.toInt := by
  by_cases q : x.toInt < 0
  · exact Or.inl q
  · right
    have e0 : Int32.toInt 0 = 0 := by decide
    have p0 : (0 : Int32) ≤ x := Int32.le_iff_toInt_le.mpr (by rw [e0]; omega)
    have q2 : ¬ x ≤ nI b := fun z => h ⟨p0, z⟩
    rw [Int32.le_iff_toInt_le, nI_toInt hb] at q2
    omega
theorem to14 {w : Nat} (h : w ≤ 14) : w = 0 ∨ w = 1 ∨ w = 2 ∨ w = 3 ∨ w = 4 ∨ w = 5 ∨ w = 6 ∨ w = 7 ∨ w = 8 ∨ w = 9 ∨ w = 10 ∨ w = 11 ∨ w = 12 ∨ w = 13 ∨ w = 14 := by omega
/-- a pattern that is seen -/
def alk (σ : mS) (x1 x2 x3 x4 : Int32) (c : Nat) : Bool := decide (x1 = 28 ∨ nI (sgn σ c 0) = x1) && (decide (x2 = 28 ∨ nI (sgn σ c 1) = x2) && (decide (x3 = 28 ∨ nI (sgn σ c 2) = x3) && decide (x4 = 28 ∨ nI (sgn σ c 3) = x4)))
def wnt (x : Int32) : Prop := 0 ≤ x ∧ x ≤ 28
/-- what count answers -/
def cnv (σ : mS) (r : Int32) (m len w : Nat) : Int32 := match w with
  | 0 => nI σ.1
  | 1 => nI (ct (fun c => decide (σ.2 c 7 = 0)) σ.1)
  | 2 => nI (ct (lse σ) σ.1)
  | 3 => nI (dmx σ)
  | 4 => nI (sm (fun c => σ.2 c 0) σ.1)
  | 5 => iI ((rms σ : Int) - (lyg σ : Int))
  | 6 => nI (ct (tld σ) σ.1)
  | 7 => nI (sm (lts σ) σ.1)
  | 8 => nI (sm (lsn σ) σ.1)
  | 9 => nI (dif σ)
  | 10 => nI (lgn σ)
  | 11 => iI (si (eft σ) σ.1)
  | 12 => r
  | 13 => nI m
  | _ => nI len
/-- a crate turned -/
def trd (σ : mS) (c : Nat) : mS := sa σ c 2 (tnd (σ.2 c 2))
def ltn (σ : mS) (c : Nat) : Nat := sm (lsn (trd σ c)) σ.1
/-- the best one to turn, coded, and its letters -/
def bts (σ : mS) (k : Nat) (s : Nat × Int) : Nat × Int := if s.2 < (ltn σ k : Int) then (k + 1, (ltn σ k : Int)) else s
def btn (σ : mS) : Nat := (zfold (bts σ) σ.1 (0, -1)).1
theorem trd_wf {σ : mS} (hw : wf σ) {c : Nat} : wf (trd σ c) := turn_wf hw tnd_15
theorem lsn_4 {σ : mS} {c : Nat} : lsn σ c ≤ 4 := ct_le _ _
theorem ltn_b {σ : mS} (hn : σ.1 ≤ 12) {c : Nat} : ltn σ c ≤ 48 := by
  have h1 := sm_le (f := lsn (trd σ c)) (m := 4) (n := σ.1) (fun k _ => lsn_4)
  have : σ.1 * 4 ≤ 12 * 4 := Nat.mul_le_mul_right 4 hn
  unfold ltn
  omega
/-- quotients are no NaN -/
def fchk (a : Nat) : Bool := match FP.Core.decode FP.Core.b64 (FP.i2d (nI a)).toNat with
  | .fin _ c _ => decide (c ≠ 0) || decide (a = 0)
  | _ => false
theorem fchk_ok : ∀ a, a < 721 → fchk a = true := by decide +kernel
theorem fp_enc (s : Bool) (A B : Nat) (e : Int) : ∃ u x, u ≤ 1 ∧ x ≤ 9218868437227405312 ∧ FP.Core.encode FP.Core.b64 (FP.Core.roundRatio FP.Core.b64 s A B e) = u * 9223372036854775808 + x := by
  have hs : s.toNat ≤ 1 := by cases s <;> decide
  have fin : ∀ (c : Nat) (q : Int), c < 9007199254740992 → q ≤ FP.Core.b64.qmax → ∃ u x, u ≤ 1 ∧ x ≤ 9218868437227405312 ∧ FP.Core.encode FP.Core.b64 (.fin s c q) = u * 9223372036854775808 + x := by
    intro c q hc hq
    have hq2 : FP.Core.b64.qmax = 971 := by decide
    have hq3 : FP.Core.b64.qmin = -1074 := by decide
    have ht : FP.Core.b64.tails = 4503599627370496 := by decide
    have he : FP.Core.b64.exps = 2048 := by decide
    unfold FP.Core.encode FP.Core.assemble
    dsimp only
    rw [ht, he, hq3]
    rw [hq2] at hq
    by_cases z : c < 4503599627370496
    · rw [if_pos z]
      exact ⟨s.toNat, c, hs, by omega, by omega⟩
    · rw [if_neg z]
      refine ⟨s.toNat, ((q - -1074).toNat + 1) * 4503599627370496 + (c - 4503599627370496), hs, ?_, by omega⟩
      have : (q - -1074).toNat ≤ 2045 := by omega
      omega
  have inf : ∃ u x, u ≤ 1 ∧ x ≤ 9218868437227405312 ∧ FP.Core.encode FP.Core.b64 (.inf s) = u * 9223372036854775808 + x := by
    have ht : FP.Core.b64.tails = 4503599627370496 := by decide
    have he : FP.Core.b64.exps = 2048 := by decide
    unfold FP.Core.encode FP.Core.assemble
    dsimp only
    rw [ht, he]
    exact ⟨s.toNat, 9218868437227405312, hs, by omega, by omega⟩
  have bnd : ∀ (c : Nat) (q : Int), c < 9007199254740992 → ∃ u x, u ≤ 1 ∧ x ≤ 9218868437227405312 ∧ FP.Core.encode FP.Core.b64 (FP.Core.bound FP.Core.b64 s c q) = u * 9223372036854775808 + x := by
    intro c q hc
    unfold FP.Core.bound
    by_cases z : q ≤ FP.Core.b64.qmax
    · rw [if_pos z]
      exact fin c q hc z
    · rw [if_neg z]
      exact inf
  unfold FP.Core.roundRatio
  by_cases z : A = 0
  · rw [if_pos z]
    exact fin 0 _ (by decide) (by decide)
  · rw [if_neg z]
    unfold FP.Core.roundAt FP.Core.settle
    have hp : 2 ^ FP.Core.b64.p = 9007199254740992 := by decide
    rw [hp]
    generalize FP.Core.nearest _ _ = c
    by_cases y : c < 9007199254740992
    · rw [if_pos y]
      exact bnd _ _ y
    · rw [if_neg y]
      exact bnd _ _ (by decide)
theorem fp_div {a b : Nat} (ha : a < 721) (hb : b < 721) (h0 : b ≠ 0) : (FP.ddiv (FP.i2d (nI a)) (FP.i2d (nI b))) &&& 0x7fffffffffffffff ≤ 0x7ff0000000000000 := by
  have ca := fchk_ok a ha
  have cb := fchk_ok b hb
  have key : ∃ u x, u ≤ 1 ∧ x ≤ 9218868437227405312 ∧ FP.Core.div FP.Core.b64 (FP.i2d (nI a)).toNat (FP.i2d (nI b)).toNat = u * 9223372036854775808 + x := by
    unfold fchk at ca cb
    unfold FP.Core.div
    cases qa : FP.Core.decode FP.Core.b64 (FP.i2d (nI a)).toNat with
    | nan => rw [qa] at ca; cases ca
    | inf s => rw [qa] at ca; cases ca
    | fin s c q =>
      cases qb : FP.Core.decode FP.Core.b64 (FP.i2d (nI b)).toNat with
      | nan => rw [qb] at cb; cases cb
      | inf s => rw [qb] at cb; cases cb
      | fin t g y =>
        rw [qb] at cb
        have hg : g ≠ 0 := by
          simp [h0] at cb
          exact cb
        unfold FP.Core.quotient
        dsimp only
        rw [if_neg hg]
        exact fp_enc _ _ _ _
  obtain ⟨u, x, hu, hx, e⟩ := key
  show (UInt64.ofNat (FP.Core.div FP.Core.b64 (FP.i2d (nI a)).toNat (FP.i2d (nI b)).toNat)) &&& 0x7fffffffffffffff ≤ 0x7ff0000000000000
  rw [e, UInt64.le_iff_toNat_le, UInt64.toNat_and, UInt64.toNat_ofNat']
  have e1 : (0x7fffffffffffffff : UInt64).toNat = 2 ^ 63 - 1 := by decide
  have e2 : (0x7ff0000000000000 : UInt64).toNat = 9218868437227405312 := by decide
  rw [e1, e2, Nat.and_two_pow_sub_one_eq_mod]
  omega
/-- what full answers -/
def ful (σ : mS) : UInt64 := if rms σ = 0 then FP.dconst0 else FP.ddiv (FP.i2d (nI (lyg σ))) (FP.i2d (nI (rms σ)))
section MLOOKS
variable {d : Nat} {h : zH} {i : Nat} {M : oS} {σ : mS} {r : Int32} {e : Nat → mS × Int32} {len c u m : Nat} {x y : Int32} {w : Nat → Nat}
theorem m_isPl {x : Int32} : ev (d + 1) 181 0 [some (.int x)] [] h = some (some (.int (bI (zin x 4 = true))), h) := by
  have e3 : nI 4 - 1 = 3 := by decide
  have hz := zin_iff (x := x) (n := 4) (by decide)
  rw [e3] at hz
  rw [← bI_congr hz]
  simp only [e181_0, e181_1, e181_2, e181_3, e181_6 (bI_01 _), Option.bind_some, Option.toList_some, Option.toList_none, List.cons_append, List.nil_append, true_or, or_true, and_true, true_and, i10, Bool.false_eq_true, if_true, if_false, reduceIte, m_in]
theorem m_letter0 (hR : mdR M σ) (hn : σ.1 ≤ 12) (hz : zin x σ.1 = false ∨ zin y 4 = false) : ev (d + 6) 182 0 [some (.ref i), some (.int x), some (.int y)] [] (hmd h i M) = some (some (.int (-1)), hmd h i M) := by
  cases q : zin x σ.1 with
  | false => simp only [e182_0, e182_1, e182_2, e182_5, e182_8, e182_9, e182_12, e182_15, e182_16, e182_17, e182_18, e182_19, e182_20, e182_21, e182_22, e182_25, e182_28, e182_30, e182_33, e182_34, e182_35, e182_36, e182_37, e182_38, e182_41, e182_42, e182_43, md_g0, md_g1, md_g2, md_g3, md_g4, md_g5, md_g6, md_g7, md_g8, md_g9, md_g10, md_g11, md_g12, md_g13, md_g14, md_g15, md_g16, md_g17, md_g18, md_p3, md_p5, md_p7, md_p8, md_p9, md_p11, md_p13, md_p15, md_l0, md_l1, md_l2, md_l3, md_l4, md_l5, md_l6, md_l7, md_l8, md_l9, md_l10, md_s0, md_s1, md_s2, md_s3, md_s4, md_s5, md_s6, md_s7, md_s8, md_s9, md_s10, md_is, Option.bind_some, Option.toList_some, Option.toList_none, List.cons_append, List.nil_append, true_or, or_true, and_true, true_and, i10, Bool.false_eq_true, if_true, if_false, reduceIte, m_isC0 hR hn q]
  | true =>
    obtain ⟨k, hk, rfl⟩ := zin_some (by omega) q
    have hz2 : ¬ zin y 4 = true := by rw [hz.resolve_left (by rw [q]; decide)]; decide
    simp only [e182_0, e182_1, e182_2, e182_5, e182_8, e182_9, e182_12, e182_15, e182_16, e182_17, e182_18, e182_19, e182_20, e182_21, e182_22, e182_25, e182_28, e182_30, e182_33, e182_34, e182_35, e182_36, e182_37, e182_38, e182_41, e182_42, e182_43, md_g0, md_g1, md_g2, md_g3, md_g4, md_g5, md_g6, md_g7, md_g8, md_g9, md_g10, md_g11, md_g12, md_g13, md_g14, md_g15, md_g16, md_g17, md_g18, md_p3, md_p5, md_p7, md_p8, md_p9, md_p11, md_p13, md_p15, md_l0, md_l1, md_l2, md_l3, md_l4, md_l5, md_l6, md_l7, md_l8, md_l9, md_l10, md_s0, md_s1, md_s2, md_s3, md_s4, md_s5, md_s6, md_s7, md_s8, md_s9, md_s10, md_is, Option.bind_some, Option.toList_some, Option.toList_none, List.cons_append, List.nil_append, true_or, or_true, and_true, true_and, i10, Bool.false_eq_true, if_true, if_false, reduceIte, m_isC1 hR hn hk, m_isPl, bI_f hz2]
theorem m_letter (hR : mdR M σ) (hw : wf σ) (hc : c < σ.1) {p : Nat} (hp : p < 4) : ev (d + 6) 182 0 [some (.ref i), some (.int (nI c)), some (.int (nI p))] [] (hmd h i M) = some (some (.int (cB (σ.2 c (3 + p)))), hmd h i M) := by
  have hb := hw.bnd
  have hn := hb.1
  have hz : zin (nI p) 4 = true := zin_T hp (by decide)
  have e3 : (3 : Int32) + nI p = nI (3 + p) := nI_add 3 p
  have hl := (hb.2 c hc).2.2.2.1 p hp
  simp only [e182_0, e182_1, e182_2, e182_5, e182_8, e182_9, e182_12, e182_15, e182_16, e182_17, e182_18, e182_19, e182_20, e182_21, e182_22, e182_25, e182_28, e182_30, e182_33, e182_34, e182_35, e182_36, e182_37, e182_38, e182_41, e182_42, e182_43, md_g0, md_g1, md_g2, md_g3, md_g4, md_g5, md_g6, md_g7, md_g8, md_g9, md_g10, md_g11, md_g12, md_g13, md_g14, md_g15, md_g16, md_g17, md_g18, md_p3, md_p5, md_p7, md_p8, md_p9, md_p11, md_p13, md_p15, md_l0, md_l1, md_l2, md_l3, md_l4, md_l5, md_l6, md_l7, md_l8, md_l9, md_l10, md_s0, md_s1, md_s2, md_s3, md_s4, md_s5, md_s6, md_s7, md_s8, md_s9, md_s10, md_is, Option.bind_some, Option.toList_some, Option.toList_none, List.cons_append, List.nil_append, true_or, or_true, and_true, true_and, i10, Bool.false_eq_true, if_true, if_false, reduceIte, m_isC1 hR hn hc, m_isPl, bI_t hz, e3, m_of hR hb hc (3 + p) (by omega)]
  cases q : σ.2 c (3 + p) with
  | zero =>
    rw [if_pos (show nI 0 = 0 from rfl)]
    rfl
  | succ k =>
    rw [q] at hl
    rw [if_neg (fun z => by have := (nI_eq (a := k + 1) (b := 0) (by omega) (by omega)).mp z; omega), nI_s1]
    rfl
theorem m_seen0 (hR : mdR M σ) (hn : σ.1 ≤ 12) (hz : zin x σ.1 = false ∨ zin y 4 = false) : ev (d + 6) 183 0 [some (.ref i), some (.int x), some (.int y)] [] (hmd h i M) = some (some (.int (-1)), hmd h i M) := by
  cases q : zin x σ.1 with
  | false => simp only [e183_0, e183_1, e183_2, e183_5, e183_8, e183_9, e183_12, e183_15, e183_16, e183_17, e183_18, e183_21, e183_24, e183_25, md_g0, md_g1, md_g2, md_g3, md_g4, md_g5, md_g6, md_g7, md_g8, md_g9, md_g10, md_g11, md_g12, md_g13, md_g14, md_g15, md_g16, md_g17, md_g18, md_p3, md_p5, md_p7, md_p8, md_p9, md_p11, md_p13, md_p15, md_l0, md_l1, md_l2, md_l3, md_l4, md_l5, md_l6, md_l7, md_l8, md_l9, md_l10, md_s0, md_s1, md_s2, md_s3, md_s4, md_s5, md_s6, md_s7, md_s8, md_s9, md_s10, md_is, Option.bind_some, Option.toList_some, Option.toList_none, List.cons_append, List.nil_append, true_or, or_true, and_true, true_and, i10, Bool.false_eq_true, if_true, if_false, reduceIte, m_isC0 hR hn q]
  | true =>
    obtain ⟨k, hk, rfl⟩ := zin_some (by omega) q
    have hz2 : ¬ zin y 4 = true := by rw [hz.resolve_left (by rw [q]; decide)]; decide
    simp only [e183_0, e183_1, e183_2, e183_5, e183_8, e183_9, e183_12, e183_15, e183_16, e183_17, e183_18, e183_21, e183_24, e183_25, md_g0, md_g1, md_g2, md_g3, md_g4, md_g5, md_g6, md_g7, md_g8, md_g9, md_g10, md_g11, md_g12, md_g13, md_g14, md_g15, md_g16, md_g17, md_g18, md_p3, md_p5, md_p7, md_p8, md_p9, md_p11, md_p13, md_p15, md_l0, md_l1, md_l2, md_l3, md_l4, md_l5, md_l6, md_l7, md_l8, md_l9, md_l10, md_s0, md_s1, md_s2, md_s3, md_s4, md_s5, md_s6, md_s7, md_s8, md_s9, md_s10, md_is, Option.bind_some, Option.toList_some, Option.toList_none, List.cons_append, List.nil_append, true_or, or_true, and_true, true_and, i10, Bool.false_eq_true, if_true, if_false, reduceIte, m_isC1 hR hn hk, m_isPl, bI_f hz2]
theorem m_seen (hR : mdR M σ) (hw : wf σ) (hc : c < σ.1) {p : Nat} (hp : p < 4) : ev (d + 6) 183 0 [some (.ref i), some (.int (nI c)), some (.int (nI p))] [] (hmd h i M) = some (some (.int (nI (sgn σ c p))), hmd h i M) := by
  have hb := hw.bnd
  have hn := hb.1
  have hz : zin (nI p) 4 = true := zin_T hp (by decide)
  simp only [e183_0, e183_1, e183_2, e183_5, e183_8, e183_9, e183_12, e183_15, e183_16, e183_17, e183_18, e183_21, e183_24, e183_25, md_g0, md_g1, md_g2, md_g3, md_g4, md_g5, md_g6, md_g7, md_g8, md_g9, md_g10, md_g11, md_g12, md_g13, md_g14, md_g15, md_g16, md_g17, md_g18, md_p3, md_p5, md_p7, md_p8, md_p9, md_p11, md_p13, md_p15, md_l0, md_l1, md_l2, md_l3, md_l4, md_l5, md_l6, md_l7, md_l8, md_l9, md_l10, md_s0, md_s1, md_s2, md_s3, md_s4, md_s5, md_s6, md_s7, md_s8, md_s9, md_s10, md_is, Option.bind_some, Option.toList_some, Option.toList_none, List.cons_append, List.nil_append, true_or, or_true, and_true, true_and, i10, Bool.false_eq_true, if_true, if_false, reduceIte, m_isC1 hR hn hc, m_isPl, bI_t hz, m_signOf hR hb hc (hw.ends hc) hp]
theorem m_why0 (hR : mdR M σ) (hn : σ.1 ≤ 12) (hz : zin x σ.1 = false ∨ zin y σ.1 = false) : ev (d + 6) 184 0 [some (.ref i), some (.int x), some (.int y)] [] (hmd h i M) = some (some (.int (-1)), hmd h i M) := by
  cases q : zin x σ.1 with
  | false => simp only [e184_0, e184_1, e184_2, e184_5, e184_8, e184_9, e184_10, e184_13, e184_16, e184_17, e184_18, e184_19, e184_22, e184_25, e184_26, md_g0, md_g1, md_g2, md_g3, md_g4, md_g5, md_g6, md_g7, md_g8, md_g9, md_g10, md_g11, md_g12, md_g13, md_g14, md_g15, md_g16, md_g17, md_g18, md_p3, md_p5, md_p7, md_p8, md_p9, md_p11, md_p13, md_p15, md_l0, md_l1, md_l2, md_l3, md_l4, md_l5, md_l6, md_l7, md_l8, md_l9, md_l10, md_s0, md_s1, md_s2, md_s3, md_s4, md_s5, md_s6, md_s7, md_s8, md_s9, md_s10, md_is, Option.bind_some, Option.toList_some, Option.toList_none, List.cons_append, List.nil_append, true_or, or_true, and_true, true_and, i10, Bool.false_eq_true, if_true, if_false, reduceIte, m_isC0 hR hn q]
  | true =>
    obtain ⟨k, hk, rfl⟩ := zin_some (by omega) q
    have hz2 : zin y σ.1 = false := hz.resolve_left (by rw [q]; decide)
    simp only [e184_0, e184_1, e184_2, e184_5, e184_8, e184_9, e184_10, e184_13, e184_16, e184_17, e184_18, e184_19, e184_22, e184_25, e184_26, md_g0, md_g1, md_g2, md_g3, md_g4, md_g5, md_g6, md_g7, md_g8, md_g9, md_g10, md_g11, md_g12, md_g13, md_g14, md_g15, md_g16, md_g17, md_g18, md_p3, md_p5, md_p7, md_p8, md_p9, md_p11, md_p13, md_p15, md_l0, md_l1, md_l2, md_l3, md_l4, md_l5, md_l6, md_l7, md_l8, md_l9, md_l10, md_s0, md_s1, md_s2, md_s3, md_s4, md_s5, md_s6, md_s7, md_s8, md_s9, md_s10, md_is, Option.bind_some, Option.toList_some, Option.toList_none, List.cons_append, List.nil_append, true_or, or_true, and_true, true_and, i10, Bool.false_eq_true, if_true, if_false, reduceIte, m_isC1 hR hn hk, m_isC0 hR hn hz2]
theorem m_why (hR : mdR M σ) (hw : wf σ) (hc : c < σ.1) (hu : u < σ.1) : ev (d + 6) 184 0 [some (.ref i), some (.int (nI c)), some (.int (nI u))] [] (hmd h i M) = some (some (.int (nI (rpt σ c u))), hmd h i M) := by
  have hn := hw.1
  simp only [e184_0, e184_1, e184_2, e184_5, e184_8, e184_9, e184_10, e184_13, e184_16, e184_17, e184_18, e184_19, e184_22, e184_25, e184_26, md_g0, md_g1, md_g2, md_g3, md_g4, md_g5, md_g6, md_g7, md_g8, md_g9, md_g10, md_g11, md_g12, md_g13, md_g14, md_g15, md_g16, md_g17, md_g18, md_p3, md_p5, md_p7, md_p8, md_p9, md_p11, md_p13, md_p15, md_l0, md_l1, md_l2, md_l3, md_l4, md_l5, md_l6, md_l7, md_l8, md_l9, md_l10, md_s0, md_s1, md_s2, md_s3, md_s4, md_s5, md_s6, md_s7, md_s8, md_s9, md_s10, md_is, Option.bind_some, Option.toList_some, Option.toList_none, List.cons_append, List.nil_append, true_or, or_true, and_true, true_and, i10, Bool.false_eq_true, if_true, if_false, reduceIte, m_isC1 hR hn hc, m_isC1 hR hn hu, m_reasonPut hR hw hc hu]
theorem m_effort0 (hz : ¬ ((1 ≤ x ∧ x ≤ 60) ∧ (0 ≤ y ∧ y ≤ 1))) : ev (d + 6) 185 0 [some (.ref i), some (.int x), some (.int y), none, none] [] (hmd h i M) = some (some (.int (-1)), hmd h i M) := by
  by_cases q1 : (1 : Int32) ≤ x ∧ x ≤ 60
  · have q2 : ¬ ((0 : Int32) ≤ y ∧ y ≤ 1) := fun z => hz ⟨q1, z⟩
    simp only [e185_0, e185_1, e185_2, e185_4, e185_7, e185_10, e185_11, e185_12, e185_13, e185_16, e185_19, e185_20, e185_21, e185_22, e185_23, e185_24, e185_28, e185_29, e185_32, e185_33, e185_34, e185_37, e185_38, e185_39, e185_41, e185_42, e185_45, e185_46, e185_49, e185_50, e185_52, e185_55, e185_58, e185_59, e185_60, e185_61, e185_64, e185_67, e185_68, Option.bind_some, Option.toList_some, Option.toList_none, List.cons_append, List.nil_append, true_or, or_true, and_true, true_and, i10, Bool.false_eq_true, if_true, if_false, reduceIte, m_in, bI_t q1, bI_f q2]
  · simp only [e185_0, e185_1, e185_2, e185_4, e185_7, e185_10, e185_11, e185_12, e185_13, e185_16, e185_19, e185_20, e185_21, e185_22, e185_23, e185_24, e185_28, e185_29, e185_32, e185_33, e185_34, e185_37, e185_38, e185_39, e185_41, e185_42, e185_45, e185_46, e185_49, e185_50, e185_52, e185_55, e185_58, e185_59, e185_60, e185_61, e185_64, e185_67, e185_68, Option.bind_some, Option.toList_some, Option.toList_none, List.cons_append, List.nil_append, true_or, or_true, and_true, true_and, i10, Bool.false_eq_true, if_true, if_false, reduceIte, m_in, bI_f q1]
theorem m_effort (hR : mdR M σ) (hw : wf σ) (hz : (1 ≤ x ∧ x ≤ 60) ∧ (0 ≤ y ∧ y ≤ 1)) : ev (d + 6) 185 0 [some (.ref i), some (.int x), some (.int y), none, none] [] (hmd h i M) = some (some (.int (iI (si (gz σ x) σ.1))), hmd h i M) := by
  have hb := hw.bnd
  have hn := hb.1
  have h0 := m_n hR
  have step : ∀ (k : Nat) (s : Int), k < σ.1 → ev (d + 6) 185 26 [some (.ref i), some (.int x), some (.int y), some (.int (iI s)), some (.int (nI k))] [] (hmd h i M) = ev (d + 6) 185 26 [some (.ref i), some (.int x), some (.int y), some (.int (iI (s + gz σ x k))), some (.int (nI (k + 1)))] [] (hmd h i M) := by
    intro k s hk
    have hlt : (σ.1 ≤ k) = False := eq_false (by omega)
    rw [e185_26]
    unfold gz
    by_cases q : nI (σ.2 k 0) = x
    · simp only [e185_0, e185_1, e185_2, e185_4, e185_7, e185_10, e185_11, e185_12, e185_13, e185_16, e185_19, e185_20, e185_21, e185_22, e185_23, e185_24, e185_28, e185_29, e185_32, e185_33, e185_34, e185_37, e185_38, e185_39, e185_41, e185_42, e185_45, e185_46, e185_49, e185_50, e185_52, e185_55, e185_58, e185_59, e185_60, e185_61, e185_64, e185_67, e185_68, md_g0, md_g1, md_g2, md_g3, md_g4, md_g5, md_g6, md_g7, md_g8, md_g9, md_g10, md_g11, md_g12, md_g13, md_g14, md_g15, md_g16, md_g17, md_g18, md_p3, md_p5, md_p7, md_p8, md_p9, md_p11, md_p13, md_p15, md_l0, md_l1, md_l2, md_l3, md_l4, md_l5, md_l6, md_l7, md_l8, md_l9, md_l10, md_s0, md_s1, md_s2, md_s3, md_s4, md_s5, md_s6, md_s7, md_s8, md_s9, md_s10, md_is, Option.bind_some, Option.toList_some, Option.toList_none, List.cons_append, List.nil_append, true_or, or_true, and_true, true_and, i10, Bool.false_eq_true, if_true, if_false, reduceIte, h0, nI_lep (show σ.1 < 2147483648 by omega) (show k < 2147483648 by omega), hlt, nI_1, m_of0 hR hb hk, eq_true q, m_effortTo hR hw hk, iI_add]
    · simp only [e185_0, e185_1, e185_2, e185_4, e185_7, e185_10, e185_11, e185_12, e185_13, e185_16, e185_19, e185_20, e185_21, e185_22, e185_23, e185_24, e185_28, e185_29, e185_32, e185_33, e185_34, e185_37, e185_38, e185_39, e185_41, e185_42, e185_45, e185_46, e185_49, e185_50, e185_52, e185_55, e185_58, e185_59, e185_60, e185_61, e185_64, e185_67, e185_68, md_g0, md_g1, md_g2, md_g3, md_g4, md_g5, md_g6, md_g7, md_g8, md_g9, md_g10, md_g11, md_g12, md_g13, md_g14, md_g15, md_g16, md_g17, md_g18, md_p3, md_p5, md_p7, md_p8, md_p9, md_p11, md_p13, md_p15, md_l0, md_l1, md_l2, md_l3, md_l4, md_l5, md_l6, md_l7, md_l8, md_l9, md_l10, md_s0, md_s1, md_s2, md_s3, md_s4, md_s5, md_s6, md_s7, md_s8, md_s9, md_s10, md_is, Option.bind_some, Option.toList_some, Option.toList_none, List.cons_append, List.nil_append, true_or, or_true, and_true, true_and, i10, Bool.false_eq_true, if_true, if_false, reduceIte, h0, nI_lep (show σ.1 < 2147483648 by omega) (show k < 2147483648 by omega), hlt, nI_1, m_of0 hR hb hk, eq_false q, Int32.add_zero, Int.add_zero]
  have fin : ∀ s : Int, ev (d + 6) 185 26 [some (.ref i), some (.int x), some (.int y), some (.int (iI s)), some (.int (nI σ.1))] [] (hmd h i M) = some (some (.int (iI s)), hmd h i M) := by
    intro s
    rw [e185_26]
    simp only [e185_0, e185_1, e185_2, e185_4, e185_7, e185_10, e185_11, e185_12, e185_13, e185_16, e185_19, e185_20, e185_21, e185_22, e185_23, e185_24, e185_28, e185_29, e185_32, e185_33, e185_34, e185_37, e185_38, e185_39, e185_41, e185_42, e185_45, e185_46, e185_49, e185_50, e185_52, e185_55, e185_58, e185_59, e185_60, e185_61, e185_64, e185_67, e185_68, md_g0, md_g1, md_g2, md_g3, md_g4, md_g5, md_g6, md_g7, md_g8, md_g9, md_g10, md_g11, md_g12, md_g13, md_g14, md_g15, md_g16, md_g17, md_g18, md_p3, md_p5, md_p7, md_p8, md_p9, md_p11, md_p13, md_p15, md_l0, md_l1, md_l2, md_l3, md_l4, md_l5, md_l6, md_l7, md_l8, md_l9, md_l10, md_s0, md_s1, md_s2, md_s3, md_s4, md_s5, md_s6, md_s7, md_s8, md_s9, md_s10, md_is, Option.bind_some, Option.toList_some, Option.toList_none, List.cons_append, List.nil_append, true_or, or_true, and_true, true_and, i10, Bool.false_eq_true, if_true, if_false, reduceIte, h0, Int32.le_refl]
  have main := z_for (fun (k : Nat) (s : Int) => ev (d + 6) 185 26 [some (.ref i), some (.int x), some (.int y), some (.int (iI s)), some (.int (nI k))] [] (hmd h i M)) (fun (k : Nat) (s : Int) => s + gz σ x k) (n := σ.1) (s := 0) (fun k s hk => step k s hk)
  rw [zfold_si, Int.zero_add, fin] at main
  simp only [e185_0, e185_1, e185_2, e185_4, e185_7, e185_10, e185_11, e185_12, e185_13, e185_16, e185_19, e185_20, e185_21, e185_22, e185_23, e185_24, e185_28, e185_29, e185_32, e185_33, e185_34, e185_37, e185_38, e185_39, e185_41, e185_42, e185_45, e185_46, e185_49, e185_50, e185_52, e185_55, e185_58, e185_59, e185_60, e185_61, e185_64, e185_67, e185_68, md_g0, md_g1, md_g2, md_g3, md_g4, md_g5, md_g6, md_g7, md_g8, md_g9, md_g10, md_g11, md_g12, md_g13, md_g14, md_g15, md_g16, md_g17, md_g18, md_p3, md_p5, md_p7, md_p8, md_p9, md_p11, md_p13, md_p15, md_l0, md_l1, md_l2, md_l3, md_l4, md_l5, md_l6, md_l7, md_l8, md_l9, md_l10, md_s0, md_s1, md_s2, md_s3, md_s4, md_s5, md_s6, md_s7, md_s8, md_s9, md_s10, md_is, Option.bind_some, Option.toList_some, Option.toList_none, List.cons_append, List.nil_append, true_or, or_true, and_true, true_and, i10, Bool.false_eq_true, if_true, if_false, reduceIte, m_in, bI_t hz.1, bI_t hz.2]
  exact main
theorem m_isAs (hR : mdR M σ) (hw : wf σ) (hc : c < σ.1) {p : Nat} (hp : p < 4) : ev (d + 4) 186 0 [some (.ref i), some (.int (nI c)), some (.int (nI p)), some (.int x)] [] (hmd h i M) = some (some (.int (bI (x = 28 ∨ nI (sgn σ c p) = x))), hmd h i M) := by
  have hb := hw.bnd
  have so := m_signOf (d := d) (h := h) (i := i) hR hb hc (hw.ends hc) hp
  by_cases q1 : x = 28
  · rw [bI_t (Or.inl q1)]
    simp only [e186_0, e186_1, e186_3, e186_6, e186_7, e186_8, e186_9, e186_12, e186_13, e186_16, e186_17, e186_20, e186_21, md_g0, md_g1, md_g2, md_g3, md_g4, md_g5, md_g6, md_g7, md_g8, md_g9, md_g10, md_g11, md_g12, md_g13, md_g14, md_g15, md_g16, md_g17, md_g18, md_p3, md_p5, md_p7, md_p8, md_p9, md_p11, md_p13, md_p15, md_l0, md_l1, md_l2, md_l3, md_l4, md_l5, md_l6, md_l7, md_l8, md_l9, md_l10, md_s0, md_s1, md_s2, md_s3, md_s4, md_s5, md_s6, md_s7, md_s8, md_s9, md_s10, md_is, Option.bind_some, Option.toList_some, Option.toList_none, List.cons_append, List.nil_append, true_or, or_true, and_true, true_and, i10, Bool.false_eq_true, if_true, if_false, reduceIte, eq_true q1]
  · by_cases q2 : nI (sgn σ c p) = x
    · rw [bI_t (Or.inr q2)]
      simp only [e186_0, e186_1, e186_3, e186_6, e186_7, e186_8, e186_9, e186_12, e186_13, e186_16, e186_17, e186_20, e186_21, md_g0, md_g1, md_g2, md_g3, md_g4, md_g5, md_g6, md_g7, md_g8, md_g9, md_g10, md_g11, md_g12, md_g13, md_g14, md_g15, md_g16, md_g17, md_g18, md_p3, md_p5, md_p7, md_p8, md_p9, md_p11, md_p13, md_p15, md_l0, md_l1, md_l2, md_l3, md_l4, md_l5, md_l6, md_l7, md_l8, md_l9, md_l10, md_s0, md_s1, md_s2, md_s3, md_s4, md_s5, md_s6, md_s7, md_s8, md_s9, md_s10, md_is, Option.bind_some, Option.toList_some, Option.toList_none, List.cons_append, List.nil_append, true_or, or_true, and_true, true_and, i10, Bool.false_eq_true, if_true, if_false, reduceIte, eq_false q1, so, eq_true q2]
    · rw [bI_f (fun z => z.elim q1 q2)]
      simp only [e186_0, e186_1, e186_3, e186_6, e186_7, e186_8, e186_9, e186_12, e186_13, e186_16, e186_17, e186_20, e186_21, md_g0, md_g1, md_g2, md_g3, md_g4, md_g5, md_g6, md_g7, md_g8, md_g9, md_g10, md_g11, md_g12, md_g13, md_g14, md_g15, md_g16, md_g17, md_g18, md_p3, md_p5, md_p7, md_p8, md_p9, md_p11, md_p13, md_p15, md_l0, md_l1, md_l2, md_l3, md_l4, md_l5, md_l6, md_l7, md_l8, md_l9, md_l10, md_s0, md_s1, md_s2, md_s3, md_s4, md_s5, md_s6, md_s7, md_s8, md_s9, md_s10, md_is, Option.bind_some, Option.toList_some, Option.toList_none, List.cons_append, List.nil_append, true_or, or_true, and_true, true_and, i10, Bool.false_eq_true, if_true, if_false, reduceIte, eq_false q1, so, eq_false q2]
theorem m_alike0 {x1 x2 x3 x4 : Int32} (hz : ¬ (wnt x1 ∧ wnt x2 ∧ wnt x3 ∧ wnt x4)) : ev (d + 6) 187 0 [some (.ref i), some (.int x1), some (.int x2), some (.int x3), some (.int x4), none, none] [] (hmd h i M) = some (some (.int (-1)), hmd h i M) := by
  unfold wnt at hz
  by_cases q1 : (0 : Int32) ≤ x1 ∧ x1 ≤ 28
  · by_cases q2 : (0 : Int32) ≤ x2 ∧ x2 ≤ 28
    · by_cases q3 : (0 : Int32) ≤ x3 ∧ x3 ≤ 28
      · have q4 : ¬ ((0 : Int32) ≤ x4 ∧ x4 ≤ 28) := fun z => hz ⟨q1, q2, q3, z⟩
        simp only [e187_0, e187_1, e187_2, e187_4, e187_7, e187_10, e187_11, e187_12, e187_14, e187_17, e187_20, e187_21, e187_22, e187_24, e187_27, e187_30, e187_32, e187_33, e187_35, e187_38, e187_41, e187_42, e187_43, e187_44, e187_46, e187_47, e187_51, e187_52, e187_55, e187_56, e187_57, e187_60, e187_62, e187_63, e187_65, e187_66, e187_67, e187_70, e187_73, e187_74, e187_76, e187_77, e187_78, e187_81, e187_84, e187_85, e187_87, e187_88, e187_89, e187_92, e187_95, e187_96, e187_98, e187_99, e187_101, e187_104, e187_107, e187_108, e187_111, e187_112, e187_113, e187_115, e187_118, e187_121, e187_123, Option.bind_some, Option.toList_some, Option.toList_none, List.cons_append, List.nil_append, true_or, or_true, and_true, true_and, i10, Bool.false_eq_true, if_true, if_false, reduceIte, m_in, bI_t q1, bI_t q2, bI_t q3, bI_f q4]
      · simp only [e187_0, e187_1, e187_2, e187_4, e187_7, e187_10, e187_11, e187_12, e187_14, e187_17, e187_20, e187_21, e187_22, e187_24, e187_27, e187_30, e187_32, e187_33, e187_35, e187_38, e187_41, e187_42, e187_43, e187_44, e187_46, e187_47, e187_51, e187_52, e187_55, e187_56, e187_57, e187_60, e187_62, e187_63, e187_65, e187_66, e187_67, e187_70, e187_73, e187_74, e187_76, e187_77, e187_78, e187_81, e187_84, e187_85, e187_87, e187_88, e187_89, e187_92, e187_95, e187_96, e187_98, e187_99, e187_101, e187_104, e187_107, e187_108, e187_111, e187_112, e187_113, e187_115, e187_118, e187_121, e187_123, Option.bind_some, Option.toList_some, Option.toList_none, List.cons_append, List.nil_append, true_or, or_true, and_true, true_and, i10, Bool.false_eq_true, if_true, if_false, reduceIte, m_in, bI_t q1, bI_t q2, bI_f q3]
    · simp only [e187_0, e187_1, e187_2, e187_4, e187_7, e187_10, e187_11, e187_12, e187_14, e187_17, e187_20, e187_21, e187_22, e187_24, e187_27, e187_30, e187_32, e187_33, e187_35, e187_38, e187_41, e187_42, e187_43, e187_44, e187_46, e187_47, e187_51, e187_52, e187_55, e187_56, e187_57, e187_60, e187_62, e187_63, e187_65, e187_66, e187_67, e187_70, e187_73, e187_74, e187_76, e187_77, e187_78, e187_81, e187_84, e187_85, e187_87, e187_88, e187_89, e187_92, e187_95, e187_96, e187_98, e187_99, e187_101, e187_104, e187_107, e187_108, e187_111, e187_112, e187_113, e187_115, e187_118, e187_121, e187_123, Option.bind_some, Option.toList_some, Option.toList_none, List.cons_append, List.nil_append, true_or, or_true, and_true, true_and, i10, Bool.false_eq_true, if_true, if_false, reduceIte, m_in, bI_t q1, bI_f q2]
  · simp only [e187_0, e187_1, e187_2, e187_4, e187_7, e187_10, e187_11, e187_12, e187_14, e187_17, e187_20, e187_21, e187_22, e187_24, e187_27, e187_30, e187_32, e187_33, e187_35, e187_38, e187_41, e187_42, e187_43, e187_44, e187_46, e187_47, e187_51, e187_52, e187_55, e187_56, e187_57, e187_60, e187_62, e187_63, e187_65, e187_66, e187_67, e187_70, e187_73, e187_74, e187_76, e187_77, e187_78, e187_81, e187_84, e187_85, e187_87, e187_88, e187_89, e187_92, e187_95, e187_96, e187_98, e187_99, e187_101, e187_104, e187_107, e187_108, e187_111, e187_112, e187_113, e187_115, e187_118, e187_121, e187_123, Option.bind_some, Option.toList_some, Option.toList_none, List.cons_append, List.nil_append, true_or, or_true, and_true, true_and, i10, Bool.false_eq_true, if_true, if_false, reduceIte, m_in, bI_f q1]
theorem m_alike {x1 x2 x3 x4 : Int32} (hR : mdR M σ) (hw : wf σ) (hz : wnt x1 ∧ wnt x2 ∧ wnt x3 ∧ wnt x4) : ev (d + 6) 187 0 [some (.ref i), some (.int x1), some (.int x2), some (.int x3), some (.int x4), none, none] [] (hmd h i M) = some (some (.int (nI (ct (alk σ x1 x2 x3 x4) σ.1))), hmd h i M) := by
  have hb := hw.bnd
  have hn := hb.1
  have h0 := m_n hR
  have step : ∀ (k : Nat) (s : Nat), k < σ.1 → ev (d + 6) 187 49 [some (.ref i), some (.int x1), some (.int x2), some (.int x3), some (.int x4), some (.int (nI s)), some (.int (nI k))] [] (hmd h i M) = ev (d + 6) 187 49 [some (.ref i), some (.int x1), some (.int x2), some (.int x3), some (.int x4), some (.int (nI (s + if alk σ x1 x2 x3 x4 k then 1 else 0))), some (.int (nI (k + 1)))] [] (hmd h i M) := by
    intro k s hk
    have hlt : (σ.1 ≤ k) = False := eq_false (by omega)
    have a1 := m_isAs (d := d + 1) (h := h) (i := i) (x := x1) hR hw hk (p := 0) (by decide)
    have a2 := m_isAs (d := d + 1) (h := h) (i := i) (x := x2) hR hw hk (p := 1) (by decide)
    have a3 := m_isAs (d := d + 1) (h := h) (i := i) (x := x3) hR hw hk (p := 2) (by decide)
    have a4 := m_isAs (d := d + 1) (h := h) (i := i) (x := x4) hR hw hk (p := 3) (by decide)
    rw [show nI 0 = 0 from rfl] at a1
    rw [show nI 1 = 1 from rfl] at a2
    rw [show nI 2 = 2 from rfl] at a3
    rw [show nI 3 = 3 from rfl] at a4
    rw [e187_49]
    unfold alk
    by_cases q1 : x1 = 28 ∨ nI (sgn σ k 0) = x1
    · rw [bI_t q1] at a1
      rw [decide_eq_true q1]
      by_cases q2 : x2 = 28 ∨ nI (sgn σ k 1) = x2
      · rw [bI_t q2] at a2
        rw [decide_eq_true q2]
        by_cases q3 : x3 = 28 ∨ nI (sgn σ k 2) = x3
        · rw [bI_t q3] at a3
          rw [decide_eq_true q3]
          by_cases q4 : x4 = 28 ∨ nI (sgn σ k 3) = x4
          · rw [bI_t q4] at a4
            rw [decide_eq_true q4]
            simp only [e187_0, e187_1, e187_2, e187_4, e187_7, e187_10, e187_11, e187_12, e187_14, e187_17, e187_20, e187_21, e187_22, e187_24, e187_27, e187_30, e187_32, e187_33, e187_35, e187_38, e187_41, e187_42, e187_43, e187_44, e187_46, e187_47, e187_51, e187_52, e187_55, e187_56, e187_57, e187_60, e187_62, e187_63, e187_65, e187_66, e187_67, e187_70, e187_73, e187_74, e187_76, e187_77, e187_78, e187_81, e187_84, e187_85, e187_87, e187_88, e187_89, e187_92, e187_95, e187_96, e187_98, e187_99, e187_101, e187_104, e187_107, e187_108, e187_111, e187_112, e187_113, e187_115, e187_118, e187_121, e187_123, md_g0, md_g1, md_g2, md_g3, md_g4, md_g5, md_g6, md_g7, md_g8, md_g9, md_g10, md_g11, md_g12, md_g13, md_g14, md_g15, md_g16, md_g17, md_g18, md_p3, md_p5, md_p7, md_p8, md_p9, md_p11, md_p13, md_p15, md_l0, md_l1, md_l2, md_l3, md_l4, md_l5, md_l6, md_l7, md_l8, md_l9, md_l10, md_s0, md_s1, md_s2, md_s3, md_s4, md_s5, md_s6, md_s7, md_s8, md_s9, md_s10, md_is, Option.bind_some, Option.toList_some, Option.toList_none, List.cons_append, List.nil_append, true_or, or_true, and_true, true_and, i10, Bool.false_eq_true, if_true, if_false, reduceIte, h0, nI_lep (show σ.1 < 2147483648 by omega) (show k < 2147483648 by omega), hlt, nI_1, a1, a2, a3, a4, Bool.and_self]
          · rw [bI_f q4] at a4
            rw [decide_eq_false q4]
            simp only [e187_0, e187_1, e187_2, e187_4, e187_7, e187_10, e187_11, e187_12, e187_14, e187_17, e187_20, e187_21, e187_22, e187_24, e187_27, e187_30, e187_32, e187_33, e187_35, e187_38, e187_41, e187_42, e187_43, e187_44, e187_46, e187_47, e187_51, e187_52, e187_55, e187_56, e187_57, e187_60, e187_62, e187_63, e187_65, e187_66, e187_67, e187_70, e187_73, e187_74, e187_76, e187_77, e187_78, e187_81, e187_84, e187_85, e187_87, e187_88, e187_89, e187_92, e187_95, e187_96, e187_98, e187_99, e187_101, e187_104, e187_107, e187_108, e187_111, e187_112, e187_113, e187_115, e187_118, e187_121, e187_123, md_g0, md_g1, md_g2, md_g3, md_g4, md_g5, md_g6, md_g7, md_g8, md_g9, md_g10, md_g11, md_g12, md_g13, md_g14, md_g15, md_g16, md_g17, md_g18, md_p3, md_p5, md_p7, md_p8, md_p9, md_p11, md_p13, md_p15, md_l0, md_l1, md_l2, md_l3, md_l4, md_l5, md_l6, md_l7, md_l8, md_l9, md_l10, md_s0, md_s1, md_s2, md_s3, md_s4, md_s5, md_s6, md_s7, md_s8, md_s9, md_s10, md_is, Option.bind_some, Option.toList_some, Option.toList_none, List.cons_append, List.nil_append, true_or, or_true, and_true, true_and, i10, Bool.false_eq_true, if_true, if_false, reduceIte, h0, nI_lep (show σ.1 < 2147483648 by omega) (show k < 2147483648 by omega), hlt, nI_1, a1, a2, a3, a4, Bool.and_false, Int32.add_zero, Nat.add_zero]
        · rw [bI_f q3] at a3
          rw [decide_eq_false q3]
          simp only [e187_0, e187_1, e187_2, e187_4, e187_7, e187_10, e187_11, e187_12, e187_14, e187_17, e187_20, e187_21, e187_22, e187_24, e187_27, e187_30, e187_32, e187_33, e187_35, e187_38, e187_41, e187_42, e187_43, e187_44, e187_46, e187_47, e187_51, e187_52, e187_55, e187_56, e187_57, e187_60, e187_62, e187_63, e187_65, e187_66, e187_67, e187_70, e187_73, e187_74, e187_76, e187_77, e187_78, e187_81, e187_84, e187_85, e187_87, e187_88, e187_89, e187_92, e187_95, e187_96, e187_98, e187_99, e187_101, e187_104, e187_107, e187_108, e187_111, e187_112, e187_113, e187_115, e187_118, e187_121, e187_123, md_g0, md_g1, md_g2, md_g3, md_g4, md_g5, md_g6, md_g7, md_g8, md_g9, md_g10, md_g11, md_g12, md_g13, md_g14, md_g15, md_g16, md_g17, md_g18, md_p3, md_p5, md_p7, md_p8, md_p9, md_p11, md_p13, md_p15, md_l0, md_l1, md_l2, md_l3, md_l4, md_l5, md_l6, md_l7, md_l8, md_l9, md_l10, md_s0, md_s1, md_s2, md_s3, md_s4, md_s5, md_s6, md_s7, md_s8, md_s9, md_s10, md_is, Option.bind_some, Option.toList_some, Option.toList_none, List.cons_append, List.nil_append, true_or, or_true, and_true, true_and, i10, Bool.false_eq_true, if_true, if_false, reduceIte, h0, nI_lep (show σ.1 < 2147483648 by omega) (show k < 2147483648 by omega), hlt, nI_1, a1, a2, a3, Bool.and_false, Bool.false_and, Int32.add_zero, Nat.add_zero]
      · rw [bI_f q2] at a2
        rw [decide_eq_false q2]
        simp only [e187_0, e187_1, e187_2, e187_4, e187_7, e187_10, e187_11, e187_12, e187_14, e187_17, e187_20, e187_21, e187_22, e187_24, e187_27, e187_30, e187_32, e187_33, e187_35, e187_38, e187_41, e187_42, e187_43, e187_44, e187_46, e187_47, e187_51, e187_52, e187_55, e187_56, e187_57, e187_60, e187_62, e187_63, e187_65, e187_66, e187_67, e187_70, e187_73, e187_74, e187_76, e187_77, e187_78, e187_81, e187_84, e187_85, e187_87, e187_88, e187_89, e187_92, e187_95, e187_96, e187_98, e187_99, e187_101, e187_104, e187_107, e187_108, e187_111, e187_112, e187_113, e187_115, e187_118, e187_121, e187_123, md_g0, md_g1, md_g2, md_g3, md_g4, md_g5, md_g6, md_g7, md_g8, md_g9, md_g10, md_g11, md_g12, md_g13, md_g14, md_g15, md_g16, md_g17, md_g18, md_p3, md_p5, md_p7, md_p8, md_p9, md_p11, md_p13, md_p15, md_l0, md_l1, md_l2, md_l3, md_l4, md_l5, md_l6, md_l7, md_l8, md_l9, md_l10, md_s0, md_s1, md_s2, md_s3, md_s4, md_s5, md_s6, md_s7, md_s8, md_s9, md_s10, md_is, Option.bind_some, Option.toList_some, Option.toList_none, List.cons_append, List.nil_append, true_or, or_true, and_true, true_and, i10, Bool.false_eq_true, if_true, if_false, reduceIte, h0, nI_lep (show σ.1 < 2147483648 by omega) (show k < 2147483648 by omega), hlt, nI_1, a1, a2, Bool.and_false, Bool.false_and, Int32.add_zero, Nat.add_zero]
    · rw [bI_f q1] at a1
      rw [decide_eq_false q1]
      simp only [e187_0, e187_1, e187_2, e187_4, e187_7, e187_10, e187_11, e187_12, e187_14, e187_17, e187_20, e187_21, e187_22, e187_24, e187_27, e187_30, e187_32, e187_33, e187_35, e187_38, e187_41, e187_42, e187_43, e187_44, e187_46, e187_47, e187_51, e187_52, e187_55, e187_56, e187_57, e187_60, e187_62, e187_63, e187_65, e187_66, e187_67, e187_70, e187_73, e187_74, e187_76, e187_77, e187_78, e187_81, e187_84, e187_85, e187_87, e187_88, e187_89, e187_92, e187_95, e187_96, e187_98, e187_99, e187_101, e187_104, e187_107, e187_108, e187_111, e187_112, e187_113, e187_115, e187_118, e187_121, e187_123, md_g0, md_g1, md_g2, md_g3, md_g4, md_g5, md_g6, md_g7, md_g8, md_g9, md_g10, md_g11, md_g12, md_g13, md_g14, md_g15, md_g16, md_g17, md_g18, md_p3, md_p5, md_p7, md_p8, md_p9, md_p11, md_p13, md_p15, md_l0, md_l1, md_l2, md_l3, md_l4, md_l5, md_l6, md_l7, md_l8, md_l9, md_l10, md_s0, md_s1, md_s2, md_s3, md_s4, md_s5, md_s6, md_s7, md_s8, md_s9, md_s10, md_is, Option.bind_some, Option.toList_some, Option.toList_none, List.cons_append, List.nil_append, true_or, or_true, and_true, true_and, i10, Bool.false_eq_true, if_true, if_false, reduceIte, h0, nI_lep (show σ.1 < 2147483648 by omega) (show k < 2147483648 by omega), hlt, nI_1, a1, Bool.false_and, Int32.add_zero, Nat.add_zero]
  have fin : ∀ s : Nat, ev (d + 6) 187 49 [some (.ref i), some (.int x1), some (.int x2), some (.int x3), some (.int x4), some (.int (nI s)), some (.int (nI σ.1))] [] (hmd h i M) = some (some (.int (nI s)), hmd h i M) := by
    intro s
    rw [e187_49]
    simp only [e187_0, e187_1, e187_2, e187_4, e187_7, e187_10, e187_11, e187_12, e187_14, e187_17, e187_20, e187_21, e187_22, e187_24, e187_27, e187_30, e187_32, e187_33, e187_35, e187_38, e187_41, e187_42, e187_43, e187_44, e187_46, e187_47, e187_51, e187_52, e187_55, e187_56, e187_57, e187_60, e187_62, e187_63, e187_65, e187_66, e187_67, e187_70, e187_73, e187_74, e187_76, e187_77, e187_78, e187_81, e187_84, e187_85, e187_87, e187_88, e187_89, e187_92, e187_95, e187_96, e187_98, e187_99, e187_101, e187_104, e187_107, e187_108, e187_111, e187_112, e187_113, e187_115, e187_118, e187_121, e187_123, md_g0, md_g1, md_g2, md_g3, md_g4, md_g5, md_g6, md_g7, md_g8, md_g9, md_g10, md_g11, md_g12, md_g13, md_g14, md_g15, md_g16, md_g17, md_g18, md_p3, md_p5, md_p7, md_p8, md_p9, md_p11, md_p13, md_p15, md_l0, md_l1, md_l2, md_l3, md_l4, md_l5, md_l6, md_l7, md_l8, md_l9, md_l10, md_s0, md_s1, md_s2, md_s3, md_s4, md_s5, md_s6, md_s7, md_s8, md_s9, md_s10, md_is, Option.bind_some, Option.toList_some, Option.toList_none, List.cons_append, List.nil_append, true_or, or_true, and_true, true_and, i10, Bool.false_eq_true, if_true, if_false, reduceIte, h0, Int32.le_refl]
  have main := z_for (fun (k : Nat) (s : Nat) => ev (d + 6) 187 49 [some (.ref i), some (.int x1), some (.int x2), some (.int x3), some (.int x4), some (.int (nI s)), some (.int (nI k))] [] (hmd h i M)) (fun (k : Nat) (s : Nat) => s + if alk σ x1 x2 x3 x4 k then 1 else 0) (n := σ.1) (s := 0) (fun k s hk => step k s hk)
  rw [zfold_ct, Nat.zero_add, fin] at main
  obtain ⟨w1, w2, w3, w4⟩ := hz
  unfold wnt at w1 w2 w3 w4
  simp only [e187_0, e187_1, e187_2, e187_4, e187_7, e187_10, e187_11, e187_12, e187_14, e187_17, e187_20, e187_21, e187_22, e187_24, e187_27, e187_30, e187_32, e187_33, e187_35, e187_38, e187_41, e187_42, e187_43, e187_44, e187_46, e187_47, e187_51, e187_52, e187_55, e187_56, e187_57, e187_60, e187_62, e187_63, e187_65, e187_66, e187_67, e187_70, e187_73, e187_74, e187_76, e187_77, e187_78, e187_81, e187_84, e187_85, e187_87, e187_88, e187_89, e187_92, e187_95, e187_96, e187_98, e187_99, e187_101, e187_104, e187_107, e187_108, e187_111, e187_112, e187_113, e187_115, e187_118, e187_121, e187_123, md_g0, md_g1, md_g2, md_g3, md_g4, md_g5, md_g6, md_g7, md_g8, md_g9, md_g10, md_g11, md_g12, md_g13, md_g14, md_g15, md_g16, md_g17, md_g18, md_p3, md_p5, md_p7, md_p8, md_p9, md_p11, md_p13, md_p15, md_l0, md_l1, md_l2, md_l3, md_l4, md_l5, md_l6, md_l7, md_l8, md_l9, md_l10, md_s0, md_s1, md_s2, md_s3, md_s4, md_s5, md_s6, md_s7, md_s8, md_s9, md_s10, md_is, Option.bind_some, Option.toList_some, Option.toList_none, List.cons_append, List.nil_append, true_or, or_true, and_true, true_and, i10, Bool.false_eq_true, if_true, if_false, reduceIte, m_in, bI_t w1, bI_t w2, bI_t w3, bI_t w4]
  exact main
theorem m_crateN (hR : mdR M σ) (hn : σ.1 ≤ 12) (hz : zin x σ.1 = false) : ev (d + 6) 180 0 [some (.ref i), some (.int x), some (.int y)] [] (hmd h i M) = some (some (.int (-1)), hmd h i M) := by
  simp only [e180_0, e180_1, e180_2, e180_5, e180_8, e180_9, md_g0, md_g1, md_g2, md_g3, md_g4, md_g5, md_g6, md_g7, md_g8, md_g9, md_g10, md_g11, md_g12, md_g13, md_g14, md_g15, md_g16, md_g17, md_g18, md_p3, md_p5, md_p7, md_p8, md_p9, md_p11, md_p13, md_p15, md_l0, md_l1, md_l2, md_l3, md_l4, md_l5, md_l6, md_l7, md_l8, md_l9, md_l10, md_s0, md_s1, md_s2, md_s3, md_s4, md_s5, md_s6, md_s7, md_s8, md_s9, md_s10, md_is, Option.bind_some, Option.toList_some, Option.toList_none, List.cons_append, List.nil_append, true_or, or_true, and_true, true_and, i10, Bool.false_eq_true, if_true, if_false, reduceIte, m_isC0 hR hn hz]
theorem m_crateD (hR : mdR M σ) (hn : σ.1 ≤ 12) (hc : c < σ.1) (hz : ¬ (0 ≤ y ∧ y ≤ nI 14)) : ev (d + 6) 180 0 [some (.ref i), some (.int (nI c)), some (.int y)] [] (hmd h i M) = some (some (.int (-1)), hmd h i M) := by
  simp only [e180_0, e180_1, e180_2, e180_5, e180_10, e180_11d (swd (b := 14) (by decide) hz), e180_186, e180_187, md_g0, md_g1, md_g2, md_g3, md_g4, md_g5, md_g6, md_g7, md_g8, md_g9, md_g10, md_g11, md_g12, md_g13, md_g14, md_g15, md_g16, md_g17, md_g18, md_p3, md_p5, md_p7, md_p8, md_p9, md_p11, md_p13, md_p15, md_l0, md_l1, md_l2, md_l3, md_l4, md_l5, md_l6, md_l7, md_l8, md_l9, md_l10, md_s0, md_s1, md_s2, md_s3, md_s4, md_s5, md_s6, md_s7, md_s8, md_s9, md_s10, md_is, Option.bind_some, Option.toList_some, Option.toList_none, List.cons_append, List.nil_append, true_or, or_true, and_true, true_and, i10, Bool.false_eq_true, if_true, if_false, reduceIte, m_isC1 hR hn hc]
theorem m_crateW (hR : mdR M σ) (hw : wf σ) (hc : c < σ.1) {q : Nat} (hq : q ≤ 14) : ev (d + 6) 180 0 [some (.ref i), some (.int (nI c)), some (.int (nI q))] [] (hmd h i M) = some (some (.int (crv σ c q)), hmd h i M) := by
  rcases to14 hq with z | z | z | z | z | z | z | z | z | z | z | z | z | z | z <;> subst z
  · exact m_crate0 hR hw hc
  · exact m_crate1 hR hw hc
  · exact m_crate2 hR hw hc
  · exact m_crate3 hR hw hc
  · exact m_crate4 hR hw hc
  · exact m_crate5 hR hw hc
  · exact m_crate6 hR hw hc
  · exact m_crate7 hR hw hc
  · exact m_crate8 hR hw hc
  · exact m_crate9 hR hw hc
  · exact m_crate10 hR hw hc
  · exact m_crate11 hR hw hc
  · exact m_crate12 hR hw hc
  · exact m_crate13 hR hw hc
  · exact m_crate14 hR hw hc
theorem m_sum0 (hR : mdR M σ) (hw : wf σ) : ev (d + 7) 192 0 [some (.ref i), some (.int 0), none, none] [] (hmd h i M) = some (some (.int (nI (sm (fun c => σ.2 c 0) σ.1))), hmd h i M) := by
  rw [m_sum hR hw.bnd (fun k hk => m_crate0 hR hw hk), ← sI_nI]
  rfl
theorem m_sum1 (hR : mdR M σ) (hw : wf σ) : ev (d + 7) 192 0 [some (.ref i), some (.int 1), none, none] [] (hmd h i M) = some (some (.int (nI (rms σ))), hmd h i M) := by
  unfold rms
  rw [m_sum hR hw.bnd (fun k hk => m_crate1 hR hw hk), ← sI_nI]
  rfl
theorem m_sum3 (hR : mdR M σ) (hw : wf σ) : ev (d + 7) 192 0 [some (.ref i), some (.int 3), none, none] [] (hmd h i M) = some (some (.int (nI (sm (lts σ) σ.1))), hmd h i M) := by
  rw [m_sum hR hw.bnd (fun k hk => m_crate3 hR hw hk), ← sI_nI]
  rfl
theorem m_sum8 (hR : mdR M σ) (hw : wf σ) : ev (d + 7) 192 0 [some (.ref i), some (.int 8), none, none] [] (hmd h i M) = some (some (.int (iI ((rms σ : Int) - (lyg σ : Int)))), hmd h i M) := by
  rw [m_sum hR hw.bnd (fun k hk => m_crate8 hR hw hk), ← lft_sum hw.bnd, ← sI_iI]
  rfl
theorem m_sum10 (hR : mdR M σ) (hw : wf σ) : ev (d + 7) 192 0 [some (.ref i), some (.int 10), none, none] [] (hmd h i M) = some (some (.int (iI (si (eft σ) σ.1))), hmd h i M) := by
  rw [m_sum hR hw.bnd (fun k hk => m_crate10 hR hw hk), ← sI_iI]
  rfl
theorem m_sum11 (hR : mdR M σ) (hw : wf σ) : ev (d + 7) 192 0 [some (.ref i), some (.int 11), none, none] [] (hmd h i M) = some (some (.int (nI (ct (tld σ) σ.1))), hmd h i M) := by
  rw [m_sum hR hw.bnd (fun k hk => m_crate11 hR hw hk), ← sI_bI]
  rfl
theorem m_sum12 (hR : mdR M σ) (hw : wf σ) : ev (d + 7) 192 0 [some (.ref i), some (.int 12), none, none] [] (hmd h i M) = some (some (.int (nI (sm (lsn σ) σ.1))), hmd h i M) := by
  rw [m_sum hR hw.bnd (fun k hk => m_crate12 hR hw hk), ← sI_nI]
  rfl
theorem m_countD (hz : ¬ (0 ≤ y ∧ y ≤ nI 14)) : ev (d + 8) 196 0 [some (.ref i), some (.int y)] [] (hmd h i M) = some (some (.int (-1)), hmd h i M) := by
  simp only [e196_0, e196_1d (swd (b := 14) (by decide) hz), e196_170, e196_171]
theorem m_count (hS : mSt M σ r e len) (hw : wf σ) (hP : pmR M w m) {q : Nat} (hq : q ≤ 14) : ∃ ρ, ev (d + 8) 196 0 [some (.ref i), some (.int (nI q))] [] (hmd h i M) = some (some (.int (cnv σ r m len q)), hmd h i (setR M 10 ρ)) := by
  have hR := mrw_R hS.1
  have hb := hw.bnd
  have h0 := m_n hR
  have z1 : zrd 110 (M.1 0) 1 = some r := by
    rw [show zrd 110 (M.1 0) 1 = zrd 110 (M.1 0) (nI 1) from rfl, zrd_nI (by decide) (by decide)]
    exact congrArg some hS.1.2.1
  have hk : M.2 0 = nI len := hS.2.1
  have b0 : bI (false = true) = 0 := rfl
  have b1 : bI (true = true) = 1 := rfl
  have og0 := m_onGround (d := d + 3) (h := h) (i := i) (b := false) hR hw
  have og1 := m_onGround (d := d + 3) (h := h) (i := i) (b := true) hR hw
  rw [b0] at og0
  rw [b1] at og1
  have eg0 : ct (fun c => decide (σ.2 c 7 = 0) && (!false || lse σ c)) σ.1 = ct (fun c => decide (σ.2 c 7 = 0)) σ.1 := ct_cong (fun c _ => by simp)
  have eg1 : ct (fun c => decide (σ.2 c 7 = 0) && (!true || lse σ c)) σ.1 = ct (lse σ) σ.1 := ct_cong (fun c _ => by
    unfold lse
    cases decide (σ.2 c 7 = 0) <;> rfl)
  rw [eg0] at og0
  rw [eg1] at og1
  have t1 : ((1 : Int32) = 2) = False := by decide
  rcases to14 hq with z | z | z | z | z | z | z | z | z | z | z | z | z | z | z <;> subst z
  · refine ⟨M.1 10, ?_⟩
    rw [setR_self, show nI 0 = 0 from rfl]
    simp only [e196_0, e196_1c0, e196_1c0, e196_1c1, e196_1c2, e196_1c3, e196_1c4, e196_1c5, e196_1c6, e196_1c7, e196_1c8, e196_1c9, e196_1c10, e196_1c11, e196_1c12, e196_1c13, e196_1c14, e196_1d, e196_76, e196_77, e196_80, e196_81, e196_82, e196_83, e196_84, e196_85, e196_86, e196_89, e196_90, e196_93, e196_94, e196_97, e196_98, e196_99, e196_102, e196_103, e196_104, e196_105, e196_108, e196_109, e196_110, e196_112, e196_115, e196_116, e196_117, e196_119, e196_122, e196_123, e196_124, e196_125, e196_128, e196_129, e196_130, e196_132, e196_135, e196_136, e196_137, e196_140, e196_141, e196_142, e196_145, e196_146, e196_147, e196_149, e196_152, e196_153, e196_154, e196_157, e196_158, e196_159, e196_160, e196_161, e196_164, e196_165, e196_166, e196_169, e196_170, e196_171, md_g0, md_g1, md_g2, md_g3, md_g4, md_g5, md_g6, md_g7, md_g8, md_g9, md_g10, md_g11, md_g12, md_g13, md_g14, md_g15, md_g16, md_g17, md_g18, md_p3, md_p5, md_p7, md_p8, md_p9, md_p11, md_p13, md_p15, md_l0, md_l1, md_l2, md_l3, md_l4, md_l5, md_l6, md_l7, md_l8, md_l9, md_l10, md_s0, md_s1, md_s2, md_s3, md_s4, md_s5, md_s6, md_s7, md_s8, md_s9, md_s10, md_is, Option.bind_some, Option.toList_some, Option.toList_none, List.cons_append, List.nil_append, true_or, or_true, and_true, true_and, i10, Bool.false_eq_true, if_true, if_false, reduceIte, h0]
    rfl
  · refine ⟨M.1 10, ?_⟩
    rw [setR_self, show nI 1 = 1 from rfl]
    simp only [e196_0, e196_1c1, e196_1c0, e196_1c1, e196_1c2, e196_1c3, e196_1c4, e196_1c5, e196_1c6, e196_1c7, e196_1c8, e196_1c9, e196_1c10, e196_1c11, e196_1c12, e196_1c13, e196_1c14, e196_1d, e196_76, e196_77, e196_80, e196_81, e196_82, e196_83, e196_84, e196_85, e196_86, e196_89, e196_90, e196_93, e196_94, e196_97, e196_98, e196_99, e196_102, e196_103, e196_104, e196_105, e196_108, e196_109, e196_110, e196_112, e196_115, e196_116, e196_117, e196_119, e196_122, e196_123, e196_124, e196_125, e196_128, e196_129, e196_130, e196_132, e196_135, e196_136, e196_137, e196_140, e196_141, e196_142, e196_145, e196_146, e196_147, e196_149, e196_152, e196_153, e196_154, e196_157, e196_158, e196_159, e196_160, e196_161, e196_164, e196_165, e196_166, e196_169, e196_170, e196_171, md_g0, md_g1, md_g2, md_g3, md_g4, md_g5, md_g6, md_g7, md_g8, md_g9, md_g10, md_g11, md_g12, md_g13, md_g14, md_g15, md_g16, md_g17, md_g18, md_p3, md_p5, md_p7, md_p8, md_p9, md_p11, md_p13, md_p15, md_l0, md_l1, md_l2, md_l3, md_l4, md_l5, md_l6, md_l7, md_l8, md_l9, md_l10, md_s0, md_s1, md_s2, md_s3, md_s4, md_s5, md_s6, md_s7, md_s8, md_s9, md_s10, md_is, Option.bind_some, Option.toList_some, Option.toList_none, List.cons_append, List.nil_append, true_or, or_true, and_true, true_and, i10, Bool.false_eq_true, if_true, if_false, reduceIte, t1, og0]
    rfl
  · refine ⟨M.1 10, ?_⟩
    rw [setR_self, show nI 2 = 2 from rfl]
    simp only [e196_0, e196_1c2, e196_1c0, e196_1c1, e196_1c2, e196_1c3, e196_1c4, e196_1c5, e196_1c6, e196_1c7, e196_1c8, e196_1c9, e196_1c10, e196_1c11, e196_1c12, e196_1c13, e196_1c14, e196_1d, e196_76, e196_77, e196_80, e196_81, e196_82, e196_83, e196_84, e196_85, e196_86, e196_89, e196_90, e196_93, e196_94, e196_97, e196_98, e196_99, e196_102, e196_103, e196_104, e196_105, e196_108, e196_109, e196_110, e196_112, e196_115, e196_116, e196_117, e196_119, e196_122, e196_123, e196_124, e196_125, e196_128, e196_129, e196_130, e196_132, e196_135, e196_136, e196_137, e196_140, e196_141, e196_142, e196_145, e196_146, e196_147, e196_149, e196_152, e196_153, e196_154, e196_157, e196_158, e196_159, e196_160, e196_161, e196_164, e196_165, e196_166, e196_169, e196_170, e196_171, md_g0, md_g1, md_g2, md_g3, md_g4, md_g5, md_g6, md_g7, md_g8, md_g9, md_g10, md_g11, md_g12, md_g13, md_g14, md_g15, md_g16, md_g17, md_g18, md_p3, md_p5, md_p7, md_p8, md_p9, md_p11, md_p13, md_p15, md_l0, md_l1, md_l2, md_l3, md_l4, md_l5, md_l6, md_l7, md_l8, md_l9, md_l10, md_s0, md_s1, md_s2, md_s3, md_s4, md_s5, md_s6, md_s7, md_s8, md_s9, md_s10, md_is, Option.bind_some, Option.toList_some, Option.toList_none, List.cons_append, List.nil_append, true_or, or_true, and_true, true_and, i10, Bool.false_eq_true, if_true, if_false, reduceIte, og1]
    rfl
  · refine ⟨M.1 10, ?_⟩
    rw [setR_self, show nI 3 = 3 from rfl]
    simp only [e196_0, e196_1c3, e196_1c0, e196_1c1, e196_1c2, e196_1c3, e196_1c4, e196_1c5, e196_1c6, e196_1c7, e196_1c8, e196_1c9, e196_1c10, e196_1c11, e196_1c12, e196_1c13, e196_1c14, e196_1d, e196_76, e196_77, e196_80, e196_81, e196_82, e196_83, e196_84, e196_85, e196_86, e196_89, e196_90, e196_93, e196_94, e196_97, e196_98, e196_99, e196_102, e196_103, e196_104, e196_105, e196_108, e196_109, e196_110, e196_112, e196_115, e196_116, e196_117, e196_119, e196_122, e196_123, e196_124, e196_125, e196_128, e196_129, e196_130, e196_132, e196_135, e196_136, e196_137, e196_140, e196_141, e196_142, e196_145, e196_146, e196_147, e196_149, e196_152, e196_153, e196_154, e196_157, e196_158, e196_159, e196_160, e196_161, e196_164, e196_165, e196_166, e196_169, e196_170, e196_171, md_g0, md_g1, md_g2, md_g3, md_g4, md_g5, md_g6, md_g7, md_g8, md_g9, md_g10, md_g11, md_g12, md_g13, md_g14, md_g15, md_g16, md_g17, md_g18, md_p3, md_p5, md_p7, md_p8, md_p9, md_p11, md_p13, md_p15, md_l0, md_l1, md_l2, md_l3, md_l4, md_l5, md_l6, md_l7, md_l8, md_l9, md_l10, md_s0, md_s1, md_s2, md_s3, md_s4, md_s5, md_s6, md_s7, md_s8, md_s9, md_s10, md_is, Option.bind_some, Option.toList_some, Option.toList_none, List.cons_append, List.nil_append, true_or, or_true, and_true, true_and, i10, Bool.false_eq_true, if_true, if_false, reduceIte, m_deepest hR hw]
    rfl
  · refine ⟨M.1 10, ?_⟩
    rw [setR_self, show nI 4 = 4 from rfl]
    simp only [e196_0, e196_1c4, e196_1c0, e196_1c1, e196_1c2, e196_1c3, e196_1c4, e196_1c5, e196_1c6, e196_1c7, e196_1c8, e196_1c9, e196_1c10, e196_1c11, e196_1c12, e196_1c13, e196_1c14, e196_1d, e196_76, e196_77, e196_80, e196_81, e196_82, e196_83, e196_84, e196_85, e196_86, e196_89, e196_90, e196_93, e196_94, e196_97, e196_98, e196_99, e196_102, e196_103, e196_104, e196_105, e196_108, e196_109, e196_110, e196_112, e196_115, e196_116, e196_117, e196_119, e196_122, e196_123, e196_124, e196_125, e196_128, e196_129, e196_130, e196_132, e196_135, e196_136, e196_137, e196_140, e196_141, e196_142, e196_145, e196_146, e196_147, e196_149, e196_152, e196_153, e196_154, e196_157, e196_158, e196_159, e196_160, e196_161, e196_164, e196_165, e196_166, e196_169, e196_170, e196_171, md_g0, md_g1, md_g2, md_g3, md_g4, md_g5, md_g6, md_g7, md_g8, md_g9, md_g10, md_g11, md_g12, md_g13, md_g14, md_g15, md_g16, md_g17, md_g18, md_p3, md_p5, md_p7, md_p8, md_p9, md_p11, md_p13, md_p15, md_l0, md_l1, md_l2, md_l3, md_l4, md_l5, md_l6, md_l7, md_l8, md_l9, md_l10, md_s0, md_s1, md_s2, md_s3, md_s4, md_s5, md_s6, md_s7, md_s8, md_s9, md_s10, md_is, Option.bind_some, Option.toList_some, Option.toList_none, List.cons_append, List.nil_append, true_or, or_true, and_true, true_and, i10, Bool.false_eq_true, if_true, if_false, reduceIte, m_sum0 hR hw]
    rfl
  · refine ⟨M.1 10, ?_⟩
    rw [setR_self, show nI 5 = 5 from rfl]
    simp only [e196_0, e196_1c5, e196_1c0, e196_1c1, e196_1c2, e196_1c3, e196_1c4, e196_1c5, e196_1c6, e196_1c7, e196_1c8, e196_1c9, e196_1c10, e196_1c11, e196_1c12, e196_1c13, e196_1c14, e196_1d, e196_76, e196_77, e196_80, e196_81, e196_82, e196_83, e196_84, e196_85, e196_86, e196_89, e196_90, e196_93, e196_94, e196_97, e196_98, e196_99, e196_102, e196_103, e196_104, e196_105, e196_108, e196_109, e196_110, e196_112, e196_115, e196_116, e196_117, e196_119, e196_122, e196_123, e196_124, e196_125, e196_128, e196_129, e196_130, e196_132, e196_135, e196_136, e196_137, e196_140, e196_141, e196_142, e196_145, e196_146, e196_147, e196_149, e196_152, e196_153, e196_154, e196_157, e196_158, e196_159, e196_160, e196_161, e196_164, e196_165, e196_166, e196_169, e196_170, e196_171, md_g0, md_g1, md_g2, md_g3, md_g4, md_g5, md_g6, md_g7, md_g8, md_g9, md_g10, md_g11, md_g12, md_g13, md_g14, md_g15, md_g16, md_g17, md_g18, md_p3, md_p5, md_p7, md_p8, md_p9, md_p11, md_p13, md_p15, md_l0, md_l1, md_l2, md_l3, md_l4, md_l5, md_l6, md_l7, md_l8, md_l9, md_l10, md_s0, md_s1, md_s2, md_s3, md_s4, md_s5, md_s6, md_s7, md_s8, md_s9, md_s10, md_is, Option.bind_some, Option.toList_some, Option.toList_none, List.cons_append, List.nil_append, true_or, or_true, and_true, true_and, i10, Bool.false_eq_true, if_true, if_false, reduceIte, m_sum8 hR hw]
    rfl
  · refine ⟨M.1 10, ?_⟩
    rw [setR_self, show nI 6 = 6 from rfl]
    simp only [e196_0, e196_1c6, e196_1c0, e196_1c1, e196_1c2, e196_1c3, e196_1c4, e196_1c5, e196_1c6, e196_1c7, e196_1c8, e196_1c9, e196_1c10, e196_1c11, e196_1c12, e196_1c13, e196_1c14, e196_1d, e196_76, e196_77, e196_80, e196_81, e196_82, e196_83, e196_84, e196_85, e196_86, e196_89, e196_90, e196_93, e196_94, e196_97, e196_98, e196_99, e196_102, e196_103, e196_104, e196_105, e196_108, e196_109, e196_110, e196_112, e196_115, e196_116, e196_117, e196_119, e196_122, e196_123, e196_124, e196_125, e196_128, e196_129, e196_130, e196_132, e196_135, e196_136, e196_137, e196_140, e196_141, e196_142, e196_145, e196_146, e196_147, e196_149, e196_152, e196_153, e196_154, e196_157, e196_158, e196_159, e196_160, e196_161, e196_164, e196_165, e196_166, e196_169, e196_170, e196_171, md_g0, md_g1, md_g2, md_g3, md_g4, md_g5, md_g6, md_g7, md_g8, md_g9, md_g10, md_g11, md_g12, md_g13, md_g14, md_g15, md_g16, md_g17, md_g18, md_p3, md_p5, md_p7, md_p8, md_p9, md_p11, md_p13, md_p15, md_l0, md_l1, md_l2, md_l3, md_l4, md_l5, md_l6, md_l7, md_l8, md_l9, md_l10, md_s0, md_s1, md_s2, md_s3, md_s4, md_s5, md_s6, md_s7, md_s8, md_s9, md_s10, md_is, Option.bind_some, Option.toList_some, Option.toList_none, List.cons_append, List.nil_append, true_or, or_true, and_true, true_and, i10, Bool.false_eq_true, if_true, if_false, reduceIte, m_sum11 hR hw]
    rfl
  · refine ⟨M.1 10, ?_⟩
    rw [setR_self, show nI 7 = 7 from rfl]
    simp only [e196_0, e196_1c7, e196_1c0, e196_1c1, e196_1c2, e196_1c3, e196_1c4, e196_1c5, e196_1c6, e196_1c7, e196_1c8, e196_1c9, e196_1c10, e196_1c11, e196_1c12, e196_1c13, e196_1c14, e196_1d, e196_76, e196_77, e196_80, e196_81, e196_82, e196_83, e196_84, e196_85, e196_86, e196_89, e196_90, e196_93, e196_94, e196_97, e196_98, e196_99, e196_102, e196_103, e196_104, e196_105, e196_108, e196_109, e196_110, e196_112, e196_115, e196_116, e196_117, e196_119, e196_122, e196_123, e196_124, e196_125, e196_128, e196_129, e196_130, e196_132, e196_135, e196_136, e196_137, e196_140, e196_141, e196_142, e196_145, e196_146, e196_147, e196_149, e196_152, e196_153, e196_154, e196_157, e196_158, e196_159, e196_160, e196_161, e196_164, e196_165, e196_166, e196_169, e196_170, e196_171, md_g0, md_g1, md_g2, md_g3, md_g4, md_g5, md_g6, md_g7, md_g8, md_g9, md_g10, md_g11, md_g12, md_g13, md_g14, md_g15, md_g16, md_g17, md_g18, md_p3, md_p5, md_p7, md_p8, md_p9, md_p11, md_p13, md_p15, md_l0, md_l1, md_l2, md_l3, md_l4, md_l5, md_l6, md_l7, md_l8, md_l9, md_l10, md_s0, md_s1, md_s2, md_s3, md_s4, md_s5, md_s6, md_s7, md_s8, md_s9, md_s10, md_is, Option.bind_some, Option.toList_some, Option.toList_none, List.cons_append, List.nil_append, true_or, or_true, and_true, true_and, i10, Bool.false_eq_true, if_true, if_false, reduceIte, m_sum3 hR hw]
    rfl
  · refine ⟨M.1 10, ?_⟩
    rw [setR_self, show nI 8 = 8 from rfl]
    simp only [e196_0, e196_1c8, e196_1c0, e196_1c1, e196_1c2, e196_1c3, e196_1c4, e196_1c5, e196_1c6, e196_1c7, e196_1c8, e196_1c9, e196_1c10, e196_1c11, e196_1c12, e196_1c13, e196_1c14, e196_1d, e196_76, e196_77, e196_80, e196_81, e196_82, e196_83, e196_84, e196_85, e196_86, e196_89, e196_90, e196_93, e196_94, e196_97, e196_98, e196_99, e196_102, e196_103, e196_104, e196_105, e196_108, e196_109, e196_110, e196_112, e196_115, e196_116, e196_117, e196_119, e196_122, e196_123, e196_124, e196_125, e196_128, e196_129, e196_130, e196_132, e196_135, e196_136, e196_137, e196_140, e196_141, e196_142, e196_145, e196_146, e196_147, e196_149, e196_152, e196_153, e196_154, e196_157, e196_158, e196_159, e196_160, e196_161, e196_164, e196_165, e196_166, e196_169, e196_170, e196_171, md_g0, md_g1, md_g2, md_g3, md_g4, md_g5, md_g6, md_g7, md_g8, md_g9, md_g10, md_g11, md_g12, md_g13, md_g14, md_g15, md_g16, md_g17, md_g18, md_p3, md_p5, md_p7, md_p8, md_p9, md_p11, md_p13, md_p15, md_l0, md_l1, md_l2, md_l3, md_l4, md_l5, md_l6, md_l7, md_l8, md_l9, md_l10, md_s0, md_s1, md_s2, md_s3, md_s4, md_s5, md_s6, md_s7, md_s8, md_s9, md_s10, md_is, Option.bind_some, Option.toList_some, Option.toList_none, List.cons_append, List.nil_append, true_or, or_true, and_true, true_and, i10, Bool.false_eq_true, if_true, if_false, reduceIte, m_sum12 hR hw]
    rfl
  · refine ⟨M.1 10, ?_⟩
    rw [setR_self, show nI 9 = 9 from rfl]
    simp only [e196_0, e196_1c9, e196_1c0, e196_1c1, e196_1c2, e196_1c3, e196_1c4, e196_1c5, e196_1c6, e196_1c7, e196_1c8, e196_1c9, e196_1c10, e196_1c11, e196_1c12, e196_1c13, e196_1c14, e196_1d, e196_76, e196_77, e196_80, e196_81, e196_82, e196_83, e196_84, e196_85, e196_86, e196_89, e196_90, e196_93, e196_94, e196_97, e196_98, e196_99, e196_102, e196_103, e196_104, e196_105, e196_108, e196_109, e196_110, e196_112, e196_115, e196_116, e196_117, e196_119, e196_122, e196_123, e196_124, e196_125, e196_128, e196_129, e196_130, e196_132, e196_135, e196_136, e196_137, e196_140, e196_141, e196_142, e196_145, e196_146, e196_147, e196_149, e196_152, e196_153, e196_154, e196_157, e196_158, e196_159, e196_160, e196_161, e196_164, e196_165, e196_166, e196_169, e196_170, e196_171, md_g0, md_g1, md_g2, md_g3, md_g4, md_g5, md_g6, md_g7, md_g8, md_g9, md_g10, md_g11, md_g12, md_g13, md_g14, md_g15, md_g16, md_g17, md_g18, md_p3, md_p5, md_p7, md_p8, md_p9, md_p11, md_p13, md_p15, md_l0, md_l1, md_l2, md_l3, md_l4, md_l5, md_l6, md_l7, md_l8, md_l9, md_l10, md_s0, md_s1, md_s2, md_s3, md_s4, md_s5, md_s6, md_s7, md_s8, md_s9, md_s10, md_is, Option.bind_some, Option.toList_some, Option.toList_none, List.cons_append, List.nil_append, true_or, or_true, and_true, true_and, i10, Bool.false_eq_true, if_true, if_false, reduceIte, m_rowsSeen hR hb (fun x hx => hw.ends hx)]
    rfl
  · obtain ⟨ρ, -, a2⟩ := m_longestNest (d := d + 2) (h := h) (i := i) hR hw
    refine ⟨ρ, ?_⟩
    rw [show nI 10 = 10 from rfl]
    simp only [e196_0, e196_1c10, e196_1c0, e196_1c1, e196_1c2, e196_1c3, e196_1c4, e196_1c5, e196_1c6, e196_1c7, e196_1c8, e196_1c9, e196_1c10, e196_1c11, e196_1c12, e196_1c13, e196_1c14, e196_1d, e196_76, e196_77, e196_80, e196_81, e196_82, e196_83, e196_84, e196_85, e196_86, e196_89, e196_90, e196_93, e196_94, e196_97, e196_98, e196_99, e196_102, e196_103, e196_104, e196_105, e196_108, e196_109, e196_110, e196_112, e196_115, e196_116, e196_117, e196_119, e196_122, e196_123, e196_124, e196_125, e196_128, e196_129, e196_130, e196_132, e196_135, e196_136, e196_137, e196_140, e196_141, e196_142, e196_145, e196_146, e196_147, e196_149, e196_152, e196_153, e196_154, e196_157, e196_158, e196_159, e196_160, e196_161, e196_164, e196_165, e196_166, e196_169, e196_170, e196_171, md_g0, md_g1, md_g2, md_g3, md_g4, md_g5, md_g6, md_g7, md_g8, md_g9, md_g10, md_g11, md_g12, md_g13, md_g14, md_g15, md_g16, md_g17, md_g18, md_p3, md_p5, md_p7, md_p8, md_p9, md_p11, md_p13, md_p15, md_l0, md_l1, md_l2, md_l3, md_l4, md_l5, md_l6, md_l7, md_l8, md_l9, md_l10, md_s0, md_s1, md_s2, md_s3, md_s4, md_s5, md_s6, md_s7, md_s8, md_s9, md_s10, md_is, Option.bind_some, Option.toList_some, Option.toList_none, List.cons_append, List.nil_append, true_or, or_true, and_true, true_and, i10, Bool.false_eq_true, if_true, if_false, reduceIte, a2]
    rfl
  · refine ⟨M.1 10, ?_⟩
    rw [setR_self, show nI 11 = 11 from rfl]
    simp only [e196_0, e196_1c11, e196_1c0, e196_1c1, e196_1c2, e196_1c3, e196_1c4, e196_1c5, e196_1c6, e196_1c7, e196_1c8, e196_1c9, e196_1c10, e196_1c11, e196_1c12, e196_1c13, e196_1c14, e196_1d, e196_76, e196_77, e196_80, e196_81, e196_82, e196_83, e196_84, e196_85, e196_86, e196_89, e196_90, e196_93, e196_94, e196_97, e196_98, e196_99, e196_102, e196_103, e196_104, e196_105, e196_108, e196_109, e196_110, e196_112, e196_115, e196_116, e196_117, e196_119, e196_122, e196_123, e196_124, e196_125, e196_128, e196_129, e196_130, e196_132, e196_135, e196_136, e196_137, e196_140, e196_141, e196_142, e196_145, e196_146, e196_147, e196_149, e196_152, e196_153, e196_154, e196_157, e196_158, e196_159, e196_160, e196_161, e196_164, e196_165, e196_166, e196_169, e196_170, e196_171, md_g0, md_g1, md_g2, md_g3, md_g4, md_g5, md_g6, md_g7, md_g8, md_g9, md_g10, md_g11, md_g12, md_g13, md_g14, md_g15, md_g16, md_g17, md_g18, md_p3, md_p5, md_p7, md_p8, md_p9, md_p11, md_p13, md_p15, md_l0, md_l1, md_l2, md_l3, md_l4, md_l5, md_l6, md_l7, md_l8, md_l9, md_l10, md_s0, md_s1, md_s2, md_s3, md_s4, md_s5, md_s6, md_s7, md_s8, md_s9, md_s10, md_is, Option.bind_some, Option.toList_some, Option.toList_none, List.cons_append, List.nil_append, true_or, or_true, and_true, true_and, i10, Bool.false_eq_true, if_true, if_false, reduceIte, m_sum10 hR hw]
    rfl
  · refine ⟨M.1 10, ?_⟩
    rw [setR_self, show nI 12 = 12 from rfl]
    simp only [e196_0, e196_1c12, e196_1c0, e196_1c1, e196_1c2, e196_1c3, e196_1c4, e196_1c5, e196_1c6, e196_1c7, e196_1c8, e196_1c9, e196_1c10, e196_1c11, e196_1c12, e196_1c13, e196_1c14, e196_1d, e196_76, e196_77, e196_80, e196_81, e196_82, e196_83, e196_84, e196_85, e196_86, e196_89, e196_90, e196_93, e196_94, e196_97, e196_98, e196_99, e196_102, e196_103, e196_104, e196_105, e196_108, e196_109, e196_110, e196_112, e196_115, e196_116, e196_117, e196_119, e196_122, e196_123, e196_124, e196_125, e196_128, e196_129, e196_130, e196_132, e196_135, e196_136, e196_137, e196_140, e196_141, e196_142, e196_145, e196_146, e196_147, e196_149, e196_152, e196_153, e196_154, e196_157, e196_158, e196_159, e196_160, e196_161, e196_164, e196_165, e196_166, e196_169, e196_170, e196_171, md_g0, md_g1, md_g2, md_g3, md_g4, md_g5, md_g6, md_g7, md_g8, md_g9, md_g10, md_g11, md_g12, md_g13, md_g14, md_g15, md_g16, md_g17, md_g18, md_p3, md_p5, md_p7, md_p8, md_p9, md_p11, md_p13, md_p15, md_l0, md_l1, md_l2, md_l3, md_l4, md_l5, md_l6, md_l7, md_l8, md_l9, md_l10, md_s0, md_s1, md_s2, md_s3, md_s4, md_s5, md_s6, md_s7, md_s8, md_s9, md_s10, md_is, Option.bind_some, Option.toList_some, Option.toList_none, List.cons_append, List.nil_append, true_or, or_true, and_true, true_and, i10, Bool.false_eq_true, if_true, if_false, reduceIte, z1]
    rfl
  · refine ⟨M.1 10, ?_⟩
    rw [setR_self, show nI 13 = 13 from rfl]
    simp only [e196_0, e196_1c13, e196_1c0, e196_1c1, e196_1c2, e196_1c3, e196_1c4, e196_1c5, e196_1c6, e196_1c7, e196_1c8, e196_1c9, e196_1c10, e196_1c11, e196_1c12, e196_1c13, e196_1c14, e196_1d, e196_76, e196_77, e196_80, e196_81, e196_82, e196_83, e196_84, e196_85, e196_86, e196_89, e196_90, e196_93, e196_94, e196_97, e196_98, e196_99, e196_102, e196_103, e196_104, e196_105, e196_108, e196_109, e196_110, e196_112, e196_115, e196_116, e196_117, e196_119, e196_122, e196_123, e196_124, e196_125, e196_128, e196_129, e196_130, e196_132, e196_135, e196_136, e196_137, e196_140, e196_141, e196_142, e196_145, e196_146, e196_147, e196_149, e196_152, e196_153, e196_154, e196_157, e196_158, e196_159, e196_160, e196_161, e196_164, e196_165, e196_166, e196_169, e196_170, e196_171, md_g0, md_g1, md_g2, md_g3, md_g4, md_g5, md_g6, md_g7, md_g8, md_g9, md_g10, md_g11, md_g12, md_g13, md_g14, md_g15, md_g16, md_g17, md_g18, md_p3, md_p5, md_p7, md_p8, md_p9, md_p11, md_p13, md_p15, md_l0, md_l1, md_l2, md_l3, md_l4, md_l5, md_l6, md_l7, md_l8, md_l9, md_l10, md_s0, md_s1, md_s2, md_s3, md_s4, md_s5, md_s6, md_s7, md_s8, md_s9, md_s10, md_is, Option.bind_some, Option.toList_some, Option.toList_none, List.cons_append, List.nil_append, true_or, or_true, and_true, true_and, i10, Bool.false_eq_true, if_true, if_false, reduceIte, hP.1]
    rfl
  · refine ⟨M.1 10, ?_⟩
    rw [setR_self, show nI 14 = 14 from rfl]
    simp only [e196_0, e196_1c14, e196_1c0, e196_1c1, e196_1c2, e196_1c3, e196_1c4, e196_1c5, e196_1c6, e196_1c7, e196_1c8, e196_1c9, e196_1c10, e196_1c11, e196_1c12, e196_1c13, e196_1c14, e196_1d, e196_76, e196_77, e196_80, e196_81, e196_82, e196_83, e196_84, e196_85, e196_86, e196_89, e196_90, e196_93, e196_94, e196_97, e196_98, e196_99, e196_102, e196_103, e196_104, e196_105, e196_108, e196_109, e196_110, e196_112, e196_115, e196_116, e196_117, e196_119, e196_122, e196_123, e196_124, e196_125, e196_128, e196_129, e196_130, e196_132, e196_135, e196_136, e196_137, e196_140, e196_141, e196_142, e196_145, e196_146, e196_147, e196_149, e196_152, e196_153, e196_154, e196_157, e196_158, e196_159, e196_160, e196_161, e196_164, e196_165, e196_166, e196_169, e196_170, e196_171, md_g0, md_g1, md_g2, md_g3, md_g4, md_g5, md_g6, md_g7, md_g8, md_g9, md_g10, md_g11, md_g12, md_g13, md_g14, md_g15, md_g16, md_g17, md_g18, md_p3, md_p5, md_p7, md_p8, md_p9, md_p11, md_p13, md_p15, md_l0, md_l1, md_l2, md_l3, md_l4, md_l5, md_l6, md_l7, md_l8, md_l9, md_l10, md_s0, md_s1, md_s2, md_s3, md_s4, md_s5, md_s6, md_s7, md_s8, md_s9, md_s10, md_is, Option.bind_some, Option.toList_some, Option.toList_none, List.cons_append, List.nil_append, true_or, or_true, and_true, true_and, i10, Bool.false_eq_true, if_true, if_false, reduceIte, hk]
    rfl
theorem m_full (hR : mdR M σ) (hw : wf σ) : ev (d + 8) 197 0 [some (.ref i), none] [] (hmd h i M) = some (some (.double (ful σ)), hmd h i M) := by
  have hb := hw.bnd
  have b1 := rms_b hb
  have b2 := lyg_b hb
  have e1 : (nI (rms σ) = 0) = (rms σ = 0) := nI_eqp (b := 0) (by omega) (by omega)
  have e2 : nI (rms σ) - iI ((rms σ : Int) - (lyg σ : Int)) = nI (lyg σ) := by
    rw [iI_nat, iI_nat, iI_sub]
    congr 1
    omega
  unfold ful
  by_cases q : rms σ = 0
  · rw [if_pos q]
    simp only [e197_0, e197_1, e197_2, e197_5, e197_6, e197_7, e197_10, e197_11, e197_14, e197_15, e197_16, e197_18, e197_21, e197_22, e197_23, e197_24, e197_26, md_g0, md_g1, md_g2, md_g3, md_g4, md_g5, md_g6, md_g7, md_g8, md_g9, md_g10, md_g11, md_g12, md_g13, md_g14, md_g15, md_g16, md_g17, md_g18, md_p3, md_p5, md_p7, md_p8, md_p9, md_p11, md_p13, md_p15, md_l0, md_l1, md_l2, md_l3, md_l4, md_l5, md_l6, md_l7, md_l8, md_l9, md_l10, md_s0, md_s1, md_s2, md_s3, md_s4, md_s5, md_s6, md_s7, md_s8, md_s9, md_s10, md_is, Option.bind_some, Option.toList_some, Option.toList_none, List.cons_append, List.nil_append, true_or, or_true, and_true, true_and, i10, Bool.false_eq_true, if_true, if_false, reduceIte, m_sum1 hR hw, e1, eq_true q]
  · rw [if_neg q]
    simp only [e197_0, e197_1, e197_2, e197_5, e197_6, e197_7, e197_10, e197_11, e197_14, e197_15, e197_16, e197_18, e197_21, e197_22, e197_23, e197_24, e197_26, e197_25 (fp_div (show lyg σ < 721 by omega) (show rms σ < 721 by omega) q), md_g0, md_g1, md_g2, md_g3, md_g4, md_g5, md_g6, md_g7, md_g8, md_g9, md_g10, md_g11, md_g12, md_g13, md_g14, md_g15, md_g16, md_g17, md_g18, md_p3, md_p5, md_p7, md_p8, md_p9, md_p11, md_p13, md_p15, md_l0, md_l1, md_l2, md_l3, md_l4, md_l5, md_l6, md_l7, md_l8, md_l9, md_l10, md_s0, md_s1, md_s2, md_s3, md_s4, md_s5, md_s6, md_s7, md_s8, md_s9, md_s10, md_is, Option.bind_some, Option.toList_some, Option.toList_none, List.cons_append, List.nil_append, true_or, or_true, and_true, true_and, i10, Bool.false_eq_true, if_true, if_false, reduceIte, m_sum1 hR hw, e1, eq_false q, m_sum8 hR hw, e2]
theorem m_ifT0 (hR : mdR M σ) (hn : σ.1 ≤ 12) (hz : zin x σ.1 = false ∨ ¬ (0 ≤ y ∧ y ≤ 1)) : ev (d + 8) 198 0 [some (.ref i), some (.int x), some (.int y), none, none] [] (hmd h i M) = some (some (.int (-1)), hmd h i M) := by
  cases q : zin x σ.1 with
  | false => simp only [e198_0, e198_1, e198_2, e198_5, e198_8, e198_9, e198_10, e198_11, e198_14, e198_17, e198_18, e198_19, e198_20, e198_21, e198_22, e198_25, e198_26, e198_27, e198_28, e198_29, e198_30, e198_33, e198_36, e198_37, e198_38, e198_41, e198_43, e198_46, e198_48, e198_51, e198_53, e198_54, e198_55, e198_56, e198_57, e198_60, e198_62, md_g0, md_g1, md_g2, md_g3, md_g4, md_g5, md_g6, md_g7, md_g8, md_g9, md_g10, md_g11, md_g12, md_g13, md_g14, md_g15, md_g16, md_g17, md_g18, md_p3, md_p5, md_p7, md_p8, md_p9, md_p11, md_p13, md_p15, md_l0, md_l1, md_l2, md_l3, md_l4, md_l5, md_l6, md_l7, md_l8, md_l9, md_l10, md_s0, md_s1, md_s2, md_s3, md_s4, md_s5, md_s6, md_s7, md_s8, md_s9, md_s10, md_is, Option.bind_some, Option.toList_some, Option.toList_none, List.cons_append, List.nil_append, true_or, or_true, and_true, true_and, i10, Bool.false_eq_true, if_true, if_false, reduceIte, m_isC0 hR hn q]
  | true =>
    obtain ⟨k, hk, rfl⟩ := zin_some (by omega) q
    have hz2 : ¬ ((0 : Int32) ≤ y ∧ y ≤ 1) := hz.resolve_left (by rw [q]; decide)
    simp only [e198_0, e198_1, e198_2, e198_5, e198_8, e198_9, e198_10, e198_11, e198_14, e198_17, e198_18, e198_19, e198_20, e198_21, e198_22, e198_25, e198_26, e198_27, e198_28, e198_29, e198_30, e198_33, e198_36, e198_37, e198_38, e198_41, e198_43, e198_46, e198_48, e198_51, e198_53, e198_54, e198_55, e198_56, e198_57, e198_60, e198_62, md_g0, md_g1, md_g2, md_g3, md_g4, md_g5, md_g6, md_g7, md_g8, md_g9, md_g10, md_g11, md_g12, md_g13, md_g14, md_g15, md_g16, md_g17, md_g18, md_p3, md_p5, md_p7, md_p8, md_p9, md_p11, md_p13, md_p15, md_l0, md_l1, md_l2, md_l3, md_l4, md_l5, md_l6, md_l7, md_l8, md_l9, md_l10, md_s0, md_s1, md_s2, md_s3, md_s4, md_s5, md_s6, md_s7, md_s8, md_s9, md_s10, md_is, Option.bind_some, Option.toList_some, Option.toList_none, List.cons_append, List.nil_append, true_or, or_true, and_true, true_and, i10, Bool.false_eq_true, if_true, if_false, reduceIte, m_isC1 hR hn hk, m_in, bI_f hz2]
theorem m_ifT (hR : mdR M σ) (hw : wf σ) (hc : c < σ.1) (hy : 0 ≤ y ∧ y ≤ 1) : ev (d + 8) 198 0 [some (.ref i), some (.int (nI c)), some (.int y), none, none] [] (hmd h i M) = some (some (.int (if y = 0 then nI (ltn σ c) else nI (ct (tld (trd σ c)) σ.1))), hmd h i M) := by
  have hb := hw.bnd
  have hn := hb.1
  have h2 := (hb.2 c hc).2.2.1
  have hwt := trd_wf hw (c := c)
  have hRt : mdR (setR M 0 (upd (M.1 0) (2 + 9 * c + 2) (nI (tnd (σ.2 c 2))))) (trd σ c) := by
    obtain ⟨r1, r2⟩ := hR
    refine ⟨?_, fun a ha j hj => ?_⟩
    · show upd (M.1 0) (2 + 9 * c + 2) (nI (tnd (σ.2 c 2))) 0 = _
      have : ¬ 0 = 2 + 9 * c + 2 := by omega
      simp only [upd, this, if_false]
      exact r1
    · show upd (M.1 0) (2 + 9 * c + 2) (nI (tnd (σ.2 c 2))) (2 + 9 * a + j) = nI ((sa σ c 2 (tnd (σ.2 c 2))).2 a j)
      rw [sa_2]
      by_cases z : a = c ∧ j = 2
      · obtain ⟨rfl, rfl⟩ := z
        simp [upd]
      · have : ¬ 2 + 9 * a + j = 2 + 9 * c + 2 := by omega
        rw [if_neg z]
        simp only [upd, this, if_false]
        exact r2 a ha j hj
  have hr : ∀ f g : Nat → Int32, setR (setR M 0 f) 0 g = setR M 0 g := fun f g => setR_setR M 0 f g
  have g0 : ∀ f, (setR M 0 f).1 0 = f := fun _ => rfl
  have back : upd (upd (M.1 0) (2 + 9 * c + 2) (nI (tnd (σ.2 c 2)))) (2 + 9 * c + 2) (nI (σ.2 c 2)) = M.1 0 := by
    funext a
    by_cases z : a = 2 + 9 * c + 2
    · subst z
      simp only [upd, if_true]
      exact (hR.2 c hc 2 (by decide)).symm
    · simp only [upd, z, if_false]
  have s12 := m_sum12 (d := d) (h := h) (i := i) hRt hwt
  have s11 := m_sum11 (d := d) (h := h) (i := i) hRt hwt
  have hself := setR_self M 0
  by_cases q : y = 0
  · subst q
    rw [if_pos rfl]
    simp only [e198_0, e198_1, e198_2, e198_5, e198_8, e198_9, e198_10, e198_11, e198_14, e198_17, e198_18, e198_19, e198_20, e198_21, e198_22, e198_25, e198_26, e198_27, e198_28, e198_29, e198_30, e198_33, e198_36, e198_37, e198_38, e198_41, e198_43, e198_46, e198_48, e198_51, e198_53, e198_54, e198_55, e198_56, e198_57, e198_60, e198_62, md_g0, md_g1, md_g2, md_g3, md_g4, md_g5, md_g6, md_g7, md_g8, md_g9, md_g10, md_g11, md_g12, md_g13, md_g14, md_g15, md_g16, md_g17, md_g18, md_p3, md_p5, md_p7, md_p8, md_p9, md_p11, md_p13, md_p15, md_l0, md_l1, md_l2, md_l3, md_l4, md_l5, md_l6, md_l7, md_l8, md_l9, md_l10, md_s0, md_s1, md_s2, md_s3, md_s4, md_s5, md_s6, md_s7, md_s8, md_s9, md_s10, md_is, Option.bind_some, Option.toList_some, Option.toList_none, List.cons_append, List.nil_append, true_or, or_true, and_true, true_and, i10, Bool.false_eq_true, if_true, if_false, reduceIte, m_isC1 hR hn hc, m_in, bI_t hy, m_of2 hR hb hc, m_turned (show σ.2 c 2 < 16 by omega), m_lays2 (show c < 12 by omega), s12, g0, hr, back, hself]
    rfl
  · rw [if_neg q]
    simp only [e198_0, e198_1, e198_2, e198_5, e198_8, e198_9, e198_10, e198_11, e198_14, e198_17, e198_18, e198_19, e198_20, e198_21, e198_22, e198_25, e198_26, e198_27, e198_28, e198_29, e198_30, e198_33, e198_36, e198_37, e198_38, e198_41, e198_43, e198_46, e198_48, e198_51, e198_53, e198_54, e198_55, e198_56, e198_57, e198_60, e198_62, md_g0, md_g1, md_g2, md_g3, md_g4, md_g5, md_g6, md_g7, md_g8, md_g9, md_g10, md_g11, md_g12, md_g13, md_g14, md_g15, md_g16, md_g17, md_g18, md_p3, md_p5, md_p7, md_p8, md_p9, md_p11, md_p13, md_p15, md_l0, md_l1, md_l2, md_l3, md_l4, md_l5, md_l6, md_l7, md_l8, md_l9, md_l10, md_s0, md_s1, md_s2, md_s3, md_s4, md_s5, md_s6, md_s7, md_s8, md_s9, md_s10, md_is, Option.bind_some, Option.toList_some, Option.toList_none, List.cons_append, List.nil_append, true_or, or_true, and_true, true_and, i10, Bool.false_eq_true, if_true, if_false, reduceIte, m_isC1 hR hn hc, m_in, bI_t hy, m_of2 hR hb hc, m_turned (show σ.2 c 2 < 16 by omega), m_lays2 (show c < 12 by omega), eq_false q, s11, g0, hr, back, hself]
    rfl
theorem m_bestT (hR : mdR M σ) (hw : wf σ) : ev (d + 9) 199 0 [some (.ref i), none, none, none, none] [] (hmd h i M) = some (some (.int (cB (btn σ))), hmd h i M) := by
  have hb := hw.bnd
  have hn := hb.1
  have h0 := m_n hR
  have step : ∀ (k : Nat) (s : Nat × Int) (x : Option Value), k < σ.1 → (-1 ≤ s.2 ∧ s.2 ≤ 60) → (∃ y : Option Value, ev (d + 9) 199 7 [some (.ref i), some (.int (cB s.1)), some (.int (iI s.2)), some (.int (nI k)), x] [] (hmd h i M) = ev (d + 9) 199 7 [some (.ref i), some (.int (cB (bts σ k s).1)), some (.int (iI (bts σ k s).2)), some (.int (nI (k + 1))), y] [] (hmd h i M)) ∧ (-1 ≤ (bts σ k s).2 ∧ (bts σ k s).2 ≤ 60) := by
    intro k s x hk hs
    have hlt : (σ.1 ≤ k) = False := eq_false (by omega)
    have hl := ltn_b hn (c := k)
    have it := m_ifT (d := d) (h := h) (i := i) (y := 0) hR hw hk ⟨Int32.le_refl _, by decide⟩
    rw [if_pos rfl, iI_nat (ltn σ k)] at it
    have e1 : (iI (ltn σ k : Int) ≤ iI s.2) = ((ltn σ k : Int) ≤ s.2) := iI_le (by omega) (by omega)
    have e2 : (iI s.2 < iI (ltn σ k : Int)) = (s.2 < (ltn σ k : Int)) := iI_lt (by omega) (by omega)
    unfold bts
    by_cases q : s.2 < (ltn σ k : Int)
    · rw [if_pos q]
      refine ⟨⟨some (.int (iI (ltn σ k : Int))), ?_⟩, by dsimp only; omega⟩
      rw [e199_7]
      simp only [e199_0, e199_2, e199_3, e199_4, e199_5, e199_6, e199_8, e199_9, e199_12, e199_13, e199_14, e199_17, e199_18, e199_19, e199_20, e199_23, e199_25, e199_27, e199_28, e199_31, e199_32, e199_35, e199_36, e199_37, e199_39, e199_40, e199_43, e199_45, e199_48, e199_49, e199_50, e199_53, e199_56, e199_57, md_g0, md_g1, md_g2, md_g3, md_g4, md_g5, md_g6, md_g7, md_g8, md_g9, md_g10, md_g11, md_g12, md_g13, md_g14, md_g15, md_g16, md_g17, md_g18, md_p3, md_p5, md_p7, md_p8, md_p9, md_p11, md_p13, md_p15, md_l0, md_l1, md_l2, md_l3, md_l4, md_l5, md_l6, md_l7, md_l8, md_l9, md_l10, md_s0, md_s1, md_s2, md_s3, md_s4, md_s5, md_s6, md_s7, md_s8, md_s9, md_s10, md_is, Option.bind_some, Option.toList_some, Option.toList_none, List.cons_append, List.nil_append, true_or, or_true, and_true, true_and, i10, Bool.false_eq_true, if_true, if_false, reduceIte, h0, nI_lep (show σ.1 < 2147483648 by omega) (show k < 2147483648 by omega), hlt, it, e1, e2, eq_true q, eq_false (show ¬ (ltn σ k : Int) ≤ s.2 by omega), nI_1]
      rfl
    · rw [if_neg q]
      refine ⟨⟨some (.int (iI (ltn σ k : Int))), ?_⟩, hs⟩
      rw [e199_7]
      simp only [e199_0, e199_2, e199_3, e199_4, e199_5, e199_6, e199_8, e199_9, e199_12, e199_13, e199_14, e199_17, e199_18, e199_19, e199_20, e199_23, e199_25, e199_27, e199_28, e199_31, e199_32, e199_35, e199_36, e199_37, e199_39, e199_40, e199_43, e199_45, e199_48, e199_49, e199_50, e199_53, e199_56, e199_57, md_g0, md_g1, md_g2, md_g3, md_g4, md_g5, md_g6, md_g7, md_g8, md_g9, md_g10, md_g11, md_g12, md_g13, md_g14, md_g15, md_g16, md_g17, md_g18, md_p3, md_p5, md_p7, md_p8, md_p9, md_p11, md_p13, md_p15, md_l0, md_l1, md_l2, md_l3, md_l4, md_l5, md_l6, md_l7, md_l8, md_l9, md_l10, md_s0, md_s1, md_s2, md_s3, md_s4, md_s5, md_s6, md_s7, md_s8, md_s9, md_s10, md_is, Option.bind_some, Option.toList_some, Option.toList_none, List.cons_append, List.nil_append, true_or, or_true, and_true, true_and, i10, Bool.false_eq_true, if_true, if_false, reduceIte, h0, nI_lep (show σ.1 < 2147483648 by omega) (show k < 2147483648 by omega), hlt, it, e1, e2, eq_false q, eq_true (show (ltn σ k : Int) ≤ s.2 by omega), nI_1]
  have fin : ∀ (s : Nat × Int) (x : Option Value), (-1 ≤ s.2 ∧ s.2 ≤ 60) → ev (d + 9) 199 7 [some (.ref i), some (.int (cB s.1)), some (.int (iI s.2)), some (.int (nI σ.1)), x] [] (hmd h i M) = some (some (.int (cB s.1)), hmd h i M) := by
    intro s x _
    rw [e199_7]
    simp only [e199_0, e199_2, e199_3, e199_4, e199_5, e199_6, e199_8, e199_9, e199_12, e199_13, e199_14, e199_17, e199_18, e199_19, e199_20, e199_23, e199_25, e199_27, e199_28, e199_31, e199_32, e199_35, e199_36, e199_37, e199_39, e199_40, e199_43, e199_45, e199_48, e199_49, e199_50, e199_53, e199_56, e199_57, md_g0, md_g1, md_g2, md_g3, md_g4, md_g5, md_g6, md_g7, md_g8, md_g9, md_g10, md_g11, md_g12, md_g13, md_g14, md_g15, md_g16, md_g17, md_g18, md_p3, md_p5, md_p7, md_p8, md_p9, md_p11, md_p13, md_p15, md_l0, md_l1, md_l2, md_l3, md_l4, md_l5, md_l6, md_l7, md_l8, md_l9, md_l10, md_s0, md_s1, md_s2, md_s3, md_s4, md_s5, md_s6, md_s7, md_s8, md_s9, md_s10, md_is, Option.bind_some, Option.toList_some, Option.toList_none, List.cons_append, List.nil_append, true_or, or_true, and_true, true_and, i10, Bool.false_eq_true, if_true, if_false, reduceIte, h0, Int32.le_refl]
  simp only [e199_0, e199_2, e199_3, e199_4, e199_5, e199_6, e199_8, e199_9, e199_12, e199_13, e199_14, e199_17, e199_18, e199_19, e199_20, e199_23, e199_25, e199_27, e199_28, e199_31, e199_32, e199_35, e199_36, e199_37, e199_39, e199_40, e199_43, e199_45, e199_48, e199_49, e199_50, e199_53, e199_56, e199_57, md_g0, md_g1, md_g2, md_g3, md_g4, md_g5, md_g6, md_g7, md_g8, md_g9, md_g10, md_g11, md_g12, md_g13, md_g14, md_g15, md_g16, md_g17, md_g18, md_p3, md_p5, md_p7, md_p8, md_p9, md_p11, md_p13, md_p15, md_l0, md_l1, md_l2, md_l3, md_l4, md_l5, md_l6, md_l7, md_l8, md_l9, md_l10, md_s0, md_s1, md_s2, md_s3, md_s4, md_s5, md_s6, md_s7, md_s8, md_s9, md_s10, md_is, Option.bind_some, Option.toList_some, Option.toList_none, List.cons_append, List.nil_append, true_or, or_true, and_true, true_and, i10, Bool.false_eq_true, if_true, if_false, reduceIte]
  exact z_forIJ (fun (k : Nat) (s : Nat × Int) (x : Option Value) => ev (d + 9) 199 7 [some (.ref i), some (.int (cB s.1)), some (.int (iI s.2)), some (.int (nI k)), x] [] (hmd h i M)) (bts σ) (fun s => -1 ≤ s.2 ∧ s.2 ≤ 60) (fun s => some (some (.int (cB s.1)), hmd h i M)) step fin (0, -1) none ⟨by decide, by decide⟩
end MLOOKS
