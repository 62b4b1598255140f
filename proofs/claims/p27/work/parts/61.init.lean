/-! THE CONSTRUCTORS -/
/-- cells put behind those that are there -/
def zap (h : zH) (l : List zC) (n : Nat) : zH := (h.1 + l.length, h.2.1 + n, fun j => if h.1 ≤ j ∧ j < h.1 + l.length then l.getD (j - h.1) zvoid else h.2.2.1 j, h.2.2.2)
theorem zap_get {h : zH} {l : List zC} {n q : Nat} {c : zC} (hq : l[q]? = some c) : zg (zap h l n) (h.1 + q) = c := by
  have hl := at_len hq
  show (if h.1 ≤ h.1 + q ∧ h.1 + q < h.1 + l.length then l.getD (h.1 + q - h.1) zvoid else h.2.2.1 (h.1 + q)) = c
  rw [if_pos (by omega), Nat.add_sub_cancel_left, List.getD_eq_getElem?_getD, hq]
  rfl
theorem zap_out {h : zH} {l : List zC} {n j : Nat} (hj : j < h.1) : zg (zap h l n) j = zg h j := by
  show (if h.1 ≤ j ∧ j < h.1 + l.length then l.getD (j - h.1) zvoid else h.2.2.1 j) = _
  rw [if_neg (by omega)]
  rfl
theorem zap_p {h : zH} {n : Nat} {c : zC} : zpush h n c = zap h [c] n := by
  refine zH_ext rfl rfl rfl fun j => ?_
  show (if j = h.1 then c else h.2.2.1 j) = (if h.1 ≤ j ∧ j < h.1 + 1 then [c].getD (j - h.1) zvoid else h.2.2.1 j)
  by_cases q : j = h.1
  · subst q
    rw [if_pos rfl, if_pos (by omega), Nat.sub_self]
    rfl
  · rw [if_neg q, if_neg (by omega)]
theorem zap_zap {h : zH} {l m : List zC} {n k : Nat} : zap (zap h l n) m k = zap h (l ++ m) (n + k) := by
  refine zH_ext (by show h.1 + l.length + m.length = h.1 + (l ++ m).length; rw [List.length_append]; omega) (by show h.2.1 + n + k = h.2.1 + (n + k); omega) rfl fun j => ?_
  show (if h.1 + l.length ≤ j ∧ j < h.1 + l.length + m.length then m.getD (j - (h.1 + l.length)) zvoid else (if h.1 ≤ j ∧ j < h.1 + l.length then l.getD (j - h.1) zvoid else h.2.2.1 j)) = (if h.1 ≤ j ∧ j < h.1 + (l ++ m).length then (l ++ m).getD (j - h.1) zvoid else h.2.2.1 j)
  rw [List.length_append]
  by_cases q : h.1 + l.length ≤ j ∧ j < h.1 + l.length + m.length
  · rw [if_pos q, if_pos (by omega), List.getD_eq_getElem?_getD, List.getD_eq_getElem?_getD, List.getElem?_append_right (by omega), show j - (h.1 + l.length) = j - h.1 - l.length by omega]
  · rw [if_neg q]
    by_cases z : h.1 ≤ j ∧ j < h.1 + l.length
    · rw [if_pos z, if_pos (by omega), List.getD_eq_getElem?_getD, List.getD_eq_getElem?_getD, List.getElem?_append_left (by omega)]
    · rw [if_neg z, if_neg (by omega)]
theorem zap_put0 {h : zH} {ci k n : Nat} {fs : List Value} {l : List zC} {v : Value} (hk : k < fs.length) : zputf (zap h (.inr (.inr (ci, fs)) :: l) n) h.1 ci k v = some (zap h (.inr (.inr (ci, fs.set k v)) :: l) n) := by
  have hg : zg (zap h (.inr (.inr (ci, fs)) :: l) n) h.1 = .inr (.inr (ci, fs)) := zap_get (q := 0) rfl
  unfold zputf
  rw [hg]
  dsimp only
  rw [if_pos ⟨rfl, hk⟩]
  refine congrArg some (zH_ext rfl rfl rfl fun j => ?_)
  rw [zg_zu]
  by_cases q : j = h.1
  · subst q
    rw [if_pos rfl]
    exact (zap_get (q := 0) rfl).symm
  · rw [if_neg q]
    show (if h.1 ≤ j ∧ j < h.1 + (l.length + 1) then (Sum.inr (Sum.inr (ci, fs)) :: l).getD (j - h.1) zvoid else h.2.2.1 j) = (if h.1 ≤ j ∧ j < h.1 + (l.length + 1) then (Sum.inr (Sum.inr (ci, fs.set k v)) :: l).getD (j - h.1) zvoid else h.2.2.1 j)
    by_cases z : h.1 ≤ j ∧ j < h.1 + (l.length + 1)
    · rw [if_pos z, if_pos z]
      obtain ⟨x, hx⟩ : ∃ x, j - h.1 = x + 1 := ⟨j - h.1 - 1, by omega⟩
      rw [hx]
      rfl
    · rw [if_neg z, if_neg z]
theorem zap_get0 {h : zH} {ci k n : Nat} {fs : List Value} {l : List zC} : zgetf (zap h (.inr (.inr (ci, fs)) :: l) n) h.1 ci k = fs[k]? := by
  unfold zgetf
  rw [show zg (zap h (.inr (.inr (ci, fs)) :: l) n) h.1 = .inr (.inr (ci, fs)) from zap_get (q := 0) rfl]
  dsimp only
  rw [if_pos rfl]
theorem zis_push {h : zH} {ci n : Nat} {fs : List Value} : zis (zpush h n (.inr (.inr (ci, fs)))) h.1 ci = true := by
  rw [zap_p]
  unfold zis
  rw [show zg (zap h [.inr (.inr (ci, fs))] n) h.1 = .inr (.inr (ci, fs)) from zap_get (q := 0) rfl]
  exact decide_eq_true rfl
theorem at_zap {h : zH} {l : List zC} {n : Nat} : at_ (zap h l n) h.1 l := fun _ _ hk => zap_get hk
theorem at_app {H : zH} {i : Nat} {a b : List zC} (h : at_ H i (a ++ b)) : at_ H i a ∧ at_ H (i + a.length) b := by
  refine ⟨fun k c hk => h k c ?_, fun k c hk => ?_⟩
  · rw [List.getElem?_append_left (at_len hk)]
    exact hk
  · have := h (a.length + k) c (by rw [List.getElem?_append_right (by omega), Nat.add_sub_cancel_left]; exact hk)
    rw [Nat.add_assoc]
    exact this
/-- all zero -/
def S0 : oS := (fun _ _ => 0, fun _ => 0)
def R0 : oS := (fun _ _ => 0, fun k => if k = 3 ∨ k = 4 then -1 else 0)
theorem zb_0 : zblank 0 = [.null, .int 0] := by rfl
theorem zb_1 : zblank 1 = [.null, .null, .int 0] := by rfl
theorem zb_2 : zblank 2 = [.null, .int 0, .int 0, .int 0, .int 0, .int 0] := by rfl
theorem zb_3 : zblank 3 = [.null, .int 0] := by rfl
theorem zb_4 : zblank 4 = [.null, .int 0] := by rfl
theorem zb_5 : zblank 5 = [.null, .null, .null, .null, .null, .null, .int 0, .int 0] := by rfl
theorem zb_6 : zblank 6 = [.null, .null, .null, .int 0] := by rfl
theorem zb_7 : zblank 7 = [.null, .null, .null, .int 0, .null, .null, .null, .null, .null, .null] := by rfl
theorem ln_set {fs : List Value} {k : Nat} {v : Value} : (fs.set k v).length = fs.length := List.length_set
section INIT
variable {d : Nat} {h : zH}
theorem cln_12 : Int32.toNatClampNeg 12 = 12 := by decide
theorem cln_80 : Int32.toNatClampNeg 80 = 80 := by decide
theorem cln_110 : Int32.toNatClampNeg 110 = 110 := by decide
theorem cln_440 : Int32.toNatClampNeg 440 = 440 := by decide
theorem cln_126 : Int32.toNatClampNeg 126 = 126 := by decide
theorem cln_20 : Int32.toNatClampNeg 20 = 20 := by decide
theorem cln_240 : Int32.toNatClampNeg 240 = 240 := by decide
theorem cln_13 : Int32.toNatClampNeg 13 = 13 := by decide
theorem cln_180 : Int32.toNatClampNeg 180 = 180 := by decide
theorem cln_4 : Int32.toNatClampNeg 4 = 4 := by decide
theorem i_st : ev d 36 0 [some (.ref h.1)] [] (zpush h (zblank 5).length (.inr (.inr (5, zblank 5)))) = some (none, zap h (stL h.1 S0) 80) := by
  simp only [e36_0, e36_1, e36_4, e36_5, e36_9, e36_12, e36_13, e36_17, e36_20, e36_21, e36_25, e36_28, e36_29, e36_33, e36_36, e36_37, e36_41, e36_44, e36_45, e36_49, e36_52, e36_53, e36_54, e36_57, e36_58, e36_59, e36_62, e36_7 (x := 12) (by decide), e36_15 (x := 12) (by decide), e36_23 (x := 12) (by decide), e36_31 (x := 12) (by decide), e36_39 (x := 12) (by decide), e36_47 (x := 12) (by decide), cln_12, Option.bind_some, Option.toList_some, Option.toList_none, List.cons_append, List.nil_append, true_or, or_true, and_true, true_and, i10, Bool.false_eq_true, if_true, if_false, reduceIte, zap_p, zap_zap, zap_put0, zb_5, ln_set, List.length_cons, List.length_nil, Nat.reduceAdd, Nat.reduceLT]
  rfl
theorem i_pd : ev d 31 0 [some (.ref h.1)] [] (zpush h (zblank 4).length (.inr (.inr (4, zblank 4)))) = some (none, zap h (pdL h.1 S0) 82) := by
  simp only [e31_0, e31_1, e31_4, e31_5, e31_9, e31_12, e31_13, e31_14, e31_17, e31_7 (x := 80) (by decide), cln_80, Option.bind_some, Option.toList_some, Option.toList_none, List.cons_append, List.nil_append, true_or, or_true, and_true, true_and, i10, Bool.false_eq_true, if_true, if_false, reduceIte, zap_p, zap_zap, zap_put0, zb_4, ln_set, List.length_cons, List.length_nil, Nat.reduceAdd, Nat.reduceLT]
  rfl
theorem i_nw : ev d 24 0 [some (.ref h.1)] [] (zpush h (zblank 3).length (.inr (.inr (3, zblank 3)))) = some (none, zap h (nwL h.1 S0) 182) := by
  simp only [e24_0, e24_1, e24_4, e24_5, e24_10, e24_13, e24_14, e24_15, e24_18, e24_8 (x := 180) (by decide), cln_180, Option.bind_some, Option.toList_some, Option.toList_none, List.cons_append, List.nil_append, true_or, or_true, and_true, true_and, i10, Bool.false_eq_true, if_true, if_false, reduceIte, zap_p, zap_zap, zap_put0, zb_3, ln_set, List.length_cons, List.length_nil, Nat.reduceAdd, Nat.reduceLT]
  rfl
theorem i_vw : ev d 81 0 [some (.ref h.1)] [] (zpush h (zblank 6).length (.inr (.inr (6, zblank 6)))) = some (none, zap h (vwL h.1 S0) 40) := by
  simp only [e81_0, e81_1, e81_4, e81_5, e81_9, e81_12, e81_13, e81_17, e81_20, e81_21, e81_25, e81_28, e81_29, e81_30, e81_33, e81_7 (x := 12) (by decide), e81_15 (x := 12) (by decide), e81_23 (x := 12) (by decide), cln_12, Option.bind_some, Option.toList_some, Option.toList_none, List.cons_append, List.nil_append, true_or, or_true, and_true, true_and, i10, Bool.false_eq_true, if_true, if_false, reduceIte, zap_p, zap_zap, zap_put0, zb_6, ln_set, List.length_cons, List.length_nil, Nat.reduceAdd, Nat.reduceLT]
  rfl
theorem i_ln : ev d 5 0 [some (.ref h.1)] [] (zpush h (zblank 1).length (.inr (.inr (1, zblank 1)))) = some (none, zap h (lnL h.1 S0) 27) := by
  simp only [e5_0, e5_1, e5_4, e5_5, e5_9, e5_12, e5_13, e5_17, e5_20, e5_21, e5_22, e5_25, e5_7 (x := 12) (by decide), e5_15 (x := 12) (by decide), cln_12, Option.bind_some, Option.toList_some, Option.toList_none, List.cons_append, List.nil_append, true_or, or_true, and_true, true_and, i10, Bool.false_eq_true, if_true, if_false, reduceIte, zap_p, zap_zap, zap_put0, zb_1, ln_set, List.length_cons, List.length_nil, Nat.reduceAdd, Nat.reduceLT]
  rfl
theorem i_rd : ev (d + 1) 11 0 [some (.ref h.1)] [] (zpush h (zblank 2).length (.inr (.inr (2, zblank 2)))) = some (none, zap h (rdL h.1 R0 ++ stL (h.1 + 1) S0) 86) := by
  rw [zap_p]
  simp only [e11_0, e11_1, e11_4, e11_5, e11_8, e11_9, e11_12, e11_15, e11_16, e11_17, e11_20, e11_21, e11_22, e11_25, e11_26, e11_27, e11_30, e11_31, e11_32, e11_35, e11_36, e11_37, e11_40, Option.bind_some, Option.toList_some, Option.toList_none, List.cons_append, List.nil_append, true_or, or_true, and_true, true_and, i10, Bool.false_eq_true, if_true, if_false, reduceIte, zis_push, i_st, zap_zap, zap_put0, zb_2, ln_set, List.length_cons, List.length_nil, Nat.reduceAdd, Nat.reduceLT]
  rfl
/-- stocks, one behind the other -/
def sk (i : Nat) : Nat → List zC
  | 0 => []
  | t + 1 => sk i t ++ stL (i + 7 * t) S0
theorem sk_len {i : Nat} : ∀ {t : Nat}, (sk i t).length = 7 * t
  | 0 => rfl
  | t + 1 => by
    rw [sk, List.length_append, sk_len, st_len]
    omega
def hP (i t : Nat) : Nat → Option Nat := fun j => if j < t then some (i + 2 + 7 * j) else none
def hB (i t : Nat) : List zC := .inr (.inr (0, [.ref (i + 1), .int 0])) :: .inr (.inl (4, hP i t)) :: sk (i + 2) t
theorem i_hs1 : ∀ (f t : Nat), t + f = 4 → ev (d + 1) 0 19 [some (.ref h.1), some (.int (nI t))] [] (zap h (hB h.1 t) (6 + 80 * t)) = some (none, zap h (hB h.1 4) 326) := by
  intro f
  induction f with
  | zero =>
    intro t ht
    have ht : t = 4 := by omega
    subst ht
    have g0 : zgetf (zap h (hB h.1 4) (6 + 80 * 4)) h.1 0 0 = some (.ref (h.1 + 1)) := zap_get0
    have gl : zlen (zap h (hB h.1 4) (6 + 80 * 4)) (h.1 + 1) = some 4 := by
      unfold zlen
      rw [show zg (zap h (hB h.1 4) (6 + 80 * 4)) (h.1 + 1) = .inr (.inl (4, hP h.1 4)) from zap_get (q := 1) rfl]
      rfl
    rw [e0_19]
    simp only [e0_0, e0_1, e0_4, e0_5, e0_9, e0_12, e0_13, e0_14, e0_17, e0_18, e0_20, e0_21, e0_24, e0_25, e0_28, e0_29, e0_32, e0_33, e0_36, e0_37, e0_40, e0_41, e0_44, e0_47, Option.bind_some, Option.toList_some, Option.toList_none, List.cons_append, List.nil_append, true_or, or_true, and_true, true_and, i10, Bool.false_eq_true, if_true, if_false, reduceIte, g0, gl, show ((4 : Int32) ≤ nI 4) = True by decide]
  | succ f ih =>
    intro t ht
    have e1 : ((4 : Int32) ≤ nI t) = False := (nI_lep (a := 4) (by omega) (by omega)).trans (eq_false (by omega))
    have g0 : zgetf (zap h (hB h.1 t) (6 + 80 * t)) h.1 0 0 = some (.ref (h.1 + 1)) := zap_get0
    have gl : zlen (zap h (hB h.1 t) (6 + 80 * t)) (h.1 + 1) = some 4 := by
      unfold zlen
      rw [show zg (zap h (hB h.1 t) (6 + 80 * t)) (h.1 + 1) = .inr (.inl (4, hP h.1 t)) from zap_get (q := 1) rfl]
      rfl
    have hsz : (zap h (hB h.1 t) (6 + 80 * t)).1 = h.1 + 2 + 7 * t := by
      show h.1 + (sk (h.1 + 2) t).length.succ.succ = _
      rw [sk_len]
      omega
    have hB1 : zap (zap h (hB h.1 t) (6 + 80 * t)) (stL (h.1 + 2 + 7 * t) S0) 80 = zap h (.inr (.inr (0, [.ref (h.1 + 1), .int 0])) :: .inr (.inl (4, hP h.1 t)) :: sk (h.1 + 2) (t + 1)) (6 + 80 * t + 80) := zap_zap
    have z5 : zis (zap (zap h (hB h.1 t) (6 + 80 * t)) (stL (h.1 + 2 + 7 * t) S0) 80) (h.1 + 2 + 7 * t) 5 = true := by
      rw [← hsz]
      exact cz_st at_zap
    have as : zastq (zap (zap h (hB h.1 t) (6 + 80 * t)) (stL (h.1 + 2 + 7 * t) S0) 80) (h.1 + 1) (nI t) (h.1 + 2 + 7 * t) = some (zap h (hB h.1 (t + 1)) (6 + 80 * (t + 1))) := by
      unfold zastq
      rw [z5, hB1]
      rw [show zg (zap h (.inr (.inr (0, [.ref (h.1 + 1), .int 0])) :: .inr (.inl (4, hP h.1 t)) :: sk (h.1 + 2) (t + 1)) (6 + 80 * t + 80)) (h.1 + 1) = .inr (.inl (4, hP h.1 t)) from zap_get (q := 1) rfl]
      dsimp only
      rw [if_pos ⟨zin_T (by omega) (by decide), rfl⟩, nI_clamp (by omega)]
      refine congrArg some (zH_ext rfl (by show h.2.1 + (6 + 80 * t + 80) = h.2.1 + (6 + 80 * (t + 1)); omega) rfl fun j => ?_)
      have hup : va_up (hP h.1 t) t (some (h.1 + 2 + 7 * t)) = hP h.1 (t + 1) := by
        funext x
        unfold va_up hP
        by_cases q : x = t
        · subst q
          rw [if_pos rfl, if_pos (by omega)]
        · rw [if_neg q]
          by_cases z : x < t
          · rw [if_pos z, if_pos (by omega)]
          · rw [if_neg z, if_neg (by omega)]
      rw [zg_zu, hup]
      by_cases q : j = h.1 + 1
      · subst q
        rw [if_pos rfl]
        exact (zap_get (q := 1) rfl).symm
      · rw [if_neg q]
        show (if h.1 ≤ j ∧ j < h.1 + ((sk (h.1 + 2) (t + 1)).length + 1 + 1) then (Sum.inr (Sum.inr (0, [Value.ref (h.1 + 1), Value.int 0])) :: Sum.inr (Sum.inl (4, hP h.1 t)) :: sk (h.1 + 2) (t + 1)).getD (j - h.1) zvoid else h.2.2.1 j) = (if h.1 ≤ j ∧ j < h.1 + ((sk (h.1 + 2) (t + 1)).length + 1 + 1) then (Sum.inr (Sum.inr (0, [Value.ref (h.1 + 1), Value.int 0])) :: Sum.inr (Sum.inl (4, hP h.1 (t + 1))) :: sk (h.1 + 2) (t + 1)).getD (j - h.1) zvoid else h.2.2.1 j)
        by_cases z : h.1 ≤ j ∧ j < h.1 + ((sk (h.1 + 2) (t + 1)).length + 1 + 1)
        · rw [if_pos z, if_pos z]
          rcases Nat.lt_or_ge (j - h.1) 1 with y | y
          · have : j - h.1 = 0 := by omega
            rw [this]
            rfl
          · obtain ⟨x, hx⟩ : ∃ x, j - h.1 = x + 2 := ⟨j - h.1 - 2, by omega⟩
            rw [hx]
            rfl
        · rw [if_neg z, if_neg z]
    have st := i_st (d := d) (h := zap h (hB h.1 t) (6 + 80 * t))
    rw [hsz] at st
    have zp := zis_push (h := zap h (hB h.1 t) (6 + 80 * t)) (ci := 5) (n := (zblank 5).length) (fs := zblank 5)
    rw [hsz] at zp
    rw [e0_19]
    simp only [e0_0, e0_1, e0_4, e0_5, e0_9, e0_12, e0_13, e0_14, e0_17, e0_18, e0_20, e0_21, e0_24, e0_25, e0_28, e0_29, e0_32, e0_33, e0_36, e0_37, e0_40, e0_41, e0_44, e0_47, Option.bind_some, Option.toList_some, Option.toList_none, List.cons_append, List.nil_append, true_or, or_true, and_true, true_and, i10, Bool.false_eq_true, if_true, if_false, reduceIte, g0, gl, e1, hsz, zp, st, as, nI_1]
    exact ih (t + 1) (by omega)
theorem i_hs : ev (d + 1) 0 0 [some (.ref h.1), none] [] (zpush h (zblank 0).length (.inr (.inr (0, zblank 0)))) = some (none, zap h (hB h.1 4) 326) := by
  refine Eq.trans ?_ (i_hs1 (d := d) (h := h) 4 0 (by decide))
  simp only [e0_0, e0_1, e0_4, e0_5, e0_9, e0_12, e0_13, e0_14, e0_17, e0_18, e0_20, e0_21, e0_24, e0_25, e0_28, e0_29, e0_32, e0_33, e0_36, e0_37, e0_40, e0_41, e0_44, e0_47, e0_6 (x := 4) (by decide), cln_4, Option.bind_some, Option.toList_some, Option.toList_none, List.cons_append, List.nil_append, true_or, or_true, and_true, true_and, i10, Bool.false_eq_true, if_true, if_false, reduceIte, zap_p, zap_zap, zap_put0, zb_0, ln_set, List.length_cons, List.length_nil, Nat.reduceAdd, Nat.reduceLT]
  rfl
/-- a part of the object made -/
def gx (G G' : zH) (L : List zC) (n : Nat) (fs : List Value) : Prop := G'.1 = G.1 + L.length ∧ G'.2.1 = G.2.1 + n ∧ G'.2.2.2 = G.2.2.2 ∧ zg G' 0 = .inr (.inr (7, fs)) ∧ at_ G' G.1 L ∧ ∀ j, 1 ≤ j → j < G.1 → zg G' j = zg G j
theorem gx_mk {G : zH} {fs : List Value} {f : Nat} (L : List zC) (n : Nat) (v : Value) (h1 : 1 ≤ G.1) (h0 : zg G 0 = .inr (.inr (7, fs))) (hf : f < fs.length) : ∃ G', zputf (zap G L n) 0 7 f v = some G' ∧ gx G G' L n (fs.set f v) := by
  refine ⟨zu (zap G L n) 0 (.inr (.inr (7, fs.set f v))), ?_, rfl, rfl, rfl, ?_, fun k c hk => ?_, fun j ha hb => ?_⟩
  · unfold zputf
    rw [zap_out (by omega), h0]
    dsimp only
    rw [if_pos ⟨rfl, hf⟩]
  · rw [zg_zu, if_pos rfl]
  · rw [zg_zu, if_neg (by omega)]
    exact zap_get hk
  · rw [zg_zu, if_neg (by omega)]
    exact zap_out hb
theorem gx_at {G G' : zH} {L l : List zC} {n i : Nat} {fs : List Value} (g : gx G G' L n fs) (h : at_ G i l) (h1 : 1 ≤ i) (h2 : i + l.length ≤ G.1) : at_ G' i l := at_fr h (fun j a b => g.2.2.2.2.2 j (by omega) (by omega))
theorem i_sx {A : zH} (a1 : A.1 = 1) (a0 : zg A 0 = .inr (.inr (7, zblank 7))) : ∃ G, ev (d + 3) 97 0 [some (.ref 0)] [] A = some (none, G) ∧ G.1 = 71 ∧ G.2.1 = A.2.1 + 983 ∧ G.2.2.2 = A.2.2.2 ∧ at_ G 0 (sxL 0 S0) ∧ at_ G 1 (stL 1 S0) ∧ at_ G 8 (stL 8 S0) ∧ at_ G 15 (stL 15 S0) ∧ at_ G 22 (hB 22 4) ∧ at_ G 52 (pdL 52 S0) ∧ at_ G 54 (rdL 54 R0 ++ stL 55 S0) ∧ at_ G 62 (nwL 62 S0) ∧ at_ G 64 (vwL 64 S0) ∧ at_ G 68 (lnL 68 S0) := by
  have l7 : (zblank 7).length = 10 := by rw [zb_7]; rfl
  have f0 := a0
  obtain ⟨G0, p0, g0⟩ := gx_mk (G := A) (f := 0) (stL 1 S0) 80 (.ref 1) (by omega) a0 (by simp only [ln_set, l7]; omega)
  have s0 : G0.1 = 8 := by rw [g0.1, a1]; rfl
  have c0 := g0.2.2.2.1
  have n0 := g0.2.2.2.2.1
  rw [a1] at n0
  have i0 := i_st (d := d + 2) (h := A)
  rw [a1] at i0
  have z0 := zis_push (h := A) (ci := 5) (n := (zblank 5).length) (fs := zblank 5)
  rw [a1] at z0
  have b0_ := n0
  obtain ⟨G1, p1, g1⟩ := gx_mk (G := G0) (f := 1) (stL 8 S0) 80 (.ref 8) (by omega) c0 (by simp only [ln_set, l7]; omega)
  have s1 : G1.1 = 15 := by rw [g1.1, s0]; rfl
  have c1 := g1.2.2.2.1
  have n1 := g1.2.2.2.2.1
  rw [s0] at n1
  have i1 := i_st (d := d + 2) (h := G0)
  rw [s0] at i1
  have z1 := zis_push (h := G0) (ci := 5) (n := (zblank 5).length) (fs := zblank 5)
  rw [s0] at z1
  have b0_1 := gx_at g1 b0_ (by decide) (by rw [s0]; exact Nat.le_of_ble_eq_true rfl)
  have b1_ := n1
  obtain ⟨G2, p2, g2⟩ := gx_mk (G := G1) (f := 2) (stL 15 S0) 80 (.ref 15) (by omega) c1 (by simp only [ln_set, l7]; omega)
  have s2 : G2.1 = 22 := by rw [g2.1, s1]; rfl
  have c2 := g2.2.2.2.1
  have n2 := g2.2.2.2.2.1
  rw [s1] at n2
  have i2 := i_st (d := d + 2) (h := G1)
  rw [s1] at i2
  have z2 := zis_push (h := G1) (ci := 5) (n := (zblank 5).length) (fs := zblank 5)
  rw [s1] at z2
  have b0_2 := gx_at g2 b0_1 (by decide) (by rw [s1]; exact Nat.le_of_ble_eq_true rfl)
  have b1_2 := gx_at g2 b1_ (by decide) (by rw [s1]; exact Nat.le_of_ble_eq_true rfl)
  have b2_ := n2
  obtain ⟨GT, pT, gT⟩ := gx_mk (G := G2) (f := 3) [] 0 (.int 0) (by omega) c2 (by simp only [ln_set, l7]; omega)
  have eT : zap G2 [] 0 = G2 := zH_ext rfl rfl rfl (fun j => by
    show (if G2.1 ≤ j ∧ j < G2.1 + 0 then _ else G2.2.2.1 j) = _
    rw [if_neg (by omega)]
    rfl)
  rw [eT] at pT
  have sT : GT.1 = 22 := by rw [gT.1, s2]; rfl
  have cT := gT.2.2.2.1
  have b0_T := gx_at gT b0_2 (by decide) (by rw [s2]; exact Nat.le_of_ble_eq_true rfl)
  have b1_T := gx_at gT b1_2 (by decide) (by rw [s2]; exact Nat.le_of_ble_eq_true rfl)
  have b2_T := gx_at gT b2_ (by decide) (by rw [s2]; exact Nat.le_of_ble_eq_true rfl)
  obtain ⟨G3, p3, g3⟩ := gx_mk (G := GT) (f := 4) (hB 22 4) 326 (.ref 22) (by omega) cT (by simp only [ln_set, l7]; omega)
  have s3 : G3.1 = 52 := by rw [g3.1, sT]; rfl
  have c3 := g3.2.2.2.1
  have n3 := g3.2.2.2.2.1
  rw [sT] at n3
  have i3 := i_hs (d := d + 1) (h := GT)
  rw [sT] at i3
  have z3 := zis_push (h := GT) (ci := 0) (n := (zblank 0).length) (fs := zblank 0)
  rw [sT] at z3
  have b0_3 := gx_at g3 b0_T (by decide) (by rw [sT]; exact Nat.le_of_ble_eq_true rfl)
  have b1_3 := gx_at g3 b1_T (by decide) (by rw [sT]; exact Nat.le_of_ble_eq_true rfl)
  have b2_3 := gx_at g3 b2_T (by decide) (by rw [sT]; exact Nat.le_of_ble_eq_true rfl)
  have b3_ := n3
  obtain ⟨G4, p4, g4⟩ := gx_mk (G := G3) (f := 5) (pdL 52 S0) 82 (.ref 52) (by omega) c3 (by simp only [ln_set, l7]; omega)
  have s4 : G4.1 = 54 := by rw [g4.1, s3]; rfl
  have c4 := g4.2.2.2.1
  have n4 := g4.2.2.2.2.1
  rw [s3] at n4
  have i4 := i_pd (d := d + 2) (h := G3)
  rw [s3] at i4
  have z4 := zis_push (h := G3) (ci := 4) (n := (zblank 4).length) (fs := zblank 4)
  rw [s3] at z4
  have b0_4 := gx_at g4 b0_3 (by decide) (by rw [s3]; exact Nat.le_of_ble_eq_true rfl)
  have b1_4 := gx_at g4 b1_3 (by decide) (by rw [s3]; exact Nat.le_of_ble_eq_true rfl)
  have b2_4 := gx_at g4 b2_3 (by decide) (by rw [s3]; exact Nat.le_of_ble_eq_true rfl)
  have b3_4 := gx_at g4 b3_ (by decide) (by rw [s3]; exact Nat.le_of_ble_eq_true rfl)
  have b4_ := n4
  obtain ⟨G5, p5, g5⟩ := gx_mk (G := G4) (f := 6) (rdL 54 R0 ++ stL 55 S0) 86 (.ref 54) (by omega) c4 (by simp only [ln_set, l7]; omega)
  have s5 : G5.1 = 62 := by rw [g5.1, s4]; rfl
  have c5 := g5.2.2.2.1
  have n5 := g5.2.2.2.2.1
  rw [s4] at n5
  have i5 := i_rd (d := d + 1) (h := G4)
  rw [s4] at i5
  have z5 := zis_push (h := G4) (ci := 2) (n := (zblank 2).length) (fs := zblank 2)
  rw [s4] at z5
  have b0_5 := gx_at g5 b0_4 (by decide) (by rw [s4]; exact Nat.le_of_ble_eq_true rfl)
  have b1_5 := gx_at g5 b1_4 (by decide) (by rw [s4]; exact Nat.le_of_ble_eq_true rfl)
  have b2_5 := gx_at g5 b2_4 (by decide) (by rw [s4]; exact Nat.le_of_ble_eq_true rfl)
  have b3_5 := gx_at g5 b3_4 (by decide) (by rw [s4]; exact Nat.le_of_ble_eq_true rfl)
  have b4_5 := gx_at g5 b4_ (by decide) (by rw [s4]; exact Nat.le_of_ble_eq_true rfl)
  have b5_ := n5
  obtain ⟨G6, p6, g6⟩ := gx_mk (G := G5) (f := 7) (nwL 62 S0) 182 (.ref 62) (by omega) c5 (by simp only [ln_set, l7]; omega)
  have s6 : G6.1 = 64 := by rw [g6.1, s5]; rfl
  have c6 := g6.2.2.2.1
  have n6 := g6.2.2.2.2.1
  rw [s5] at n6
  have i6 := i_nw (d := d + 2) (h := G5)
  rw [s5] at i6
  have z6 := zis_push (h := G5) (ci := 3) (n := (zblank 3).length) (fs := zblank 3)
  rw [s5] at z6
  have b0_6 := gx_at g6 b0_5 (by decide) (by rw [s5]; exact Nat.le_of_ble_eq_true rfl)
  have b1_6 := gx_at g6 b1_5 (by decide) (by rw [s5]; exact Nat.le_of_ble_eq_true rfl)
  have b2_6 := gx_at g6 b2_5 (by decide) (by rw [s5]; exact Nat.le_of_ble_eq_true rfl)
  have b3_6 := gx_at g6 b3_5 (by decide) (by rw [s5]; exact Nat.le_of_ble_eq_true rfl)
  have b4_6 := gx_at g6 b4_5 (by decide) (by rw [s5]; exact Nat.le_of_ble_eq_true rfl)
  have b5_6 := gx_at g6 b5_ (by decide) (by rw [s5]; exact Nat.le_of_ble_eq_true rfl)
  have b6_ := n6
  obtain ⟨G7, p7, g7⟩ := gx_mk (G := G6) (f := 8) (vwL 64 S0) 40 (.ref 64) (by omega) c6 (by simp only [ln_set, l7]; omega)
  have s7 : G7.1 = 68 := by rw [g7.1, s6]; rfl
  have c7 := g7.2.2.2.1
  have n7 := g7.2.2.2.2.1
  rw [s6] at n7
  have i7 := i_vw (d := d + 2) (h := G6)
  rw [s6] at i7
  have z7 := zis_push (h := G6) (ci := 6) (n := (zblank 6).length) (fs := zblank 6)
  rw [s6] at z7
  have b0_7 := gx_at g7 b0_6 (by decide) (by rw [s6]; exact Nat.le_of_ble_eq_true rfl)
  have b1_7 := gx_at g7 b1_6 (by decide) (by rw [s6]; exact Nat.le_of_ble_eq_true rfl)
  have b2_7 := gx_at g7 b2_6 (by decide) (by rw [s6]; exact Nat.le_of_ble_eq_true rfl)
  have b3_7 := gx_at g7 b3_6 (by decide) (by rw [s6]; exact Nat.le_of_ble_eq_true rfl)
  have b4_7 := gx_at g7 b4_6 (by decide) (by rw [s6]; exact Nat.le_of_ble_eq_true rfl)
  have b5_7 := gx_at g7 b5_6 (by decide) (by rw [s6]; exact Nat.le_of_ble_eq_true rfl)
  have b6_7 := gx_at g7 b6_ (by decide) (by rw [s6]; exact Nat.le_of_ble_eq_true rfl)
  have b7_ := n7
  obtain ⟨G8, p8, g8⟩ := gx_mk (G := G7) (f := 9) (lnL 68 S0) 27 (.ref 68) (by omega) c7 (by simp only [ln_set, l7]; omega)
  have s8 : G8.1 = 71 := by rw [g8.1, s7]; rfl
  have c8 := g8.2.2.2.1
  have n8 := g8.2.2.2.2.1
  rw [s7] at n8
  have i8 := i_ln (d := d + 2) (h := G7)
  rw [s7] at i8
  have z8 := zis_push (h := G7) (ci := 1) (n := (zblank 1).length) (fs := zblank 1)
  rw [s7] at z8
  have b0_8 := gx_at g8 b0_7 (by decide) (by rw [s7]; exact Nat.le_of_ble_eq_true rfl)
  have b1_8 := gx_at g8 b1_7 (by decide) (by rw [s7]; exact Nat.le_of_ble_eq_true rfl)
  have b2_8 := gx_at g8 b2_7 (by decide) (by rw [s7]; exact Nat.le_of_ble_eq_true rfl)
  have b3_8 := gx_at g8 b3_7 (by decide) (by rw [s7]; exact Nat.le_of_ble_eq_true rfl)
  have b4_8 := gx_at g8 b4_7 (by decide) (by rw [s7]; exact Nat.le_of_ble_eq_true rfl)
  have b5_8 := gx_at g8 b5_7 (by decide) (by rw [s7]; exact Nat.le_of_ble_eq_true rfl)
  have b6_8 := gx_at g8 b6_7 (by decide) (by rw [s7]; exact Nat.le_of_ble_eq_true rfl)
  have b7_8 := gx_at g8 b7_ (by decide) (by rw [s7]; exact Nat.le_of_ble_eq_true rfl)
  have b8_ := n8
  refine ⟨G8, ?_, s8, ?_, ?_, ?_, b0_8, b1_8, b2_8, b3_8, b4_8, b5_8, b6_8, b7_8, b8_⟩
  · simp only [e97_0, e97_1, e97_4, e97_5, e97_8, e97_9, e97_12, e97_15, e97_16, e97_19, e97_20, e97_23, e97_26, e97_27, e97_30, e97_31, e97_34, e97_37, e97_38, e97_39, e97_42, e97_43, e97_46, e97_47, e97_50, e97_53, e97_54, e97_57, e97_58, e97_61, e97_64, e97_65, e97_68, e97_69, e97_72, e97_75, e97_76, e97_79, e97_80, e97_83, e97_86, e97_87, e97_90, e97_91, e97_94, e97_97, e97_98, e97_101, e97_102, e97_105, e97_108, Option.bind_some, Option.toList_some, Option.toList_none, List.cons_append, List.nil_append, true_or, or_true, and_true, true_and, i10, Bool.false_eq_true, if_true, if_false, reduceIte, a1, s0, s1, s2, sT, s3, s4, s5, s6, s7, z0, i0, p0, z1, i1, p1, z2, i2, p2, pT, z3, i3, p3, z4, i4, p4, z5, i5, p5, z6, i6, p6, z7, i7, p7, z8, i8, p8]
  · rw [g8.2.1, g7.2.1, g6.2.1, g5.2.1, g4.2.1, g3.2.1, gT.2.1, g2.2.1, g1.2.1, g0.2.1]
  · rw [g8.2.2.1, g7.2.2.1, g6.2.2.1, g5.2.2.1, g4.2.2.1, g3.2.2.1, gT.2.2.1, g2.2.2.1, g1.2.2.1, g0.2.2.1]
  · intro k c hk
    cases k with
    | zero =>
      cases hk
      rw [zb_7] at c8
      exact c8
    | succ k => cases hk
end INIT
