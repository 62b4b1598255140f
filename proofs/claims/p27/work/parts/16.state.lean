/-! REGIONS OF THE HEAP: a list of cells from a place on; objects with their arrays behind them -/
def hrg (h : zH) (i : Nat) (l : List zC) : zH := (h.1, h.2.1, fun j => if i ≤ j ∧ j < i + l.length then l.getD (j - i) zvoid else h.2.2.1 j, h.2.2.2)
theorem hrg_get {h : zH} {i k : Nat} {l : List zC} {c : zC} (hk : l[k]? = some c) : zg (hrg h i l) (i + k) = c := by
  have hl : k < l.length := (List.getElem?_eq_some_iff.mp hk).1
  show (if i ≤ i + k ∧ i + k < i + l.length then l.getD (i + k - i) zvoid else h.2.2.1 (i + k)) = c
  rw [if_pos (by omega), Nat.add_sub_cancel_left, List.getD_eq_getElem?_getD, hk]
  rfl
theorem hrg_out {h : zH} {i j : Nat} {l : List zC} (hj : j < i ∨ i + l.length ≤ j) : zg (hrg h i l) j = zg h j := by
  show (if i ≤ j ∧ j < i + l.length then l.getD (j - i) zvoid else h.2.2.1 j) = _
  rw [if_neg (by omega)]
  rfl
theorem zH_ext {a b : zH} (h1 : a.1 = b.1) (h2 : a.2.1 = b.2.1) (h3 : a.2.2.2 = b.2.2.2) (h4 : ∀ j, zg a j = zg b j) : a = b := by
  obtain ⟨a1, a2, a3, a4⟩ := a
  obtain ⟨b1, b2, b3, b4⟩ := b
  dsimp only at h1 h2 h3
  subst h1; subst h2; subst h3
  have : a3 = b3 := funext h4
  rw [this]
theorem hrg_set {h : zH} {i k : Nat} {l : List zC} {c : zC} (hk : k < l.length) : zu (hrg h i l) (i + k) c = hrg h i (l.set k c) := by
  refine zH_ext rfl rfl rfl fun j => ?_
  rw [zg_zu]
  by_cases hj : j = i + k
  · subst hj
    rw [if_pos rfl]
    exact (hrg_get (by rw [List.getElem?_set_self hk])).symm
  · rw [if_neg hj]
    by_cases hr : i ≤ j ∧ j < i + l.length
    · obtain ⟨q, rfl⟩ : ∃ q, j = i + q := ⟨j - i, by omega⟩
      have hq : q < l.length := by omega
      rw [hrg_get (List.getElem?_eq_getElem hq), hrg_get (c := l[q]) (by rw [List.getElem?_set_ne (by omega)]; exact List.getElem?_eq_getElem hq)]
    · rw [hrg_out (by omega), hrg_out (by rw [List.length_set]; omega)]
theorem hrg_zu {h : zH} {i j : Nat} {l : List zC} {c : zC} (hj : j < i ∨ i + l.length ≤ j) : zu (hrg h i l) j c = hrg (zu h j c) i l := by
  refine zH_ext rfl rfl rfl fun q => ?_
  rw [zg_zu]
  by_cases hq : q = j
  · subst hq
    rw [if_pos rfl, hrg_out hj, zg_zu, if_pos rfl]
  · rw [if_neg hq]
    by_cases hr : i ≤ q ∧ q < i + l.length
    · obtain ⟨k, rfl⟩ : ∃ k, q = i + k := ⟨q - i, by omega⟩
      have hk : k < l.length := by omega
      rw [hrg_get (List.getElem?_eq_getElem hk), hrg_get (List.getElem?_eq_getElem hk)]
    · rw [hrg_out (by omega), hrg_out (by omega), zg_zu, if_neg hq]
theorem hrg_self {h : zH} {i : Nat} {l : List zC} (hl : ∀ k c, l[k]? = some c → zg h (i + k) = c) : hrg h i l = h := by
  refine zH_ext rfl rfl rfl fun q => ?_
  by_cases hr : i ≤ q ∧ q < i + l.length
  · obtain ⟨k, rfl⟩ : ∃ k, q = i + k := ⟨q - i, by omega⟩
    have hk : k < l.length := by omega
    rw [hrg_get (List.getElem?_eq_getElem hk), hl k _ (List.getElem?_eq_getElem hk)]
  · rw [hrg_out (by omega)]
theorem hrg_hrg {h : zH} {i : Nat} {l m : List zC} (hl : l.length = m.length) : hrg (hrg h i l) i m = hrg h i m := by
  refine zH_ext rfl rfl rfl fun q => ?_
  by_cases hr : i ≤ q ∧ q < i + l.length
  · obtain ⟨k, rfl⟩ : ∃ k, q = i + k := ⟨q - i, by omega⟩
    have hk : k < m.length := by omega
    rw [hrg_get (List.getElem?_eq_getElem hk), hrg_get (List.getElem?_eq_getElem hk)]
  · rw [hrg_out (by omega), hrg_out (by omega), hrg_out (by omega)]
theorem hrg_comm {h : zH} {i j : Nat} {l m : List zC} (hd : i + l.length ≤ j ∨ j + m.length ≤ i) : hrg (hrg h i l) j m = hrg (hrg h j m) i l := by
  refine zH_ext rfl rfl rfl fun q => ?_
  by_cases hr : i ≤ q ∧ q < i + l.length
  · obtain ⟨k, rfl⟩ : ∃ k, q = i + k := ⟨q - i, by omega⟩
    have hk : k < l.length := by omega
    rw [hrg_out (by omega), hrg_get (List.getElem?_eq_getElem hk), hrg_get (List.getElem?_eq_getElem hk)]
  · by_cases hs : j ≤ q ∧ q < j + m.length
    · obtain ⟨k, rfl⟩ : ∃ k, q = j + k := ⟨q - j, by omega⟩
      have hk : k < m.length := by omega
      rw [hrg_get (List.getElem?_eq_getElem hk), hrg_out (by omega), hrg_get (List.getElem?_eq_getElem hk)]
    · rw [hrg_out (by omega), hrg_out (by omega), hrg_out (by omega), hrg_out (by omega)]
/-- a part of a region written anew -/
theorem hrg_in {h : zH} {i j : Nat} {l m l' : List zC} (h1 : l'.length = l.length) (h2 : j + m.length ≤ l.length) (h3 : ∀ k, k < l.length → l'[k]? = if j ≤ k ∧ k < j + m.length then m[k - j]? else l[k]?) : hrg (hrg h i l) (i + j) m = hrg h i l' := by
  refine zH_ext rfl rfl rfl fun q => ?_
  by_cases hr : i ≤ q ∧ q < i + l.length
  · obtain ⟨k, rfl⟩ : ∃ k, q = i + k := ⟨q - i, by omega⟩
    have hk : k < l.length := by omega
    have h4 := h3 k hk
    rw [hrg_get (i := i) (l := l') (List.getElem?_eq_getElem (by omega))]
    by_cases hj : j ≤ k ∧ k < j + m.length
    · rw [if_pos hj, List.getElem?_eq_getElem (by omega : k < l'.length)] at h4
      obtain ⟨u, rfl⟩ : ∃ u, k = j + u := ⟨k - j, by omega⟩
      rw [← Nat.add_assoc]
      exact hrg_get (by rw [h4, Nat.add_sub_cancel_left])
    · rw [if_neg hj, List.getElem?_eq_getElem (by omega : k < l'.length)] at h4
      rw [hrg_out (by omega)]
      exact hrg_get h4.symm
  · rw [hrg_out (by omega), hrg_out (by omega), hrg_out (by omega)]
/-- an object's arrays and numbers -/
abbrev oS : Type := (Nat → Nat → Int32) × (Nat → Int32)
def setR (M : oS) (k : Nat) (f : Nat → Int32) : oS := (fun j => if j = k then f else M.1 j, M.2)
def setI (M : oS) (k : Nat) (x : Int32) : oS := (M.1, fun j => if j = k then x else M.2 j)
theorem setR_1 (M : oS) (k j : Nat) (f : Nat → Int32) : (setR M k f).1 j = if j = k then f else M.1 j := rfl
theorem setR_2 (M : oS) (k : Nat) (f : Nat → Int32) : (setR M k f).2 = M.2 := rfl
theorem setI_1 (M : oS) (k : Nat) (x : Int32) : (setI M k x).1 = M.1 := rfl
theorem setI_2 (M : oS) (k j : Nat) (x : Int32) : (setI M k x).2 j = if j = k then x else M.2 j := rfl
/-- a read of a row of n -/
def zrd (n : Nat) (f : Nat → Int32) (j : Int32) : Option Int32 := if zin j n = true then some (f j.toNatClampNeg) else none
theorem zin_nI {n k : Nat} (hk : k < 2 ^ 31) : zin (nI k) n = decide (k < n) := by
  unfold zin
  rw [nI_clamp hk]
  have : ¬ nI k < 0 := nI_pos hk
  simp [this]
theorem zrd_nI {n k : Nat} {f : Nat → Int32} (hk : k < n) (hn : n < 2 ^ 31) : zrd n f (nI k) = some (f k) := by
  unfold zrd
  rw [zin_nI (by omega), nI_clamp (by omega), if_pos (decide_eq_true hk)]
theorem zin_some {j : Int32} {n : Nat} (hn : n < 2 ^ 31) (h : zin j n = true) : ∃ k, k < n ∧ j = nI k := by
  obtain ⟨k, hk, e⟩ := vp_in_of (zin_vp h) hn
  exact ⟨k, hk, e⟩
/-! a stock: rows 0 size, 1 room, 2 gaps, 3 label, 4 holder, 5 place; numbers 0 crates, 1 refused -/
def stL (i : Nat) (S : oS) : List zC := [.inr (.inr (5, [.ref (i + 1), .ref (i + 2), .ref (i + 3), .ref (i + 4), .ref (i + 5), .ref (i + 6), .int (S.2 0), .int (S.2 1)])), .inl (0, 12, S.1 0), .inl (0, 12, S.1 1), .inl (0, 12, S.1 2), .inl (0, 12, S.1 3), .inl (0, 12, S.1 4), .inl (0, 12, S.1 5)]
def hst (h : zH) (i : Nat) (S : oS) : zH := hrg h i (stL i S)
theorem st_len {i : Nat} {S : oS} : (stL i S).length = 7 := rfl
theorem st_is {h : zH} {i : Nat} {S : oS} : zis (hst h i S) i 5 = true := by
  unfold zis hst
  rw [show zg (hrg h i (stL i S)) i = _ from hrg_get (k := 0) rfl]
  rfl
theorem st_g0 {h : zH} {i : Nat} {S : oS} : zgetf (hst h i S) i 5 0 = some (.ref (i + 1)) := by
  unfold zgetf hst
  rw [show zg (hrg h i (stL i S)) i = _ from hrg_get (k := 0) rfl]
  rfl
theorem st_g1 {h : zH} {i : Nat} {S : oS} : zgetf (hst h i S) i 5 1 = some (.ref (i + 2)) := by
  unfold zgetf hst
  rw [show zg (hrg h i (stL i S)) i = _ from hrg_get (k := 0) rfl]
  rfl
theorem st_g2 {h : zH} {i : Nat} {S : oS} : zgetf (hst h i S) i 5 2 = some (.ref (i + 3)) := by
  unfold zgetf hst
  rw [show zg (hrg h i (stL i S)) i = _ from hrg_get (k := 0) rfl]
  rfl
theorem st_g3 {h : zH} {i : Nat} {S : oS} : zgetf (hst h i S) i 5 3 = some (.ref (i + 4)) := by
  unfold zgetf hst
  rw [show zg (hrg h i (stL i S)) i = _ from hrg_get (k := 0) rfl]
  rfl
theorem st_g4 {h : zH} {i : Nat} {S : oS} : zgetf (hst h i S) i 5 4 = some (.ref (i + 5)) := by
  unfold zgetf hst
  rw [show zg (hrg h i (stL i S)) i = _ from hrg_get (k := 0) rfl]
  rfl
theorem st_g5 {h : zH} {i : Nat} {S : oS} : zgetf (hst h i S) i 5 5 = some (.ref (i + 6)) := by
  unfold zgetf hst
  rw [show zg (hrg h i (stL i S)) i = _ from hrg_get (k := 0) rfl]
  rfl
theorem st_g6 {h : zH} {i : Nat} {S : oS} : zgetf (hst h i S) i 5 6 = some (.int (S.2 0)) := by
  unfold zgetf hst
  rw [show zg (hrg h i (stL i S)) i = _ from hrg_get (k := 0) rfl]
  rfl
theorem st_p6 {h : zH} {i : Nat} {S : oS} {x : Int32} : zputf (hst h i S) i 5 6 (.int x) = some (hst h i (setI S 0 x)) := by
  unfold zputf hst
  rw [show zg (hrg h i (stL i S)) i = _ from hrg_get (k := 0) rfl]
  exact congrArg some (hrg_set (k := 0) (Nat.zero_lt_succ _))
theorem st_g7 {h : zH} {i : Nat} {S : oS} : zgetf (hst h i S) i 5 7 = some (.int (S.2 1)) := by
  unfold zgetf hst
  rw [show zg (hrg h i (stL i S)) i = _ from hrg_get (k := 0) rfl]
  rfl
theorem st_p7 {h : zH} {i : Nat} {S : oS} {x : Int32} : zputf (hst h i S) i 5 7 (.int x) = some (hst h i (setI S 1 x)) := by
  unfold zputf hst
  rw [show zg (hrg h i (stL i S)) i = _ from hrg_get (k := 0) rfl]
  exact congrArg some (hrg_set (k := 0) (Nat.zero_lt_succ _))
theorem st_l0 {h : zH} {i : Nat} {S : oS} {j : Int32} : zald 0 (hst h i S) (i + 1) j = zrd 12 (S.1 0) j := by
  unfold zald hst
  rw [show zg (hrg h i (stL i S)) (i + 1) = _ from hrg_get (k := 1) rfl]
  simp only [zrd, true_and]
theorem st_s0 {h : zH} {i : Nat} {S : oS} {j x : Int32} : zasti (hst h i S) (i + 1) j x = if zin j 12 = true then some (hst h i (setR S 0 (upd (S.1 0) j.toNatClampNeg x))) else none := by
  unfold zasti hst
  rw [show zg (hrg h i (stL i S)) (i + 1) = _ from hrg_get (k := 1) rfl]
  simp only [true_and]
  by_cases hj : zin j 12 = true
  · rw [if_pos hj, if_pos hj]
    exact congrArg some (hrg_set (k := 1) (show 1 < 7 by decide))
  · rw [if_neg hj, if_neg hj]
theorem st_n0 {h : zH} {i : Nat} {S : oS} : zlen (hst h i S) (i + 1) = some 12 := by
  unfold zlen hst
  rw [show zg (hrg h i (stL i S)) (i + 1) = _ from hrg_get (k := 1) rfl]
  rfl
theorem st_l1 {h : zH} {i : Nat} {S : oS} {j : Int32} : zald 0 (hst h i S) (i + 2) j = zrd 12 (S.1 1) j := by
  unfold zald hst
  rw [show zg (hrg h i (stL i S)) (i + 2) = _ from hrg_get (k := 2) rfl]
  simp only [zrd, true_and]
theorem st_s1 {h : zH} {i : Nat} {S : oS} {j x : Int32} : zasti (hst h i S) (i + 2) j x = if zin j 12 = true then some (hst h i (setR S 1 (upd (S.1 1) j.toNatClampNeg x))) else none := by
  unfold zasti hst
  rw [show zg (hrg h i (stL i S)) (i + 2) = _ from hrg_get (k := 2) rfl]
  simp only [true_and]
  by_cases hj : zin j 12 = true
  · rw [if_pos hj, if_pos hj]
    exact congrArg some (hrg_set (k := 2) (show 2 < 7 by decide))
  · rw [if_neg hj, if_neg hj]
theorem st_n1 {h : zH} {i : Nat} {S : oS} : zlen (hst h i S) (i + 2) = some 12 := by
  unfold zlen hst
  rw [show zg (hrg h i (stL i S)) (i + 2) = _ from hrg_get (k := 2) rfl]
  rfl
theorem st_l2 {h : zH} {i : Nat} {S : oS} {j : Int32} : zald 0 (hst h i S) (i + 3) j = zrd 12 (S.1 2) j := by
  unfold zald hst
  rw [show zg (hrg h i (stL i S)) (i + 3) = _ from hrg_get (k := 3) rfl]
  simp only [zrd, true_and]
theorem st_s2 {h : zH} {i : Nat} {S : oS} {j x : Int32} : zasti (hst h i S) (i + 3) j x = if zin j 12 = true then some (hst h i (setR S 2 (upd (S.1 2) j.toNatClampNeg x))) else none := by
  unfold zasti hst
  rw [show zg (hrg h i (stL i S)) (i + 3) = _ from hrg_get (k := 3) rfl]
  simp only [true_and]
  by_cases hj : zin j 12 = true
  · rw [if_pos hj, if_pos hj]
    exact congrArg some (hrg_set (k := 3) (show 3 < 7 by decide))
  · rw [if_neg hj, if_neg hj]
theorem st_n2 {h : zH} {i : Nat} {S : oS} : zlen (hst h i S) (i + 3) = some 12 := by
  unfold zlen hst
  rw [show zg (hrg h i (stL i S)) (i + 3) = _ from hrg_get (k := 3) rfl]
  rfl
theorem st_l3 {h : zH} {i : Nat} {S : oS} {j : Int32} : zald 0 (hst h i S) (i + 4) j = zrd 12 (S.1 3) j := by
  unfold zald hst
  rw [show zg (hrg h i (stL i S)) (i + 4) = _ from hrg_get (k := 4) rfl]
  simp only [zrd, true_and]
theorem st_s3 {h : zH} {i : Nat} {S : oS} {j x : Int32} : zasti (hst h i S) (i + 4) j x = if zin j 12 = true then some (hst h i (setR S 3 (upd (S.1 3) j.toNatClampNeg x))) else none := by
  unfold zasti hst
  rw [show zg (hrg h i (stL i S)) (i + 4) = _ from hrg_get (k := 4) rfl]
  simp only [true_and]
  by_cases hj : zin j 12 = true
  · rw [if_pos hj, if_pos hj]
    exact congrArg some (hrg_set (k := 4) (show 4 < 7 by decide))
  · rw [if_neg hj, if_neg hj]
theorem st_n3 {h : zH} {i : Nat} {S : oS} : zlen (hst h i S) (i + 4) = some 12 := by
  unfold zlen hst
  rw [show zg (hrg h i (stL i S)) (i + 4) = _ from hrg_get (k := 4) rfl]
  rfl
theorem st_l4 {h : zH} {i : Nat} {S : oS} {j : Int32} : zald 0 (hst h i S) (i + 5) j = zrd 12 (S.1 4) j := by
  unfold zald hst
  rw [show zg (hrg h i (stL i S)) (i + 5) = _ from hrg_get (k := 5) rfl]
  simp only [zrd, true_and]
theorem st_s4 {h : zH} {i : Nat} {S : oS} {j x : Int32} : zasti (hst h i S) (i + 5) j x = if zin j 12 = true then some (hst h i (setR S 4 (upd (S.1 4) j.toNatClampNeg x))) else none := by
  unfold zasti hst
  rw [show zg (hrg h i (stL i S)) (i + 5) = _ from hrg_get (k := 5) rfl]
  simp only [true_and]
  by_cases hj : zin j 12 = true
  · rw [if_pos hj, if_pos hj]
    exact congrArg some (hrg_set (k := 5) (show 5 < 7 by decide))
  · rw [if_neg hj, if_neg hj]
theorem st_n4 {h : zH} {i : Nat} {S : oS} : zlen (hst h i S) (i + 5) = some 12 := by
  unfold zlen hst
  rw [show zg (hrg h i (stL i S)) (i + 5) = _ from hrg_get (k := 5) rfl]
  rfl
theorem st_l5 {h : zH} {i : Nat} {S : oS} {j : Int32} : zald 0 (hst h i S) (i + 6) j = zrd 12 (S.1 5) j := by
  unfold zald hst
  rw [show zg (hrg h i (stL i S)) (i + 6) = _ from hrg_get (k := 6) rfl]
  simp only [zrd, true_and]
theorem st_s5 {h : zH} {i : Nat} {S : oS} {j x : Int32} : zasti (hst h i S) (i + 6) j x = if zin j 12 = true then some (hst h i (setR S 5 (upd (S.1 5) j.toNatClampNeg x))) else none := by
  unfold zasti hst
  rw [show zg (hrg h i (stL i S)) (i + 6) = _ from hrg_get (k := 6) rfl]
  simp only [true_and]
  by_cases hj : zin j 12 = true
  · rw [if_pos hj, if_pos hj]
    exact congrArg some (hrg_set (k := 6) (show 6 < 7 by decide))
  · rw [if_neg hj, if_neg hj]
theorem st_n5 {h : zH} {i : Nat} {S : oS} : zlen (hst h i S) (i + 6) = some 12 := by
  unfold zlen hst
  rw [show zg (hrg h i (stL i S)) (i + 6) = _ from hrg_get (k := 6) rfl]
  rfl
theorem st_hh {h : zH} {i : Nat} {S T : oS} : hst (hst h i S) i T = hst h i T := hrg_hrg rfl
theorem st_og {h : zH} {i j : Nat} {S : oS} (hj : j < i ∨ i + 7 ≤ j) : zg (hst h i S) j = zg h j := hrg_out hj
theorem st_ozu {h : zH} {i j : Nat} {S : oS} {c : zC} (hj : j < i ∨ i + 7 ≤ j) : zu (hst h i S) j c = hst (zu h j c) i S := hrg_zu hj
/-! a view: rows 0 size, 1 depth, 2 signs; number 0 crates -/
def vwL (i : Nat) (S : oS) : List zC := [.inr (.inr (6, [.ref (i + 1), .ref (i + 2), .ref (i + 3), .int (S.2 0)])), .inl (0, 12, S.1 0), .inl (0, 12, S.1 1), .inl (0, 12, S.1 2)]
def hvw (h : zH) (i : Nat) (S : oS) : zH := hrg h i (vwL i S)
theorem vw_len {i : Nat} {S : oS} : (vwL i S).length = 4 := rfl
theorem vw_is {h : zH} {i : Nat} {S : oS} : zis (hvw h i S) i 6 = true := by
  unfold zis hvw
  rw [show zg (hrg h i (vwL i S)) i = _ from hrg_get (k := 0) rfl]
  rfl
theorem vw_g0 {h : zH} {i : Nat} {S : oS} : zgetf (hvw h i S) i 6 0 = some (.ref (i + 1)) := by
  unfold zgetf hvw
  rw [show zg (hrg h i (vwL i S)) i = _ from hrg_get (k := 0) rfl]
  rfl
theorem vw_g1 {h : zH} {i : Nat} {S : oS} : zgetf (hvw h i S) i 6 1 = some (.ref (i + 2)) := by
  unfold zgetf hvw
  rw [show zg (hrg h i (vwL i S)) i = _ from hrg_get (k := 0) rfl]
  rfl
theorem vw_g2 {h : zH} {i : Nat} {S : oS} : zgetf (hvw h i S) i 6 2 = some (.ref (i + 3)) := by
  unfold zgetf hvw
  rw [show zg (hrg h i (vwL i S)) i = _ from hrg_get (k := 0) rfl]
  rfl
theorem vw_g3 {h : zH} {i : Nat} {S : oS} : zgetf (hvw h i S) i 6 3 = some (.int (S.2 0)) := by
  unfold zgetf hvw
  rw [show zg (hrg h i (vwL i S)) i = _ from hrg_get (k := 0) rfl]
  rfl
theorem vw_p3 {h : zH} {i : Nat} {S : oS} {x : Int32} : zputf (hvw h i S) i 6 3 (.int x) = some (hvw h i (setI S 0 x)) := by
  unfold zputf hvw
  rw [show zg (hrg h i (vwL i S)) i = _ from hrg_get (k := 0) rfl]
  exact congrArg some (hrg_set (k := 0) (Nat.zero_lt_succ _))
theorem vw_l0 {h : zH} {i : Nat} {S : oS} {j : Int32} : zald 0 (hvw h i S) (i + 1) j = zrd 12 (S.1 0) j := by
  unfold zald hvw
  rw [show zg (hrg h i (vwL i S)) (i + 1) = _ from hrg_get (k := 1) rfl]
  simp only [zrd, true_and]
theorem vw_s0 {h : zH} {i : Nat} {S : oS} {j x : Int32} : zasti (hvw h i S) (i + 1) j x = if zin j 12 = true then some (hvw h i (setR S 0 (upd (S.1 0) j.toNatClampNeg x))) else none := by
  unfold zasti hvw
  rw [show zg (hrg h i (vwL i S)) (i + 1) = _ from hrg_get (k := 1) rfl]
  simp only [true_and]
  by_cases hj : zin j 12 = true
  · rw [if_pos hj, if_pos hj]
    exact congrArg some (hrg_set (k := 1) (show 1 < 4 by decide))
  · rw [if_neg hj, if_neg hj]
theorem vw_n0 {h : zH} {i : Nat} {S : oS} : zlen (hvw h i S) (i + 1) = some 12 := by
  unfold zlen hvw
  rw [show zg (hrg h i (vwL i S)) (i + 1) = _ from hrg_get (k := 1) rfl]
  rfl
theorem vw_l1 {h : zH} {i : Nat} {S : oS} {j : Int32} : zald 0 (hvw h i S) (i + 2) j = zrd 12 (S.1 1) j := by
  unfold zald hvw
  rw [show zg (hrg h i (vwL i S)) (i + 2) = _ from hrg_get (k := 2) rfl]
  simp only [zrd, true_and]
theorem vw_s1 {h : zH} {i : Nat} {S : oS} {j x : Int32} : zasti (hvw h i S) (i + 2) j x = if zin j 12 = true then some (hvw h i (setR S 1 (upd (S.1 1) j.toNatClampNeg x))) else none := by
  unfold zasti hvw
  rw [show zg (hrg h i (vwL i S)) (i + 2) = _ from hrg_get (k := 2) rfl]
  simp only [true_and]
  by_cases hj : zin j 12 = true
  · rw [if_pos hj, if_pos hj]
    exact congrArg some (hrg_set (k := 2) (show 2 < 4 by decide))
  · rw [if_neg hj, if_neg hj]
theorem vw_n1 {h : zH} {i : Nat} {S : oS} : zlen (hvw h i S) (i + 2) = some 12 := by
  unfold zlen hvw
  rw [show zg (hrg h i (vwL i S)) (i + 2) = _ from hrg_get (k := 2) rfl]
  rfl
theorem vw_l2 {h : zH} {i : Nat} {S : oS} {j : Int32} : zald 0 (hvw h i S) (i + 3) j = zrd 12 (S.1 2) j := by
  unfold zald hvw
  rw [show zg (hrg h i (vwL i S)) (i + 3) = _ from hrg_get (k := 3) rfl]
  simp only [zrd, true_and]
theorem vw_s2 {h : zH} {i : Nat} {S : oS} {j x : Int32} : zasti (hvw h i S) (i + 3) j x = if zin j 12 = true then some (hvw h i (setR S 2 (upd (S.1 2) j.toNatClampNeg x))) else none := by
  unfold zasti hvw
  rw [show zg (hrg h i (vwL i S)) (i + 3) = _ from hrg_get (k := 3) rfl]
  simp only [true_and]
  by_cases hj : zin j 12 = true
  · rw [if_pos hj, if_pos hj]
    exact congrArg some (hrg_set (k := 3) (show 3 < 4 by decide))
  · rw [if_neg hj, if_neg hj]
theorem vw_n2 {h : zH} {i : Nat} {S : oS} : zlen (hvw h i S) (i + 3) = some 12 := by
  unfold zlen hvw
  rw [show zg (hrg h i (vwL i S)) (i + 3) = _ from hrg_get (k := 3) rfl]
  rfl
theorem vw_hh {h : zH} {i : Nat} {S T : oS} : hvw (hvw h i S) i T = hvw h i T := hrg_hrg rfl
theorem vw_og {h : zH} {i j : Nat} {S : oS} (hj : j < i ∨ i + 4 ≤ j) : zg (hvw h i S) j = zg h j := hrg_out hj
theorem vw_ozu {h : zH} {i j : Nat} {S : oS} {c : zC} (hj : j < i ∨ i + 4 ≤ j) : zu (hvw h i S) j c = hvw (zu h j c) i S := hrg_zu hj
/-! a loose nest: rows 0 length, 1 nest; number 0 length -/
def lnL (i : Nat) (S : oS) : List zC := [.inr (.inr (1, [.ref (i + 1), .ref (i + 2), .int (S.2 0)])), .inl (0, 12, S.1 0), .inl (0, 12, S.1 1)]
def hln (h : zH) (i : Nat) (S : oS) : zH := hrg h i (lnL i S)
theorem ln_len {i : Nat} {S : oS} : (lnL i S).length = 3 := rfl
theorem ln_is {h : zH} {i : Nat} {S : oS} : zis (hln h i S) i 1 = true := by
  unfold zis hln
  rw [show zg (hrg h i (lnL i S)) i = _ from hrg_get (k := 0) rfl]
  rfl
theorem ln_g0 {h : zH} {i : Nat} {S : oS} : zgetf (hln h i S) i 1 0 = some (.ref (i + 1)) := by
  unfold zgetf hln
  rw [show zg (hrg h i (lnL i S)) i = _ from hrg_get (k := 0) rfl]
  rfl
theorem ln_g1 {h : zH} {i : Nat} {S : oS} : zgetf (hln h i S) i 1 1 = some (.ref (i + 2)) := by
  unfold zgetf hln
  rw [show zg (hrg h i (lnL i S)) i = _ from hrg_get (k := 0) rfl]
  rfl
theorem ln_g2 {h : zH} {i : Nat} {S : oS} : zgetf (hln h i S) i 1 2 = some (.int (S.2 0)) := by
  unfold zgetf hln
  rw [show zg (hrg h i (lnL i S)) i = _ from hrg_get (k := 0) rfl]
  rfl
theorem ln_p2 {h : zH} {i : Nat} {S : oS} {x : Int32} : zputf (hln h i S) i 1 2 (.int x) = some (hln h i (setI S 0 x)) := by
  unfold zputf hln
  rw [show zg (hrg h i (lnL i S)) i = _ from hrg_get (k := 0) rfl]
  exact congrArg some (hrg_set (k := 0) (Nat.zero_lt_succ _))
theorem ln_l0 {h : zH} {i : Nat} {S : oS} {j : Int32} : zald 0 (hln h i S) (i + 1) j = zrd 12 (S.1 0) j := by
  unfold zald hln
  rw [show zg (hrg h i (lnL i S)) (i + 1) = _ from hrg_get (k := 1) rfl]
  simp only [zrd, true_and]
theorem ln_s0 {h : zH} {i : Nat} {S : oS} {j x : Int32} : zasti (hln h i S) (i + 1) j x = if zin j 12 = true then some (hln h i (setR S 0 (upd (S.1 0) j.toNatClampNeg x))) else none := by
  unfold zasti hln
  rw [show zg (hrg h i (lnL i S)) (i + 1) = _ from hrg_get (k := 1) rfl]
  simp only [true_and]
  by_cases hj : zin j 12 = true
  · rw [if_pos hj, if_pos hj]
    exact congrArg some (hrg_set (k := 1) (show 1 < 3 by decide))
  · rw [if_neg hj, if_neg hj]
theorem ln_n0 {h : zH} {i : Nat} {S : oS} : zlen (hln h i S) (i + 1) = some 12 := by
  unfold zlen hln
  rw [show zg (hrg h i (lnL i S)) (i + 1) = _ from hrg_get (k := 1) rfl]
  rfl
theorem ln_l1 {h : zH} {i : Nat} {S : oS} {j : Int32} : zald 0 (hln h i S) (i + 2) j = zrd 12 (S.1 1) j := by
  unfold zald hln
  rw [show zg (hrg h i (lnL i S)) (i + 2) = _ from hrg_get (k := 2) rfl]
  simp only [zrd, true_and]
theorem ln_s1 {h : zH} {i : Nat} {S : oS} {j x : Int32} : zasti (hln h i S) (i + 2) j x = if zin j 12 = true then some (hln h i (setR S 1 (upd (S.1 1) j.toNatClampNeg x))) else none := by
  unfold zasti hln
  rw [show zg (hrg h i (lnL i S)) (i + 2) = _ from hrg_get (k := 2) rfl]
  simp only [true_and]
  by_cases hj : zin j 12 = true
  · rw [if_pos hj, if_pos hj]
    exact congrArg some (hrg_set (k := 2) (show 2 < 3 by decide))
  · rw [if_neg hj, if_neg hj]
theorem ln_n1 {h : zH} {i : Nat} {S : oS} : zlen (hln h i S) (i + 2) = some 12 := by
  unfold zlen hln
  rw [show zg (hrg h i (lnL i S)) (i + 2) = _ from hrg_get (k := 2) rfl]
  rfl
theorem ln_hh {h : zH} {i : Nat} {S T : oS} : hln (hln h i S) i T = hln h i T := hrg_hrg rfl
theorem ln_og {h : zH} {i j : Nat} {S : oS} (hj : j < i ∨ i + 3 ≤ j) : zg (hln h i S) j = zg h j := hrg_out hj
theorem ln_ozu {h : zH} {i j : Nat} {S : oS} {c : zC} (hj : j < i ∨ i + 3 ≤ j) : zu (hln h i S) j c = hln (zu h j c) i S := hrg_zu hj
/-! a pad: row 0 signs, number 0 length -/
def pdL (i : Nat) (S : oS) : List zC := [.inr (.inr (4, [.ref (i + 1), .int (S.2 0)])), .inl (1, 80, S.1 0)]
def hpd (h : zH) (i : Nat) (S : oS) : zH := hrg h i (pdL i S)
theorem pd_len {i : Nat} {S : oS} : (pdL i S).length = 2 := rfl
theorem pd_is {h : zH} {i : Nat} {S : oS} : zis (hpd h i S) i 4 = true := by
  unfold zis hpd
  rw [show zg (hrg h i (pdL i S)) i = _ from hrg_get (k := 0) rfl]
  rfl
theorem pd_g0 {h : zH} {i : Nat} {S : oS} : zgetf (hpd h i S) i 4 0 = some (.ref (i + 1)) := by
  unfold zgetf hpd
  rw [show zg (hrg h i (pdL i S)) i = _ from hrg_get (k := 0) rfl]
  rfl
theorem pd_g1 {h : zH} {i : Nat} {S : oS} : zgetf (hpd h i S) i 4 1 = some (.int (S.2 0)) := by
  unfold zgetf hpd
  rw [show zg (hrg h i (pdL i S)) i = _ from hrg_get (k := 0) rfl]
  rfl
theorem pd_p1 {h : zH} {i : Nat} {S : oS} {x : Int32} : zputf (hpd h i S) i 4 1 (.int x) = some (hpd h i (setI S 0 x)) := by
  unfold zputf hpd
  rw [show zg (hrg h i (pdL i S)) i = _ from hrg_get (k := 0) rfl]
  exact congrArg some (hrg_set (k := 0) (Nat.zero_lt_succ _))
theorem pd_l0 {h : zH} {i : Nat} {S : oS} {j : Int32} : zald 1 (hpd h i S) (i + 1) j = zrd 80 (S.1 0) j := by
  unfold zald hpd
  rw [show zg (hrg h i (pdL i S)) (i + 1) = _ from hrg_get (k := 1) rfl]
  simp only [zrd, true_and]
theorem pd_s0 {h : zH} {i : Nat} {S : oS} {j x : Int32} : zastc (hpd h i S) (i + 1) j x = if zin j 80 = true then some (hpd h i (setR S 0 (upd (S.1 0) j.toNatClampNeg (vp_nar .char x)))) else none := by
  unfold zastc hpd
  rw [show zg (hrg h i (pdL i S)) (i + 1) = _ from hrg_get (k := 1) rfl]
  simp only [true_and]
  by_cases hj : zin j 80 = true
  · rw [if_pos hj, if_pos hj]
    exact congrArg some (hrg_set (k := 1) (show 1 < 2 by decide))
  · rw [if_neg hj, if_neg hj]
theorem pd_n0 {h : zH} {i : Nat} {S : oS} : zlen (hpd h i S) (i + 1) = some 80 := by
  unfold zlen hpd
  rw [show zg (hrg h i (pdL i S)) (i + 1) = _ from hrg_get (k := 1) rfl]
  rfl
theorem pd_hh {h : zH} {i : Nat} {S T : oS} : hpd (hpd h i S) i T = hpd h i T := hrg_hrg rfl
theorem pd_og {h : zH} {i j : Nat} {S : oS} (hj : j < i ∨ i + 2 ≤ j) : zg (hpd h i S) j = zg h j := hrg_out hj
theorem pd_ozu {h : zH} {i j : Nat} {S : oS} {c : zC} (hj : j < i ∨ i + 2 ≤ j) : zu (hpd h i S) j c = hpd (zu h j c) i S := hrg_zu hj
/-! a writer: row 0 signs, number 0 length -/
def nwL (i : Nat) (S : oS) : List zC := [.inr (.inr (3, [.ref (i + 1), .int (S.2 0)])), .inl (1, 180, S.1 0)]
def hnw (h : zH) (i : Nat) (S : oS) : zH := hrg h i (nwL i S)
theorem nw_len {i : Nat} {S : oS} : (nwL i S).length = 2 := rfl
theorem nw_is {h : zH} {i : Nat} {S : oS} : zis (hnw h i S) i 3 = true := by
  unfold zis hnw
  rw [show zg (hrg h i (nwL i S)) i = _ from hrg_get (k := 0) rfl]
  rfl
theorem nw_g0 {h : zH} {i : Nat} {S : oS} : zgetf (hnw h i S) i 3 0 = some (.ref (i + 1)) := by
  unfold zgetf hnw
  rw [show zg (hrg h i (nwL i S)) i = _ from hrg_get (k := 0) rfl]
  rfl
theorem nw_g1 {h : zH} {i : Nat} {S : oS} : zgetf (hnw h i S) i 3 1 = some (.int (S.2 0)) := by
  unfold zgetf hnw
  rw [show zg (hrg h i (nwL i S)) i = _ from hrg_get (k := 0) rfl]
  rfl
theorem nw_p1 {h : zH} {i : Nat} {S : oS} {x : Int32} : zputf (hnw h i S) i 3 1 (.int x) = some (hnw h i (setI S 0 x)) := by
  unfold zputf hnw
  rw [show zg (hrg h i (nwL i S)) i = _ from hrg_get (k := 0) rfl]
  exact congrArg some (hrg_set (k := 0) (Nat.zero_lt_succ _))
theorem nw_l0 {h : zH} {i : Nat} {S : oS} {j : Int32} : zald 1 (hnw h i S) (i + 1) j = zrd 180 (S.1 0) j := by
  unfold zald hnw
  rw [show zg (hrg h i (nwL i S)) (i + 1) = _ from hrg_get (k := 1) rfl]
  simp only [zrd, true_and]
theorem nw_s0 {h : zH} {i : Nat} {S : oS} {j x : Int32} : zastc (hnw h i S) (i + 1) j x = if zin j 180 = true then some (hnw h i (setR S 0 (upd (S.1 0) j.toNatClampNeg (vp_nar .char x)))) else none := by
  unfold zastc hnw
  rw [show zg (hrg h i (nwL i S)) (i + 1) = _ from hrg_get (k := 1) rfl]
  simp only [true_and]
  by_cases hj : zin j 180 = true
  · rw [if_pos hj, if_pos hj]
    exact congrArg some (hrg_set (k := 1) (show 1 < 2 by decide))
  · rw [if_neg hj, if_neg hj]
theorem nw_n0 {h : zH} {i : Nat} {S : oS} : zlen (hnw h i S) (i + 1) = some 180 := by
  unfold zlen hnw
  rw [show zg (hrg h i (nwL i S)) (i + 1) = _ from hrg_get (k := 1) rfl]
  rfl
theorem nw_hh {h : zH} {i : Nat} {S T : oS} : hnw (hnw h i S) i T = hnw h i T := hrg_hrg rfl
theorem nw_og {h : zH} {i j : Nat} {S : oS} (hj : j < i ∨ i + 2 ≤ j) : zg (hnw h i S) j = zg h j := hrg_out hj
theorem nw_ozu {h : zH} {i j : Nat} {S : oS} {c : zC} (hj : j < i ∨ i + 2 ≤ j) : zu (hnw h i S) j c = hnw (zu h j c) i S := hrg_zu hj
/-! a reader: numbers 0 part, 1 signs, 2 value, 3 latest, 4 inside; its stock stands behind it -/
def rdL (i : Nat) (S : oS) : List zC := [.inr (.inr (2, [.ref (i + 1), .int (S.2 0), .int (S.2 1), .int (S.2 2), .int (S.2 3), .int (S.2 4)]))]
def hrd (h : zH) (i : Nat) (S : oS) : zH := hrg h i (rdL i S)
theorem rd_len {i : Nat} {S : oS} : (rdL i S).length = 1 := rfl
theorem rd_is {h : zH} {i : Nat} {S : oS} : zis (hrd h i S) i 2 = true := by
  unfold zis hrd
  rw [show zg (hrg h i (rdL i S)) i = _ from hrg_get (k := 0) rfl]
  rfl
theorem rd_g0 {h : zH} {i : Nat} {S : oS} : zgetf (hrd h i S) i 2 0 = some (.ref (i + 1)) := by
  unfold zgetf hrd
  rw [show zg (hrg h i (rdL i S)) i = _ from hrg_get (k := 0) rfl]
  rfl
theorem rd_g1 {h : zH} {i : Nat} {S : oS} : zgetf (hrd h i S) i 2 1 = some (.int (S.2 0)) := by
  unfold zgetf hrd
  rw [show zg (hrg h i (rdL i S)) i = _ from hrg_get (k := 0) rfl]
  rfl
theorem rd_p1 {h : zH} {i : Nat} {S : oS} {x : Int32} : zputf (hrd h i S) i 2 1 (.int x) = some (hrd h i (setI S 0 x)) := by
  unfold zputf hrd
  rw [show zg (hrg h i (rdL i S)) i = _ from hrg_get (k := 0) rfl]
  exact congrArg some (hrg_set (k := 0) (Nat.zero_lt_succ _))
theorem rd_g2 {h : zH} {i : Nat} {S : oS} : zgetf (hrd h i S) i 2 2 = some (.int (S.2 1)) := by
  unfold zgetf hrd
  rw [show zg (hrg h i (rdL i S)) i = _ from hrg_get (k := 0) rfl]
  rfl
theorem rd_p2 {h : zH} {i : Nat} {S : oS} {x : Int32} : zputf (hrd h i S) i 2 2 (.int x) = some (hrd h i (setI S 1 x)) := by
  unfold zputf hrd
  rw [show zg (hrg h i (rdL i S)) i = _ from hrg_get (k := 0) rfl]
  exact congrArg some (hrg_set (k := 0) (Nat.zero_lt_succ _))
theorem rd_g3 {h : zH} {i : Nat} {S : oS} : zgetf (hrd h i S) i 2 3 = some (.int (S.2 2)) := by
  unfold zgetf hrd
  rw [show zg (hrg h i (rdL i S)) i = _ from hrg_get (k := 0) rfl]
  rfl
theorem rd_p3 {h : zH} {i : Nat} {S : oS} {x : Int32} : zputf (hrd h i S) i 2 3 (.int x) = some (hrd h i (setI S 2 x)) := by
  unfold zputf hrd
  rw [show zg (hrg h i (rdL i S)) i = _ from hrg_get (k := 0) rfl]
  exact congrArg some (hrg_set (k := 0) (Nat.zero_lt_succ _))
theorem rd_g4 {h : zH} {i : Nat} {S : oS} : zgetf (hrd h i S) i 2 4 = some (.int (S.2 3)) := by
  unfold zgetf hrd
  rw [show zg (hrg h i (rdL i S)) i = _ from hrg_get (k := 0) rfl]
  rfl
theorem rd_p4 {h : zH} {i : Nat} {S : oS} {x : Int32} : zputf (hrd h i S) i 2 4 (.int x) = some (hrd h i (setI S 3 x)) := by
  unfold zputf hrd
  rw [show zg (hrg h i (rdL i S)) i = _ from hrg_get (k := 0) rfl]
  exact congrArg some (hrg_set (k := 0) (Nat.zero_lt_succ _))
theorem rd_g5 {h : zH} {i : Nat} {S : oS} : zgetf (hrd h i S) i 2 5 = some (.int (S.2 4)) := by
  unfold zgetf hrd
  rw [show zg (hrg h i (rdL i S)) i = _ from hrg_get (k := 0) rfl]
  rfl
theorem rd_p5 {h : zH} {i : Nat} {S : oS} {x : Int32} : zputf (hrd h i S) i 2 5 (.int x) = some (hrd h i (setI S 4 x)) := by
  unfold zputf hrd
  rw [show zg (hrg h i (rdL i S)) i = _ from hrg_get (k := 0) rfl]
  exact congrArg some (hrg_set (k := 0) (Nat.zero_lt_succ _))
theorem rd_hh {h : zH} {i : Nat} {S T : oS} : hrd (hrd h i S) i T = hrd h i T := hrg_hrg rfl
theorem rd_og {h : zH} {i j : Nat} {S : oS} (hj : j < i ∨ i + 1 ≤ j) : zg (hrd h i S) j = zg h j := hrg_out hj
theorem rd_ozu {h : zH} {i j : Nat} {S : oS} {c : zC} (hj : j < i ∨ i + 1 ≤ j) : zu (hrd h i S) j c = hrd (zu h j c) i S := hrg_zu hj
/-! the class: number 0 snapshotTaken -/
def sxL (i : Nat) (S : oS) : List zC := [.inr (.inr (7, [.ref (i + 1), .ref (i + 8), .ref (i + 15), .int (S.2 0), .ref (i + 22), .ref (i + 52), .ref (i + 54), .ref (i + 62), .ref (i + 64), .ref (i + 68)]))]
def hsx (h : zH) (i : Nat) (S : oS) : zH := hrg h i (sxL i S)
theorem sx_len {i : Nat} {S : oS} : (sxL i S).length = 1 := rfl
theorem sx_is {h : zH} {i : Nat} {S : oS} : zis (hsx h i S) i 7 = true := by
  unfold zis hsx
  rw [show zg (hrg h i (sxL i S)) i = _ from hrg_get (k := 0) rfl]
  rfl
theorem sx_g0 {h : zH} {i : Nat} {S : oS} : zgetf (hsx h i S) i 7 0 = some (.ref (i + 1)) := by
  unfold zgetf hsx
  rw [show zg (hrg h i (sxL i S)) i = _ from hrg_get (k := 0) rfl]
  rfl
theorem sx_g1 {h : zH} {i : Nat} {S : oS} : zgetf (hsx h i S) i 7 1 = some (.ref (i + 8)) := by
  unfold zgetf hsx
  rw [show zg (hrg h i (sxL i S)) i = _ from hrg_get (k := 0) rfl]
  rfl
theorem sx_g2 {h : zH} {i : Nat} {S : oS} : zgetf (hsx h i S) i 7 2 = some (.ref (i + 15)) := by
  unfold zgetf hsx
  rw [show zg (hrg h i (sxL i S)) i = _ from hrg_get (k := 0) rfl]
  rfl
theorem sx_g3 {h : zH} {i : Nat} {S : oS} : zgetf (hsx h i S) i 7 3 = some (.int (S.2 0)) := by
  unfold zgetf hsx
  rw [show zg (hrg h i (sxL i S)) i = _ from hrg_get (k := 0) rfl]
  rfl
theorem sx_p3 {h : zH} {i : Nat} {S : oS} {x : Int32} : zputf (hsx h i S) i 7 3 (.int x) = some (hsx h i (setI S 0 x)) := by
  unfold zputf hsx
  rw [show zg (hrg h i (sxL i S)) i = _ from hrg_get (k := 0) rfl]
  exact congrArg some (hrg_set (k := 0) (Nat.zero_lt_succ _))
theorem sx_g4 {h : zH} {i : Nat} {S : oS} : zgetf (hsx h i S) i 7 4 = some (.ref (i + 22)) := by
  unfold zgetf hsx
  rw [show zg (hrg h i (sxL i S)) i = _ from hrg_get (k := 0) rfl]
  rfl
theorem sx_g5 {h : zH} {i : Nat} {S : oS} : zgetf (hsx h i S) i 7 5 = some (.ref (i + 52)) := by
  unfold zgetf hsx
  rw [show zg (hrg h i (sxL i S)) i = _ from hrg_get (k := 0) rfl]
  rfl
theorem sx_g6 {h : zH} {i : Nat} {S : oS} : zgetf (hsx h i S) i 7 6 = some (.ref (i + 54)) := by
  unfold zgetf hsx
  rw [show zg (hrg h i (sxL i S)) i = _ from hrg_get (k := 0) rfl]
  rfl
theorem sx_g7 {h : zH} {i : Nat} {S : oS} : zgetf (hsx h i S) i 7 7 = some (.ref (i + 62)) := by
  unfold zgetf hsx
  rw [show zg (hrg h i (sxL i S)) i = _ from hrg_get (k := 0) rfl]
  rfl
theorem sx_g8 {h : zH} {i : Nat} {S : oS} : zgetf (hsx h i S) i 7 8 = some (.ref (i + 64)) := by
  unfold zgetf hsx
  rw [show zg (hrg h i (sxL i S)) i = _ from hrg_get (k := 0) rfl]
  rfl
theorem sx_g9 {h : zH} {i : Nat} {S : oS} : zgetf (hsx h i S) i 7 9 = some (.ref (i + 68)) := by
  unfold zgetf hsx
  rw [show zg (hrg h i (sxL i S)) i = _ from hrg_get (k := 0) rfl]
  rfl
theorem sx_hh {h : zH} {i : Nat} {S T : oS} : hsx (hsx h i S) i T = hsx h i T := hrg_hrg rfl
theorem sx_og {h : zH} {i j : Nat} {S : oS} (hj : j < i ∨ i + 1 ≤ j) : zg (hsx h i S) j = zg h j := hrg_out hj
theorem sx_ozu {h : zH} {i j : Nat} {S : oS} {c : zC} (hj : j < i ∨ i + 1 ≤ j) : zu (hsx h i S) j c = hsx (zu h j c) i S := hrg_zu hj
