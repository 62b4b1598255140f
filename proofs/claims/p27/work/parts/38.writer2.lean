/-! THE WRITER OF THE REFERENCE -/
def mwT (M : oS) (T : List Nat) : Prop := M.2 7 = nI T.length ∧ ∀ k x, T[k]? = some x → M.1 7 k = nI x
/-- only the text differs -/
def mf7 (M M' : oS) : Prop := (∀ r, r ≠ 7 → M'.1 r = M.1 r) ∧ ∀ k, k ≠ 7 → M'.2 k = M.2 k
theorem mf7_r (M : oS) : mf7 M M := ⟨fun _ _ => rfl, fun _ _ => rfl⟩
theorem mf7_t {M M' M'' : oS} (h : mf7 M M') (h' : mf7 M' M'') : mf7 M M'' := ⟨fun r hr => (h'.1 r hr).trans (h.1 r hr), fun k hk => (h'.2 k hk).trans (h.2 k hk)⟩
theorem dh1 : ∀ n, n < 61 → 48 + nI n / 10 = nI (48 + n / 10) := by decide +kernel
theorem dh2 : ∀ n, n < 61 → 48 + (nI n - nI n / 10 * 10) = nI (48 + n % 10) := by decide +kernel
theorem zf_none {α : Type} {P : Nat → Prop} [DecidablePred P] {g : Nat → α} {s : α} : ∀ {n : Nat}, (∀ k, k < n → ¬ P k) → zfold (fun k s => if P k then g k else s) n s = s
  | 0, _ => rfl
  | n + 1, h => by rw [zfold, zf_none (fun k hk => h k (by omega)), if_neg (h n (by omega))]
theorem zf_one {α : Type} {P : Nat → Prop} [DecidablePred P] {g : Nat → α} {s : α} {e : Nat} : ∀ {n : Nat}, e < n → P e → (∀ k, k < n → k ≠ e → ¬ P k) → zfold (fun k s => if P k then g k else s) n s = g e
  | 0, he, _, _ => by omega
  | n + 1, he, hp, h => by
    rw [zfold]
    by_cases q : e = n
    · subst q
      rw [if_pos hp]
    · rw [if_neg (h n (by omega) (fun z => q z.symm)), zf_one (by omega) hp (fun k hk => h k (by omega))]
section WRITER2
variable {d : Nat} {h : zH} {i : Nat} {M : oS} {σ : mS} {c : Nat} {T : List Nat}
/-- rows of the text and of the stack apart -/
def mf9 (l : Nat) (M M' : oS) : Prop := (∀ r, r ≠ 7 → r ≠ 8 → r ≠ 9 → M'.1 r = M.1 r) ∧ (∀ k, k ≠ 7 → M'.2 k = M.2 k) ∧ ∀ j, j < l → M'.1 8 j = M.1 8 j ∧ M'.1 9 j = M.1 9 j
theorem mf9_t {l : Nat} {M M' M'' : oS} (h : mf9 l M M') (h' : mf9 l M' M'') : mf9 l M M'' := ⟨fun r h1 h2 h3 => (h'.1 r h1 h2 h3).trans (h.1 r h1 h2 h3), fun k hk => (h'.2.1 k hk).trans (h.2.1 k hk), fun j hj => ⟨((h'.2.2 j hj).1).trans (h.2.2 j hj).1, ((h'.2.2 j hj).2).trans (h.2.2 j hj).2⟩⟩
theorem mf9_w {l m : Nat} {M M' : oS} (h : mf9 m M M') (hl : l ≤ m) : mf9 l M M' := ⟨h.1, h.2.1, fun j hj => h.2.2 j (by omega)⟩
theorem mf7_9 {l : Nat} {M M' : oS} (h : mf7 M M') : mf9 l M M' := ⟨fun r h1 _ _ => h.1 r h1, h.2, fun j _ => ⟨by rw [h.1 8 (by decide)], by rw [h.1 9 (by decide)]⟩⟩
theorem mf9_9 {l k : Nat} {M : oS} {x : Int32} (hk : l ≤ k) : mf9 l M (setR M 9 (upd (M.1 9) k x)) := ⟨fun r _ _ hr => by rw [setR_1, if_neg hr], fun _ _ => rfl, fun j hj => ⟨rfl, by
  have hne : ¬ j = k := by omega
  simp [setR, upd, hne]⟩⟩
theorem mf9_8 {l k : Nat} {M : oS} {x : Int32} (hk : l ≤ k) : mf9 l M (setR M 8 (upd (M.1 8) k x)) := ⟨fun r _ hr _ => by rw [setR_1, if_neg hr], fun _ _ => rfl, fun j hj => ⟨by
  have hne : ¬ j = k := by omega
  simp [setR, upd, hne], rfl⟩⟩
/-- a sign of a text, as an answer -/
def sgv (T : List Nat) (x : Int32) : Int32 := if zin x T.length = true then nI (T.getD x.toNatClampNeg 0) else -4
theorem w_signAt {V : oS} {v : Nat} {T : List Nat} (hT : nwT V T) (hl : T.length ≤ 180) {x : Int32} : ev d 26 0 [some (.ref v), some (.int x)] [] (hnw h v V) = some (some (.int (sgv T x)), hnw h v V) := by
  unfold sgv
  rcases zin_cases (c := x) (n := T.length) (by omega) with ⟨h1, h2⟩ | ⟨h1, h2, h3⟩ | ⟨k, hk, rfl⟩
  · simp only [e26_0, e26_1, e26_4, e26_5, e26_6, e26_9, e26_12, e26_13, e26_16, e26_17, e26_18, e26_21, e26_23, nw_g0, nw_g1, nw_p1, nw_l0, nw_s0, nw_is, Option.bind_some, Option.toList_some, Option.toList_none, List.cons_append, List.nil_append, true_or, or_true, and_true, true_and, i10, Bool.false_eq_true, if_true, if_false, reduceIte, eq_true h1, h2]
  · simp only [e26_0, e26_1, e26_4, e26_5, e26_6, e26_9, e26_12, e26_13, e26_16, e26_17, e26_18, e26_21, e26_23, nw_g0, nw_g1, nw_p1, nw_l0, nw_s0, nw_is, Option.bind_some, Option.toList_some, Option.toList_none, List.cons_append, List.nil_append, true_or, or_true, and_true, true_and, i10, Bool.false_eq_true, if_true, if_false, reduceIte, eq_false h1, hT.1, eq_true h2, h3]
  · have h1 : (nI k < 0) = False := eq_false (nI_pos (by omega))
    have h4 : (nI T.length ≤ nI k) = False := (nI_lep (by omega) (by omega)).trans (eq_false (by omega))
    have hg : T[k]? = some (T.getD k 0) := by
      rw [List.getD_eq_getElem?_getD, List.getElem?_eq_getElem hk]
      rfl
    simp only [e26_0, e26_1, e26_4, e26_5, e26_6, e26_9, e26_12, e26_13, e26_16, e26_17, e26_18, e26_21, e26_23, nw_g0, nw_g1, nw_p1, nw_l0, nw_s0, nw_is, Option.bind_some, Option.toList_some, Option.toList_none, List.cons_append, List.nil_append, true_or, or_true, and_true, true_and, i10, Bool.false_eq_true, if_true, if_false, reduceIte, h1, hT.1, h4, zin_T hk (show T.length < 2 ^ 31 by omega), nI_clamp (show k < 2 ^ 31 by omega), zrd_nI (show k < 180 by omega) (show 180 < 2147483648 by omega), hT.2 k _ hg]
theorem w_write {V S : oS} {v : Nat} (hd : v + 2 ≤ i ∨ i + 7 ≤ v) (hR : stR S σ) (hw : wf σ) (hc : c < σ.1) : ∃ V', nwT V' (wrt σ 12 c) ∧ ev (d + 17) 25 0 [some (.ref v), some (.ref i), some (.int (nI c))] [] (hst (hnw h v V) i S) = some (none, hst (hnw h v V') i S) := by
  have h7 : nwT (setI V 0 0) [] := ⟨rfl, fun k x hk => by simp at hk⟩
  have hlen := wrt_len hw (f := 12) hc
  obtain ⟨V', a1, a2⟩ := w_nest (d := d) (h := h) hd hR hw 12 0 c (setI V 0 0) [] hc (Nat.zero_le _) (by omega) h7 (by rw [List.length_nil]; omega)
  refine ⟨V', a1, ?_⟩
  have a2' : ev (d + 16) 27 0 [some (.ref v), some (.ref i), some (.int (nI c)), some (.int 0), none, none] [] (hst (hnw h v (setI V 0 0)) i S) = some (none, hst (hnw h v V') i S) := a2
  simp only [e25_0, e25_1, e25_2, e25_5, e25_6, e25_7, e25_8, e25_9, e25_12, st_g0, st_g1, st_g2, st_g3, st_g4, st_g5, st_g6, st_g7, st_p6, st_p7, st_l0, st_l1, st_l2, st_l3, st_l4, st_l5, st_s0, st_s1, st_s2, st_s3, st_s4, st_s5, st_is, nw_is_st hd, nw_g0_st hd, nw_g1_st hd, nw_p1_st hd, nw_l0_st hd, nw_s0_st hd, Option.bind_some, Option.toList_some, Option.toList_none, List.cons_append, List.nil_append, true_or, or_true, and_true, true_and, i10, Bool.false_eq_true, if_true, if_false, reduceIte, a2']
end WRITER2
