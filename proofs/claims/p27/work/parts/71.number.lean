/-! THE LAW TYPES: how many crates a text is of -/
/-- how many s-signs a text has -/
def cn (w : Nat → Nat) (m : Nat) : Nat := ct (fun j => decide (w j = 115)) m
theorem cn_wap {w : Nat → Nat} {m u : Nat} : cn (wap w m u) (m + 1) = cn w m + if u = 115 then 1 else 0 := by
  have h1 : ct (fun j => decide (wap w m u j = 115)) m = ct (fun j => decide (w j = 115)) m := ct_cong (fun j hj => by
    have : wap w m u j = w j := by
      unfold wap
      rw [if_neg (by omega)]
    rw [this])
  have h2 : wap w m u m = u := by
    unfold wap
    rw [if_pos rfl]
  show ct _ (m + 1) = _
  rw [ct, h1, h2]
  unfold cn
  by_cases q : u = 115
  · rw [if_pos q, if_pos (decide_eq_true q)]
  · rw [if_neg q, if_neg (by rw [decide_eq_true_eq]; exact q)]
/-- a crate whose letters are being read -/
def pnd (s : pS) : Nat := if s.1 = 0 ∧ s.2.1 ≠ 0 then 1 else 0
theorem pnd_n {s : pS} (h : s.1 ≠ 0) : pnd s = 0 := if_neg (fun z => h z.1)
theorem opt_or {α : Type} {a b : Option α} {x : α} (h : a.or b = some x) : a = some x ∨ b = some x := by
  cases a with
  | none => exact Or.inr h
  | some y => exact Or.inl h
theorem sLet_cn {s s' : pS} {c : Nat} (h0 : s.1 = 0) (hs : sLet s c = some s') : c ≠ 115 ∧ s'.2.2.2.2.2.1 + pnd s = s.2.2.2.2.2.1 + pnd s' := by
  unfold sLet at hs
  split at hs
  · rename_i q
    split at hs
    · rename_i q2
      cases hs
      refine ⟨by omega, ?_⟩
      have e1 : pnd s = 0 := if_neg (fun z => z.2 q2)
      rw [e1]
      show (bgn s.2.2.2.2.2 s.2.2.2.2.1).1 + 0 = _ + (if s.1 = 0 ∧ 1 ≠ 0 then 1 else 0)
      rw [bgn_1, if_pos ⟨h0, by omega⟩]
    · rename_i q2
      cases hs
      refine ⟨by omega, ?_⟩
      have e1 : pnd s = 1 := if_pos ⟨h0, q2⟩
      rw [e1]
      show s.2.2.2.2.2.1 + 1 = s.2.2.2.2.2.1 + (if s.1 = 0 ∧ s.2.1 + 1 ≠ 0 then 1 else 0)
      rw [if_pos ⟨h0, by omega⟩]
  · cases hs
theorem sMrk_cn {s s' : pS} {c k p : Nat} (hp : p ≠ 0) (hs : sMrk s c k p = some s') : c = k ∧ s.2.1 ≠ 0 ∧ s'.2.2.2.2.2.1 = s.2.2.2.2.2.1 ∧ pnd s' = 0 := by
  unfold sMrk at hs
  split at hs
  · rename_i q
    cases hs
    exact ⟨q.1, q.2, rfl, pnd_n hp⟩
  · cases hs
theorem sDig_cn {s s' : pS} {c lo hi : Nat} (h0 : s.1 ≠ 0) (hs : sDig s c lo hi = some s') : c ≠ 115 ∧ s'.2.2.2.2.2.1 = s.2.2.2.2.2.1 ∧ pnd s' = 0 := by
  unfold sDig at hs
  rw [Option.ite_none_right_eq_some] at hs
  obtain ⟨q, hs⟩ := hs
  cases hs
  exact ⟨by omega, rfl, pnd_n h0⟩
theorem sBeh_cn {s s' : pS} {c : Nat} (hs : sBeh s c = some s') : c ≠ 115 ∧ s'.2.2.2.2.2.1 = s.2.2.2.2.2.1 + pnd s' := by
  have main : sLet (rBeg s 0) c = some s' → c ≠ 115 ∧ s'.2.2.2.2.2.1 = s.2.2.2.2.2.1 + pnd s' := by
    intro h
    have h1 := sLet_cn (s := rBeg s 0) rfl h
    have h2 : pnd (rBeg s 0) = 0 := if_neg (fun z => z.2 rfl)
    rw [h2] at h1
    exact h1
  unfold sBeh at hs
  split at hs
  · exact main hs
  · split at hs
    · rename_i q
      cases hs
      refine ⟨by omega, ?_⟩
      rw [pnd_n (show (4 : Nat) ≠ 0 by decide)]
      rfl
    · exact main hs
theorem stp_cn {s s' : pS} {c : Nat} (hs : stp s c = some s') : s'.2.2.2.2.2.1 + pnd s = s.2.2.2.2.2.1 + pnd s' + if c = 115 then 1 else 0 := by
  by_cases p0 : s.1 = 0
  · rw [stp_0 p0] at hs
    rcases opt_or hs with h | h
    · obtain ⟨h1, h2⟩ := sLet_cn p0 h
      rw [if_neg h1]
      omega
    · obtain ⟨h1, h2, h3, h4⟩ := sMrk_cn (by decide) h
      have e1 : pnd s = 1 := if_pos ⟨p0, h2⟩
      rw [if_pos h1]
      omega
  · have e0 := pnd_n p0
    by_cases p1 : s.1 = 1
    · rw [stp_1 p1] at hs
      rcases opt_or hs with h | h
      · obtain ⟨h1, h2, h3⟩ := sDig_cn p0 h
        rw [if_neg h1]
        omega
      · obtain ⟨h1, h2, h3, h4⟩ := sMrk_cn (by decide) h
        rw [if_neg (by omega)]
        omega
    · by_cases p2 : s.1 = 2
      · rw [stp_2 p2] at hs
        rcases opt_or hs with h | h
        · obtain ⟨h1, h2, h3⟩ := sDig_cn p0 h
          rw [if_neg h1]
          omega
        · obtain ⟨h1, h2, h3, h4⟩ := sMrk_cn (by decide) h
          rw [if_neg (by omega)]
          omega
      · by_cases p3 : s.1 = 3
        · rw [stp_3 p3] at hs
          rcases opt_or hs with h | h
          · rcases opt_or h with h | h
            · obtain ⟨h1, h2, h3⟩ := sDig_cn p0 h
              rw [if_neg h1]
              omega
            · unfold sOpn at h
              split at h
              · rename_i q
                cases h
                have e1 : pnd (0, 0, 0, s.2.2.2.1, s.2.2.2.1 + 1, s.2.2.2.2.2) = 0 := if_neg (fun z => z.2 rfl)
                rw [if_neg (by omega), e1, e0]
              · cases h
          · split at h
            · cases h
            · obtain ⟨h1, h2⟩ := sBeh_cn h
              rw [if_neg h1]
              omega
        · have hs : sBeh s c = some s' := by
            unfold stp at hs
            split at hs
            · rename_i z; exact absurd z p0
            · rename_i z; exact absurd z p1
            · rename_i z; exact absurd z p2
            · rename_i z; exact absurd z p3
            · exact hs
          obtain ⟨h1, h2⟩ := sBeh_cn hs
          rw [if_neg h1]
          omega
theorem rnn_all {w : Nat → Nat} : ∀ (f p : Nat) (s : pS) (q : Nat) (o : Option pS), rnn w f p s = (q, o) → q ≤ p + f ∧ ∀ s', o = some s' → q = p + f ∧ s'.2.2.2.2.2.1 + pnd s + cn w p = s.2.2.2.2.2.1 + pnd s' + cn w (p + f)
  | 0, p, s, q, o, h => by
    cases h
    exact ⟨Nat.le_refl _, fun s' hs => by cases hs; exact ⟨rfl, rfl⟩⟩
  | f + 1, p, s, q, o, h => by
    rw [rnn] at h
    split at h
    · rename_i s1 h1
      obtain ⟨a1, a2⟩ := rnn_all f (p + 1) s1 q o h
      refine ⟨by omega, fun s' hs => ?_⟩
      obtain ⟨b1, b2⟩ := a2 s' hs
      have h2 := stp_cn h1
      have h3 : cn w (p + 1) = cn w p + if w p = 115 then 1 else 0 := by
        show ct _ (p + 1) = _
        rw [ct]
        unfold cn
        by_cases q : w p = 115
        · rw [if_pos q, if_pos (decide_eq_true q)]
        · rw [if_neg q, if_neg (by rw [decide_eq_true_eq]; exact q)]
      rw [show p + (f + 1) = p + 1 + f by omega]
      exact ⟨b1, by omega⟩
    · cases h
      exact ⟨by omega, fun s' hs => by cases hs⟩
theorem rnn_inv {w : Nat → Nat} : ∀ (f p : Nat) (s s' : pS) (q : Nat), p + f ≤ 80 → psI2 p s → rnn w f p s = (q, some s') → psI2 (p + f) s'
  | 0, p, s, s', q, _, hJ, h => by
    cases h
    exact hJ
  | f + 1, p, s, s', q, hp, hJ, h => by
    rw [rnn] at h
    split at h
    · rename_i s1 h1
      have := rnn_inv f (p + 1) s1 s' q (by omega) (stp_inv hJ (by omega) h1) h
      rw [show p + (f + 1) = p + 1 + f by omega]
      exact this
    · cases h
/-- what was read of a whole text -/
theorem rdv_e {w : Nat → Nat} {m : Nat} (hm : m ≤ 80) : (∃ s', rdv m (rnn w m 0 s00) = -4 ∧ rnn w m 0 s00 = (m, some s') ∧ cmp s' = true ∧ psI2 m s' ∧ s'.2.2.2.2.2.1 = cn w m) ∨ ∃ q, q ≤ m ∧ rdv m (rnn w m 0 s00) = nI q := by
  cases h : rnn w m 0 s00 with
  | mk q o =>
    obtain ⟨a1, a2⟩ := rnn_all m 0 s00 q o h
    cases o with
    | none => exact Or.inr ⟨q, by omega, rfl⟩
    | some s' =>
      obtain ⟨b1, b2⟩ := a2 s' rfl
      by_cases c : cmp s' = true
      · have hI := rnn_inv m 0 s00 s' q (by omega) psI_00 h
        rw [Nat.zero_add] at hI b1 b2
        refine Or.inl ⟨s', if_pos c, by rw [b1], c, hI, ?_⟩
        have e1 : pnd s' = 0 := by
          refine pnd_n (fun z => ?_)
          unfold cmp at c
          rw [z] at c
          simp at c
        have e2 : pnd s00 = 0 := rfl
        have e3 : cn w 0 = 0 := rfl
        have e4 : s00.2.2.2.2.2.1 = 0 := rfl
        omega
      · exact Or.inr ⟨m, Nat.le_refl _, if_neg c⟩
section NUMBER
variable {d : Nat} {H H1 : zH} {σ σ' : mS} {r r' : Int32} {e e' : Nat → mS × Int32} {len len' : Nat} {k : Bool} {κ : mS × Int32} {w w' : Nat → Nat} {m m' : Nat} {x y : Int32} {c n p : Nat}
theorem CI_m (hC : CI H σ r e len k κ w m) : m ≤ 80 := by
  obtain ⟨-, -, -, -, -, ⟨P, -, p2⟩, -⟩ := hC
  exact p2.2.1
theorem dv10 : ∀ n, n < 100 → 48 + nI n / 10 = nI (48 + n / 10) := by decide +kernel
theorem rm10 : ∀ n, n < 100 → 48 + (nI n - nI n / 10 * 10) = nI (48 + n % 10) := by decide +kernel
theorem lw_number {u v : Nat} (hu1 : 33 ≤ u) (hu2 : u ≤ 126) (hv : v < 100) (hm : m + 3 ≤ 80) (hC : CI H σ r e len k κ w m) (hW : WF σ e len k κ) : ∃ H1 w' m', ev (d + 21) 133 0 [some (.ref 0), some (.int (nI u)), some (.int (nI v))] [] H = some (some (.int 1), H1) ∧ CO H H1 ∧ CI H1 σ r e len k κ w' m' ∧ m' ≤ m + 3 ∧ cn w' m' = cn w m + if u = 115 then 1 else 0 := by
  have z0 := CI_z hC
  have h10 : ((10 : Int32) = 0) = False := by decide
  have e1 := dv10 v hv
  have e2 := rm10 v hv
  obtain ⟨H1, a1, a2, a3⟩ := ct_append (d := d) hu1 hu2 (show m < 80 by omega) hC hW
  have z1 := CI_z a3
  have c1 : (nI (m + 1) ≤ 0) = False := (nI_lep (b := 0) (by omega) (by omega)).trans (eq_false (by omega))
  have c0 : (nI v < 10) = (v < 10) := nI_ltp (b := 10) (by omega) (by omega)
  have hd : ∀ a, a < 10 → (48 + a = 115) = False := fun a ha => eq_false (by omega)
  by_cases q : v < 10
  · obtain ⟨H2, b1, b2, b3⟩ := ct_append (d := d) (u := 48 + v % 10) (by omega) (by omega) (show m + 1 < 80 by omega) a3 hW
    have c2 : (nI (m + 1 + 1) ≤ 0) = False := (nI_lep (b := 0) (by omega) (by omega)).trans (eq_false (by omega))
    refine ⟨H2, _, _, ?_, CO_t a2 b2, b3, by omega, ?_⟩
    · simp only [e133_0, e133_1, e133_2, e133_5, e133_8, e133_9, e133_11, e133_14, e133_15, e133_17, e133_18, e133_20, e133_21, e133_22, e133_25, e133_28, e133_29, e133_31, e133_32, e133_34, e133_35, e133_36, e133_39, e133_42, e133_43, e133_46, e133_47 (Or.inr rfl), Option.bind_some, Option.toList_some, Option.toList_none, List.cons_append, List.nil_append, true_or, or_true, and_true, true_and, i10, Bool.false_eq_true, if_true, if_false, reduceIte, z0, z1, h10, not_false_eq_true, e1, e2, a1, b1, c1, c2, c0.trans (eq_true q)]
    · rw [cn_wap, cn_wap, if_neg (show ¬ 48 + v % 10 = 115 by omega), Nat.add_zero]
  · obtain ⟨H2, b1, b2, b3⟩ := ct_append (d := d) (u := 48 + v / 10) (by omega) (by omega) (show m + 1 < 80 by omega) a3 hW
    have z2 := CI_z b3
    have c2 : (nI (m + 1 + 1) ≤ 0) = False := (nI_lep (b := 0) (by omega) (by omega)).trans (eq_false (by omega))
    obtain ⟨H3, f1, f2, f3⟩ := ct_append (d := d) (u := 48 + v % 10) (by omega) (by omega) (show m + 1 + 1 < 80 by omega) b3 hW
    have c3 : (nI (m + 1 + 1 + 1) ≤ 0) = False := (nI_lep (b := 0) (by omega) (by omega)).trans (eq_false (by omega))
    refine ⟨H3, _, _, ?_, CO_t a2 (CO_t b2 f2), f3, by omega, ?_⟩
    · simp only [e133_0, e133_1, e133_2, e133_5, e133_8, e133_9, e133_11, e133_14, e133_15, e133_17, e133_18, e133_20, e133_21, e133_22, e133_25, e133_28, e133_29, e133_31, e133_32, e133_34, e133_35, e133_36, e133_39, e133_42, e133_43, e133_46, e133_47 (Or.inr rfl), Option.bind_some, Option.toList_some, Option.toList_none, List.cons_append, List.nil_append, true_or, or_true, and_true, true_and, i10, Bool.false_eq_true, if_true, if_false, reduceIte, z0, z1, z2, h10, not_false_eq_true, e1, e2, a1, b1, f1, c1, c2, c3, c0.trans (eq_false q)]
    · rw [cn_wap, cn_wap, cn_wap, if_neg (show ¬ 48 + v % 10 = 115 by omega), if_neg (show ¬ 48 + v / 10 = 115 by omega), Nat.add_zero]
end NUMBER
