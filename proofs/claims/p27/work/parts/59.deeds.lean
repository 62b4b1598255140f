/-! THE DEEDS, SIDE BY SIDE -/
section DEEDS
variable {d : Nat} {H H1 : zH} {σ σ' : mS} {r r' : Int32} {e e' : Nat → mS × Int32} {len len' : Nat} {k : Bool} {κ : mS × Int32} {w : Nat → Nat} {m : Nat} {x y : Int32} {M M' : oS}
theorem hl_4 : hl len ≤ 4 := by
  unfold hl
  split <;> omega
theorem WF_ch (hW : WF σ e len k κ) (h' : wf σ') : WF σ' (he e len (σ, r)) (hl len) k κ := by
  obtain ⟨w1, w2, w3, w4⟩ := hW
  refine ⟨h', hl_4, fun j hj => ?_, w4⟩
  unfold he
  unfold hl at hj
  by_cases q : len < 4
  · rw [if_pos q] at hj ⊢
    by_cases z : j = len
    · rw [if_pos z]
      exact w1
    · rw [if_neg z]
      exact w3 j (by omega)
  · rw [if_neg q] at hj ⊢
    by_cases z : j = 3
    · rw [if_pos z]
      exact w1
    · rw [if_neg z]
      exact w3 (j + 1) (by omega)
theorem c_keep (hC : CI H σ r e len k κ w m) (hn : σ.1 ≤ 12) : ∃ H', CI H' σ r (he e len (σ, r)) (hl len) k κ w m ∧ CO H H' ∧ (∀ j, j < 22 ∨ 52 ≤ j → zg H' j = zg H j) ∧ ev (d + 1) 2 0 [some (.ref 22), some (.ref 1)] [] H = some (none, H') := by
  have hC0 := hC
  obtain ⟨-, ⟨S, s1, s2, s3⟩, -, -, hh, -⟩ := hC
  obtain ⟨H', a1, a2, a3, a4⟩ := x_keep (d := d) hh (by decide) s1 s2 s3 hn
  exact ⟨H', CI_hs hC0 (fun j _ b => a2 j b.2) a1, ⟨a3, fun j hj => a2 j (Or.inr (by omega))⟩, a2, a4⟩
theorem zh_is (hh : hsI H e len) : zis H 22 0 = true := by
  obtain ⟨-, Q, qq, hq, -⟩ := hh
  exact hs_is hq
theorem at_1 {S : oS} (s1 : at_ H 1 (stL 1 S)) (hf : ∀ j, j < 22 ∨ 52 ≤ j → zg H1 j = zg H j) : at_ H1 1 (stL 1 S) := at_fr s1 (fun j a b => hf j (by rw [st_len] at b; omega))
theorem at_0 {X : oS} (x1 : at_ H 0 (sxL 0 X)) (hf : ∀ j, j < 22 ∨ 52 ≤ j → zg H1 j = zg H j) : at_ H1 0 (sxL 0 X) := at_fr x1 (fun j a b => hf j (by rw [sx_len] at b; omega))
theorem CI_1 {S' : oS} (hC : CI H σ r e len k κ w m) (hS : stR S' σ') (h1 : S'.2 1 = r') : CI (hst H 1 S') σ' r' e len k κ w m := CI_s1 hC (fun j _ a => hrg_out (by rw [st_len]; omega)) ⟨S', at_new, hS, h1⟩
theorem CO_1 {S' : oS} : CO H (hst H 1 S') := CO_h (Nat.le_of_ble_eq_true rfl)
/-- a refusal -/
theorem c_refuse (hC : CI H σ r e len k κ w m) (hn : σ.1 ≤ 12) {v : Int32} : ∃ H', CI H' σ (r + 1) (he e len (σ, r)) (hl len) k κ w m ∧ CO H H' ∧ ev (d + 2) 121 0 [some (.ref 0), some (.int v)] [] H = some (some (.int v), H') := by
  obtain ⟨H', a1, a2, a3, a4⟩ := c_keep (d := d) hC hn
  obtain ⟨⟨X, x1, x2⟩, ⟨S, s1, s2, s3⟩, -, -, hh, -⟩ := hC
  have s1' := at_1 s1 a3
  have x1' := at_0 x1 a3
  have cr := s_countRefusal (d := d + 1) (h := H') (i := 1) (S := S)
  rw [at_st s1'] at cr
  refine ⟨_, CI_1 (S' := setI S 1 (S.2 1 + 1)) a1 ⟨s2.1, s2.2⟩ (by show S.2 1 + 1 = r + 1; rw [s3]), CO_t a2 CO_1, ?_⟩
  simp only [e121_0, e121_1, e121_4, e121_5, e121_8, e121_11, e121_12, e121_15, e121_18, e121_19, Option.bind_some, Option.toList_some, Option.toList_none, List.cons_append, List.nil_append, true_or, or_true, and_true, true_and, i10, Bool.false_eq_true, if_true, if_false, reduceIte, cx_4 x1, cx_0 x1, zh_is hh, a4, cx_0 x1', cz_st s1', cr]
theorem CI_1h {S' : oS} (h : CI H σ r e len k κ w m) (hf : ∀ j, 0 ≤ j → j < 71 ∧ (j < 1 ∨ 8 ≤ j) ∧ (j < 22 ∨ 52 ≤ j) → zg H1 j = zg H j) (s1 : at_ H1 1 (stL 1 S')) (s2 : stR S' σ') (s3 : S'.2 1 = r') (n4 : hsI H1 e' len') : CI H1 σ' r' e' len' k κ w m := by
  obtain ⟨c0, c1, c2, c3, c4, c5, c6, c7, c8, c9, c10⟩ := h
  exact ⟨(let ⟨v_, a_, b_⟩ := c0; ⟨v_, at_fr a_ (fun j a b => hf j (by omega) (by rw [sx_len] at b; omega)), b_⟩), ⟨S', s1, s2, s3⟩, (let ⟨v_, a_⟩ := c2; ⟨v_, at_fr a_ (fun j a b => hf j (by omega) (by rw [st_len] at b; omega))⟩), (let ⟨v_, a_, b_⟩ := c3; ⟨v_, at_fr a_ (fun j a b => hf j (by omega) (by rw [st_len] at b; omega)), b_⟩), n4, (let ⟨v_, a_, b_⟩ := c5; ⟨v_, at_fr a_ (fun j a b => hf j (by omega) (by rw [pd_len] at b; omega)), b_⟩), (let ⟨v_, a_⟩ := c6; ⟨v_, at_fr a_ (fun j a b => hf j (by omega) (by rw [rd_len] at b; omega))⟩), (let ⟨v_, a_⟩ := c7; ⟨v_, at_fr a_ (fun j a b => hf j (by omega) (by rw [st_len] at b; omega))⟩), (let ⟨v_, a_⟩ := c8; ⟨v_, at_fr a_ (fun j a b => hf j (by omega) (by rw [nw_len] at b; omega))⟩), (let ⟨v_, a_⟩ := c9; ⟨v_, at_fr a_ (fun j a b => hf j (by omega) (by rw [vw_len] at b; omega))⟩), (let ⟨v_, a_⟩ := c10; ⟨v_, at_fr a_ (fun j a b => hf j (by omega) (by rw [ln_len] at b; omega))⟩)⟩
theorem lt_pred {x0 x1 : Int32} (h1 : 1 ≤ x0) (h2 : x0 ≤ 60) (h3 : x1 < x0) : x1 ≤ x0 - 1 := by
  obtain ⟨s, s1, s2, rfl⟩ := rng (a := 1) (b := 60) h1 h2 (by decide) (by decide)
  obtain ⟨u, rfl⟩ : ∃ u, s = u + 1 := ⟨s - 1, by omega⟩
  rw [nI_s1]
  have a := Int32.lt_iff_toInt_lt.mp h3
  rw [nI_toInt (by omega)] at a
  refine Int32.le_iff_toInt_le.mpr ?_
  rw [nI_toInt (by omega)]
  omega
end DEEDS
