/-! THE CLASS AND THE REFERENCE, SIDE BY SIDE -/
def CI (H : zH) (σ : mS) (r : Int32) (e : Nat → mS × Int32) (len : Nat) (k : Bool) (κ : mS × Int32) (w : Nat → Nat) (m : Nat) : Prop := (∃ X, at_ H 0 (sxL 0 X) ∧ X.2 0 = bI (k = true)) ∧ (∃ S, at_ H 1 (stL 1 S) ∧ stR S σ ∧ S.2 1 = r) ∧ (∃ T, at_ H 8 (stL 8 T)) ∧ (∃ K, at_ H 15 (stL 15 K) ∧ (k = true → stR K κ.1 ∧ K.2 1 = κ.2)) ∧ hsI H e len ∧ (∃ P, at_ H 52 (pdL 52 P) ∧ pdR P w m) ∧ (∃ R, at_ H 54 (rdL 54 R)) ∧ (∃ F, at_ H 55 (stL 55 F)) ∧ (∃ Y, at_ H 62 (nwL 62 Y)) ∧ (∃ V, at_ H 64 (vwL 64 V)) ∧ (∃ N, at_ H 68 (lnL 68 N))
def WF (σ : mS) (e : Nat → mS × Int32) (len : Nat) (k : Bool) (κ : mS × Int32) : Prop := wf σ ∧ len ≤ 4 ∧ (∀ j, j < len → wf (e j).1) ∧ (k = true → wf κ.1)
theorem hsI_fr {H H' : zH} {e : Nat → mS × Int32} {len : Nat} (h : hsI H e len) (hf : ∀ j, 22 ≤ j → j < 52 → zg H' j = zg H j) : hsI H' e len := by
  obtain ⟨h4, P, q, g0, g1, g2, g3⟩ := h
  refine ⟨h4, P, q, at_fr g0 (fun j a b => hf j a (by rw [hs_len] at b; omega)), g1, g2, fun j hj => ?_⟩
  obtain ⟨T, t1, t2⟩ := g3 j hj
  have := (g1 j hj).1
  exact ⟨T, at_fr t1 (fun x a b => hf x (by omega) (by rw [st_len] at b; omega)), t2⟩
section COUPLE
variable {H H' : zH} {σ : mS} {r : Int32} {e : Nat → mS × Int32} {len : Nat} {k : Bool} {κ : mS × Int32} {w : Nat → Nat} {m : Nat}
theorem CI_fr (h : CI H σ r e len k κ w m) (hf : ∀ j, 0 ≤ j → j < 71 → zg H' j = zg H j) : CI H' σ r e len k κ w m := by
  obtain ⟨c0, c1, c2, c3, c4, c5, c6, c7, c8, c9, c10⟩ := h
  exact ⟨(let ⟨v_, a_, b_⟩ := c0; ⟨v_, at_fr a_ (fun j a b => hf j (by omega) (by rw [sx_len] at b; omega)), b_⟩), (let ⟨v_, a_, b_⟩ := c1; ⟨v_, at_fr a_ (fun j a b => hf j (by omega) (by rw [st_len] at b; omega)), b_⟩), (let ⟨v_, a_⟩ := c2; ⟨v_, at_fr a_ (fun j a b => hf j (by omega) (by rw [st_len] at b; omega))⟩), (let ⟨v_, a_, b_⟩ := c3; ⟨v_, at_fr a_ (fun j a b => hf j (by omega) (by rw [st_len] at b; omega)), b_⟩), hsI_fr c4 (fun j a b => hf j (by omega) (by omega)), (let ⟨v_, a_, b_⟩ := c5; ⟨v_, at_fr a_ (fun j a b => hf j (by omega) (by rw [pd_len] at b; omega)), b_⟩), (let ⟨v_, a_⟩ := c6; ⟨v_, at_fr a_ (fun j a b => hf j (by omega) (by rw [rd_len] at b; omega))⟩), (let ⟨v_, a_⟩ := c7; ⟨v_, at_fr a_ (fun j a b => hf j (by omega) (by rw [st_len] at b; omega))⟩), (let ⟨v_, a_⟩ := c8; ⟨v_, at_fr a_ (fun j a b => hf j (by omega) (by rw [nw_len] at b; omega))⟩), (let ⟨v_, a_⟩ := c9; ⟨v_, at_fr a_ (fun j a b => hf j (by omega) (by rw [vw_len] at b; omega))⟩), (let ⟨v_, a_⟩ := c10; ⟨v_, at_fr a_ (fun j a b => hf j (by omega) (by rw [ln_len] at b; omega))⟩)⟩
theorem CI_s1 {σ' : mS} {r' : Int32} (h : CI H σ r e len k κ w m) (hf : ∀ j, 0 ≤ j → j < 71 ∧ (j < 1 ∨ 8 ≤ j) → zg H' j = zg H j) (n1 : (∃ S, at_ H' 1 (stL 1 S) ∧ stR S σ' ∧ S.2 1 = r')) : CI H' σ' r' e len k κ w m := by
  obtain ⟨c0, c1, c2, c3, c4, c5, c6, c7, c8, c9, c10⟩ := h
  exact ⟨(let ⟨v_, a_, b_⟩ := c0; ⟨v_, at_fr a_ (fun j a b => hf j (by omega) (by rw [sx_len] at b; omega)), b_⟩), n1, (let ⟨v_, a_⟩ := c2; ⟨v_, at_fr a_ (fun j a b => hf j (by omega) (by rw [st_len] at b; omega))⟩), (let ⟨v_, a_, b_⟩ := c3; ⟨v_, at_fr a_ (fun j a b => hf j (by omega) (by rw [st_len] at b; omega)), b_⟩), hsI_fr c4 (fun j a b => hf j (by omega) (by omega)), (let ⟨v_, a_, b_⟩ := c5; ⟨v_, at_fr a_ (fun j a b => hf j (by omega) (by rw [pd_len] at b; omega)), b_⟩), (let ⟨v_, a_⟩ := c6; ⟨v_, at_fr a_ (fun j a b => hf j (by omega) (by rw [rd_len] at b; omega))⟩), (let ⟨v_, a_⟩ := c7; ⟨v_, at_fr a_ (fun j a b => hf j (by omega) (by rw [st_len] at b; omega))⟩), (let ⟨v_, a_⟩ := c8; ⟨v_, at_fr a_ (fun j a b => hf j (by omega) (by rw [nw_len] at b; omega))⟩), (let ⟨v_, a_⟩ := c9; ⟨v_, at_fr a_ (fun j a b => hf j (by omega) (by rw [vw_len] at b; omega))⟩), (let ⟨v_, a_⟩ := c10; ⟨v_, at_fr a_ (fun j a b => hf j (by omega) (by rw [ln_len] at b; omega))⟩)⟩
theorem CI_s8 (h : CI H σ r e len k κ w m) (hf : ∀ j, 0 ≤ j → j < 71 ∧ (j < 8 ∨ 15 ≤ j) → zg H' j = zg H j) (n2 : (∃ T, at_ H' 8 (stL 8 T))) : CI H' σ r e len k κ w m := by
  obtain ⟨c0, c1, c2, c3, c4, c5, c6, c7, c8, c9, c10⟩ := h
  exact ⟨(let ⟨v_, a_, b_⟩ := c0; ⟨v_, at_fr a_ (fun j a b => hf j (by omega) (by rw [sx_len] at b; omega)), b_⟩), (let ⟨v_, a_, b_⟩ := c1; ⟨v_, at_fr a_ (fun j a b => hf j (by omega) (by rw [st_len] at b; omega)), b_⟩), n2, (let ⟨v_, a_, b_⟩ := c3; ⟨v_, at_fr a_ (fun j a b => hf j (by omega) (by rw [st_len] at b; omega)), b_⟩), hsI_fr c4 (fun j a b => hf j (by omega) (by omega)), (let ⟨v_, a_, b_⟩ := c5; ⟨v_, at_fr a_ (fun j a b => hf j (by omega) (by rw [pd_len] at b; omega)), b_⟩), (let ⟨v_, a_⟩ := c6; ⟨v_, at_fr a_ (fun j a b => hf j (by omega) (by rw [rd_len] at b; omega))⟩), (let ⟨v_, a_⟩ := c7; ⟨v_, at_fr a_ (fun j a b => hf j (by omega) (by rw [st_len] at b; omega))⟩), (let ⟨v_, a_⟩ := c8; ⟨v_, at_fr a_ (fun j a b => hf j (by omega) (by rw [nw_len] at b; omega))⟩), (let ⟨v_, a_⟩ := c9; ⟨v_, at_fr a_ (fun j a b => hf j (by omega) (by rw [vw_len] at b; omega))⟩), (let ⟨v_, a_⟩ := c10; ⟨v_, at_fr a_ (fun j a b => hf j (by omega) (by rw [ln_len] at b; omega))⟩)⟩
theorem CI_s15 {k' : Bool} {κ' : mS × Int32} (h : CI H σ r e len k κ w m) (hf : ∀ j, 0 ≤ j → j < 71 ∧ j ≠ 0 ∧ (j < 15 ∨ 22 ≤ j) → zg H' j = zg H j) (n0 : (∃ X, at_ H' 0 (sxL 0 X) ∧ X.2 0 = bI (k' = true))) (n3 : (∃ K, at_ H' 15 (stL 15 K) ∧ (k' = true → stR K κ'.1 ∧ K.2 1 = κ'.2))) : CI H' σ r e len k' κ' w m := by
  obtain ⟨c0, c1, c2, c3, c4, c5, c6, c7, c8, c9, c10⟩ := h
  exact ⟨n0, (let ⟨v_, a_, b_⟩ := c1; ⟨v_, at_fr a_ (fun j a b => hf j (by omega) (by rw [st_len] at b; omega)), b_⟩), (let ⟨v_, a_⟩ := c2; ⟨v_, at_fr a_ (fun j a b => hf j (by omega) (by rw [st_len] at b; omega))⟩), n3, hsI_fr c4 (fun j a b => hf j (by omega) (by omega)), (let ⟨v_, a_, b_⟩ := c5; ⟨v_, at_fr a_ (fun j a b => hf j (by omega) (by rw [pd_len] at b; omega)), b_⟩), (let ⟨v_, a_⟩ := c6; ⟨v_, at_fr a_ (fun j a b => hf j (by omega) (by rw [rd_len] at b; omega))⟩), (let ⟨v_, a_⟩ := c7; ⟨v_, at_fr a_ (fun j a b => hf j (by omega) (by rw [st_len] at b; omega))⟩), (let ⟨v_, a_⟩ := c8; ⟨v_, at_fr a_ (fun j a b => hf j (by omega) (by rw [nw_len] at b; omega))⟩), (let ⟨v_, a_⟩ := c9; ⟨v_, at_fr a_ (fun j a b => hf j (by omega) (by rw [vw_len] at b; omega))⟩), (let ⟨v_, a_⟩ := c10; ⟨v_, at_fr a_ (fun j a b => hf j (by omega) (by rw [ln_len] at b; omega))⟩)⟩
theorem CI_hs {e' : Nat → mS × Int32} {len' : Nat} (h : CI H σ r e len k κ w m) (hf : ∀ j, 0 ≤ j → j < 71 ∧ (j < 22 ∨ 52 ≤ j) → zg H' j = zg H j) (n4 : hsI H' e' len') : CI H' σ r e' len' k κ w m := by
  obtain ⟨c0, c1, c2, c3, c4, c5, c6, c7, c8, c9, c10⟩ := h
  exact ⟨(let ⟨v_, a_, b_⟩ := c0; ⟨v_, at_fr a_ (fun j a b => hf j (by omega) (by rw [sx_len] at b; omega)), b_⟩), (let ⟨v_, a_, b_⟩ := c1; ⟨v_, at_fr a_ (fun j a b => hf j (by omega) (by rw [st_len] at b; omega)), b_⟩), (let ⟨v_, a_⟩ := c2; ⟨v_, at_fr a_ (fun j a b => hf j (by omega) (by rw [st_len] at b; omega))⟩), (let ⟨v_, a_, b_⟩ := c3; ⟨v_, at_fr a_ (fun j a b => hf j (by omega) (by rw [st_len] at b; omega)), b_⟩), n4, (let ⟨v_, a_, b_⟩ := c5; ⟨v_, at_fr a_ (fun j a b => hf j (by omega) (by rw [pd_len] at b; omega)), b_⟩), (let ⟨v_, a_⟩ := c6; ⟨v_, at_fr a_ (fun j a b => hf j (by omega) (by rw [rd_len] at b; omega))⟩), (let ⟨v_, a_⟩ := c7; ⟨v_, at_fr a_ (fun j a b => hf j (by omega) (by rw [st_len] at b; omega))⟩), (let ⟨v_, a_⟩ := c8; ⟨v_, at_fr a_ (fun j a b => hf j (by omega) (by rw [nw_len] at b; omega))⟩), (let ⟨v_, a_⟩ := c9; ⟨v_, at_fr a_ (fun j a b => hf j (by omega) (by rw [vw_len] at b; omega))⟩), (let ⟨v_, a_⟩ := c10; ⟨v_, at_fr a_ (fun j a b => hf j (by omega) (by rw [ln_len] at b; omega))⟩)⟩
theorem CI_pd {w' : Nat → Nat} {m' : Nat} (h : CI H σ r e len k κ w m) (hf : ∀ j, 0 ≤ j → j < 71 ∧ (j < 52 ∨ 54 ≤ j) → zg H' j = zg H j) (n5 : (∃ P, at_ H' 52 (pdL 52 P) ∧ pdR P w' m')) : CI H' σ r e len k κ w' m' := by
  obtain ⟨c0, c1, c2, c3, c4, c5, c6, c7, c8, c9, c10⟩ := h
  exact ⟨(let ⟨v_, a_, b_⟩ := c0; ⟨v_, at_fr a_ (fun j a b => hf j (by omega) (by rw [sx_len] at b; omega)), b_⟩), (let ⟨v_, a_, b_⟩ := c1; ⟨v_, at_fr a_ (fun j a b => hf j (by omega) (by rw [st_len] at b; omega)), b_⟩), (let ⟨v_, a_⟩ := c2; ⟨v_, at_fr a_ (fun j a b => hf j (by omega) (by rw [st_len] at b; omega))⟩), (let ⟨v_, a_, b_⟩ := c3; ⟨v_, at_fr a_ (fun j a b => hf j (by omega) (by rw [st_len] at b; omega)), b_⟩), hsI_fr c4 (fun j a b => hf j (by omega) (by omega)), n5, (let ⟨v_, a_⟩ := c6; ⟨v_, at_fr a_ (fun j a b => hf j (by omega) (by rw [rd_len] at b; omega))⟩), (let ⟨v_, a_⟩ := c7; ⟨v_, at_fr a_ (fun j a b => hf j (by omega) (by rw [st_len] at b; omega))⟩), (let ⟨v_, a_⟩ := c8; ⟨v_, at_fr a_ (fun j a b => hf j (by omega) (by rw [nw_len] at b; omega))⟩), (let ⟨v_, a_⟩ := c9; ⟨v_, at_fr a_ (fun j a b => hf j (by omega) (by rw [vw_len] at b; omega))⟩), (let ⟨v_, a_⟩ := c10; ⟨v_, at_fr a_ (fun j a b => hf j (by omega) (by rw [ln_len] at b; omega))⟩)⟩
theorem CI_rd (h : CI H σ r e len k κ w m) (hf : ∀ j, 0 ≤ j → j < 71 ∧ (j < 54 ∨ 62 ≤ j) → zg H' j = zg H j) (n6 : (∃ R, at_ H' 54 (rdL 54 R))) (n7 : (∃ F, at_ H' 55 (stL 55 F))) : CI H' σ r e len k κ w m := by
  obtain ⟨c0, c1, c2, c3, c4, c5, c6, c7, c8, c9, c10⟩ := h
  exact ⟨(let ⟨v_, a_, b_⟩ := c0; ⟨v_, at_fr a_ (fun j a b => hf j (by omega) (by rw [sx_len] at b; omega)), b_⟩), (let ⟨v_, a_, b_⟩ := c1; ⟨v_, at_fr a_ (fun j a b => hf j (by omega) (by rw [st_len] at b; omega)), b_⟩), (let ⟨v_, a_⟩ := c2; ⟨v_, at_fr a_ (fun j a b => hf j (by omega) (by rw [st_len] at b; omega))⟩), (let ⟨v_, a_, b_⟩ := c3; ⟨v_, at_fr a_ (fun j a b => hf j (by omega) (by rw [st_len] at b; omega)), b_⟩), hsI_fr c4 (fun j a b => hf j (by omega) (by omega)), (let ⟨v_, a_, b_⟩ := c5; ⟨v_, at_fr a_ (fun j a b => hf j (by omega) (by rw [pd_len] at b; omega)), b_⟩), n6, n7, (let ⟨v_, a_⟩ := c8; ⟨v_, at_fr a_ (fun j a b => hf j (by omega) (by rw [nw_len] at b; omega))⟩), (let ⟨v_, a_⟩ := c9; ⟨v_, at_fr a_ (fun j a b => hf j (by omega) (by rw [vw_len] at b; omega))⟩), (let ⟨v_, a_⟩ := c10; ⟨v_, at_fr a_ (fun j a b => hf j (by omega) (by rw [ln_len] at b; omega))⟩)⟩
theorem CI_nw (h : CI H σ r e len k κ w m) (hf : ∀ j, 0 ≤ j → j < 71 ∧ (j < 62 ∨ 64 ≤ j) → zg H' j = zg H j) (n8 : (∃ Y, at_ H' 62 (nwL 62 Y))) : CI H' σ r e len k κ w m := by
  obtain ⟨c0, c1, c2, c3, c4, c5, c6, c7, c8, c9, c10⟩ := h
  exact ⟨(let ⟨v_, a_, b_⟩ := c0; ⟨v_, at_fr a_ (fun j a b => hf j (by omega) (by rw [sx_len] at b; omega)), b_⟩), (let ⟨v_, a_, b_⟩ := c1; ⟨v_, at_fr a_ (fun j a b => hf j (by omega) (by rw [st_len] at b; omega)), b_⟩), (let ⟨v_, a_⟩ := c2; ⟨v_, at_fr a_ (fun j a b => hf j (by omega) (by rw [st_len] at b; omega))⟩), (let ⟨v_, a_, b_⟩ := c3; ⟨v_, at_fr a_ (fun j a b => hf j (by omega) (by rw [st_len] at b; omega)), b_⟩), hsI_fr c4 (fun j a b => hf j (by omega) (by omega)), (let ⟨v_, a_, b_⟩ := c5; ⟨v_, at_fr a_ (fun j a b => hf j (by omega) (by rw [pd_len] at b; omega)), b_⟩), (let ⟨v_, a_⟩ := c6; ⟨v_, at_fr a_ (fun j a b => hf j (by omega) (by rw [rd_len] at b; omega))⟩), (let ⟨v_, a_⟩ := c7; ⟨v_, at_fr a_ (fun j a b => hf j (by omega) (by rw [st_len] at b; omega))⟩), n8, (let ⟨v_, a_⟩ := c9; ⟨v_, at_fr a_ (fun j a b => hf j (by omega) (by rw [vw_len] at b; omega))⟩), (let ⟨v_, a_⟩ := c10; ⟨v_, at_fr a_ (fun j a b => hf j (by omega) (by rw [ln_len] at b; omega))⟩)⟩
theorem CI_vw (h : CI H σ r e len k κ w m) (hf : ∀ j, 0 ≤ j → j < 71 ∧ (j < 64 ∨ 68 ≤ j) → zg H' j = zg H j) (n9 : (∃ V, at_ H' 64 (vwL 64 V))) : CI H' σ r e len k κ w m := by
  obtain ⟨c0, c1, c2, c3, c4, c5, c6, c7, c8, c9, c10⟩ := h
  exact ⟨(let ⟨v_, a_, b_⟩ := c0; ⟨v_, at_fr a_ (fun j a b => hf j (by omega) (by rw [sx_len] at b; omega)), b_⟩), (let ⟨v_, a_, b_⟩ := c1; ⟨v_, at_fr a_ (fun j a b => hf j (by omega) (by rw [st_len] at b; omega)), b_⟩), (let ⟨v_, a_⟩ := c2; ⟨v_, at_fr a_ (fun j a b => hf j (by omega) (by rw [st_len] at b; omega))⟩), (let ⟨v_, a_, b_⟩ := c3; ⟨v_, at_fr a_ (fun j a b => hf j (by omega) (by rw [st_len] at b; omega)), b_⟩), hsI_fr c4 (fun j a b => hf j (by omega) (by omega)), (let ⟨v_, a_, b_⟩ := c5; ⟨v_, at_fr a_ (fun j a b => hf j (by omega) (by rw [pd_len] at b; omega)), b_⟩), (let ⟨v_, a_⟩ := c6; ⟨v_, at_fr a_ (fun j a b => hf j (by omega) (by rw [rd_len] at b; omega))⟩), (let ⟨v_, a_⟩ := c7; ⟨v_, at_fr a_ (fun j a b => hf j (by omega) (by rw [st_len] at b; omega))⟩), (let ⟨v_, a_⟩ := c8; ⟨v_, at_fr a_ (fun j a b => hf j (by omega) (by rw [nw_len] at b; omega))⟩), n9, (let ⟨v_, a_⟩ := c10; ⟨v_, at_fr a_ (fun j a b => hf j (by omega) (by rw [ln_len] at b; omega))⟩)⟩
theorem CI_ln (h : CI H σ r e len k κ w m) (hf : ∀ j, 0 ≤ j → j < 71 ∧ (j < 68 ∨ 71 ≤ j) → zg H' j = zg H j) (n10 : (∃ N, at_ H' 68 (lnL 68 N))) : CI H' σ r e len k κ w m := by
  obtain ⟨c0, c1, c2, c3, c4, c5, c6, c7, c8, c9, c10⟩ := h
  exact ⟨(let ⟨v_, a_, b_⟩ := c0; ⟨v_, at_fr a_ (fun j a b => hf j (by omega) (by rw [sx_len] at b; omega)), b_⟩), (let ⟨v_, a_, b_⟩ := c1; ⟨v_, at_fr a_ (fun j a b => hf j (by omega) (by rw [st_len] at b; omega)), b_⟩), (let ⟨v_, a_⟩ := c2; ⟨v_, at_fr a_ (fun j a b => hf j (by omega) (by rw [st_len] at b; omega))⟩), (let ⟨v_, a_, b_⟩ := c3; ⟨v_, at_fr a_ (fun j a b => hf j (by omega) (by rw [st_len] at b; omega)), b_⟩), hsI_fr c4 (fun j a b => hf j (by omega) (by omega)), (let ⟨v_, a_, b_⟩ := c5; ⟨v_, at_fr a_ (fun j a b => hf j (by omega) (by rw [pd_len] at b; omega)), b_⟩), (let ⟨v_, a_⟩ := c6; ⟨v_, at_fr a_ (fun j a b => hf j (by omega) (by rw [rd_len] at b; omega))⟩), (let ⟨v_, a_⟩ := c7; ⟨v_, at_fr a_ (fun j a b => hf j (by omega) (by rw [st_len] at b; omega))⟩), (let ⟨v_, a_⟩ := c8; ⟨v_, at_fr a_ (fun j a b => hf j (by omega) (by rw [nw_len] at b; omega))⟩), (let ⟨v_, a_⟩ := c9; ⟨v_, at_fr a_ (fun j a b => hf j (by omega) (by rw [vw_len] at b; omega))⟩), n10⟩
theorem cx_0 {X : oS} (h : at_ H 0 (sxL 0 X)) : zgetf H 0 7 0 = some (.ref 1) := by
  have q : hsx H 0 X = H := at_self h
  have := sx_g0 (h := H) (i := 0) (S := X)
  rw [q] at this
  exact this
theorem cx_1 {X : oS} (h : at_ H 0 (sxL 0 X)) : zgetf H 0 7 1 = some (.ref 8) := by
  have q : hsx H 0 X = H := at_self h
  have := sx_g1 (h := H) (i := 0) (S := X)
  rw [q] at this
  exact this
theorem cx_2 {X : oS} (h : at_ H 0 (sxL 0 X)) : zgetf H 0 7 2 = some (.ref 15) := by
  have q : hsx H 0 X = H := at_self h
  have := sx_g2 (h := H) (i := 0) (S := X)
  rw [q] at this
  exact this
theorem cx_3 {X : oS} (h : at_ H 0 (sxL 0 X)) : zgetf H 0 7 3 = some (.int (X.2 0)) := by
  have q : hsx H 0 X = H := at_self h
  have := sx_g3 (h := H) (i := 0) (S := X)
  rw [q] at this
  exact this
theorem cx_4 {X : oS} (h : at_ H 0 (sxL 0 X)) : zgetf H 0 7 4 = some (.ref 22) := by
  have q : hsx H 0 X = H := at_self h
  have := sx_g4 (h := H) (i := 0) (S := X)
  rw [q] at this
  exact this
theorem cx_5 {X : oS} (h : at_ H 0 (sxL 0 X)) : zgetf H 0 7 5 = some (.ref 52) := by
  have q : hsx H 0 X = H := at_self h
  have := sx_g5 (h := H) (i := 0) (S := X)
  rw [q] at this
  exact this
theorem cx_6 {X : oS} (h : at_ H 0 (sxL 0 X)) : zgetf H 0 7 6 = some (.ref 54) := by
  have q : hsx H 0 X = H := at_self h
  have := sx_g6 (h := H) (i := 0) (S := X)
  rw [q] at this
  exact this
theorem cx_7 {X : oS} (h : at_ H 0 (sxL 0 X)) : zgetf H 0 7 7 = some (.ref 62) := by
  have q : hsx H 0 X = H := at_self h
  have := sx_g7 (h := H) (i := 0) (S := X)
  rw [q] at this
  exact this
theorem cx_8 {X : oS} (h : at_ H 0 (sxL 0 X)) : zgetf H 0 7 8 = some (.ref 64) := by
  have q : hsx H 0 X = H := at_self h
  have := sx_g8 (h := H) (i := 0) (S := X)
  rw [q] at this
  exact this
theorem cx_9 {X : oS} (h : at_ H 0 (sxL 0 X)) : zgetf H 0 7 9 = some (.ref 68) := by
  have q : hsx H 0 X = H := at_self h
  have := sx_g9 (h := H) (i := 0) (S := X)
  rw [q] at this
  exact this
theorem cz_st {i : Nat} {S : oS} (h : at_ H i (stL i S)) : zis H i 5 = true := by
  have := st_is (h := H) (i := i) (S := S)
  rw [at_st h] at this
  exact this
theorem at_vw {i : Nat} {S : oS} (h : at_ H i (vwL i S)) : hvw H i S = H := at_self h
theorem cz_vw {i : Nat} {S : oS} (h : at_ H i (vwL i S)) : zis H i 6 = true := by
  have := vw_is (h := H) (i := i) (S := S)
  rw [at_vw h] at this
  exact this
theorem at_ln {i : Nat} {S : oS} (h : at_ H i (lnL i S)) : hln H i S = H := at_self h
theorem cz_ln {i : Nat} {S : oS} (h : at_ H i (lnL i S)) : zis H i 1 = true := by
  have := ln_is (h := H) (i := i) (S := S)
  rw [at_ln h] at this
  exact this
theorem at_nw {i : Nat} {S : oS} (h : at_ H i (nwL i S)) : hnw H i S = H := at_self h
theorem cz_nw {i : Nat} {S : oS} (h : at_ H i (nwL i S)) : zis H i 3 = true := by
  have := nw_is (h := H) (i := i) (S := S)
  rw [at_nw h] at this
  exact this
theorem at_pd {i : Nat} {S : oS} (h : at_ H i (pdL i S)) : hpd H i S = H := at_self h
theorem cz_pd {i : Nat} {S : oS} (h : at_ H i (pdL i S)) : zis H i 4 = true := by
  have := pd_is (h := H) (i := i) (S := S)
  rw [at_pd h] at this
  exact this
theorem at_rd {i : Nat} {S : oS} (h : at_ H i (rdL i S)) : hrd H i S = H := at_self h
theorem cz_rd {i : Nat} {S : oS} (h : at_ H i (rdL i S)) : zis H i 2 = true := by
  have := rd_is (h := H) (i := i) (S := S)
  rw [at_rd h] at this
  exact this
theorem at_sx {i : Nat} {S : oS} (h : at_ H i (sxL i S)) : hsx H i S = H := at_self h
theorem cz_sx {i : Nat} {S : oS} (h : at_ H i (sxL i S)) : zis H i 7 = true := by
  have := sx_is (h := H) (i := i) (S := S)
  rw [at_sx h] at this
  exact this
end COUPLE
