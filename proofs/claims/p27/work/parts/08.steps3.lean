section ZS3
variable {p : Program} {l : Launch} {e : Env} {R : Room} {s : State} {mth : MethodId} {args : Array Value} {below : List Frame} {meth : Method} {c : Code} {Q : State → Prop} {D : va_G} {y : zY} {A : Nat → Prop} {H0 : Heap} {ob : Option Nat} {m n0 s0 : Nat} {ad0 : List Nat}
variable {pc : Nat} {al : List (Option Value)} {st : List Value} {h : zH} {r : Nat × List (Option Value) × List Value × zH} {len : Nat}
theorem zz_obj {ad : List Nat} {ws : va_W} (X : zHr ad y h ws) {i ci : Nat} {fs : List Value} (hg : zg h i = .inr (.inr (ci, fs))) (hc : ci ≠ 99) : ∃ a gs, ad[i]? = some a ∧ ws[i]? = some (a, .inr (ci, gs)) ∧ zVs ad none fs gs := by
  obtain ⟨a, e, h1, h2, gs, h3, rfl⟩ := X.at' hg (fun z => by unfold zvoid at z; cases z; exact hc rfl)
  exact ⟨a, gs, h1, h2, h3⟩
theorem zz_arr {ad : List Nat} {ws : va_W} (X : zHr ad y h ws) {i t n : Nat} {f : Nat → Int32} (hg : zg h i = .inl (t, n, f)) : ∃ a, ad[i]? = some a ∧ ((t = 0 ∧ ws[i]? = some (a, .inl (y.1, n, .inl f))) ∨ (t = 1 ∧ ws[i]? = some (a, .inl (y.2.1, n, .inl f)))) := by
  obtain ⟨a, e, h1, h2, h3⟩ := X.at' hg (fun z => by unfold zvoid at z; cases z)
  refine ⟨a, h1, ?_⟩
  rcases h3 with ⟨e1, rfl⟩ | ⟨e1, rfl⟩
  · exact Or.inl ⟨e1, h2⟩
  · exact Or.inr ⟨e1, h2⟩
theorem zz_qrr {ad : List Nat} {ws : va_W} (X : zHr ad y h ws) {i n : Nat} {f : Nat → Option Nat} (hg : zg h i = .inr (.inl (n, f))) : ∃ a g, ad[i]? = some a ∧ (∀ j, zR ad (f j) (g j)) ∧ ws[i]? = some (a, .inl (y.2.2, n, .inr (.inr (.inr (.inr g))))) := by
  obtain ⟨a, e, h1, h2, g, h3, rfl⟩ := X.at' hg (fun z => by unfold zvoid at z; cases z)
  exact ⟨a, g, h1, h3, h2⟩
theorem zT_99 {ci : Nat} {C : String} {T : u_T} {N : Nat} (h : zT ci = some (C, T, N)) : ci ≠ 99 := by
  rintro rfl
  simp [zT] at h
theorem zFk_ok {k1 i c1 f1 q : Nat} (h : zFk ((k1, i), (c1, f1)) q = true) : ∃ C T N, zT c1 = some (C, T, N) ∧ f1 < N ∧ Cond.fieldLink (zK k1) i C (T f1).2.1 (T f1).2.2.1 ∈ WS ∧ (T f1).1 = C ∧ C = zK k1 := by
  unfold zFk at h
  split at h
  · rename_i C T N hT
    simp only [Bool.and_eq_true, decide_eq_true_eq] at h
    exact ⟨C, T, N, hT, h.1.1.1, zw_ws h.1.1.2, h.1.2, h.2⟩
  · cases h
theorem zz_get {i c1 f1 : Nat} {v : Value} (h1 : zgetf h i c1 f1 = some v) : ∃ fs, zg h i = .inr (.inr (c1, fs)) ∧ fs[f1]? = some v := by
  unfold zgetf at h1
  split at h1
  · rename_i cc fs hg
    split at h1
    · rename_i e
      subst e
      exact ⟨fs, hg, h1⟩
    · cases h1
  · cases h1
theorem zz_put {i c1 f1 : Nat} {v : Value} {h2 : zH} (h1 : zputf h i c1 f1 v = some h2) : ∃ fs, zg h i = .inr (.inr (c1, fs)) ∧ f1 < fs.length ∧ h2 = zu h i (.inr (.inr (c1, fs.set f1 v))) := by
  unfold zputf at h1
  split at h1
  · rename_i cc fs hg
    split at h1
    · rename_i e
      obtain ⟨rfl, e⟩ := e
      cases h1
      exact ⟨fs, hg, e, rfl⟩
    · cases h1
  · cases h1
theorem zfit_v {ty : FieldType} {v w : Value} {ad : List Nat} (h : zfit ty v = true) (hv : zV ad ob v w) : zV ad none v w ∧ narrow ty w = w ∧ fits ty w = true := by
  simp only [zfit, Bool.and_eq_true, decide_eq_true_eq] at h
  obtain ⟨⟨h1, h2⟩, h3⟩ := h
  cases v with
  | int x => cases hv; exact ⟨rfl, h2, h3⟩
  | ref i =>
    obtain ⟨a, e, rfl⟩ := hv
    refine ⟨⟨a, e, rfl⟩, ?_, ?_⟩
    · cases ty <;> rfl
    · cases ty <;> first | exact h3 | rfl
  | _ => simp [zval] at h1
theorem zs_field {i : Instr} (C : zCx p R s mth args meth c D y A H0 m) (hd : decode (zb m) pc = .ok (i, len)) (hi : (∃ n, i = .getfield n) ∨ (∃ n, i = .putfield n)) (hs : zdo m pc i len al st h = some (.inl r)) (k : zWg p l e R s mth args below meth c Q D y A H0 ob m n0 s0 ad0 r) : zWg p l e R s mth args below meth c Q D y A H0 ob m n0 s0 ad0 (pc, al, st, h) := by
  obtain ⟨hx, hb, hml, hown, hts, hK, hA, hnm, hR1, hR2⟩ := C
  intro ad ws H locs ls cst h1 h2 X
  have X6 := X.2.2.2.2.2.1
  rcases hi with ⟨n, rfl⟩ | ⟨n, rfl⟩ <;> (have hq0 := zq_some (α := Nat) hs; clear hs; obtain ⟨hl, hs⟩ := hq0; cases beq_iff_eq.mp hl; split at hs)
  · rename_i i1 t
    obtain ⟨⟨c1, f1⟩, e1, hs⟩ := zb_some hs
    obtain ⟨v, e2, hs⟩ := zb_some hs
    cases zn_inl hs
    obtain ⟨pp, hp⟩ := zfld_ok e1
    obtain ⟨CC, T, N, hT, hf1, hlk, hC1, hC2⟩ := zFk_ok hp
    obtain ⟨fs, hg, hv⟩ := zz_get e2
    obtain ⟨a, gs, ha, hw, hvs⟩ := zz_obj X.1 hg (zT_99 hT)
    obtain ⟨w1, us, rfl, ⟨a', ha', rfl⟩, hus⟩ := X6
    cases ha.symm.trans ha'
    obtain ⟨w, hw1, hw2⟩ := hvs.get hv
    exact va_get hx hb hts (zT_ok hT).1 hown hK.1 X.2.1 i1 hw hT f1 hf1 (hts _ hlk) (fun x hx => by rw [hC1] at hx; exact hx) hw1 hd (k _ _ _ _ _ _ h1 h2 (X.stk ⟨_, _, rfl, hw2.weak, hus⟩))
  · cases hs
  · rename_i v i1 t
    obtain ⟨⟨c1, f1⟩, e1, hs⟩ := zb_some hs
    have hq0 := zq_some (α := Nat) hs
    clear hs
    obtain ⟨hq, hs⟩ := hq0
    obtain ⟨hh, e2, hs⟩ := zb_some hs
    cases zn_inl hs
    obtain ⟨pp, hp⟩ := zfld_ok e1
    obtain ⟨CC, T, N, hT, hf1, hlk, hC1, hC2⟩ := zFk_ok hp
    obtain ⟨fs, hg, hlt, rfl⟩ := zz_put e2
    obtain ⟨a, gs, ha, hw, hvs⟩ := zz_obj X.1 hg (zT_99 hT)
    obtain ⟨w0, us0, rfl, hw0, w1, us, rfl, ⟨a', ha', rfl⟩, hus⟩ := X6
    cases ha.symm.trans ha'
    unfold zpf at hq
    rw [hT] at hq
    rw [Bool.and_eq_true] at hq
    obtain ⟨hz1, hz2, hz3⟩ := zfit_v hq.1 hw0
    have hgl : f1 < gs.length := by rw [hvs.len]; exact hlt
    have hE : zE ad y (.inr (.inr (c1, fs.set f1 v))) (.inr (c1, gs.set f1 w0)) := ⟨_, hvs.set hz1, rfl⟩
    obtain ⟨hin, hty, hnms⟩ := zT_ok hT
    cases hfin : (T f1).2.2.2 with
    | false => exact va_put hx hb hts hin (zty c1) hty hnms hown hK.1 X.2.1 X.2.2.1 X.2.2.2.1 i1 hw hT f1 hf1 (hts _ hlk) (fun x hx => by rw [hC1] at hx; exact hx) hfin (hty f1 hf1) hz2 hz3 hgl hd (fun H1 locs1 hP hD hS => k _ _ _ _ _ _ h1 h2 (X.upd ha hE hP hD hS hus))
    | true =>
      have hq2 := hq.2
      rw [hfin] at hq2
      simp only [Bool.not_true, Bool.false_or, decide_eq_true_eq] at hq2
      exact va_putF hx hb hts hin (zty c1) hty hnms hown hK.1 X.2.1 X.2.2.1 X.2.2.2.1 i1 hw hT f1 hf1 (hts _ hlk) (fun x hx => by rw [hC1] at hx; exact hx) hfin (hnm hq2) (hC1.trans hC2) (hty f1 hf1) hz2 hz3 hgl hd (fun H1 locs1 hP hD hS => k _ _ _ _ _ _ h1 h2 (X.upd ha hE hP hD hS hus))
  · cases hs
theorem zz_ald {t i : Nat} {j x : Int32} (h1 : zald t h i j = some x) : ∃ n f, zg h i = .inl (t, n, f) ∧ zin j n = true ∧ x = f j.toNatClampNeg := by
  unfold zald at h1
  split at h1
  · rename_i t' n f hg
    split at h1
    · rename_i e
      obtain ⟨rfl, e⟩ := e
      cases h1
      exact ⟨n, f, hg, e, rfl⟩
    · cases h1
  · cases h1
theorem zz_asti {i : Nat} {j x : Int32} {h2 : zH} (h1 : zasti h i j x = some h2) : ∃ n f, zg h i = .inl (0, n, f) ∧ zin j n = true ∧ h2 = zu h i (.inl (0, n, upd f j.toNatClampNeg x)) := by
  unfold zasti at h1
  split at h1
  · rename_i t' n f hg
    split at h1
    · rename_i e
      obtain ⟨rfl, e⟩ := e
      cases h1
      exact ⟨n, f, hg, e, rfl⟩
    · cases h1
  · cases h1
theorem zz_astc {i : Nat} {j x : Int32} {h2 : zH} (h1 : zastc h i j x = some h2) : ∃ n f, zg h i = .inl (1, n, f) ∧ zin j n = true ∧ h2 = zu h i (.inl (1, n, upd f j.toNatClampNeg (vp_nar .char x))) := by
  unfold zastc at h1
  split at h1
  · rename_i t' n f hg
    split at h1
    · rename_i e
      obtain ⟨rfl, e⟩ := e
      cases h1
      exact ⟨n, f, hg, e, rfl⟩
    · cases h1
  · cases h1
theorem zz_aldq {i : Nat} {j : Int32} {x : Nat} (h1 : zaldq h i j = some x) : ∃ n f, zg h i = .inr (.inl (n, f)) ∧ zin j n = true ∧ f j.toNatClampNeg = some x := by
  unfold zaldq at h1
  split at h1
  · rename_i n f hg
    split at h1
    · rename_i e
      exact ⟨n, f, hg, e, h1⟩
    · cases h1
  · cases h1
theorem zz_is {k1 c1 : Nat} (h1 : zis h k1 c1 = true) : ∃ fs, zg h k1 = .inr (.inr (c1, fs)) := by
  unfold zis at h1
  split at h1
  · rename_i cc fs hg
    cases of_decide_eq_true h1
    exact ⟨fs, hg⟩
  · cases h1
theorem zz_astq {i : Nat} {j : Int32} {x : Nat} {h2 : zH} (h1 : zastq h i j x = some h2) : ∃ n f, zg h i = .inr (.inl (n, f)) ∧ zin j n = true ∧ zis h x 5 = true ∧ h2 = zu h i (.inr (.inl (n, va_up f j.toNatClampNeg (some x)))) := by
  unfold zastq at h1
  split at h1
  · rename_i n f hg
    split at h1
    · rename_i e
      cases h1
      exact ⟨n, f, hg, e.1, e.2, rfl⟩
    · cases h1
  · cases h1
theorem zz_len {i : Nat} {x : Int32} {ad : List Nat} {ws : va_W} (X : zHr ad y h ws) (h1 : zlen h i = some x) : ∃ (a t0 : Nat) (cA : ClassId) (b : vp_A) (ty : FieldType), ad[i]? = some a ∧ ws[i]? = some (a, .inl (cA, b)) ∧ ([(y.1, .int), (y.2.1, .char), (y.2.2, .object RX5)] : List (ClassId × FieldType))[t0]? = some (cA, ty) ∧ Int32.ofNat b.1 = x := by
  unfold zlen at h1
  split at h1
  · rename_i t n f hg
    obtain ⟨a, ha, hw⟩ := zz_arr X hg
    split at h1
    · cases h1
      rcases hw with ⟨-, hw⟩ | ⟨-, hw⟩
      · exact ⟨a, 0, _, _, _, ha, hw, rfl, rfl⟩
      · exact ⟨a, 1, _, _, _, ha, hw, rfl, rfl⟩
    · cases h1
  · rename_i n f hg
    obtain ⟨a, g, ha, -, hw⟩ := zz_qrr X hg
    cases h1
    exact ⟨a, 2, _, _, _, ha, hw, rfl, rfl⟩
  · cases h1
theorem zs_array {i : Instr} (C : zCx p R s mth args meth c D y A H0 m) (hd : decode (zb m) pc = .ok (i, len)) (hi : i = .iaload ∨ i = .caload ∨ i = .aaload ∨ i = .iastore ∨ i = .castore ∨ i = .aastore ∨ i = .arraylength) (hs : zdo m pc i len al st h = some (.inl r)) (k : zWg p l e R s mth args below meth c Q D y A H0 ob m n0 s0 ad0 r) : zWg p l e R s mth args below meth c Q D y A H0 ob m n0 s0 ad0 (pc, al, st, h) := by
  obtain ⟨hx, hb, hml, hown, hts, hK, hA, hnm, hR1, hR2⟩ := C
  intro ad ws H locs ls cst h1 h2 X
  have X6 := X.2.2.2.2.2.1
  rcases hi with rfl | rfl | rfl | rfl | rfl | rfl | rfl <;> (have hq0 := zq_some (α := Nat) hs; clear hs; obtain ⟨hl, hs⟩ := hq0; cases beq_iff_eq.mp hl; split at hs)
  · rename_i j i1 t
    obtain ⟨x, e1, hs⟩ := zb_some hs
    cases zn_inl hs
    obtain ⟨n, f, hg, hj, rfl⟩ := zz_ald e1
    obtain ⟨a, ha, hw | ⟨hw, -⟩⟩ := zz_arr X.1 hg
    · obtain ⟨w0, us0, rfl, hw0, w1, us, rfl, ⟨a', ha', rfl⟩, hus⟩ := X6
      cases hw0
      cases ha.symm.trans ha'
      exact va_iald hx hb hK.1 X.2.1 i1 0 hw.2 rfl (zin_vp hj) hd (k _ _ _ _ _ _ h1 h2 (X.stk ⟨_, _, rfl, rfl, hus⟩))
    · cases hw
  · rename_i j b0 t
    have hq0 := zq_some (α := Nat) hs
    clear hs
    obtain ⟨hj, hs⟩ := hq0
    cases zn_inl hs
    obtain ⟨w0, us0, rfl, hw0, w1, us, rfl, ⟨b, hb0, rfl⟩, hus⟩ := X6
    cases hw0
    obtain ⟨g1, g2, g3⟩ := X.2.2.2.2.2.2.1 b hb0
    exact va_sld hx hb g1 g2 g3 X.2.2.2.1 (zin_vp hj) hd (k _ _ _ _ _ _ h1 h2 (X.stk ⟨_, _, rfl, rfl, hus⟩))
  · cases hs
  · rename_i j i1 t
    obtain ⟨x, e1, hs⟩ := zb_some hs
    cases zn_inl hs
    obtain ⟨n, f, hg, hj, rfl⟩ := zz_ald e1
    obtain ⟨a, ha, ⟨hw, -⟩ | hw⟩ := zz_arr X.1 hg
    · cases hw
    · obtain ⟨w0, us0, rfl, hw0, w1, us, rfl, ⟨a', ha', rfl⟩, hus⟩ := X6
      cases hw0
      cases ha.symm.trans ha'
      exact va_cald hx hb hK.1 X.2.1 i1 1 hw.2 rfl (zin_vp hj) hd (k _ _ _ _ _ _ h1 h2 (X.stk ⟨_, _, rfl, rfl, hus⟩))
  · cases hs
  · rename_i j i1 t
    obtain ⟨x, e1, hs⟩ := zb_some hs
    cases zn_inl hs
    obtain ⟨n, f, hg, hj, hfx⟩ := zz_aldq e1
    obtain ⟨a, g, ha, hR, hw⟩ := zz_qrr X.1 hg
    obtain ⟨w0, us0, rfl, hw0, w1, us, rfl, ⟨a', ha', rfl⟩, hus⟩ := X6
    cases hw0
    cases ha.symm.trans ha'
    have hRj := hR j.toNatClampNeg
    rw [hfx] at hRj
    obtain ⟨q, hq1, hq2⟩ := hRj
    refine va_aldq hx hb hK.1 X.2.1 i1 2 hw rfl (zin_vp hj) hd ?_
    rw [hq2]
    exact k _ _ _ _ _ _ h1 h2 (X.stk ⟨_, _, rfl, ⟨q, hq1, rfl⟩, hus⟩)
  · cases hs
  · rename_i x j i1 t
    obtain ⟨hh, e1, hs⟩ := zb_some hs
    cases zn_inl hs
    obtain ⟨n, f, hg, hj, rfl⟩ := zz_asti e1
    obtain ⟨a, ha, hw | ⟨hw, -⟩⟩ := zz_arr X.1 hg
    · obtain ⟨w9, us9, rfl, hw9, w0, us0, rfl, hw0, w1, us, rfl, ⟨a', ha', rfl⟩, hus⟩ := X6
      cases hw0; cases hw9
      cases ha.symm.trans ha'
      exact va_iast hx hb hK.1 X.2.1 X.2.2.1 X.2.2.2.1 i1 0 hw.2 rfl (zin_vp hj) hd (fun H1 locs1 hP hD hS => k _ _ _ _ _ _ h1 h2 (X.upd ha (Or.inl ⟨rfl, rfl⟩) hP hD hS hus))
    · cases hw
  · cases hs
  · rename_i x j i1 t
    obtain ⟨hh, e1, hs⟩ := zb_some hs
    cases zn_inl hs
    obtain ⟨n, f, hg, hj, rfl⟩ := zz_astc e1
    obtain ⟨a, ha, ⟨hw, -⟩ | hw⟩ := zz_arr X.1 hg
    · cases hw
    · obtain ⟨w9, us9, rfl, hw9, w0, us0, rfl, hw0, w1, us, rfl, ⟨a', ha', rfl⟩, hus⟩ := X6
      cases hw0; cases hw9
      cases ha.symm.trans ha'
      exact va_cast hx hb hK.1 X.2.1 X.2.2.1 X.2.2.2.1 i1 1 hw.2 rfl (zin_vp hj) hd (fun H1 locs1 hP hD hS => k _ _ _ _ _ _ h1 h2 (X.upd ha (Or.inr ⟨rfl, rfl⟩) hP hD hS hus))
  · cases hs
  · rename_i x j i1 t
    obtain ⟨hh, e1, hs⟩ := zb_some hs
    cases zn_inl hs
    obtain ⟨n, f, hg, hj, his, rfl⟩ := zz_astq e1
    obtain ⟨a, g, ha, hR, hw⟩ := zz_qrr X.1 hg
    obtain ⟨fs, hgx⟩ := zz_is his
    obtain ⟨b, gs, hb1, hwb, -⟩ := zz_obj X.1 hgx (by decide)
    obtain ⟨w9, us9, rfl, ⟨b', hb', rfl⟩, w0, us0, rfl, hw0, w1, us, rfl, ⟨a', ha', rfl⟩, hus⟩ := X6
    cases hw0
    cases ha.symm.trans ha'
    cases hb1.symm.trans hb'
    refine va_astq (r := (RX5, TX5, 8)) hx hb hK.1 X.2.1 X.2.2.1 X.2.2.2.1 i1 2 x 5 hw rfl hwb rfl (zin_vp hj) hd (fun H1 locs1 hP hD hS => k _ _ _ _ _ _ h1 h2 (X.upd ha ⟨_, fun q => ?_, rfl⟩ hP hD hS hus))
    unfold va_up
    by_cases hq : q = j.toNatClampNeg
    · rw [if_pos hq, if_pos hq]
      exact ⟨b, hb1, rfl⟩
    · rw [if_neg hq, if_neg hq]
      exact hR q
  · cases hs
  · rename_i i1 t
    obtain ⟨x, e1, hs⟩ := zb_some hs
    cases zn_inl hs
    obtain ⟨a, t0, cA, b, ty, ha, hw, ht, hn⟩ := zz_len X.1 e1
    obtain ⟨w1, us, rfl, ⟨a', ha', rfl⟩, hus⟩ := X6
    cases ha.symm.trans ha'
    exact va_alen hx hb hK.1 X.2.1 i1 t0 hw ht hn hd (k _ _ _ _ _ _ h1 h2 (X.stk ⟨_, _, rfl, rfl, hus⟩))
  · rename_i b0 t
    cases zn_inl hs
    obtain ⟨w1, us, rfl, ⟨b, hb0, rfl⟩, hus⟩ := X6
    obtain ⟨g1, g2, g3⟩ := X.2.2.2.2.2.2.1 b hb0
    exact va_slen hx hb g1 g2 g3 X.2.2.2.1 hd (k _ _ _ _ _ _ h1 h2 (X.stk ⟨_, _, rfl, rfl, hus⟩))
  · cases hs
end ZS3
