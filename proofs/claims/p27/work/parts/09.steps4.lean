section ZS4
variable {p : Program} {l : Launch} {e : Env} {R : Room} {s : State} {mth : MethodId} {args : Array Value} {below : List Frame} {meth : Method} {c : Code} {Q : State → Prop} {D : va_G} {y : zY} {A : Nat → Prop} {H0 : Heap} {ob : Option Nat} {m n0 s0 : Nat} {ad0 : List Nat}
variable {pc : Nat} {al : List (Option Value)} {st : List Value} {h : zH} {r : Nat × List (Option Value) × List Value × zH} {len : Nat}
theorem zblank_ok {ci : Nat} {C : String} {T : u_T} {N : Nat} (h : zT ci = some (C, T, N)) : (zblank ci).length = N ∧ (∀ j, j < N → defaultValue (zty ci j) = vp_V (zblank ci) j) := by
  unfold zblank
  rw [h]
  refine ⟨by simp, fun j hj => ?_⟩
  simp [vp_V, hj]
theorem zVs_plain {ad : List Nat} : ∀ {l : List Value}, l.all zplain = true → zVs ad none l l
  | [], _ => rfl
  | a :: l, h => by
    rw [List.all_cons, Bool.and_eq_true] at h
    refine ⟨_, _, rfl, ?_, zVs_plain h.2⟩
    cases a <;> first | rfl | (exact absurd h.1 (by simp [zplain]))
theorem zNk_ok {k1 i ci : Nat} {ps : List Nat} (h : zNk ((k1, i), ci) ps = true) : ∃ C T N, zT ci = some (C, T, N) ∧ Cond.classLink (zK k1) i C ∈ WS ∧ Cond.instantiable C N ∈ WS ∧ Cond.initialized C ∈ WS := by
  unfold zNk at h
  split at h
  · rename_i C T N hT
    simp only [Bool.and_eq_true] at h
    exact ⟨C, T, N, hT, zw_ws h.1.1, zw_ws h.1.2, zw_ws h.2⟩
  · cases h
theorem zs_new {i : Instr} (C : zCx p R s mth args meth c D y A H0 m) (hd : decode (zb m) pc = .ok (i, len)) (hi : (∃ n, i = .new n) ∨ (∃ n, i = .newarray n) ∨ (∃ n, i = .anewarray n)) (hs : zdo m pc i len al st h = some (.inl r)) (hb1 : r.2.2.2.1 ≤ n0 + R.cells) (hb2 : r.2.2.2.2.1 ≤ s0 + R.slots) (k : zWg p l e R s mth args below meth c Q D y A H0 ob m n0 s0 ad0 r) : zWg p l e R s mth args below meth c Q D y A H0 ob m n0 s0 ad0 (pc, al, st, h) := by
  obtain ⟨hx, hb, hml, hown, hts, hK, hA, hnm, hR1, hR2⟩ := C
  intro ad ws H locs ls cst h1 h2 X
  have X6 := X.2.2.2.2.2.1
  dsimp only at h1 h2
  show W p l e R s mth args below meth c H locs (h.1 - n0) (h.2.1 - s0) Q (F0 mth pc ls cst)
  rcases hi with ⟨n, rfl⟩ | ⟨n, rfl⟩ | ⟨n, rfl⟩ <;> (have hq0 := zq_some (α := Nat) hs; clear hs; obtain ⟨hl, hs⟩ := hq0; cases beq_iff_eq.mp hl)
  · obtain ⟨ci, e1, hs⟩ := zb_some hs
    have hq0 := zq_some (α := Nat) hs
    clear hs
    obtain ⟨hq, hs⟩ := hq0
    cases zn_inl hs
    obtain ⟨pp, hp⟩ := znew_ok e1
    obtain ⟨CC, T, N, hT, w1, w2, w3⟩ := zNk_ok hp
    obtain ⟨hN, hfs⟩ := zblank_ok hT
    obtain ⟨hin, hty, hnms⟩ := zT_ok hT
    have b1 : h.1 + 1 ≤ n0 + R.cells := hb1
    have b2 : h.2.1 + (zblank ci).length ≤ s0 + R.slots := hb2
    refine va_new (fs := zblank ci) hx hb hts hin (zty ci) hty hown (hts _ w1) (hts _ w2) (hts _ w3) hK.1 X.2.1 X.2.2.1 X.2.2.2.1 hA hT hfs (by omega) (by omega) hd (fun q H1 hP hD hS => ?_)
    have hE : zE (ad ++ [q]) y (.inr (.inr (ci, zblank ci))) (.inr (ci, zblank ci)) := ⟨_, zVs_plain hq, rfl⟩
    refine W.cs (cells' := h.1 + 1 - n0) (slots' := h.2.1 + (zblank ci).length - s0) (by omega) (by omega) ?_
    exact k _ _ _ _ _ _ (by show n0 ≤ h.1 + 1; omega) (by show s0 ≤ h.2.1 + (zblank ci).length; omega) (X.mk hE hP hD hS ⟨_, _, rfl, ⟨q, by rw [X.1.1, List.getElem?_append_right (Nat.le_refl _), Nat.sub_self]; rfl, rfl⟩, X6.ext zExt.app⟩)
  · have key : ∀ (a : ArrayType) (t : Nat) (ty : FieldType) (cA0 : ClassId) (x : Int32) (us : List Value) (tl : List Value), n = a → newarray.typeOf a = ty → zVs ad ob tl us → cst = .int x :: us → (Cond.arrayClass (newarray.typeOf a)) ∈ WS → (∀ cA q n1, va_K D vwCl ([(y.1, .int), (y.2.1, .char), (y.2.2, .object RX5)] ++ [(cA, ty)]) s → zE (ad ++ [q]) y (.inl (t, n1, fun _ => 0)) (.inl (cA, n1, .inl (fun _ => 0)))) → (∀ (cA : ClassId) (n1 : Nat), vp_cell cA (n1, .inl (fun _ => 0)) = arrV cA n1 (fun _ => defaultValue ty)) → componentBytes ty ≤ 8 → (!decide (x < 0) && decide (x.toNatClampNeg ≤ 1000)) = true → r = (pc + 2, al, .ref h.1 :: tl, zpush h x.toNatClampNeg (.inl (t, x.toNatClampNeg, fun _ => 0))) → W p l e R s mth args below meth c H locs (h.1 - n0) (h.2.1 - s0) Q (F0 mth pc ls cst) := by
      intro a t ty cA0 x us tl hn hty hus hcst hw hcell hdef hcb hq hr
      subst hn hr
      subst hcst
      simp only [Bool.and_eq_true, Bool.not_eq_true', decide_eq_false_iff_not, decide_eq_true_eq] at hq
      have b1 : h.1 + 1 ≤ n0 + R.cells := hb1
      have b2 : h.2.1 + x.toNatClampNeg ≤ s0 + R.slots := hb2
      refine va_newa hx hb (hts _ hw) hty hK.1 X.2.1 X.2.2.1 X.2.2.2.1 hA (fun cA => hdef cA x.toNatClampNeg) hq.1 rfl (Nat.le_trans (Nat.mul_le_mul hq.2 hcb) (by decide)) (by omega) (by omega) hd (fun q cA H1 hK1 hP hD hS => ?_)
      refine W.cs (cells' := h.1 + 1 - n0) (slots' := h.2.1 + x.toNatClampNeg - s0) (by omega) (by omega) ?_
      exact k _ _ _ _ _ _ (by show n0 ≤ h.1 + 1; omega) (by show s0 ≤ h.2.1 + x.toNatClampNeg; omega) (X.mk (hcell cA q _ hK1) hP hD hS ⟨_, _, rfl, ⟨q, by rw [X.1.1, List.getElem?_append_right (Nat.le_refl _), Nat.sub_self]; rfl, rfl⟩, hus.ext zExt.app⟩)
    split at hs
    · rename_i x t
      have hq0 := zq_some (α := Nat) hs
      clear hs
      obtain ⟨hq, hs⟩ := hq0
      obtain ⟨w0, us, rfl, hw0, hus⟩ := X6
      cases hw0
      refine key .int 0 .int y.1 x us t rfl rfl hus rfl ws_arr_int (fun cA q n1 hK1 => ?_) (fun cA n1 => rfl) (by decide) hq (zn_inl hs)
      have e1 := (hK1.2 3 _ rfl).2
      have e2 := (hK1.2 0 _ rfl).2
      have e3 : cA = y.1 := Option.some.inj (Eq.trans (Eq.symm (show s.vm.findClass ("[" ++ FieldType.int.toString) = some cA from e1)) (show s.vm.findClass ("[" ++ FieldType.int.toString) = some y.1 from e2))
      exact Or.inl ⟨rfl, by rw [e3]⟩
    · rename_i x t
      have hq0 := zq_some (α := Nat) hs
      clear hs
      obtain ⟨hq, hs⟩ := hq0
      obtain ⟨w0, us, rfl, hw0, hus⟩ := X6
      cases hw0
      refine key .char 1 .char y.2.1 x us t rfl rfl hus rfl ws_arr_char (fun cA q n1 hK1 => ?_) (fun cA n1 => rfl) (by decide) hq (zn_inl hs)
      have e1 := (hK1.2 3 _ rfl).2
      have e2 := (hK1.2 1 _ rfl).2
      have e3 : cA = y.2.1 := Option.some.inj (Eq.trans (Eq.symm (show s.vm.findClass ("[" ++ FieldType.char.toString) = some cA from e1)) (show s.vm.findClass ("[" ++ FieldType.char.toString) = some y.2.1 from e2))
      exact Or.inr ⟨rfl, by rw [e3]⟩
    · cases hs
  · split at hs
    · rename_i x t
      have hq0 := zq_some (α := Nat) hs
      clear hs
      obtain ⟨hq, hs⟩ := hq0
      cases zn_inl hs
      obtain ⟨w0, us, rfl, hw0, hus⟩ := X6
      cases hw0
      simp only [Bool.and_eq_true, Bool.not_eq_true', decide_eq_false_iff_not, decide_eq_true_eq] at hq
      have b1 : h.1 + 1 ≤ n0 + R.cells := hb1
      have b2 : h.2.1 + x.toNatClampNeg ≤ s0 + R.slots := hb2
      refine va_newq hx hb hown (hts _ (zanew_ok hq.2)) hK.2.2 hK.1 X.2.1 X.2.2.1 X.2.2.2.1 hA hq.1.1 rfl (Nat.le_trans (Nat.mul_le_mul_right 4 hq.1.2) (by decide)) (by omega) (by omega) hd (fun q cA H1 hK1 hP hD hS => ?_)
      have e1 := (hK1.2 3 _ rfl).2
      have e2 := (hK1.2 2 _ rfl).2
      obtain ⟨_, _, _, _, _, e1⟩ := e1
      obtain ⟨_, _, _, _, _, e2⟩ := e2
      have e3 : cA = y.2.2 := Option.some.inj (e1.symm.trans e2)
      subst e3
      refine W.cs (cells' := h.1 + 1 - n0) (slots' := h.2.1 + x.toNatClampNeg - s0) (by omega) (by omega) ?_
      exact k _ _ _ _ _ _ (by show n0 ≤ h.1 + 1; omega) (by show s0 ≤ h.2.1 + x.toNatClampNeg; omega) (X.mk ⟨_, fun _ => rfl, rfl⟩ hP hD hS ⟨_, _, rfl, ⟨q, by rw [X.1.1, List.getElem?_append_right (Nat.le_refl _), Nat.sub_self]; rfl, rfl⟩, hus.ext zExt.app⟩)
    · cases hs
/-! the library's calls -/
theorem zrest_ok {ad : List Nat} {vs ws : List Value} (h : zrest vs = true) (g : zVs ad ob vs ws) : (ws.map fun v => v.category).sum ≤ 8 := by
  rw [g.cat]
  exact of_decide_eq_true h
theorem z_nfw : nativeFrameWords "java/lang/System" "arraycopy" 5 = 7 := by decide +kernel
theorem zz_copy {i0 i1 : Nat} {sp dp n : Int32} {h2 : zH} (h1 : zcopy h i0 sp i1 dp n = some h2) : ∃ n0 f n1 g, zg h i0 = .inl (0, n0, f) ∧ zg h i1 = .inl (0, n1, g) ∧ ¬ sp < 0 ∧ ¬ dp < 0 ∧ ¬ n < 0 ∧ sp.toNatClampNeg + n.toNatClampNeg ≤ n0 ∧ dp.toNatClampNeg + n.toNatClampNeg ≤ n1 ∧ h2 = zu h i1 (.inl (0, n1, va_cpy f g sp.toNatClampNeg dp.toNatClampNeg n.toNatClampNeg)) := by
  unfold zcopy at h1
  split at h1
  · rename_i t0 n0 f t1 n1 g hg0 hg1
    split at h1
    · rename_i q
      obtain ⟨rfl, rfl, q1, q2, q3, q4, q5⟩ := q
      cases h1
      exact ⟨n0, f, n1, g, hg0, hg1, q1, q2, q3, q4, q5, rfl⟩
    · cases h1
  · cases h1
theorem zs_lib {i : Instr} (C : zCx p R s mth args meth c D y A H0 m) (hd : decode (zb m) pc = .ok (i, len)) (hi : (∃ n, i = .invokestatic n) ∨ (∃ n, i = .invokespecial n)) (hs : zdo m pc i len al st h = some (.inl r)) (hb1 : r.2.2.2.1 ≤ n0 + R.cells) (hb2 : r.2.2.2.2.1 ≤ s0 + R.slots) (k : zWg p l e R s mth args below meth c Q D y A H0 ob m n0 s0 ad0 r) : zWg p l e R s mth args below meth c Q D y A H0 ob m n0 s0 ad0 (pc, al, st, h) := by
  obtain ⟨hx, hb, hml, hown, hts, hK, hA, hnm, hR1, hR2⟩ := C
  intro ad ws H locs ls cst h1 h2 X
  have X6 := X.2.2.2.2.2.1
  have hls : ls.size = zml m := X.2.2.2.2.1.1
  dsimp only at h1 h2
  show W p l e R s mth args below meth c H locs (h.1 - n0) (h.2.1 - s0) Q (F0 mth pc ls cst)
  rcases hi with ⟨n, rfl⟩ | ⟨n, rfl⟩ <;> (have hq0 := zq_some (α := Nat) hs; clear hs; obtain ⟨hl, hs⟩ := hq0; cases beq_iff_eq.mp hl)
  · unfold zstatic at hs
    split at hs
    · unfold zcallS zq at hs
      split at hs <;> cases hs
    · unfold zcallS zq at hs
      split at hs <;> cases hs
    · rename_i q1 q2 hc
      obtain ⟨ps, hp⟩ := zcall_ok hc
      simp only [zCk, Bool.and_eq_true] at hp
      split at hs
      · rename_i y1 x1 t
        have hq0 := zq_some (α := Nat) hs
        clear hs
        obtain ⟨hq, hs⟩ := hq0
        cases zn_inl hs
        obtain ⟨w9, us9, rfl, hw9, w0, us, rfl, hw0, hus⟩ := X6
        cases hw0; cases hw9
        have hr := zrest_ok hq hus
        exact va_mmax hx hb (hml.trans hls.symm) hown (hts _ (zw_ws hp.1.1.1)) (hts _ (zw_ws hp.1.1.2)) (hts _ (zw_ws hp.1.2)) (hts _ (zw_ws hp.2)) hR1 (by omega) (by have : h.1 ≤ n0 + R.cells := hb1; omega) (by have : h.2.1 ≤ s0 + R.slots := hb2; omega) hd (k _ _ _ _ _ _ h1 h2 (X.stk ⟨_, _, rfl, rfl, hus⟩))
      · cases hs
    · rename_i q1 q2 hc
      obtain ⟨ps, hp⟩ := zcall_ok hc
      simp only [zCk, Bool.and_eq_true] at hp
      split at hs
      · rename_i y1 x1 t
        have hq0 := zq_some (α := Nat) hs
        clear hs
        obtain ⟨hq, hs⟩ := hq0
        cases zn_inl hs
        obtain ⟨w9, us9, rfl, hw9, w0, us, rfl, hw0, hus⟩ := X6
        cases hw0; cases hw9
        have hr := zrest_ok hq hus
        exact va_mmin hx hb (hml.trans hls.symm) hown (hts _ (zw_ws hp.1.1.1)) (hts _ (zw_ws hp.1.1.2)) (hts _ (zw_ws hp.1.2)) (hts _ (zw_ws hp.2)) hR1 (by omega) (by have : h.1 ≤ n0 + R.cells := hb1; omega) (by have : h.2.1 ≤ s0 + R.slots := hb2; omega) hd (k _ _ _ _ _ _ h1 h2 (X.stk ⟨_, _, rfl, rfl, hus⟩))
      · cases hs
    · rename_i q1 q2 hc
      obtain ⟨ps, hp⟩ := zcall_ok hc
      simp only [zCk, Bool.and_eq_true] at hp
      split at hs
      · rename_i n1 dp i1 sp i0 t
        obtain ⟨hh, e1, hs⟩ := zb_some hs
        have hq0 := zq_some (α := Nat) hs
        clear hs
        obtain ⟨hq, hs⟩ := hq0
        cases zn_inl hs
        obtain ⟨m0, f, m1, g, hg0, hg1, c1, c2, c3, c4, c5, rfl⟩ := zz_copy e1
        obtain ⟨a0, ha0, hw0 | ⟨hw0, -⟩⟩ := zz_arr X.1 hg0
        · obtain ⟨a1, ha1, hw1 | ⟨hw1, -⟩⟩ := zz_arr X.1 hg1
          · obtain ⟨u1, us1, rfl, hu1, u2, us2, rfl, hu2, u3, us3, rfl, ⟨a3, ha3, rfl⟩, u4, us4, rfl, hu4, u5, us, rfl, ⟨a5, ha5, rfl⟩, hus⟩ := X6
            cases hu1; cases hu2; cases hu4
            cases ha1.symm.trans ha3
            cases ha0.symm.trans ha5
            have hr := zrest_ok hq hus
            exact va_copyi (ty := .int) hx hb (hml.trans hls.symm) hown (hts _ (zw_ws hp.1.1.1)) (hts _ (zw_ws hp.1.1.2)) (hts _ (zw_ws hp.1.2)) (hts _ (zw_ws hp.2)) hK.1 X.2.1 X.2.2.1 X.2.2.2.1 i0 i1 0 0 hw0.2 hw1.2 rfl rfl rfl c1 c2 c3 c4 c5 (fun _ _ => rfl) hR1 (by rw [z_nfw]; omega) hd (fun H1 locs1 hP hD hS => k _ _ _ _ _ _ h1 h2 (X.upd ha1 (Or.inl ⟨rfl, rfl⟩) hP hD hS hus))
          · cases hw1
        · cases hw0
      · cases hs
    · cases hs
  · unfold zspecial at hs
    split at hs
    · unfold zcallV zq at hs
      split at hs
      · split at hs <;> cases hs
      · cases hs
    · unfold zcallV zq at hs
      split at hs
      · split at hs <;> cases hs
      · cases hs
    · rename_i q1 q2 hc
      obtain ⟨ps, hp⟩ := zcall_ok hc
      simp only [zCk, Bool.and_eq_true] at hp
      split at hs
      · rename_i a1 t
        have hq0 := zq_some (α := Nat) hs
        clear hs
        obtain ⟨hq, hs⟩ := hq0
        cases zn_inl hs
        obtain ⟨w9, us, rfl, ⟨a, ha, rfl⟩, hus⟩ := X6
        have hr := zrest_ok hq hus
        exact W.objInit hx hb hown (hts _ (zw_ws hp.1.1)) (hts _ (zw_ws hp.1.2)) (hts _ (zw_ws hp.2)) (g := F0 mth pc ls (.ref a :: us)) rfl (hls.trans hml.symm) rfl hd hR1 (by show 2 * 0 + _ + 12 ≤ _; omega) (k _ _ _ _ _ _ h1 h2 (X.stk hus))
      · cases hs
    · cases hs
end ZS4
