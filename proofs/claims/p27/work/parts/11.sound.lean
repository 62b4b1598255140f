section ZN
variable {p : Program} {l : Launch} {e : Env} {R : Room} {s : State} {mth : MethodId} {args : Array Value} {below : List Frame} {meth : Method} {c : Code} {Q : State → Prop} {D : va_G} {y : zY} {A : Nat → Prop} {H0 : Heap} {ob : Option Nat} {m n0 s0 : Nat} {ad0 : List Nat}
variable {pc : Nat} {al : List (Option Value)} {st : List Value} {h : zH} {r : Nat × List (Option Value) × List Value × zH} {len : Nat}
theorem zs_next (C : zCx p R s mth args meth c D y A H0 m) (hs : zstep m pc al st h = some (.inl r)) (hb1 : r.2.2.2.1 ≤ n0 + R.cells) (hb2 : r.2.2.2.2.1 ≤ s0 + R.slots) (k : zWg p l e R s mth args below meth c Q D y A H0 ob m n0 s0 ad0 r) : zWg p l e R s mth args below meth c Q D y A H0 ob m n0 s0 ad0 (pc, al, st, h) := by
  unfold zstep at hs
  split at hs
  · rename_i i len hd
    cases i with
    | iconst n => exact zs_const C hd (Or.inl ⟨_, rfl⟩) hs k
    | bipush n => exact zs_const C hd (Or.inr (Or.inl ⟨_, rfl⟩)) hs k
    | sipush n => exact zs_const C hd (Or.inr (Or.inr (Or.inl ⟨_, rfl⟩))) hs k
    | ldc n => exact zs_const C hd (Or.inr (Or.inr (Or.inr (Or.inl ⟨_, rfl⟩)))) hs k
    | ldc_w n => exact zs_const C hd (Or.inr (Or.inr (Or.inr (Or.inr (Or.inl ⟨_, rfl⟩))))) hs k
    | ldc2_w n => exact zs_const C hd (Or.inr (Or.inr (Or.inr (Or.inr (Or.inr ⟨_, rfl⟩))))) hs k
    | iload_n n => exact zs_local C hd (by simp) hs k
    | iload n => exact zs_local C hd (by simp) hs k
    | aload_n n => exact zs_local C hd (by simp) hs k
    | aload n => exact zs_local C hd (by simp) hs k
    | istore_n n => exact zs_local C hd (by simp) hs k
    | istore n => exact zs_local C hd (by simp) hs k
    | astore_n n => exact zs_local C hd (by simp) hs k
    | astore n => exact zs_local C hd (by simp) hs k
    | lload_n n => exact zs_local C hd (by simp) hs k
    | lload n => exact zs_local C hd (by simp) hs k
    | lstore_n n => exact zs_local C hd (by simp) hs k
    | lstore n => exact zs_local C hd (by simp) hs k
    | iinc n q => exact zs_local C hd (by simp) hs k
    | iadd => exact zs_arith C hd (by simp) hs k
    | isub => exact zs_arith C hd (by simp) hs k
    | imul => exact zs_arith C hd (by simp) hs k
    | idiv => exact zs_arith C hd (by simp) hs k
    | irem => exact zs_arith C hd (by simp) hs k
    | iand => exact zs_arith C hd (by simp) hs k
    | ior => exact zs_arith C hd (by simp) hs k
    | ishl => exact zs_arith C hd (by simp) hs k
    | ishr => exact zs_arith C hd (by simp) hs k
    | i2c => exact zs_stack C hd (by simp) hs k
    | i2l => exact zs_stack C hd (by simp) hs k
    | ladd => exact zs_stack C hd (by simp) hs k
    | lmul => exact zs_stack C hd (by simp) hs k
    | lcmp => exact zs_stack C hd (by simp) hs k
    | dup => exact zs_stack C hd (by simp) hs k
    | dup2 => exact zs_stack C hd (by simp) hs k
    | pop => exact zs_stack C hd (by simp) hs k
    | goto n => exact zs_jump C hd (by simp) hs k
    | tableswitch a b c d => exact zs_jump C hd (by simp) hs k
    | lookupswitch a b => exact zs_jump C hd (by simp) hs k
    | if_icmp a b => exact zs_icmp C hd hs k
    | ifCond a b => exact zs_if C hd hs k
    | getfield n => exact zs_field C hd (by simp) hs k
    | putfield n => exact zs_field C hd (by simp) hs k
    | iaload => exact zs_array C hd (by simp) hs k
    | caload => exact zs_array C hd (by simp) hs k
    | aaload => exact zs_array C hd (by simp) hs k
    | iastore => exact zs_array C hd (by simp) hs k
    | castore => exact zs_array C hd (by simp) hs k
    | aastore => exact zs_array C hd (by simp) hs k
    | arraylength => exact zs_array C hd (by simp) hs k
    | new n => exact zs_new C hd (by simp) hs hb1 hb2 k
    | newarray n => exact zs_new C hd (by simp) hs hb1 hb2 k
    | anewarray n => exact zs_new C hd (by simp) hs hb1 hb2 k
    | invokestatic n => exact zs_lib C hd (by simp) hs hb1 hb2 k
    | invokespecial n => exact zs_lib C hd (by simp) hs hb1 hb2 k
    | invokevirtual n =>
      simp only [zdo] at hs
      have hs := (zq_some (α := Nat) hs).2
      split at hs
      · unfold zcallV at hs
        split at hs
        · cases (zq_some (α := Nat) hs).2
        · cases hs
      · cases hs
    | ireturn =>
      simp only [zdo] at hs
      have hs := (zq_some (α := Nat) hs).2
      split at hs
      · split at hs <;> cases hs
      · cases hs
    | areturn =>
      simp only [zdo] at hs
      have hs := (zq_some (α := Nat) hs).2
      split at hs <;> cases hs
    | lreturn =>
      simp only [zdo] at hs
      have hs := (zq_some (α := Nat) hs).2
      split at hs <;> cases hs
    | return_ =>
      simp only [zdo] at hs
      have hs := (zq_some (α := Nat) hs).2
      split at hs <;> cases hs
    | _ => cases hs
  · cases hs
end ZN
/-! calls -/
def zws (k : Nat) : List Cond := Cond.code (zy k) (zb k) (zml k) (zret k) :: WS
def zrm (d mc ms : Nat) : Room := { frames := d + 1, cells := mc, slots := ms, locals := 64 * (d + 1) }
def zVo (ad : List Nat) (v w : Option Value) : Prop := match v with
  | none => w = none
  | some v => ∃ u, w = some u ∧ zV ad none v u
def zPre (D : va_G) (y : zY) (ws : va_W) (sz : Nat) (ob : Option Nat) (h : zH) : State → Prop := fun U => U.heap.size = sz ∧ va_P D vwCl ws U.heap ∧ zKs D y U ∧ va_D (fun _ => True) ws ∧ ∀ b, ob = some b → va_X b h.2.2.2.1 h.2.2.2.2 U U.heap
def zQc (D : va_G) (y : zY) (ad : List Nat) (A : Nat → Prop) (v : Option Value) (h1 : zH) : Array Value → State → Outcome → State → Prop := fun _ st o t =>
  (∃ (w : Option Value) (ad1 : List Nat) (ws1 : va_W), o = .returned w ∧ zVo ad1 v w ∧ zExt ad ad1 ∧ zHr ad1 y h1 ws1 ∧ va_P D vwCl ws1 t.heap ∧ va_D A ws1) ∧ va_F A st t
/-- the contract of a method at the arguments as and the heap h, whose run ends with v and h1 -/
def zCt (k d : Nat) (as : List Value) (h : zH) (v : Option Value) (h1 : zH) : Prop := ∀ (l : Launch) (D : va_G) (y : zY) (ad : List Nat) (ws : va_W) (cas : List Value) (sz : Nat) (ob : Option Nat), zHr ad y h ws → zVs ad ob as cas → (∀ b, ob = some b → b < sz ∧ ¬ va_A ws sz b) →
  Met l (zy k) (zws k) (zrm d (h1.1 - h.1) (h1.2.1 - h.2.1)) (va_Pc cas (zPre D y ws sz ob h)) (zQc D y ad (va_A ws sz) v h1) (h1.1 - h.1) (h1.2.1 - h.2.1) (va_A ws sz)
theorem goodWS {ws : List Cond} (h : ∀ w ∈ ws, w ∈ WS) : GoodIn WS ws := fun w hw => ⟨h w hw, good_of_word (List.mem_filter.mp (h w hw)).2⟩
theorem zws_in {k : Nat} (hk : k < 138) : ∀ w ∈ zws k, w ∈ WS := by
  intro w hw
  rcases List.mem_cons.mp hw with rfl | hw
  · exact zML_ok k hk
  · exact hw
theorem zPre_blind {D : va_G} {y : zY} {ws : va_W} {sz : Nat} {ob : Option Nat} {h : zH} {av : List Value} : FrameBlind (va_Pc av (zPre D y ws sz ob h)) := fun _ U g mk q => ⟨q.1, q.2.1, q.2.2.1, q.2.2.2.1.blind, q.2.2.2.2.1, fun b hb => va_X.moved (u := U) (U := U.calling g mk _) (Vm.Alike.refl U.vm) (q.2.2.2.2.2 b hb)⟩
/-- the script where a callee begins -/
theorem zsc_out {s : State} {A : Nat → Prop} {H0 H : Heap} {locs : List Loc} {ob : Option Nat} {h : zH} {ws : va_W} (hSc : zSc s A H0 ob h) (hS : va_S A H0 H locs) (hD : va_D A ws) (hA : ∀ q, H0.size ≤ q → A q) : ∀ b, ob = some b → b < H.size ∧ ¬ va_A ws H.size b := by
  intro b hb
  obtain ⟨-, h2, h3⟩ := hSc b hb
  have h4 := hS.1
  refine ⟨by omega, fun z => ?_⟩
  rcases z with ⟨k, e, hk⟩ | z
  · exact h3 (hD.2 k (b, e) hk)
  · omega
theorem zsc_at {s U : State} {A : Nat → Prop} {H0 H : Heap} {locs : List Loc} {ob : Option Nat} {h : zH} (hSc : zSc s A H0 ob h) (hS : va_S A H0 H locs) (hU : U.heap = H) (hvm : s.vm.Alike U.vm) : ∀ b, ob = some b → va_X b h.2.2.2.1 h.2.2.2.2 U U.heap := by
  intro b hb
  obtain ⟨h1, h2, h3⟩ := hSc b hb
  rw [hU]
  exact va_X.moved hvm (h1.kept (hS.2.1 b h2 h3))
section ZCALL
variable {p : Program} {l : Launch} {e : Env} {R : Room} {s : State} {m : MethodId} {args : Array Value} {below : List Frame} {meth : Method} {c : Code} {H : Heap} {locs : List Loc} {cells slots : Nat} {Q : State → Prop}
variable {pc : Nat} {ls : Array Slot} {rest st0 : List Value} {A0 A1 : Nat → Prop} {H0 : Heap} {mc ms : Nat} {free : Addr → Prop}
theorem z_call {Qa : State → Outcome → State → Prop} (hr : va_Run p l e R s m args below meth c H locs cells slots mc ms (F0 m pc ls st0) rest Qa free) (hF : ∀ st o t, Qa st o t → va_F A1 st t) (hS : va_S A0 H0 H locs) (hA : ∀ q, A1 q → A0 q) (hf : ∀ q, free q → A0 q)
    (kk : ∀ (v : Option Value) (st t : State) (H1 : Heap) (locs1 : List Loc), st.heap = H → t.heap = H1 → Qa st (.returned v) t → va_S A0 H0 H1 locs1 → W p l e R s m args below meth c H1 locs1 (cells + mc) (slots + ms) Q (F0 m (pc + 3) ls (v.toList ++ rest))) : W p l e R s m args below meth c H locs cells slots Q (F0 m pc ls st0) := by
  intro T hT X
  obtain ⟨v, st₀, t, T', L, h0, X', hL, e1, e2, hq, st⟩ := hr T hT X
  have hVF := hF _ _ _ hq
  obtain ⟨hz, hk⟩ := hVF
  rw [h0] at hz hk
  obtain ⟨t2, a1, b1⟩ := kk v st₀ t T'.heap (locs ++ L) h0 e1.symm hq
    ⟨Nat.le_trans hS.1 (by rw [e1]; exact hz), fun q h1 h2 => by rw [e1, hk q (Nat.lt_of_lt_of_le h1 hS.1) (fun z => h2 (hA q z))]; exact hS.2.1 q h1 h2, fun q hq => by
      rcases List.mem_append.mp hq with h | h
      · exact hS.2.2 q h
      · exact hf _ (hL q h)⟩ T' rfl X'
  exact ⟨t2, st t2 a1, b1⟩
end ZCALL
section ZK
variable {p : Program} {l : Launch} {e : Env} {R : Room} {s : State} {mth : MethodId} {args : Array Value} {below : List Frame} {meth : Method} {c : Code} {Q : State → Prop} {D : va_G} {y : zY} {A : Nat → Prop} {H0 : Heap} {ob : Option Nat} {m n0 s0 : Nat} {ad0 : List Nat}
variable {pc : Nat} {al : List (Option Value)} {st : List Value} {h : zH} {len : Nat}
theorem zs_vrun {k n d idx : Nat} {ws : va_W} {ad : List Nat} {H : Heap} {locs : List Loc} {ls : Array Slot} {As rs : List Value} {v : Option Value} {h1 : zH} {as : List Value} {cl sl : Nat} {b b1 : Nat}
    (C : zCx p R s mth args meth c D y A H0 m) (hd : decode (zb m) pc = .ok (.invokevirtual idx, 3)) (hc : zcall (zcl m) idx = some (0, k, n)) (hM : zCt k d (.ref b :: as) h v h1) (hHr : zHr ad y h ws) (hP : va_P D vwCl ws H) (hD : va_D A ws) (hS4 : va_S A H0 H locs) (hSc : zSc s A H0 ob h) (hls : ls.size = zml m)
    (hcas : zVs ad ob (.ref b :: as) (.ref b1 :: As)) (hn : As.length = n) (hrs : (rs.map fun v => v.category).sum ≤ 8) (hcl : cl + (h1.1 - h.1) ≤ R.cells) (hsl : sl + (h1.2.1 - h.2.1) ≤ R.slots) (hfr : d + 2 ≤ R.frames) (hlo : 64 * (d + 2) ≤ R.locals) (his : zis h b (zci (zcl k)) = true) (h7 : zcl k ≠ 7) (h10 : zcl k < 9) :
    va_Run p l e R s mth args below meth c H locs cl sl (h1.1 - h.1) (h1.2.1 - h.2.1) (F0 mth pc ls (As.reverse ++ .ref b1 :: rs)) rs (zQc D y ad (va_A ws H.size) v h1 (Value.ref b1 :: As).toArray) (va_A ws H.size) := by
  obtain ⟨hx, hb, hml, hown, hts, hK, hA, hnm, hR1, hR2⟩ := C
  obtain ⟨ps, hp⟩ := zcall_ok hc
  simp only [zCk, Bool.and_eq_true, decide_eq_true_eq] at hp
  obtain ⟨⟨⟨⟨⟨q1, q2⟩, q3⟩, q4⟩, hk⟩, hdn⟩ := hp
  obtain ⟨k1, k2, k3, k4⟩ := zML_ok2 k hk
  have hR : (zrm d (h1.1 - h.1) (h1.2.1 - h.2.1)).frames + 1 ≤ R.frames ∧ 8 + (zml k + 11) + (zrm d (h1.1 - h.1) (h1.2.1 - h.2.1)).locals ≤ R.locals := ⟨hfr, by show 8 + (zml k + 11) + 64 * (d + 1) ≤ R.locals; omega⟩
  have hMM := hM l D y ad ws (.ref b1 :: As) H.size ob hHr hcas (zsc_out hSc hS4 hD hA)
  obtain ⟨fs, hg⟩ := zz_is his
  obtain ⟨T, N, hT⟩ := zci_ok h7 h10
  obtain ⟨a, gs, ha, hw, -⟩ := zz_obj hHr hg (zT_99 hT)
  obtain ⟨w0, us0, e0, ⟨a', ha', e1⟩, -⟩ := hcas
  cases e0
  cases e1
  cases ha.symm.trans ha'
  have hrecv := va_recv hK.1 hP hT hw
  dsimp only at hrecv
  rw [k2] at hrecv
  refine va_runV (C := (zy k).cls) ⟨hx, hb, hml, hown, hts⟩ hMM (cwV n hts (goodWS (fun w hw => ?_)) rfl rfl rfl ⟨rfl, k4.1, k4.2, hdn⟩ hR) ⟨zPre_blind, hrecv, fun U hU hW => ⟨rfl, by rw [hU], by rw [hU]; exact hP, hK.warm hW, hD.weaken (fun _ _ _ _ => trivial), zsc_at hSc hS4 hU hW.alike⟩⟩ rfl hn hls rfl (lv_room hrs) hd ⟨hcl, hsl⟩
  · unfold wsV at hw
    rcases List.mem_append.mp hw with hw | hw
    · simp only [List.mem_cons, List.not_mem_nil, or_false] at hw
      rcases hw with rfl | rfl | rfl | rfl
      · exact zw_ws q1
      · exact zw_ws q2
      · exact zw_ws q3
      · exact zw_ws q4
    · exact zws_in hk w hw
theorem zs_srun {k n d idx : Nat} {ws : va_W} {ad : List Nat} {H : Heap} {locs : List Loc} {ls : Array Slot} {As rs : List Value} {v : Option Value} {h1 : zH} {as : List Value} {cl sl : Nat}
    (C : zCx p R s mth args meth c D y A H0 m) (hd : decode (zb m) pc = .ok (.invokestatic idx, 3)) (hc : zcall (zcl m) idx = some (1, k, n)) (hM : zCt k d as h v h1) (hHr : zHr ad y h ws) (hP : va_P D vwCl ws H) (hD : va_D A ws) (hS4 : va_S A H0 H locs) (hSc : zSc s A H0 ob h) (hls : ls.size = zml m)
    (hcas : zVs ad ob as As) (hn : As.length = n) (hrs : (rs.map fun v => v.category).sum ≤ 8) (hcl : cl + (h1.1 - h.1) ≤ R.cells) (hsl : sl + (h1.2.1 - h.2.1) ≤ R.slots) (hfr : d + 2 ≤ R.frames) (hlo : 64 * (d + 2) ≤ R.locals) :
    va_Run p l e R s mth args below meth c H locs cl sl (h1.1 - h.1) (h1.2.1 - h.2.1) (F0 mth pc ls (As.reverse ++ rs)) rs (zQc D y ad (va_A ws H.size) v h1 As.toArray) (va_A ws H.size) := by
  obtain ⟨hx, hb, hml, hown, hts, hK, hA, hnm, hR1, hR2⟩ := C
  obtain ⟨ps, hp⟩ := zcall_ok hc
  simp only [zCk, Bool.and_eq_true, decide_eq_true_eq] at hp
  obtain ⟨⟨⟨⟨q1, q2⟩, q3⟩, hk⟩, hdn⟩ := hp
  obtain ⟨k1, k2, k3, k4⟩ := zML_ok2 k hk
  have hR : (zrm d (h1.1 - h.1) (h1.2.1 - h.2.1)).frames + 1 ≤ R.frames ∧ 8 + (zml k + 11) + (zrm d (h1.1 - h.1) (h1.2.1 - h.2.1)).locals ≤ R.locals := ⟨hfr, by show 8 + (zml k + 11) + 64 * (d + 1) ≤ R.locals; omega⟩
  have hMM := hM l D y ad ws As H.size ob hHr hcas (zsc_out hSc hS4 hD hA)
  refine va_runS ⟨hx, hb, hml, hown, hts⟩ hMM (va_cwS n hts (goodWS (fun w hw => ?_)) rfl rfl rfl ⟨k4.1, k4.2, hdn⟩ hR) ⟨zPre_blind, fun U hU hW => ⟨rfl, by rw [hU], by rw [hU]; exact hP, hK.warm hW, hD.weaken (fun _ _ _ _ => trivial), zsc_at hSc hS4 hU hW.alike⟩⟩ rfl hn hls rfl (lv_room hrs) hd ⟨hcl, hsl⟩
  · unfold va_wsS at hw
    rcases List.mem_append.mp hw with hw | hw
    · simp only [List.mem_cons, List.not_mem_nil, or_false] at hw
      rcases hw with rfl | rfl | rfl
      · exact zw_ws q1
      · exact zw_ws q2
      · exact zw_ws q3
    · exact zws_in hk w hw
theorem zs_snrun {k n d idx : Nat} {ws : va_W} {ad : List Nat} {H : Heap} {locs : List Loc} {ls : Array Slot} {As rs : List Value} {v : Option Value} {h1 : zH} {as : List Value} {cl sl : Nat}
    (C : zCx p R s mth args meth c D y A H0 m) (hd : decode (zb m) pc = .ok (.invokestatic idx, 3)) (hc : zcall (zcl m) idx = some (3, k, n)) (hM : zCt k d as h v h1) (hHr : zHr ad y h ws) (hP : va_P D vwCl ws H) (hD : va_D A ws) (hS4 : va_S A H0 H locs) (hSc : zSc s A H0 ob h) (hls : ls.size = zml m)
    (hcas : zVs ad ob as As) (hn : As.length = n) (hrs : (rs.map fun v => v.category).sum ≤ 8) (hcl : cl + (h1.1 - h.1) ≤ R.cells) (hsl : sl + (h1.2.1 - h.2.1) ≤ R.slots) (hfr : d + 2 ≤ R.frames) (hlo : 64 * (d + 2) ≤ R.locals) :
    va_Run p l e R s mth args below meth c H locs cl sl (h1.1 - h.1) (h1.2.1 - h.2.1) (F0 mth pc ls (As.reverse ++ rs)) rs (zQc D y ad (va_A ws H.size) v h1 As.toArray) (va_A ws H.size) := by
  obtain ⟨hx, hb, hml, hown, hts, hK, hA, hnm, hR1, hR2⟩ := C
  obtain ⟨ps, hp⟩ := zcall_ok hc
  simp only [zCk, Bool.and_eq_true, decide_eq_true_eq] at hp
  obtain ⟨⟨⟨⟨q1, q2⟩, q3⟩, hk⟩, hdn⟩ := hp
  obtain ⟨k1, k2, k3, k4⟩ := zML_ok2 k hk
  have hR : (zrm d (h1.1 - h.1) (h1.2.1 - h.2.1)).frames + 1 ≤ R.frames ∧ 8 + (zml k + 11) + (zrm d (h1.1 - h.1) (h1.2.1 - h.2.1)).locals ≤ R.locals := ⟨hfr, by show 8 + (zml k + 11) + 64 * (d + 1) ≤ R.locals; omega⟩
  have hMM := hM l D y ad ws As H.size ob hHr hcas (zsc_out hSc hS4 hD hA)
  exact va_runSN ⟨hx, hb, hml, hown, hts⟩ hMM ⟨va_cnB (host := RX8) n hts (goodWS (zws_in hk)) rfl rfl rfl (hK.2.1 _ (List.contains_iff_mem.mp q1)) (hts _ (zw_ws q3)) ⟨k4.1, k4.2, hdn⟩ hR, hts _ (zw_ws q2), trivial⟩ ⟨zPre_blind, fun U hU hW => ⟨rfl, by rw [hU], by rw [hU]; exact hP, hK.warm hW, hD.weaken (fun _ _ _ _ => trivial), zsc_at hSc hS4 hU hW.alike⟩⟩ rfl hn hls rfl (lv_room hrs) hd ⟨hcl, hsl⟩
theorem zs_irun {k n d idx : Nat} {ws : va_W} {ad : List Nat} {H : Heap} {locs : List Loc} {ls : Array Slot} {As rs : List Value} {v : Option Value} {h1 : zH} {as : List Value} {cl sl : Nat} {b b1 : Nat}
    (C : zCx p R s mth args meth c D y A H0 m) (hd : decode (zb m) pc = .ok (.invokespecial idx, 3)) (hc : zcall (zcl m) idx = some (2, k, n)) (hM : zCt k d (.ref b :: as) h v h1) (hHr : zHr ad y h ws) (hP : va_P D vwCl ws H) (hD : va_D A ws) (hS4 : va_S A H0 H locs) (hSc : zSc s A H0 ob h) (hls : ls.size = zml m)
    (hcas : zVs ad ob (.ref b :: as) (.ref b1 :: As)) (hn : As.length = n) (hrs : (rs.map fun v => v.category).sum ≤ 8) (hcl : cl + (h1.1 - h.1) ≤ R.cells) (hsl : sl + (h1.2.1 - h.2.1) ≤ R.slots) (hfr : d + 2 ≤ R.frames) (hlo : 64 * (d + 2) ≤ R.locals) :
    va_Run p l e R s mth args below meth c H locs cl sl (h1.1 - h.1) (h1.2.1 - h.2.1) (F0 mth pc ls (As.reverse ++ .ref b1 :: rs)) rs (zQc D y ad (va_A ws H.size) v h1 (Value.ref b1 :: As).toArray) (va_A ws H.size) := by
  obtain ⟨hx, hb, hml, hown, hts, hK, hA, hnm, hR1, hR2⟩ := C
  obtain ⟨ps, hp⟩ := zcall_ok hc
  simp only [zCk, Bool.and_eq_true, decide_eq_true_eq] at hp
  obtain ⟨⟨⟨⟨⟨⟨q1, q2⟩, q3⟩, hin⟩, hk⟩, hdn⟩, hr⟩ := hp
  obtain ⟨k1, k2, k3, k4⟩ := zML_ok2 k hk
  have hR : (zrm d (h1.1 - h.1) (h1.2.1 - h.2.1)).frames + 1 ≤ R.frames ∧ 8 + (zml k + 11) + (zrm d (h1.1 - h.1) (h1.2.1 - h.2.1)).locals ≤ R.locals := ⟨hfr, by show 8 + (zml k + 11) + 64 * (d + 1) ≤ R.locals; omega⟩
  have hMM := hM l D y ad ws (.ref b1 :: As) H.size ob hHr hcas (zsc_out hSc hS4 hD hA)
  unfold zws at hMM
  rw [hr] at hMM
  have hws : ∀ w ∈ (Cond.code (zy k) (zb k) (zml k) none :: WS), w ∈ WS := by
    intro w hw
    have := zws_in hk w
    unfold zws at this
    rw [hr] at this
    exact this hw
  exact va_runI ⟨hx, hb, hml, hown, hts⟩ hMM (cwI n hts (goodWS hws) rfl rfl rfl (hts _ (zw_ws q3)) (hts _ (zw_ws q1)) (hts _ (zw_ws q2)) hin ⟨k4.1, k4.2, hdn⟩ hR) ⟨zPre_blind, fun U hU hW => ⟨rfl, by rw [hU], by rw [hU]; exact hP, hK.warm hW, hD.weaken (fun _ _ _ _ => trivial), zsc_at hSc hS4 hU hW.alike⟩⟩ rfl hn hls rfl (lv_room hrs) hd ⟨hcl, hsl⟩
theorem zs_inrun {k n d idx : Nat} {ws : va_W} {ad : List Nat} {H : Heap} {locs : List Loc} {ls : Array Slot} {As rs : List Value} {v : Option Value} {h1 : zH} {as : List Value} {cl sl : Nat} {b b1 : Nat}
    (C : zCx p R s mth args meth c D y A H0 m) (hd : decode (zb m) pc = .ok (.invokespecial idx, 3)) (hc : zcall (zcl m) idx = some (4, k, n)) (hM : zCt k d (.ref b :: as) h v h1) (hHr : zHr ad y h ws) (hP : va_P D vwCl ws H) (hD : va_D A ws) (hS4 : va_S A H0 H locs) (hSc : zSc s A H0 ob h) (hls : ls.size = zml m)
    (hcas : zVs ad ob (.ref b :: as) (.ref b1 :: As)) (hn : As.length = n) (hrs : (rs.map fun v => v.category).sum ≤ 8) (hcl : cl + (h1.1 - h.1) ≤ R.cells) (hsl : sl + (h1.2.1 - h.2.1) ≤ R.slots) (hfr : d + 2 ≤ R.frames) (hlo : 64 * (d + 2) ≤ R.locals) :
    va_Run p l e R s mth args below meth c H locs cl sl (h1.1 - h.1) (h1.2.1 - h.2.1) (F0 mth pc ls (As.reverse ++ .ref b1 :: rs)) rs (zQc D y ad (va_A ws H.size) v h1 (Value.ref b1 :: As).toArray) (va_A ws H.size) := by
  obtain ⟨hx, hb, hml, hown, hts, hK, hA, hnm, hR1, hR2⟩ := C
  obtain ⟨ps, hp⟩ := zcall_ok hc
  simp only [zCk, Bool.and_eq_true, decide_eq_true_eq] at hp
  obtain ⟨⟨⟨⟨⟨⟨q1, q2⟩, q3⟩, hin⟩, hk⟩, hdn⟩, hr⟩ := hp
  obtain ⟨k1, k2, k3, k4⟩ := zML_ok2 k hk
  have hR : (zrm d (h1.1 - h.1) (h1.2.1 - h.2.1)).frames + 1 ≤ R.frames ∧ 8 + (zml k + 11) + (zrm d (h1.1 - h.1) (h1.2.1 - h.2.1)).locals ≤ R.locals := ⟨hfr, by show 8 + (zml k + 11) + 64 * (d + 1) ≤ R.locals; omega⟩
  have hMM := hM l D y ad ws (.ref b1 :: As) H.size ob hHr hcas (zsc_out hSc hS4 hD hA)
  unfold zws at hMM
  rw [hr] at hMM
  have hws : ∀ w ∈ (Cond.code (zy k) (zb k) (zml k) none :: WS), w ∈ WS := by
    intro w hw
    have := zws_in hk w
    unfold zws at this
    rw [hr] at this
    exact this hw
  exact va_runIN ⟨hx, hb, hml, hown, hts⟩ hMM ⟨va_cnB (host := RX8) n hts (goodWS hws) rfl rfl rfl (hK.2.1 _ (List.contains_iff_mem.mp q1)) (hts _ (zw_ws q3)) ⟨k4.1, k4.2, hdn⟩ hR, hin, hts _ (zw_ws q2)⟩ ⟨zPre_blind, fun U hU hW => ⟨rfl, by rw [hU], by rw [hU]; exact hP, hK.warm hW, hD.weaken (fun _ _ _ _ => trivial), zsc_at hSc hS4 hU hW.alike⟩⟩ rfl hn hls rfl (lv_room hrs) hd ⟨hcl, hsl⟩
end ZK
