-- ===== end of PART A; then your names; then what follows =====
/-! THE CLAIM OUT OF ONE WALK OF THE LAW'S BODY. Your part is whole_start (and what it stands on); all else here is the same for every law, but numbers. -/
def R_law : String := "SlatCratesLaw"
def lw_P (b : Addr) (xs : List Int32) (args : Array Value) (s : State) : Prop := args = #[.ref b] ∧ s.IntsAt b xs ∧ xs.length ≤ 260 ∧ (Jvm.Cond.and given_1 narrow_1).before args s = true
def lw_Q (_ : Array Value) (s : State) (o : Outcome) (t : State) : Prop := o = .returned (some (.int 1)) ∧ Framed s o t [] 600000 7302250
def lw_Z (below : List Frame) (a : Array Value) (s : State) : State → Prop := fun t => ∃ o, t.status = .running ∧ Ended t below o ∧ lw_Q a s o t
/-- the law's own end, with 1 on the stack, nothing written that was there before, its room as the claim has it -/
theorem lw_ret {p : Program} {l : Launch} {e : Env} {s : State} {m : MethodId} {below : List Frame} {meth : Method} {c : Code} {b : Nat} (hx : p.tables.exec = Jvm.exec) (hb : c.code = code) (hr : meth.sig.returnType = ret) (hlocks : meth.locks = false) {pc : Nat} {H : Heap} {ls : Array Slot} (hdg : decode code pc = .ok (.ireturn, 1)) : W p l e room_1 s m #[Value.ref b] below meth c H [] 600000 7302250 (lw_Z below #[Value.ref b] s) (F0 m pc ls [.int 1]) := by
  intro T hT X
  obtain ⟨fs, hret, hrun, hended, hW, hframe⟩ := X.leave (v := some (.int 1)) (hlocks := hlocks) (fun h => by rw [hr] at h; cases h)
  have hmeth' : T.vm.method? m = some meth := X.method'
  refine ⟨T.setFrames fs, ?_, .returned (some (.int 1)), hrun, hended, rfl, ⟨_, rfl⟩, hW, hframe⟩
  jvm_step X.here [X.here.top, hx, hb, hdg, hmeth', hr, ret, narrow_b1]
  (try refine ⟨rfl, ?_⟩); (try refine ⟨rfl, ?_⟩)
  first | (intro acts; rw [hret _ acts rfl rfl rfl]) | rw [hret _ _ rfl rfl rfl]
  exact Steps.refl _
/-- what holds at the law's entry: the machine, the code, the tables' words (any of lw_tbl by 'hts w (by decide +kernel)'), the script of L ints xs at the cell b, what the Statement gives of the start (any of its parts by flat_of_before) -/
def lw_At (p : Program) (s : State) (m : MethodId) (meth : Method) (c : Code) (b L : Nat) (xs : Nat → Int32) : Prop :=
  p.tables.exec = Jvm.exec ∧ c.code = code ∧ meth.sig.returnType = ret ∧ c.maxLocals = 13 ∧ s.vm.findClass R_law = some m.cls ∧ (∀ w ∈ lw_tbl, w.before #[Value.ref b] s = true) ∧ va_X b L xs s s.heap ∧ b < s.heap.size ∧ meth.locks = false ∧ (Jvm.Cond.and given_1 narrow_1).before #[Value.ref b] s = true
-- ===== YOUR PART BEGINS =====
/-- the law's start: no cell, the script -/
def z0 (L : Nat) (xs : Nat → Int32) : zH := (0, 0, fun _ => zvoid, L, xs)
def zal0 : List (Option Value) := [some (.float 0), none, none, none, none, none, none, none, none, none, none, none, none]
/-- on every script the abstract run of the law ends with 1, within the room -/
def zLawRuns : Prop := ∀ (L : Nat) (xs : Nat → Int32), L ≤ 260 → ∃ n h', zx n 60 zlaw 0 zal0 [] (z0 L xs) = some (some (.int 1), h') ∧ h'.1 ≤ 600000 ∧ h'.2.1 ≤ 7302250
theorem zNW_tbl : ∀ w ∈ zNW, w ∈ lw_tbl := by decide +kernel
theorem zAO_tbl : Cond.arrayOver (.object RX5) ∈ lw_tbl := by decide +kernel
theorem z_known {s : State} {args : Array Value} (hts : ∀ w ∈ WS, w.before args s = true) (hin : ∀ c C T N, zT c = some (C, T, N) → Cond.instantiable C N ∈ WS) : ∃ D : va_G, ∀ (k : Nat) (q : vw_C), vwCl[k]? = some q → u_Kn s q.1 q.2.1 q.2.2 (D.1 k) (D.2 k) := by
  have h : ∀ k : Nat, ∃ (c : ClassId) (i : Nat → Nat), ∀ q : vw_C, vwCl[k]? = some q → u_Kn s q.1 q.2.1 q.2.2 c i := by
    intro k
    cases hq : vwCl[k]? with
    | none => exact ⟨0, fun _ => 0, fun q h => by cases h⟩
    | some q =>
      obtain ⟨C, T, N⟩ := q
      obtain ⟨c, i, h⟩ := u_known (C := C) (T := T) (N := N) (n := N) hts (zT_ok (c := k) hq).1 (hts _ (hin k C T N hq))
      exact ⟨c, i, fun q e => by cases e; exact h⟩
  exact ⟨(fun k => Classical.choose (h k), fun k => Classical.choose (Classical.choose_spec (h k))), fun k q hq => Classical.choose_spec (Classical.choose_spec (h k)) q hq⟩
theorem z_inst {c : Nat} {C : String} {T : u_T} {N : Nat} (h : zT c = some (C, T, N)) : Cond.instantiable C N ∈ WS := by
  have hq : vwCl.all (fun q => decide (Cond.instantiable q.1 q.2.2 ∈ lw_tbl)) = true := by decide +kernel
  have := List.all_eq_true.mp hq _ (List.mem_of_getElem? h)
  exact List.mem_filter.mpr ⟨of_decide_eq_true this, rfl⟩
theorem z_arrs {s : State} {args : Array Value} (hts : ∀ w ∈ lw_tbl, w.before args s = true) : ∃ y : zY, (ArrOfT s y.1 .int ∧ va_RA s y.1 .int) ∧ (ArrOfT s y.2.1 .char ∧ va_RA s y.2.1 .char) ∧ (ArrOfT s y.2.2 (.object RX5) ∧ va_RA s y.2.2 (.object RX5)) := by
  obtain ⟨c0, k0, m0, a1, a2, a3⟩ := Cond.arrayClass_spec (hts _ (WS_tbl ws_arr_int))
  obtain ⟨c1, k1, m1, b1, b2, b3⟩ := Cond.arrayClass_spec (hts _ (WS_tbl ws_arr_char))
  obtain ⟨comp, c2, k2, e1, e2, e3, e4, e5⟩ := Cond.arrayOver_spec (hts _ zAO_tbl)
  exact ⟨(c0, c1, c2), ⟨fun n z => ⟨fun k h => (by cases h), k0, a2, m0, a3⟩, a1⟩, ⟨fun n z => ⟨fun k h => (by cases h), k1, b2, m1, b3⟩, b1⟩, ⟨fun n z => ⟨fun k h => (by cases h), k2, e3, comp, e4⟩, ⟨k2, comp, e3, e4, e1, e5⟩⟩⟩
theorem z_law (hrun : zLawRuns) {p : Program} {e : Env} {s : State} {m : MethodId} {below : List Frame} {meth : Method} {c : Code} (l : Launch) {b L : Nat} {xs : Nat → Int32} (hL : L ≤ 260) (C0 : lw_At p s m meth c b L xs) : W p l e room_1 s m #[Value.ref b] below meth c s.heap [] 0 0 (lw_Z below #[Value.ref b] s) (entryFrame m ([Value.ref b] : List Value).toArray 13) := by
  obtain ⟨hx, hb, hr, hml, hown, hts, hX, hbl, hlocks, hgv⟩ := C0
  obtain ⟨n, h', hzx, hz1, hz2⟩ := hrun L xs hL
  obtain ⟨D, hD⟩ := z_known (fun w hw => hts w (WS_tbl hw)) (fun c C T N h => z_inst h)
  obtain ⟨y, y1, y2, y3⟩ := z_arrs hts
  have hK : zKs D y s := by
    refine ⟨⟨hD, fun k q hq => ?_⟩, fun w hw => ?_, va_AO.of (hts _ zAO_tbl)⟩
    · match k, hq with
      | 0, hq => cases hq; exact y1
      | 1, hq => cases hq; exact y2
      | 2, hq => cases hq; exact y3
      | k + 3, hq => simp at hq
    · have h := hts w (zNW_tbl w hw)
      obtain ⟨q, -, rfl⟩ := List.mem_map.mp hw
      exact va_Nw.of rfl h
  have C : zCx p room_1 s m #[Value.ref b] meth c D y (fun q => s.heap.size ≤ q) s.heap zlaw :=
    ⟨hx, hb, hml, hown, fun w hw => hts w (WS_tbl hw), hK, fun q hq => hq, (fun z => absurd z (by decide +kernel)), by decide, by decide⟩
  have main := z_run n 60 zlaw 0 zal0 [] (z0 L xs) _ h' hzx p l e room_1 s m #[Value.ref b] below meth c (lw_Z below #[Value.ref b] s) D y (fun q => s.heap.size ≤ q) s.heap (some b) 0 0 [] C (by decide) (by decide) (by show h'.1 ≤ 0 + 600000; omega) (by show h'.2.1 ≤ 0 + 7302250; omega) ?_
  · have hl := lv_entry ([.ref b]) (n := 13) (Nat.le_of_ble_eq_true rfl)
    rw [lg_entry_eq]
    refine main [] [] s.heap [] _ [] (Nat.le_refl _) (Nat.le_refl _) ⟨⟨rfl, rfl, fun i a h => by simp at h, fun _ _ => rfl⟩, fun k q h => by simp at h, ⟨fun i j p q h => by simp at h, fun k q h => by simp at h⟩, va_S.rf, ⟨hl.1, hl.2.1, rfl, fun i v hi => ?_⟩, rfl, fun b1 hb1 => by cases hb1; exact ⟨hX, hbl, Nat.not_le.mpr hbl⟩, zExt.rf⟩
    match i, hi with
    | 0, hi => cases hi; exact ⟨fun z => (by cases z), rfl, .ref b, ⟨b, rfl, rfl⟩, hl.2.2 (0, .ref b) List.mem_cons_self⟩
    | 1, hi => cases hi
    | 2, hi => cases hi
    | 3, hi => cases hi
    | 4, hi => cases hi
    | 5, hi => cases hi
    | 6, hi => cases hi
    | 7, hi => cases hi
    | 8, hi => cases hi
    | 9, hi => cases hi
    | 10, hi => cases hi
    | 11, hi => cases hi
    | 12, hi => cases hi
    | i + 13, hi => simp [zal0] at hi
  · intro pc' al' st' hs ad1 ws1 H locs ls cst g1 g2 X
    obtain ⟨x1, x2, x3, x4, x5, x6, x7, x8⟩ := X
    rcases zret_inl hs with ⟨x, ty, hd, rfl, hz, hn, e1⟩ | ⟨x, ty, hd, rfl, hz, e1⟩ | ⟨x, hd, rfl, hz, e1⟩ | ⟨hd, rfl, hz, e1⟩
    · cases e1
      obtain ⟨w, us, rfl, hw, rfl⟩ := x6
      cases hw
      refine va_forget (fun q hq => x4.2.2 q hq) ?_
      refine W.widen (k := 600000) (n := 7302250) (by show h'.1 - 0 ≤ 600000; omega) (by show h'.2.1 - 0 ≤ 7302250; omega) ?_
      exact lw_ret hx hb hr hlocks hd
    · cases e1
    · cases e1
    · cases e1
theorem zlaw_runs : zLawRuns := by
  intro L xs hL
  obtain ⟨H', a, b, c⟩ := law_run (F := 0) (xs := xs) hL
  obtain ⟨n, hn⟩ := ev_iff.mp a
  exact ⟨n, H', hn, by omega, c⟩
theorem whole_start {p : Program} {e : Env} {s : State} {m : MethodId} {below : List Frame} {meth : Method} {c : Code} (l : Launch) (hflags : l.flags = flags0) {b L : Nat} {xs : Nat → Int32} (hL : L ≤ 260) (C0 : lw_At p s m meth c b L xs) : W p l e room_1 s m #[Value.ref b] below meth c s.heap [] 0 0 (lw_Z below #[Value.ref b] s) (entryFrame m ([Value.ref b] : List Value).toArray 13) := z_law zlaw_runs l hL C0
