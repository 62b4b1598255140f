/-! a step of the abstract machine within a frame is a step of the machine -/
theorem zq_some {α : Type} {b : Bool} {o : zO} {r : _} (h : zq b o = some r) : b = true ∧ o = some r := by
  unfold zq at h
  split at h
  · rename_i q; exact ⟨q, h⟩
  · cases h
theorem zn_inl {pc : Nat} {al : List (Option Value)} {st : List Value} {h : zH} {r : _} (e : zn pc al st h = some (.inl r)) : r = (pc, al, st, h) := by
  unfold zn at e
  cases e
  rfl
theorem ztg_inl {pc : Nat} {off : Int} {al : List (Option Value)} {st : List Value} {h : zH} {r : _} (e : ztg pc off al st h = some (.inl r)) : ∃ t : Nat, (pc : Int) + off = (t : Int) ∧ r = (t, al, st, h) := by
  unfold ztg at e
  split at e
  · rename_i q
    exact ⟨_, by omega, zn_inl e⟩
  · cases e
theorem zb_some {α β : Type} {o : Option α} {f : α → Option β} {r : β} (h : o.bind f = some r) : ∃ a, o = some a ∧ f a = some r := Option.bind_eq_some_iff.mp h
theorem zin_vp {j : Int32} {n : Nat} (h : zin j n = true) : vp_in j n := by
  simp only [zin, Bool.and_eq_true, Bool.not_eq_true', decide_eq_false_iff_not, decide_eq_true_eq] at h
  intro q
  rcases q with q | q
  · exact h.1 q
  · omega
section ZS
variable {p : Program} {l : Launch} {e : Env} {R : Room} {s : State} {mth : MethodId} {args : Array Value} {below : List Frame} {meth : Method} {c : Code} {Q : State → Prop} {D : va_G} {y : zY} {A : Nat → Prop} {H0 : Heap} {ob : Option Nat} {m n0 s0 : Nat} {ad0 : List Nat}
/-- what stays throughout a frame -/
def zCx (p : Program) (R : Room) (s : State) (mth : MethodId) (args : Array Value) (meth : Method) (c : Code) (D : va_G) (y : zY) (A : Nat → Prop) (H0 : Heap) (m : Nat) : Prop :=
  p.tables.exec = Jvm.exec ∧ c.code = zb m ∧ c.maxLocals = zml m ∧ s.vm.findClass (zK (zcl m)) = some mth.cls ∧ (∀ w ∈ WS, w.before args s = true) ∧ zKs D y s ∧ (∀ q, H0.size ≤ q → A q) ∧ ((zy m).name = "<init>" → meth.name = "<init>") ∧ 1 ≤ R.frames ∧ 64 ≤ R.locals
/-- the script, where the frame is the law's -/
def zSc (s : State) (A : Nat → Prop) (H0 : Heap) (ob : Option Nat) (h : zH) : Prop := ∀ b : Nat, ob = some b → va_X b h.2.2.2.1 h.2.2.2.2 s H0 ∧ b < H0.size ∧ ¬ A b
/-- the machine's state is that of the abstract one -/
def zDy (s : State) (D : va_G) (y : zY) (A : Nat → Prop) (H0 : Heap) (ob : Option Nat) (m : Nat) (ad0 : List Nat) (al : List (Option Value)) (st : List Value) (h : zH) (ad : List Nat) (ws : va_W) (H : Heap) (locs : List Loc) (ls : Array Slot) (cst : List Value) : Prop :=
  zHr ad y h ws ∧ va_P D vwCl ws H ∧ va_D A ws ∧ va_S A H0 H locs ∧ zLr m ad ob ls al ∧ zVs ad ob st cst ∧ zSc s A H0 ob h ∧ zExt ad0 ad
/-- from every state of the machine that is as the abstract one says, W holds -/
def zWg (p : Program) (l : Launch) (e : Env) (R : Room) (s : State) (mth : MethodId) (args : Array Value) (below : List Frame) (meth : Method) (c : Code) (Q : State → Prop) (D : va_G) (y : zY) (A : Nat → Prop) (H0 : Heap) (ob : Option Nat) (m n0 s0 : Nat) (ad0 : List Nat) (r : Nat × List (Option Value) × List Value × zH) : Prop :=
  ∀ (ad : List Nat) (ws : va_W) (H : Heap) (locs : List Loc) (ls : Array Slot) (cst : List Value), n0 ≤ r.2.2.2.1 → s0 ≤ r.2.2.2.2.1 → zDy s D y A H0 ob m ad0 r.2.1 r.2.2.1 r.2.2.2 ad ws H locs ls cst →
    W p l e R s mth args below meth c H locs (r.2.2.2.1 - n0) (r.2.2.2.2.1 - s0) Q (F0 mth r.1 ls cst)
theorem zDy.stk {al : List (Option Value)} {st st' : List Value} {h : zH} {ad : List Nat} {ws : va_W} {H : Heap} {locs : List Loc} {ls : Array Slot} {cst cst' : List Value} (X : zDy s D y A H0 ob m ad0 al st h ad ws H locs ls cst) (q : zVs ad ob st' cst') : zDy s D y A H0 ob m ad0 al st' h ad ws H locs ls cst' := by
  obtain ⟨x1, x2, x3, x4, x5, x6, x7, x8⟩ := X
  exact ⟨x1, x2, x3, x4, x5, q, x7, x8⟩
theorem zDy.loc {al al' : List (Option Value)} {st st' : List Value} {h : zH} {ad : List Nat} {ws : va_W} {H : Heap} {locs : List Loc} {ls ls' : Array Slot} {cst cst' : List Value} (X : zDy s D y A H0 ob m ad0 al st h ad ws H locs ls cst) (g : zLr m ad ob ls' al') (q : zVs ad ob st' cst') : zDy s D y A H0 ob m ad0 al' st' h ad ws H locs ls' cst' := by
  obtain ⟨x1, x2, x3, x4, x5, x6, x7, x8⟩ := X
  exact ⟨x1, x2, x3, x4, g, q, x7, x8⟩
theorem zsc_zu {h : zH} {i : Nat} {x : zC} (g : zSc s A H0 ob h) : zSc s A H0 ob (zu h i x) := g
theorem zsc_push {h : zH} {i : Nat} {x : zC} (g : zSc s A H0 ob h) : zSc s A H0 ob (zpush h i x) := g
/-- one cell was written -/
theorem zDy.upd {al : List (Option Value)} {st st' : List Value} {h : zH} {ad : List Nat} {ws : va_W} {H H1 : Heap} {locs locs1 : List Loc} {ls : Array Slot} {cst cst' : List Value} (X : zDy s D y A H0 ob m ad0 al st h ad ws H locs ls cst) {i a : Nat} {x : zC} {x' : va_E} (ha : ad[i]? = some a) (hE : zE ad y x x') (hP : va_P D vwCl (ws.set i (a, x')) H1) (hD : va_D A (ws.set i (a, x'))) (hS : va_S A H0 H1 locs1) (q : zVs ad ob st' cst') : zDy s D y A H0 ob m ad0 al st' (zu h i x) ad (ws.set i (a, x')) H1 locs1 ls cst' := by
  obtain ⟨x1, x2, x3, x4, x5, x6, x7, x8⟩ := X
  exact ⟨x1.set ha hE, hP, hD, hS, x5, q, zsc_zu x7, x8⟩
/-- a cell was made -/
theorem zDy.mk {al : List (Option Value)} {st st' : List Value} {h : zH} {ad : List Nat} {ws : va_W} {H H1 : Heap} {locs locs1 : List Loc} {ls : Array Slot} {cst cst' : List Value} (X : zDy s D y A H0 ob m ad0 al st h ad ws H locs ls cst) {a n : Nat} {x : zC} {x' : va_E} (hE : zE (ad ++ [a]) y x x') (hP : va_P D vwCl (ws ++ [(a, x')]) H1) (hD : va_D A (ws ++ [(a, x')])) (hS : va_S A H0 H1 locs1) (q : zVs (ad ++ [a]) ob st' cst') : zDy s D y A H0 ob m ad0 al st' (zpush h n x) (ad ++ [a]) (ws ++ [(a, x')]) H1 locs1 ls cst' := by
  obtain ⟨x1, x2, x3, x4, x5, x6, x7, x8⟩ := X
  exact ⟨x1.push hE, hP, hD, hS, x5.ext zExt.app, q, zsc_push x7, x8.tr zExt.app⟩
theorem zz_iload {pc w i : Nat} {al : List (Option Value)} {st : List Value} {h : zH} {r : _} (hs : zload m pc w i al st h = some (.inl r)) : ∃ x, zld al i = some (.int x) ∧ r = (pc + w, al, .int x :: st, h) := by
  unfold zload at hs
  split at hs
  · rename_i x hx
    exact ⟨x, hx, zn_inl hs⟩
  · cases hs
theorem zz_aload {pc w i : Nat} {al : List (Option Value)} {st : List Value} {h : zH} {r : _} (hs : zloada m pc w i al st h = some (.inl r)) : ∃ v, zld al i = some v ∧ (∀ (ad : List Nat) (u : Value), zV ad ob v u → ∃ a, u = .ref a) ∧ r = (pc + w, al, v :: st, h) := by
  unfold zloada at hs
  split at hs
  · rename_i x hx
    exact ⟨_, hx, fun ad u hu => by obtain ⟨a, -, e⟩ := hu; exact ⟨a, e⟩, zn_inl hs⟩
  · rename_i x hx
    exact ⟨_, hx, fun ad u hu => by obtain ⟨a, -, e⟩ := hu; exact ⟨a, e⟩, zn_inl hs⟩
  · cases hs
theorem zz_istore {pc w i : Nat} {al : List (Option Value)} {st : List Value} {h : zH} {r : _} (hs : zstore m pc w i al st h = some (.inl r)) : ∃ x t al', st = .int x :: t ∧ zst1 m al i (.int x) = some al' ∧ r = (pc + w, al', t, h) := by
  unfold zstore at hs
  split at hs
  · rename_i x t
    obtain ⟨al', h1, h2⟩ := zb_some hs
    exact ⟨x, t, al', rfl, h1, zn_inl h2⟩
  · cases hs
theorem zz_astore {pc w i : Nat} {al : List (Option Value)} {st : List Value} {h : zH} {r : _} (hs : zstorea m pc w i al st h = some (.inl r)) : ∃ x t al', st = .ref x :: t ∧ zst1 m al i (.ref x) = some al' ∧ r = (pc + w, al', t, h) := by
  unfold zstorea at hs
  split at hs
  · rename_i x t
    obtain ⟨al', h1, h2⟩ := zb_some hs
    exact ⟨x, t, al', rfl, h1, zn_inl h2⟩
  · cases hs
theorem zz_arith {pc : Nat} {al : List (Option Value)} {st : List Value} {h : zH} {f : Int32 → Int32 → Option Int32} {r : _} (hs : zarith pc al st h f = some (.inl r)) : ∃ y x t z, st = .int y :: .int x :: t ∧ f x y = some z ∧ r = (pc + 1, al, .int z :: t, h) := by
  unfold zarith at hs
  split at hs
  · rename_i y x t
    obtain ⟨z, h1, h2⟩ := zb_some hs
    exact ⟨y, x, t, z, rfl, h1, zn_inl h2⟩
  · cases hs
variable {pc : Nat} {al : List (Option Value)} {st : List Value} {h : zH} {r : Nat × List (Option Value) × List Value × zH} {len : Nat}
theorem zs_const {i : Instr} (C : zCx p R s mth args meth c D y A H0 m) (hd : decode (zb m) pc = .ok (i, len)) (hi : (∃ n, i = .iconst n) ∨ (∃ n, i = .bipush n) ∨ (∃ n, i = .sipush n) ∨ (∃ n, i = .ldc n) ∨ (∃ n, i = .ldc_w n) ∨ (∃ n, i = .ldc2_w n)) (hs : zdo m pc i len al st h = some (.inl r)) (k : zWg p l e R s mth args below meth c Q D y A H0 ob m n0 s0 ad0 r) : zWg p l e R s mth args below meth c Q D y A H0 ob m n0 s0 ad0 (pc, al, st, h) := by
  obtain ⟨hx, hb, hml, hown, hts, hK, hA, hnm, hR1, hR2⟩ := C
  intro ad ws H locs ls cst h1 h2 X
  rcases hi with ⟨n, rfl⟩ | ⟨n, rfl⟩ | ⟨n, rfl⟩ | ⟨n, rfl⟩ | ⟨n, rfl⟩ | ⟨n, rfl⟩ <;> (have hq0 := zq_some (α := Nat) hs; clear hs; obtain ⟨hl, hs⟩ := hq0)
  · cases beq_iff_eq.mp hl; cases zn_inl hs
    exact lv_iconst hx hb hd rfl (k _ _ _ _ _ _ h1 h2 (X.stk ⟨_, _, rfl, rfl, X.2.2.2.2.2.1⟩))
  · cases beq_iff_eq.mp hl; cases zn_inl hs
    exact lv_bipush hx hb hd rfl (k _ _ _ _ _ _ h1 h2 (X.stk ⟨_, _, rfl, rfl, X.2.2.2.2.2.1⟩))
  · cases beq_iff_eq.mp hl; cases zn_inl hs
    exact lv_sipush hx hb hd rfl (k _ _ _ _ _ _ h1 h2 (X.stk ⟨_, _, rfl, rfl, X.2.2.2.2.2.1⟩))
  · cases beq_iff_eq.mp hl
    obtain ⟨v, hv, hs⟩ := zb_some hs
    cases zn_inl hs
    exact lv_ldc hx hb hown (hts _ (zcon_ok hv)) hd (k _ _ _ _ _ _ h1 h2 (X.stk ⟨_, _, rfl, rfl, X.2.2.2.2.2.1⟩))
  · cases beq_iff_eq.mp hl
    obtain ⟨v, hv, hs⟩ := zb_some hs
    cases zn_inl hs
    exact lv_ldcw hx hb hown (hts _ (zcon_ok hv)) hd (k _ _ _ _ _ _ h1 h2 (X.stk ⟨_, _, rfl, rfl, X.2.2.2.2.2.1⟩))
  · cases beq_iff_eq.mp hl
    obtain ⟨v, hv, hs⟩ := zb_some hs
    cases zn_inl hs
    exact lv_ldc2 hx hb hown (hts _ (zcoL_ok hv)) hd (k _ _ _ _ _ _ h1 h2 (X.stk ⟨_, _, rfl, rfl, X.2.2.2.2.2.1⟩))
theorem zs_local {i : Instr} (C : zCx p R s mth args meth c D y A H0 m) (hd : decode (zb m) pc = .ok (i, len)) (hi : (∃ n, i = .iload_n n) ∨ (∃ n, i = .iload n) ∨ (∃ n, i = .aload_n n) ∨ (∃ n, i = .aload n) ∨ (∃ n, i = .istore_n n) ∨ (∃ n, i = .istore n) ∨ (∃ n, i = .astore_n n) ∨ (∃ n, i = .astore n) ∨ (∃ n, i = .lload_n n) ∨ (∃ n, i = .lload n) ∨ (∃ n, i = .lstore_n n) ∨ (∃ n, i = .lstore n) ∨ (∃ n q, i = .iinc n q)) (hs : zdo m pc i len al st h = some (.inl r)) (k : zWg p l e R s mth args below meth c Q D y A H0 ob m n0 s0 ad0 r) : zWg p l e R s mth args below meth c Q D y A H0 ob m n0 s0 ad0 (pc, al, st, h) := by
  obtain ⟨hx, hb, hml, hown, hts, hK, hA, hnm, hR1, hR2⟩ := C
  intro ad ws H locs ls cst h1 h2 X
  have X5 := X.2.2.2.2.1
  have X6 := X.2.2.2.2.2.1
  have hal : al.length = zml m := X5.2.2.1
  have hl0 := lvAll_has X5.1 X5.2.1
  rcases hi with ⟨n, rfl⟩ | ⟨n, rfl⟩ | ⟨n, rfl⟩ | ⟨n, rfl⟩ | ⟨n, rfl⟩ | ⟨n, rfl⟩ | ⟨n, rfl⟩ | ⟨n, rfl⟩ | ⟨n, rfl⟩ | ⟨n, rfl⟩ | ⟨n, rfl⟩ | ⟨n, rfl⟩ | ⟨n, q, rfl⟩ <;> (have hq0 := zq_some (α := Nat) hs; clear hs; obtain ⟨hl, hs⟩ := hq0; cases beq_iff_eq.mp hl)
  · obtain ⟨x, hx1, rfl⟩ := zz_iload hs
    obtain ⟨w, hw, hw2⟩ := X5.at' hx1
    cases hw
    exact lv_iload_n hx hb hd rfl hw2 (k _ _ _ _ _ _ h1 h2 (X.stk ⟨_, _, rfl, rfl, X6⟩))
  · obtain ⟨x, hx1, rfl⟩ := zz_iload hs
    obtain ⟨w, hw, hw2⟩ := X5.at' hx1
    cases hw
    exact lv_iload hx hb hd hw2 (k _ _ _ _ _ _ h1 h2 (X.stk ⟨_, _, rfl, rfl, X6⟩))
  · obtain ⟨v, hx1, hr, rfl⟩ := zz_aload (ob := ob) hs
    obtain ⟨w, hw, hw2⟩ := X5.at' hx1
    obtain ⟨a, rfl⟩ := hr _ _ hw
    exact lv_aload_n hx hb hd rfl hw2 (k _ _ _ _ _ _ h1 h2 (X.stk ⟨_, _, rfl, hw, X6⟩))
  · obtain ⟨v, hx1, hr, rfl⟩ := zz_aload (ob := ob) hs
    obtain ⟨w, hw, hw2⟩ := X5.at' hx1
    obtain ⟨a, rfl⟩ := hr _ _ hw
    exact lv_aload hx hb hd hw2 (k _ _ _ _ _ _ h1 h2 (X.stk ⟨_, _, rfl, hw, X6⟩))
  · obtain ⟨x, t, al', rfl, e1, rfl⟩ := zz_istore hs
    obtain ⟨w, us, rfl, hw, hus⟩ := X6
    cases hw
    have hlt := zst1_lt e1
    exact lv_istore_n hx hb hd rfl hl0 (by omega) rfl (fun ls' hl' => k _ _ _ _ _ _ h1 h2 (X.loc (X5.st1 e1 rfl rfl hl') hus))
  · obtain ⟨x, t, al', rfl, e1, rfl⟩ := zz_istore hs
    obtain ⟨w, us, rfl, hw, hus⟩ := X6
    cases hw
    have hlt := zst1_lt e1
    exact lv_istore hx hb hd hl0 (by omega) rfl (fun ls' hl' => k _ _ _ _ _ _ h1 h2 (X.loc (X5.st1 e1 rfl rfl hl') hus))
  · obtain ⟨x, t, al', rfl, e1, rfl⟩ := zz_astore hs
    obtain ⟨w, us, rfl, hw, hus⟩ := X6
    obtain ⟨a, ha, rfl⟩ := hw
    have hlt := zst1_lt e1
    exact lv_astore_n hx hb hd rfl hl0 (by omega) rfl (fun ls' hl' => k _ _ _ _ _ _ h1 h2 (X.loc (X5.st1 e1 ⟨a, ha, rfl⟩ rfl hl') hus))
  · obtain ⟨x, t, al', rfl, e1, rfl⟩ := zz_astore hs
    obtain ⟨w, us, rfl, hw, hus⟩ := X6
    obtain ⟨a, ha, rfl⟩ := hw
    have hlt := zst1_lt e1
    exact lv_astore hx hb hd hl0 (by omega) rfl (fun ls' hl' => k _ _ _ _ _ _ h1 h2 (X.loc (X5.st1 e1 ⟨a, ha, rfl⟩ rfl hl') hus))
  · try dsimp only at hs
    split at hs
    · rename_i x hx1
      cases zn_inl hs
      obtain ⟨w, hw, hw2⟩ := X5.at' hx1
      cases hw
      exact lv_lload_n hx hb hd rfl hw2 (k _ _ _ _ _ _ h1 h2 (X.stk ⟨_, _, rfl, rfl, X6⟩))
    · cases hs
  · try dsimp only at hs
    split at hs
    · rename_i x hx1
      cases zn_inl hs
      obtain ⟨w, hw, hw2⟩ := X5.at' hx1
      cases hw
      exact lv_lload hx hb hd hw2 (k _ _ _ _ _ _ h1 h2 (X.stk ⟨_, _, rfl, rfl, X6⟩))
    · cases hs
  · try dsimp only at hs
    split at hs
    · rename_i x t
      obtain ⟨al', e1, hs⟩ := zb_some hs
      cases zn_inl hs
      obtain ⟨w, us, rfl, hw, hus⟩ := X6
      cases hw
      have hlt := zst2_lt e1
      exact lv_lstore_n hx hb hd rfl hl0 (by omega) rfl (fun ls' hl' => k _ _ _ _ _ _ h1 h2 (X.loc (X5.st2 e1 rfl hl') hus))
    · cases hs
  · try dsimp only at hs
    split at hs
    · rename_i x t
      obtain ⟨al', e1, hs⟩ := zb_some hs
      cases zn_inl hs
      obtain ⟨w, us, rfl, hw, hus⟩ := X6
      cases hw
      have hlt := zst2_lt e1
      exact lv_lstore hx hb hd hl0 (by omega) rfl (fun ls' hl' => k _ _ _ _ _ _ h1 h2 (X.loc (X5.st2 e1 rfl hl') hus))
    · cases hs
  · try dsimp only at hs
    split at hs
    · rename_i x hx1
      obtain ⟨al', e1, hs⟩ := zb_some hs
      cases zn_inl hs
      obtain ⟨w, hw, hw2⟩ := X5.at' hx1
      cases hw
      have hlt := zst1_lt e1
      obtain ⟨j, hj⟩ := List.getElem?_of_mem (lvAll_mem hw2)
      exact lv_iinc hx hb hd hl0 hj rfl (by omega) rfl (fun ls' hl' => k _ _ _ _ _ _ h1 h2 (X.loc (X5.st1 e1 rfl rfl hl') X6))
    · cases hs
theorem zs_arith {i : Instr} (C : zCx p R s mth args meth c D y A H0 m) (hd : decode (zb m) pc = .ok (i, len)) (hi : i = .iadd ∨ i = .isub ∨ i = .imul ∨ i = .idiv ∨ i = .irem ∨ i = .iand ∨ i = .ior ∨ i = .ishl ∨ i = .ishr) (hs : zdo m pc i len al st h = some (.inl r)) (k : zWg p l e R s mth args below meth c Q D y A H0 ob m n0 s0 ad0 r) : zWg p l e R s mth args below meth c Q D y A H0 ob m n0 s0 ad0 (pc, al, st, h) := by
  obtain ⟨hx, hb, hml, hown, hts, hK, hA, hnm, hR1, hR2⟩ := C
  intro ad ws H locs ls cst h1 h2 X
  have X6 := X.2.2.2.2.2.1
  rcases hi with rfl | rfl | rfl | rfl | rfl | rfl | rfl | rfl | rfl <;> (have hq0 := zq_some (α := Nat) hs; clear hs; obtain ⟨hl, hs⟩ := hq0; cases beq_iff_eq.mp hl; obtain ⟨y1, x1, t, z, rfl, hz, rfl⟩ := zz_arith hs; obtain ⟨w1, us1, rfl, hw1, w2, us, rfl, hw2, hus⟩ := X6; cases hw1; cases hw2; try dsimp only at hz)
  · cases hz
    exact lv_iadd hx hb hd (k _ _ _ _ _ _ h1 h2 (X.stk ⟨_, _, rfl, rfl, hus⟩))
  · cases hz
    exact lv_isub hx hb hd (k _ _ _ _ _ _ h1 h2 (X.stk ⟨_, _, rfl, rfl, hus⟩))
  · cases hz
    exact lv_imul hx hb hd (k _ _ _ _ _ _ h1 h2 (X.stk ⟨_, _, rfl, rfl, hus⟩))
  · split at hz
    · cases hz
    · rename_i hne
      cases hz
      exact lv_idiv hx hb hd hne (k _ _ _ _ _ _ h1 h2 (X.stk ⟨_, _, rfl, rfl, hus⟩))
  · split at hz
    · cases hz
    · rename_i hne
      cases hz
      exact lv_irem hx hb hd hne (k _ _ _ _ _ _ h1 h2 (X.stk ⟨_, _, rfl, rfl, hus⟩))
  · cases hz
    exact lv_iand hx hb hd (k _ _ _ _ _ _ h1 h2 (X.stk ⟨_, _, rfl, rfl, hus⟩))
  · cases hz
    exact lv_ior hx hb hd (k _ _ _ _ _ _ h1 h2 (X.stk ⟨_, _, rfl, rfl, hus⟩))
  · cases hz
    exact lv_ishl hx hb hd (k _ _ _ _ _ _ h1 h2 (X.stk ⟨_, _, rfl, rfl, hus⟩))
  · cases hz
    exact lv_ishr hx hb hd (k _ _ _ _ _ _ h1 h2 (X.stk ⟨_, _, rfl, rfl, hus⟩))
theorem zs_stack {i : Instr} (C : zCx p R s mth args meth c D y A H0 m) (hd : decode (zb m) pc = .ok (i, len)) (hi : i = .i2c ∨ i = .i2l ∨ i = .ladd ∨ i = .lmul ∨ i = .lcmp ∨ i = .dup ∨ i = .dup2 ∨ i = .pop) (hs : zdo m pc i len al st h = some (.inl r)) (k : zWg p l e R s mth args below meth c Q D y A H0 ob m n0 s0 ad0 r) : zWg p l e R s mth args below meth c Q D y A H0 ob m n0 s0 ad0 (pc, al, st, h) := by
  obtain ⟨hx, hb, hml, hown, hts, hK, hA, hnm, hR1, hR2⟩ := C
  intro ad ws H locs ls cst h1 h2 X
  have X6 := X.2.2.2.2.2.1
  rcases hi with rfl | rfl | rfl | rfl | rfl | rfl | rfl | rfl <;> (have hq0 := zq_some (α := Nat) hs; clear hs; obtain ⟨hl, hs⟩ := hq0; cases beq_iff_eq.mp hl; try dsimp only at hs)
  · split at hs
    · rename_i x t
      cases zn_inl hs
      obtain ⟨w1, us, rfl, hw1, hus⟩ := X6
      cases hw1
      exact lv_i2c hx hb hd rfl (k _ _ _ _ _ _ h1 h2 (X.stk ⟨_, _, rfl, rfl, hus⟩))
    · cases hs
  · split at hs
    · rename_i x t
      cases zn_inl hs
      obtain ⟨w1, us, rfl, hw1, hus⟩ := X6
      cases hw1
      exact lv_i2l hx hb hd rfl (k _ _ _ _ _ _ h1 h2 (X.stk ⟨_, _, rfl, rfl, hus⟩))
    · cases hs
  · split at hs
    · rename_i x t
      cases zn_inl hs
      obtain ⟨w1, us1, rfl, hw1, w2, us, rfl, hw2, hus⟩ := X6
      cases hw1; cases hw2
      exact lv_ladd hx hb hd (k _ _ _ _ _ _ h1 h2 (X.stk ⟨_, _, rfl, rfl, hus⟩))
    · cases hs
  · split at hs
    · rename_i x t
      cases zn_inl hs
      obtain ⟨w1, us1, rfl, hw1, w2, us, rfl, hw2, hus⟩ := X6
      cases hw1; cases hw2
      exact lv_lmul hx hb hd (k _ _ _ _ _ _ h1 h2 (X.stk ⟨_, _, rfl, rfl, hus⟩))
    · cases hs
  · split at hs
    · rename_i x t
      cases zn_inl hs
      obtain ⟨w1, us1, rfl, hw1, w2, us, rfl, hw2, hus⟩ := X6
      cases hw1; cases hw2
      exact W.lcmp hx hb hd (k _ _ _ _ _ _ h1 h2 (X.stk ⟨_, _, rfl, rfl, hus⟩))
    · cases hs
  · split at hs
    · rename_i v t
      obtain ⟨hq, hs⟩ := zq_some (α := Nat) hs
      cases zn_inl hs
      obtain ⟨w1, us, rfl, hw1, hus⟩ := X6
      exact lv_dup hx hb hd (hw1.cat.trans (of_decide_eq_true hq)) (k _ _ _ _ _ _ h1 h2 (X.stk ⟨_, _, rfl, hw1, _, _, rfl, hw1, hus⟩))
    · cases hs
  · split at hs
    · rename_i v u t
      obtain ⟨hq, hs⟩ := zq_some (α := Nat) hs
      rw [Bool.and_eq_true] at hq
      cases zn_inl hs
      obtain ⟨w1, us1, rfl, hw1, w2, us, rfl, hw2, hus⟩ := X6
      exact lv_dup2_11 hx hb hd (hw1.cat.trans (of_decide_eq_true hq.1)) (hw2.cat.trans (of_decide_eq_true hq.2)) (k _ _ _ _ _ _ h1 h2 (X.stk ⟨_, _, rfl, hw1, _, _, rfl, hw2, _, _, rfl, hw1, _, _, rfl, hw2, hus⟩))
    · cases hs
  · split at hs
    · rename_i v t
      obtain ⟨hq, hs⟩ := zq_some (α := Nat) hs
      cases zn_inl hs
      obtain ⟨w1, us, rfl, hw1, hus⟩ := X6
      exact lv_pop hx hb hd (hw1.cat.trans (of_decide_eq_true hq)) (k _ _ _ _ _ _ h1 h2 (X.stk hus))
    · cases hs
end ZS
