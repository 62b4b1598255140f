/-- a run of n steps from a frame: the machine comes to where that frame returns -/
def zP (n : Nat) : Prop := ∀ (d m pc : Nat) (al : List (Option Value)) (st : List Value) (h : zH) (v : Option Value) (h' : zH), zx n d m pc al st h = some (v, h') →
  ∀ (p : Program) (l : Launch) (e : Env) (R : Room) (s : State) (mth : MethodId) (args : Array Value) (below : List Frame) (meth : Method) (c : Code) (Q : State → Prop) (D : va_G) (y : zY) (A : Nat → Prop) (H0 : Heap) (ob : Option Nat) (n0 s0 : Nat) (ad0 : List Nat),
  zCx p R s mth args meth c D y A H0 m → d + 1 ≤ R.frames → 64 * (d + 1) ≤ R.locals → h'.1 ≤ n0 + R.cells → h'.2.1 ≤ s0 + R.slots →
  (∀ (pc' : Nat) (al' : List (Option Value)) (st' : List Value), zstep m pc' al' st' h' = some (.inr (.inr v)) → zWg p l e R s mth args below meth c Q D y A H0 ob m n0 s0 ad0 (pc', al', st', h')) →
  zWg p l e R s mth args below meth c Q D y A H0 ob m n0 s0 ad0 (pc, al, st, h)
/-- where a frame returns -/
theorem zret_inl {m pc : Nat} {al : List (Option Value)} {st : List Value} {h : zH} {v : Option Value} (hs : zstep m pc al st h = some (.inr (.inr v))) :
    (∃ x ty, decode (zb m) pc = .ok (.ireturn, 1) ∧ st = [.int x] ∧ zret m = some ty ∧ narrow ty (.int x) = .int x ∧ v = some (.int x)) ∨
    (∃ x ty, decode (zb m) pc = .ok (.areturn, 1) ∧ st = [.ref x] ∧ zret m = some (.object ty) ∧ v = some (.ref x)) ∨
    (∃ x, decode (zb m) pc = .ok (.lreturn, 1) ∧ st = [.long x] ∧ zret m = some .long ∧ v = some (.long x)) ∨
    (decode (zb m) pc = .ok (.return_, 1) ∧ st = [] ∧ zret m = none ∧ v = none) := by
  unfold zstep at hs
  split at hs
  · rename_i i len hd
    have nq : ∀ {pc : Nat} {al : List (Option Value)} {st : List Value} {h1 : zH}, zn pc al st h1 = some (.inr (.inr v)) → False := fun e => by unfold zn at e; cases e
    have nt : ∀ {off : Int} {al : List (Option Value)} {st : List Value} {h1 : zH}, ztg pc off al st h1 = some (.inr (.inr v)) → False := fun e => by
      unfold ztg zn at e
      split at e <;> cases e
    by_cases g : i = .ireturn ∨ i = .areturn ∨ i = .lreturn ∨ i = .return_
    · rcases g with rfl | rfl | rfl | rfl <;> (have hq0 := zq_some (α := Nat) hs; clear hs; obtain ⟨hl, hs⟩ := hq0; cases beq_iff_eq.mp hl; split at hs)
      · rename_i x ty hz
        split at hs
        · rename_i hn
          cases hs
          exact Or.inl ⟨_, _, hd, rfl, hz, hn, rfl⟩
        · cases hs
      · cases hs
      · rename_i x ty hz
        cases hs
        exact Or.inr (Or.inl ⟨_, _, hd, rfl, hz, rfl⟩)
      · cases hs
      · rename_i x hz
        cases hs
        exact Or.inr (Or.inr (Or.inl ⟨_, hd, rfl, hz, rfl⟩))
      · cases hs
      · rename_i hz
        cases hs
        exact Or.inr (Or.inr (Or.inr ⟨hd, rfl, hz, rfl⟩))
      · cases hs
    · exfalso
      have key : ∀ (o : zO), (∀ w, o ≠ some (.inr (.inr w))) → o = some (.inr (.inr v)) → False := fun o k e => k v e
      refine key _ ?_ hs
      have q0 : ∀ w, (none : zO) ≠ some (.inr (.inr w)) := fun w e => by cases e
      have q1 : ∀ {b : Bool} {o : zO}, (∀ w, o ≠ some (.inr (.inr w))) → ∀ w, zq b o ≠ some (.inr (.inr w)) := fun k w e => k w (zq_some (α := Nat) e).2
      have q2 : ∀ {α : Type} {x : Option α} {f : α → zO}, (∀ a, ∀ w, f a ≠ some (.inr (.inr w))) → ∀ w, x.bind f ≠ some (.inr (.inr w)) := fun k w e => by
        obtain ⟨a, h1, h2⟩ := zb_some e
        exact k a w h2
      have q3 : ∀ {pc : Nat} {al : List (Option Value)} {st : List Value} {h1 : zH}, ∀ w, zn pc al st h1 ≠ some (.inr (.inr w)) := fun w e => by unfold zn at e; cases e
      have q4 : ∀ {off : Int} {al : List (Option Value)} {st : List Value} {h1 : zH}, ∀ w, ztg pc off al st h1 ≠ some (.inr (.inr w)) := fun w e => by
        unfold ztg zn at e
        split at e <;> cases e
      have q5 : ∀ {x : Nat × List Value × List Value}, ∀ w, (some (.inr (.inl x)) : zO) ≠ some (.inr (.inr w)) := fun w e => by cases e
      cases i <;> first | (exact absurd (Or.inl rfl) g) | (exact absurd (Or.inr (Or.inl rfl)) g) | (exact absurd (Or.inr (Or.inr (Or.inl rfl))) g) | (exact absurd (Or.inr (Or.inr (Or.inr rfl))) g) | skip
      all_goals simp only [zdo, zload, zloada, zstore, zstorea, zarith, zstatic, zspecial, zcallV, zcallS]
      all_goals repeat' first
        | exact q0
        | exact q3
        | exact q4
        | exact q5
        | apply q1
        | (apply q2; intro a)
        | split
  · cases hs
theorem z_met {n : Nat} (hP : zP n) {k d : Nat} {as : List Value} {h h1 : zH} {v : Option Value} (hr : zx n d k 0 (zentry k as) [] h = some (v, h1)) (ha : as.all zarg = true) (hn : as.length ≤ zml k) (hk : k < 138) (hj : ∀ j, j < as.length → zwe k j = false) : zCt k d as h v h1 := by
  intro l D y ad ws cas sz ob hHr hvs hob
  obtain ⟨k1, k2, k3, k4⟩ := zML_ok2 k hk
  refine Met.ofW (cc := zb k) (maxL := zml k) (ret := zret k) k1 rfl ?_
  intro p e s m args below meth c s₁ B hml hv
  obtain ⟨rfl, hsz, hPw, hK, hD0, hX0⟩ := hv
  subst hsz
  have hle := zx_mono hr
  have hx := B.exec
  have hb := B.bytes
  have hrt := B.returns
  have hlocks := B.notSynchronized
  have hts := atoms_spec (ws := zws k) B.pre
  have hown : s.vm.findClass (zK (zcl k)) = some m.cls := by
    rw [k2]
    exact findClass_of_methodNamed B.named
  have hnm : meth.name = (zy k).name := (name_of_methodNamed B.named B.method).1
  have hcat : ∀ w ∈ cas, w.category = 1 := by
    intro w hw
    have h1 : w.category ∈ cas.map (fun v => v.category) := List.mem_map.mpr ⟨w, hw, rfl⟩
    rw [hvs.cat] at h1
    obtain ⟨u, hu, e⟩ := List.mem_map.mp h1
    rw [← e]
    have := List.all_eq_true.mp ha u hu
    cases u <;> first | rfl | (simp [zarg] at this)
  rw [entry_eq m cas hcat]
  have C : zCx p (headSpec (zws k) (zrm d (h1.1 - h.1) (h1.2.1 - h.2.1))).room s m cas.toArray meth c D y (va_A ws s.heap.size) s.heap k :=
    ⟨hx, hb, hml, hown, fun w hw => hts w (List.mem_cons_of_mem _ hw), hK, fun q hq => Or.inr hq, (fun z => hnm.trans z), Nat.le_add_left 1 d, by show 64 ≤ 64 * (d + 1); omega⟩
  have main := hP d k 0 (zentry k as) [] h v h1 hr p l e (headSpec (zws k) (zrm d (h1.1 - h.1) (h1.2.1 - h.2.1))).room s m cas.toArray below meth c (MQ below (zQc D y ad (va_A ws s.heap.size) v h1) cas.toArray s (h1.1 - h.1) (h1.2.1 - h.2.1) (va_A ws s.heap.size)) D y (va_A ws s.heap.size) s.heap ob h.1 h.2.1 ad C (Nat.le_refl _) (Nat.le_refl _) (by show h1.1 ≤ h.1 + (h1.1 - h.1); have := hle.1; dsimp only at this; omega) (by show h1.2.1 ≤ h.2.1 + (h1.2.1 - h.2.1); have := hle.2.1; dsimp only at this; omega) ?_
  · have M := main ad ws s.heap [] _ [] (Nat.le_refl _) (Nat.le_refl _) ⟨hHr, hPw, hD0.self, va_S.rf, zLr.entry hvs ha hn hj, rfl, (fun b hb => ⟨hX0 b hb, (hob b hb).1, (hob b hb).2⟩), zExt.rf⟩
    dsimp only at M
    rw [Nat.sub_self, Nat.sub_self] at M
    exact M
  · intro pc' al' st' hs ad1 ws1 H locs ls cst g1 g2 X
    obtain ⟨x1, x2, x3, x4, x5, x6, x7, x8⟩ := X
    have post : ∀ (w : Option Value) (t : State), zVo ad1 v w → t.heap = H → s.WarmedH t.vm → zQc D y ad (va_A ws s.heap.size) v h1 cas.toArray s (.returned w) t := by
      intro w t hw ht _
      exact ⟨⟨w, ad1, ws1, rfl, hw, x8, x1, by rw [ht]; exact x2, x3⟩, x4.F ht⟩
    rcases zret_inl hs with ⟨x, ty, hd, rfl, hz, hn, rfl⟩ | ⟨x, ty, hd, rfl, hz, rfl⟩ | ⟨x, hd, rfl, hz, rfl⟩ | ⟨hd, rfl, hz, rfl⟩
    · obtain ⟨w, us, rfl, hw, rfl⟩ := x6
      cases hw
      exact W.zret hx hb (hrt.trans hz) hn (fun t ht hW => post _ t ⟨_, rfl, rfl⟩ ht hW) x4.2.2 hd
    · obtain ⟨w, us, rfl, ⟨a, ha1, rfl⟩, rfl⟩ := x6
      exact W.aret hx hb (hrt.trans hz) (Or.inl ⟨_, rfl⟩) (Or.inr ⟨a, rfl⟩) (fun t ht hW => post _ t ⟨_, rfl, ⟨a, ha1, rfl⟩⟩ ht hW) x4.2.2 hd
    · obtain ⟨w, us, rfl, hw, rfl⟩ := x6
      cases hw
      exact W.lret hx hb (hrt.trans hz) (fun t ht hW => post _ t ⟨_, rfl, rfl⟩ ht hW) x4.2.2 hd
    · cases x6
      exact W.vret hx hb (hrt.trans hz) (fun t ht hW => post _ t rfl ht hW) x4.2.2 hd
theorem z_run : ∀ n, zP n
  | 0 => fun d m pc al st h v h' hr => by cases hr
  | n + 1 => by
    have ih := z_run n
    intro d m pc al st h v h' hr p l e R s mth args below meth c Q D y A H0 ob n0 s0 ad0 C hf hlo hb1 hb2 hfin
    unfold zx at hr
    split at hr
    · cases hr
    · rename_i pc1 al1 st1 h1 hs
      have hle := zx_mono hr
      exact zs_next C hs (Nat.le_trans hle.1 hb1) (Nat.le_trans hle.2.1 hb2) (ih _ _ _ _ _ _ _ _ hr p l e R s mth args below meth c Q D y A H0 ob n0 s0 ad0 C hf hlo hb1 hb2 hfin)
    · rename_i k as rs hs
      split at hr
      · cases hr
      · rename_i d1
        split at hr
        · cases hr
        · rename_i v1 h1 hr1
          obtain ⟨a1, a2, a3, a4⟩ := zstep_args hs
          have hle := zx_mono hr
          have hle1 := zx_mono hr1
          exact zs_call C hs (z_met ih hr1 a1 a2 a3 a4) hle1 (by omega) (by omega) (Nat.le_trans hle.1 hb1) (Nat.le_trans hle.2.1 hb2) (ih _ _ _ _ _ _ _ _ hr p l e R s mth args below meth c Q D y A H0 ob n0 s0 ad0 C hf hlo hb1 hb2 hfin)
    · rename_i v1 hs
      cases hr
      exact hfin _ _ _ hs
