/-! cells and slots only grow -/
def zle (h h1 : zH) : Prop := h.1 ≤ h1.1 ∧ h.2.1 ≤ h1.2.1 ∧ h1.2.2.2 = h.2.2.2
theorem zle.rf {h : zH} : zle h h := ⟨Nat.le_refl _, Nat.le_refl _, rfl⟩
theorem zle.tr {a b c : zH} (x : zle a b) (y : zle b c) : zle a c := ⟨Nat.le_trans x.1 y.1, Nat.le_trans x.2.1 y.2.1, y.2.2.trans x.2.2⟩
theorem zle.push {h : zH} {n : Nat} {x : zC} : zle h (zpush h n x) := ⟨Nat.le_succ _, Nat.le_add_right _ _, rfl⟩
theorem zle.put {h h1 : zH} {i c1 f1 : Nat} {v : Value} (e : zputf h i c1 f1 v = some h1) : zle h h1 := by
  obtain ⟨fs, -, -, rfl⟩ := zz_put e
  exact zle.rf
theorem zle.asti {h h1 : zH} {i : Nat} {j x : Int32} (e : zasti h i j x = some h1) : zle h h1 := by
  obtain ⟨_, _, -, -, rfl⟩ := zz_asti e
  exact zle.rf
theorem zle.astc {h h1 : zH} {i : Nat} {j x : Int32} (e : zastc h i j x = some h1) : zle h h1 := by
  obtain ⟨_, _, -, -, rfl⟩ := zz_astc e
  exact zle.rf
theorem zle.astq {h h1 : zH} {i x : Nat} {j : Int32} (e : zastq h i j x = some h1) : zle h h1 := by
  obtain ⟨_, _, -, -, -, rfl⟩ := zz_astq e
  exact zle.rf
theorem zle.copy {h h1 : zH} {i i1 : Nat} {j k n : Int32} (e : zcopy h i j i1 k n = some h1) : zle h h1 := by
  obtain ⟨_, _, _, _, -, -, -, -, -, -, -, rfl⟩ := zz_copy e
  exact zle.rf
def zok (h : zH) (o : zO) : Prop := ∀ r, o = some (.inl r) → zle h r.2.2.2
theorem zok.none {h : zH} : zok h none := fun r e => by cases e
theorem zok.q {h : zH} {b : Bool} {o : zO} (k : zok h o) : zok h (zq b o) := fun r e => k r (zq_some (α := Nat) e).2
theorem zok.bind {α : Type} {h : zH} {x : Option α} {f : α → zO} (k : ∀ a, x = some a → zok h (f a)) : zok h (x.bind f) := fun r e => by
  obtain ⟨a, h1, h2⟩ := zb_some e
  exact k a h1 r h2
theorem zok.n {h h1 : zH} {pc : Nat} {al : List (Option Value)} {st : List Value} (k : zle h h1) : zok h (zn pc al st h1) := fun r e => by cases zn_inl e; exact k
theorem zok.t {h h1 : zH} {pc : Nat} {off : Int} {al : List (Option Value)} {st : List Value} (k : zle h h1) : zok h (ztg pc off al st h1) := fun r e => by
  obtain ⟨t, -, rfl⟩ := ztg_inl e
  exact k
theorem zok.r {h : zH} {x : (Nat × List Value × List Value) ⊕ Option Value} : zok h (some (.inr x)) := fun r e => by cases e
theorem zdo_mono {m pc len : Nat} {i : Instr} {al : List (Option Value)} {st : List Value} {h : zH} : zok h (zdo m pc i len al st h) := by
  cases i <;> simp only [zdo, zload, zloada, zstore, zstorea, zarith, zstatic, zspecial, zcallV, zcallS]
  all_goals repeat' first
    | exact zok.none
    | exact zok.r
    | exact zok.n zle.rf
    | exact zok.t zle.rf
    | exact zok.n zle.push
    | exact zok.n (zle.put (by assumption))
    | exact zok.n (zle.asti (by assumption))
    | exact zok.n (zle.astc (by assumption))
    | exact zok.n (zle.astq (by assumption))
    | exact zok.n (zle.copy (by assumption))
    | apply zok.q
    | (apply zok.bind; intro a ha)
    | split
theorem zstep_mono {m pc : Nat} {al : List (Option Value)} {st : List Value} {h : zH} : zok h (zstep m pc al st h) := by
  unfold zstep
  split
  · exact zdo_mono
  · exact zok.none
theorem zx_mono : ∀ {n d m pc : Nat} {al : List (Option Value)} {st : List Value} {h : zH} {r : Option Value × zH}, zx n d m pc al st h = some r → zle h r.2
  | 0, _, _, _, _, _, _, _, e => by cases e
  | n + 1, d, m, pc, al, st, h, r, e => by
    unfold zx at e
    split at e
    · cases e
    · rename_i pc' al' st' h' hs
      exact (zstep_mono _ hs).tr (zx_mono e)
    · rename_i k as rs hs
      split at e
      · cases e
      · split at e
        · cases e
        · rename_i v h1 e1
          exact (zx_mono e1).tr (zx_mono e)
    · cases e
      exact zle.rf
