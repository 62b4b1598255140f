/-! THE ABSTRACT RUN AS A FUNCTION, and its equations -/
theorem zx_succ : ∀ {n d m pc : Nat} {al : List (Option Value)} {st : List Value} {h : zH} {r : Option Value × zH}, zx n d m pc al st h = some r → zx (n + 1) d m pc al st h = some r
  | 0, _, _, _, _, _, _, _, e => by cases e
  | n + 1, d, m, pc, al, st, h, r, e => by
    unfold zx at e
    rw [zx]
    split at e
    · cases e
    · rename_i pc1 al1 st1 h1 hs
      exact zx_succ e
    · rename_i k as rs hs
      split at e
      · cases e
      · split at e
        · cases e
        · rename_i v1 h1 hr1
          rw [zx_succ hr1]
          exact zx_succ e
    · rename_i v1 hs
      exact e
theorem zx_le {n k d m pc : Nat} {al : List (Option Value)} {st : List Value} {h : zH} {r : Option Value × zH} (e : zx n d m pc al st h = some r) : zx (n + k) d m pc al st h = some r := by
  induction k with
  | zero => exact e
  | succ k ih => exact zx_succ ih
theorem zx_det {n k d m pc : Nat} {al : List (Option Value)} {st : List Value} {h : zH} {r q : Option Value × zH} (e : zx n d m pc al st h = some r) (f : zx k d m pc al st h = some q) : r = q := by
  have e1 := zx_le (k := k) e
  have f1 := zx_le (k := n) f
  rw [Nat.add_comm] at f1
  exact Option.some.inj (e1.symm.trans f1)
noncomputable def ev (d m pc : Nat) (al : List (Option Value)) (st : List Value) (h : zH) : Option (Option Value × zH) := match Classical.propDecidable (∃ n r, zx n d m pc al st h = some r) with
  | .isTrue hq => some (Classical.choose (Classical.choose_spec hq))
  | .isFalse _ => none
theorem ev_iff {d m pc : Nat} {al : List (Option Value)} {st : List Value} {h : zH} {r : Option Value × zH} : ev d m pc al st h = some r ↔ ∃ n, zx n d m pc al st h = some r := by
  unfold ev
  split
  · rename_i hq _
    have hs := Classical.choose_spec (Classical.choose_spec hq)
    constructor
    · intro e
      cases e
      exact ⟨_, hs⟩
    · rintro ⟨n, e⟩
      exact congrArg some (zx_det hs e)
  · rename_i hq _
    constructor
    · intro e
      cases e
    · rintro ⟨n, e⟩
      exact absurd ⟨n, r, e⟩ hq
theorem ev_ext {a b : Option (Option Value × zH)} (h : ∀ r, a = some r ↔ b = some r) : a = b := Option.ext h
theorem ev_next {d m pc pc' : Nat} {al al' : List (Option Value)} {st st' : List Value} {h h' : zH} (hs : zstep m pc al st h = zn pc' al' st' h') : ev d m pc al st h = ev d m pc' al' st' h' := by
  refine ev_ext fun r => ?_
  rw [ev_iff, ev_iff]
  constructor
  · rintro ⟨n, e⟩
    cases n with
    | zero => cases e
    | succ n =>
      rw [zx, hs] at e
      exact ⟨n, e⟩
  · rintro ⟨n, e⟩
    refine ⟨n + 1, ?_⟩
    rw [zx, hs]
    exact e
theorem ev_none {d m pc : Nat} {al : List (Option Value)} {st : List Value} {h : zH} (hs : zstep m pc al st h = none) : ev d m pc al st h = none := by
  refine ev_ext fun r => ?_
  rw [ev_iff]
  constructor
  · rintro ⟨n, e⟩
    cases n with
    | zero => cases e
    | succ n =>
      rw [zx, hs] at e
      cases e
  · intro e
    cases e
theorem ev_ret {d m pc : Nat} {al : List (Option Value)} {st : List Value} {h : zH} {v : Option Value} (hs : zstep m pc al st h = some (.inr (.inr v))) : ev d m pc al st h = some (v, h) := by
  rw [ev_iff]
  refine ⟨1, ?_⟩
  rw [zx, hs]
theorem ev_call {d m pc k : Nat} {al : List (Option Value)} {st as rs : List Value} {h : zH} (hs : zstep m pc al st h = some (.inr (.inl (k, as, rs)))) : ev (d + 1) m pc al st h = (ev d k 0 (zentry k as) [] h).bind fun q => ev (d + 1) m (pc + 3) al (q.1.toList ++ rs) q.2 := by
  refine ev_ext fun r => ?_
  rw [ev_iff, Option.bind_eq_some_iff]
  constructor
  · rintro ⟨n, e⟩
    cases n with
    | zero => cases e
    | succ n =>
      rw [zx, hs] at e
      dsimp only at e
      split at e
      · cases e
      · rename_i v h1 hr
        exact ⟨(v, h1), ev_iff.mpr ⟨n, hr⟩, ev_iff.mpr ⟨n, e⟩⟩
  · rintro ⟨⟨v, h1⟩, e1, e2⟩
    obtain ⟨n, e1⟩ := ev_iff.mp e1
    obtain ⟨k1, e2⟩ := ev_iff.mp e2
    refine ⟨n + k1 + 1, ?_⟩
    rw [zx, hs]
    dsimp only
    rw [zx_le (k := k1) e1]
    dsimp only
    rw [Nat.add_comm]
    exact zx_le e2
theorem zstep_of {m pc len : Nat} {i : Instr} {al : List (Option Value)} {st : List Value} {h : zH} (hd : decode (zb m) pc = .ok (i, len)) : zstep m pc al st h = zdo m pc i len al st h := by
  unfold zstep
  rw [hd]
section EV
variable {d m pc : Nat} {al al' : List (Option Value)} {st : List Value} {h : zH} {x y z : Int32}
theorem ev_step {i : Instr} {len pc' : Nat} {st' : List Value} {h' : zH} (hd : decode (zb m) pc = .ok (i, len)) (hs : zdo m pc i len al st h = zn pc' al' st' h') : ev d m pc al st h = ev d m pc' al' st' h' := ev_next ((zstep_of hd).trans hs)
theorem ev_opt {α : Type} {i : Instr} {len : Nat} {o : Option α} {pc' : α → Nat} {al' : α → List (Option Value)} {st' : α → List Value} {h' : α → zH} (hd : decode (zb m) pc = .ok (i, len)) (hs : zdo m pc i len al st h = o.bind fun a => zn (pc' a) (al' a) (st' a) (h' a)) : ev d m pc al st h = o.bind fun a => ev d m (pc' a) (al' a) (st' a) (h' a) := by
  cases o with
  | none => exact ev_none ((zstep_of hd).trans hs)
  | some a => exact ev_next ((zstep_of hd).trans hs)
theorem ev_if {i : Instr} {len p1 p2 : Nat} {st' : List Value} (c : Prop) [Decidable c] (hd : decode (zb m) pc = .ok (i, len)) (hs : zdo m pc i len al st h = if c then zn p1 al st' h else zn p2 al st' h) : ev d m pc al st h = if c then ev d m p1 al st' h else ev d m p2 al st' h := by
  by_cases hc : c
  · rw [if_pos hc] at hs ⊢
    exact ev_next ((zstep_of hd).trans hs)
  · rw [if_neg hc] at hs ⊢
    exact ev_next ((zstep_of hd).trans hs)
theorem ev_end {i : Instr} {len : Nat} {v : Option Value} (hd : decode (zb m) pc = .ok (i, len)) (hs : zdo m pc i len al st h = some (.inr (.inr v))) : ev d m pc al st h = some (v, h) := ev_ret ((zstep_of hd).trans hs)
theorem ev_go {i : Instr} {len k : Nat} {as rs : List Value} (hd : decode (zb m) pc = .ok (i, len)) (hs : zdo m pc i len al st h = some (.inr (.inl (k, as, rs)))) : ev (d + 1) m pc al st h = (ev d k 0 (zentry k as) [] h).bind fun q => ev (d + 1) m (pc + 3) al (q.1.toList ++ rs) q.2 := ev_call ((zstep_of hd).trans hs)
theorem ev_iconst {n : Int} (v : Int32) (hd : decode (zb m) pc = .ok (.iconst n, 1)) (hv : Int32.ofInt n = v) : ev d m pc al st h = ev d m (pc + 1) al (.int v :: st) h := by
  subst hv
  exact ev_step hd rfl
theorem ev_bipush {n : Int} (v : Int32) (hd : decode (zb m) pc = .ok (.bipush n, 2)) (hv : (Int8.ofInt n).toInt32 = v) : ev d m pc al st h = ev d m (pc + 2) al (.int v :: st) h := by
  subst hv
  exact ev_step hd rfl
theorem ev_sipush {n : Int} (v : Int32) (hd : decode (zb m) pc = .ok (.sipush n, 3)) (hv : (Int16.ofInt n).toInt32 = v) : ev d m pc al st h = ev d m (pc + 3) al (.int v :: st) h := by
  subst hv
  exact ev_step hd rfl
theorem ev_ldc {n : Nat} (v : Int32) (hd : decode (zb m) pc = .ok (.ldc n, 2)) (hv : zcon (zcl m) n = some v) : ev d m pc al st h = ev d m (pc + 2) al (.int v :: st) h := ev_step hd (by simp only [zdo, hv]; rfl)
theorem ev_ldc_w {n : Nat} (v : Int32) (hd : decode (zb m) pc = .ok (.ldc_w n, 3)) (hv : zcon (zcl m) n = some v) : ev d m pc al st h = ev d m (pc + 3) al (.int v :: st) h := ev_step hd (by simp only [zdo, hv]; rfl)
theorem ev_iload_n {k : Fin 4} (hd : decode (zb m) pc = .ok (.iload_n k, 1)) (hl : zld al k = some (.int x)) : ev d m pc al st h = ev d m (pc + 1) al (.int x :: st) h := ev_step hd (by simp only [zdo, zload, hl]; rfl)
theorem ev_aload_n {k : Fin 4} {a : Nat} (hd : decode (zb m) pc = .ok (.aload_n k, 1)) (hl : zld al k = some (.ref a)) : ev d m pc al st h = ev d m (pc + 1) al (.ref a :: st) h := ev_step hd (by simp only [zdo, zloada, hl]; rfl)
theorem ev_sload_n {k : Fin 4} {a : UInt32} (hd : decode (zb m) pc = .ok (.aload_n k, 1)) (hl : zld al k = some (.float a)) : ev d m pc al st h = ev d m (pc + 1) al (.float a :: st) h := ev_step hd (by simp only [zdo, zloada, hl]; rfl)
theorem ev_istore_n {k : Fin 4} (hd : decode (zb m) pc = .ok (.istore_n k, 1)) (hl : zst1 m al k (.int x) = some al') : ev d m pc al (.int x :: st) h = ev d m (pc + 1) al' st h := ev_step hd (by simp only [zdo, zstore, hl]; rfl)
theorem ev_astore_n {k : Fin 4} {a : Nat} (hd : decode (zb m) pc = .ok (.astore_n k, 1)) (hl : zst1 m al k (.ref a) = some al') : ev d m pc al (.ref a :: st) h = ev d m (pc + 1) al' st h := ev_step hd (by simp only [zdo, zstorea, hl]; rfl)
theorem ev_iload {k : Nat} (hd : decode (zb m) pc = .ok (.iload k, 2)) (hl : zld al k = some (.int x)) : ev d m pc al st h = ev d m (pc + 2) al (.int x :: st) h := ev_step hd (by simp only [zdo, zload, hl]; rfl)
theorem ev_aload {k : Nat} {a : Nat} (hd : decode (zb m) pc = .ok (.aload k, 2)) (hl : zld al k = some (.ref a)) : ev d m pc al st h = ev d m (pc + 2) al (.ref a :: st) h := ev_step hd (by simp only [zdo, zloada, hl]; rfl)
theorem ev_sload {k : Nat} {a : UInt32} (hd : decode (zb m) pc = .ok (.aload k, 2)) (hl : zld al k = some (.float a)) : ev d m pc al st h = ev d m (pc + 2) al (.float a :: st) h := ev_step hd (by simp only [zdo, zloada, hl]; rfl)
theorem ev_istore {k : Nat} (hd : decode (zb m) pc = .ok (.istore k, 2)) (hl : zst1 m al k (.int x) = some al') : ev d m pc al (.int x :: st) h = ev d m (pc + 2) al' st h := ev_step hd (by simp only [zdo, zstore, hl]; rfl)
theorem ev_astore {k : Nat} {a : Nat} (hd : decode (zb m) pc = .ok (.astore k, 2)) (hl : zst1 m al k (.ref a) = some al') : ev d m pc al (.ref a :: st) h = ev d m (pc + 2) al' st h := ev_step hd (by simp only [zdo, zstorea, hl]; rfl)
theorem ev_iadd (hd : decode (zb m) pc = .ok (.iadd, 1)) : ev d m pc al (.int y :: .int x :: st) h = ev d m (pc + 1) al (.int (x + y) :: st) h := ev_step hd rfl
theorem ev_isub (hd : decode (zb m) pc = .ok (.isub, 1)) : ev d m pc al (.int y :: .int x :: st) h = ev d m (pc + 1) al (.int (x - y) :: st) h := ev_step hd rfl
theorem ev_imul (hd : decode (zb m) pc = .ok (.imul, 1)) : ev d m pc al (.int y :: .int x :: st) h = ev d m (pc + 1) al (.int (x * y) :: st) h := ev_step hd rfl
theorem ev_iand (hd : decode (zb m) pc = .ok (.iand, 1)) : ev d m pc al (.int y :: .int x :: st) h = ev d m (pc + 1) al (.int (x &&& y) :: st) h := ev_step hd rfl
theorem ev_ior (hd : decode (zb m) pc = .ok (.ior, 1)) : ev d m pc al (.int y :: .int x :: st) h = ev d m (pc + 1) al (.int (x ||| y) :: st) h := ev_step hd rfl
theorem ev_ishl (hd : decode (zb m) pc = .ok (.ishl, 1)) : ev d m pc al (.int y :: .int x :: st) h = ev d m (pc + 1) al (.int (x <<< (y &&& 31)) :: st) h := ev_step hd rfl
theorem ev_ishr (hd : decode (zb m) pc = .ok (.ishr, 1)) : ev d m pc al (.int y :: .int x :: st) h = ev d m (pc + 1) al (.int (x >>> (y &&& 31)) :: st) h := ev_step hd rfl
theorem ev_idiv (hd : decode (zb m) pc = .ok (.idiv, 1)) (hy : ¬ y = 0) : ev d m pc al (.int y :: .int x :: st) h = ev d m (pc + 1) al (.int (x / y) :: st) h := ev_step hd (by simp only [zdo, zarith]; rw [if_neg hy]; rfl)
theorem ev_irem (hd : decode (zb m) pc = .ok (.irem, 1)) (hy : ¬ y = 0) : ev d m pc al (.int y :: .int x :: st) h = ev d m (pc + 1) al (.int (x - x / y * y) :: st) h := ev_step hd (by simp only [zdo, zarith]; rw [if_neg hy]; rfl)
theorem ev_i2c (hd : decode (zb m) pc = .ok (.i2c, 1)) : ev d m pc al (.int x :: st) h = ev d m (pc + 1) al (.int (x.toUInt32 % 65536).toInt32 :: st) h := ev_step hd rfl
theorem ev_i2l (hd : decode (zb m) pc = .ok (.i2l, 1)) : ev d m pc al (.int x :: st) h = ev d m (pc + 1) al (.long x.toInt64 :: st) h := ev_step hd rfl
theorem ev_ladd {a b : Int64} (hd : decode (zb m) pc = .ok (.ladd, 1)) : ev d m pc al (.long b :: .long a :: st) h = ev d m (pc + 1) al (.long (a + b) :: st) h := ev_step hd rfl
theorem ev_lmul {a b : Int64} (hd : decode (zb m) pc = .ok (.lmul, 1)) : ev d m pc al (.long b :: .long a :: st) h = ev d m (pc + 1) al (.long (a * b) :: st) h := ev_step hd rfl
theorem ev_lcmp {a b : Int64} (hd : decode (zb m) pc = .ok (.lcmp, 1)) : ev d m pc al (.long b :: .long a :: st) h = ev d m (pc + 1) al (.int (lg_cmp a b) :: st) h := ev_step hd rfl
theorem ev_ldc2_w {n : Nat} (v : Int64) (hd : decode (zb m) pc = .ok (.ldc2_w n, 3)) (hv : zcoL (zcl m) n = some v) : ev d m pc al st h = ev d m (pc + 3) al (.long v :: st) h := ev_step hd (by simp only [zdo, hv]; rfl)
theorem ev_lload {k : Nat} {a : Int64} (hd : decode (zb m) pc = .ok (.lload k, 2)) (hl : zld al k = some (.long a)) : ev d m pc al st h = ev d m (pc + 2) al (.long a :: st) h := ev_step hd (by simp only [zdo, hl]; rfl)
theorem ev_lload_n {k : Fin 4} {a : Int64} (hd : decode (zb m) pc = .ok (.lload_n k, 1)) (hl : zld al k = some (.long a)) : ev d m pc al st h = ev d m (pc + 1) al (.long a :: st) h := ev_step hd (by simp only [zdo, hl]; rfl)
theorem ev_lstore {k : Nat} {a : Int64} (hd : decode (zb m) pc = .ok (.lstore k, 2)) (hl : zst2 m al k (.long a) = some al') : ev d m pc al (.long a :: st) h = ev d m (pc + 2) al' st h := ev_step hd (by simp only [zdo, hl]; rfl)
theorem ev_lstore_n {k : Fin 4} {a : Int64} (hd : decode (zb m) pc = .ok (.lstore_n k, 1)) (hl : zst2 m al k (.long a) = some al') : ev d m pc al (.long a :: st) h = ev d m (pc + 1) al' st h := ev_step hd (by simp only [zdo, hl]; rfl)
theorem ev_dup {v : Value} (hd : decode (zb m) pc = .ok (.dup, 1)) (hv : v.category = 1) : ev d m pc al (v :: st) h = ev d m (pc + 1) al (v :: v :: st) h := ev_step hd (by simp only [zdo, decide_eq_true hv]; rfl)
theorem ev_dup2 {v w : Value} (hd : decode (zb m) pc = .ok (.dup2, 1)) (hv : v.category = 1) (hw : w.category = 1) : ev d m pc al (v :: w :: st) h = ev d m (pc + 1) al (v :: w :: v :: w :: st) h := ev_step hd (by simp only [zdo, decide_eq_true hv, decide_eq_true hw]; rfl)
theorem ev_pop {v : Value} (hd : decode (zb m) pc = .ok (.pop, 1)) (hv : v.category = 1) : ev d m pc al (v :: st) h = ev d m (pc + 1) al st h := ev_step hd (by simp only [zdo, decide_eq_true hv]; rfl)
theorem ev_iinc {k : Nat} {n : Int} (v : Int32) (hd : decode (zb m) pc = .ok (.iinc k n, 3)) (hv : Int32.ofInt n = v) (hl : zld al k = some (.int x)) (hs : zst1 m al k (.int (x + v)) = some al') : ev d m pc al st h = ev d m (pc + 3) al' st h := by
  subst hv
  exact ev_step hd (by simp only [zdo, hl, hs]; rfl)
theorem ev_goto {off : Int} (t : Nat) (hd : decode (zb m) pc = .ok (.goto off, 3)) (ht : (decide (0 ≤ (pc : Int) + off) && decide (((pc : Int) + off).toNat = t)) = true) : ev d m pc al st h = ev d m t al st h := by
  rw [Bool.and_eq_true, decide_eq_true_eq, decide_eq_true_eq] at ht
  obtain ⟨h1, rfl⟩ := ht
  exact ev_step hd (by simp only [zdo, ztg, if_pos h1]; rfl)
theorem ev_icmp_eq {off : Int} (t : Nat) (hd : decode (zb m) pc = .ok (.if_icmp .eq off, 3)) (ht : (decide (0 ≤ (pc : Int) + off) && decide (((pc : Int) + off).toNat = t)) = true) : ev d m pc al (.int y :: .int x :: st) h = if x = y then ev d m t al st h else ev d m (pc + 3) al st h := by
  rw [Bool.and_eq_true, decide_eq_true_eq, decide_eq_true_eq] at ht
  obtain ⟨h1, rfl⟩ := ht
  by_cases hc : x = y
  · rw [if_pos hc]
    exact ev_step hd (by simp [zdo, zq, h1, zcond, hc])
  · rw [if_neg hc]
    exact ev_step hd (by simp [zdo, zq, h1, zcond, hc])
theorem ev_if_eq {off : Int} (t : Nat) (hd : decode (zb m) pc = .ok (.ifCond .eq off, 3)) (ht : (decide (0 ≤ (pc : Int) + off) && decide (((pc : Int) + off).toNat = t)) = true) : ev d m pc al (.int x :: st) h = if x = 0 then ev d m t al st h else ev d m (pc + 3) al st h := by
  rw [Bool.and_eq_true, decide_eq_true_eq, decide_eq_true_eq] at ht
  obtain ⟨h1, rfl⟩ := ht
  by_cases hc : x = 0
  · rw [if_pos hc]
    exact ev_step hd (by simp [zdo, zq, h1, zcond, hc])
  · rw [if_neg hc]
    exact ev_step hd (by simp [zdo, zq, h1, zcond, hc])
theorem ev_icmp_ne {off : Int} (t : Nat) (hd : decode (zb m) pc = .ok (.if_icmp .ne off, 3)) (ht : (decide (0 ≤ (pc : Int) + off) && decide (((pc : Int) + off).toNat = t)) = true) : ev d m pc al (.int y :: .int x :: st) h = if x = y then ev d m (pc + 3) al st h else ev d m t al st h := by
  rw [Bool.and_eq_true, decide_eq_true_eq, decide_eq_true_eq] at ht
  obtain ⟨h1, rfl⟩ := ht
  by_cases hc : x = y
  · rw [if_pos hc]
    exact ev_step hd (by simp [zdo, zq, h1, zcond, hc])
  · rw [if_neg hc]
    exact ev_step hd (by simp [zdo, zq, h1, zcond, hc])
theorem ev_if_ne {off : Int} (t : Nat) (hd : decode (zb m) pc = .ok (.ifCond .ne off, 3)) (ht : (decide (0 ≤ (pc : Int) + off) && decide (((pc : Int) + off).toNat = t)) = true) : ev d m pc al (.int x :: st) h = if x = 0 then ev d m (pc + 3) al st h else ev d m t al st h := by
  rw [Bool.and_eq_true, decide_eq_true_eq, decide_eq_true_eq] at ht
  obtain ⟨h1, rfl⟩ := ht
  by_cases hc : x = 0
  · rw [if_pos hc]
    exact ev_step hd (by simp [zdo, zq, h1, zcond, hc])
  · rw [if_neg hc]
    exact ev_step hd (by simp [zdo, zq, h1, zcond, hc])
theorem ev_icmp_lt {off : Int} (t : Nat) (hd : decode (zb m) pc = .ok (.if_icmp .lt off, 3)) (ht : (decide (0 ≤ (pc : Int) + off) && decide (((pc : Int) + off).toNat = t)) = true) : ev d m pc al (.int y :: .int x :: st) h = if x < y then ev d m t al st h else ev d m (pc + 3) al st h := by
  rw [Bool.and_eq_true, decide_eq_true_eq, decide_eq_true_eq] at ht
  obtain ⟨h1, rfl⟩ := ht
  by_cases hc : x < y
  · rw [if_pos hc]
    exact ev_step hd (by simp [zdo, zq, h1, zcond, hc])
  · rw [if_neg hc]
    exact ev_step hd (by simp [zdo, zq, h1, zcond, hc])
theorem ev_if_lt {off : Int} (t : Nat) (hd : decode (zb m) pc = .ok (.ifCond .lt off, 3)) (ht : (decide (0 ≤ (pc : Int) + off) && decide (((pc : Int) + off).toNat = t)) = true) : ev d m pc al (.int x :: st) h = if x < 0 then ev d m t al st h else ev d m (pc + 3) al st h := by
  rw [Bool.and_eq_true, decide_eq_true_eq, decide_eq_true_eq] at ht
  obtain ⟨h1, rfl⟩ := ht
  by_cases hc : x < 0
  · rw [if_pos hc]
    exact ev_step hd (by simp [zdo, zq, h1, zcond, hc])
  · rw [if_neg hc]
    exact ev_step hd (by simp [zdo, zq, h1, zcond, hc])
theorem ev_icmp_ge {off : Int} (t : Nat) (hd : decode (zb m) pc = .ok (.if_icmp .ge off, 3)) (ht : (decide (0 ≤ (pc : Int) + off) && decide (((pc : Int) + off).toNat = t)) = true) : ev d m pc al (.int y :: .int x :: st) h = if y ≤ x then ev d m t al st h else ev d m (pc + 3) al st h := by
  rw [Bool.and_eq_true, decide_eq_true_eq, decide_eq_true_eq] at ht
  obtain ⟨h1, rfl⟩ := ht
  by_cases hc : y ≤ x
  · rw [if_pos hc]
    exact ev_step hd (by simp [zdo, zq, h1, zcond, hc])
  · rw [if_neg hc]
    exact ev_step hd (by simp [zdo, zq, h1, zcond, hc])
theorem ev_if_ge {off : Int} (t : Nat) (hd : decode (zb m) pc = .ok (.ifCond .ge off, 3)) (ht : (decide (0 ≤ (pc : Int) + off) && decide (((pc : Int) + off).toNat = t)) = true) : ev d m pc al (.int x :: st) h = if 0 ≤ x then ev d m t al st h else ev d m (pc + 3) al st h := by
  rw [Bool.and_eq_true, decide_eq_true_eq, decide_eq_true_eq] at ht
  obtain ⟨h1, rfl⟩ := ht
  by_cases hc : 0 ≤ x
  · rw [if_pos hc]
    exact ev_step hd (by simp [zdo, zq, h1, zcond, hc])
  · rw [if_neg hc]
    exact ev_step hd (by simp [zdo, zq, h1, zcond, hc])
theorem ev_icmp_gt {off : Int} (t : Nat) (hd : decode (zb m) pc = .ok (.if_icmp .gt off, 3)) (ht : (decide (0 ≤ (pc : Int) + off) && decide (((pc : Int) + off).toNat = t)) = true) : ev d m pc al (.int y :: .int x :: st) h = if y < x then ev d m t al st h else ev d m (pc + 3) al st h := by
  rw [Bool.and_eq_true, decide_eq_true_eq, decide_eq_true_eq] at ht
  obtain ⟨h1, rfl⟩ := ht
  by_cases hc : y < x
  · rw [if_pos hc]
    exact ev_step hd (by simp [zdo, zq, h1, zcond, hc])
  · rw [if_neg hc]
    exact ev_step hd (by simp [zdo, zq, h1, zcond, hc])
theorem ev_if_gt {off : Int} (t : Nat) (hd : decode (zb m) pc = .ok (.ifCond .gt off, 3)) (ht : (decide (0 ≤ (pc : Int) + off) && decide (((pc : Int) + off).toNat = t)) = true) : ev d m pc al (.int x :: st) h = if 0 < x then ev d m t al st h else ev d m (pc + 3) al st h := by
  rw [Bool.and_eq_true, decide_eq_true_eq, decide_eq_true_eq] at ht
  obtain ⟨h1, rfl⟩ := ht
  by_cases hc : 0 < x
  · rw [if_pos hc]
    exact ev_step hd (by simp [zdo, zq, h1, zcond, hc])
  · rw [if_neg hc]
    exact ev_step hd (by simp [zdo, zq, h1, zcond, hc])
theorem ev_icmp_le {off : Int} (t : Nat) (hd : decode (zb m) pc = .ok (.if_icmp .le off, 3)) (ht : (decide (0 ≤ (pc : Int) + off) && decide (((pc : Int) + off).toNat = t)) = true) : ev d m pc al (.int y :: .int x :: st) h = if x ≤ y then ev d m t al st h else ev d m (pc + 3) al st h := by
  rw [Bool.and_eq_true, decide_eq_true_eq, decide_eq_true_eq] at ht
  obtain ⟨h1, rfl⟩ := ht
  by_cases hc : x ≤ y
  · rw [if_pos hc]
    exact ev_step hd (by simp [zdo, zq, h1, zcond, hc])
  · rw [if_neg hc]
    exact ev_step hd (by simp [zdo, zq, h1, zcond, hc])
theorem ev_if_le {off : Int} (t : Nat) (hd : decode (zb m) pc = .ok (.ifCond .le off, 3)) (ht : (decide (0 ≤ (pc : Int) + off) && decide (((pc : Int) + off).toNat = t)) = true) : ev d m pc al (.int x :: st) h = if x ≤ 0 then ev d m t al st h else ev d m (pc + 3) al st h := by
  rw [Bool.and_eq_true, decide_eq_true_eq, decide_eq_true_eq] at ht
  obtain ⟨h1, rfl⟩ := ht
  by_cases hc : x ≤ 0
  · rw [if_pos hc]
    exact ev_step hd (by simp [zdo, zq, h1, zcond, hc])
  · rw [if_neg hc]
    exact ev_step hd (by simp [zdo, zq, h1, zcond, hc])
theorem ev_tableD {dflt lo hi : Int} {offs : Array Int} {len : Nat} (t : Nat) (hd : decode (zb m) pc = .ok (.tableswitch dflt lo hi offs, len)) (hx : x.toInt < lo ∨ hi < x.toInt) (ht : (decide (0 ≤ (pc : Int) + dflt) && decide (((pc : Int) + dflt).toNat = t)) = true) : ev d m pc al (.int x :: st) h = ev d m t al st h := by
  rw [Bool.and_eq_true, decide_eq_true_eq, decide_eq_true_eq] at ht
  obtain ⟨h1, rfl⟩ := ht
  exact ev_step hd (by simp only [zdo, if_pos hx, ztg, if_pos h1])
theorem ev_tableC {dflt lo hi off : Int} {offs : Array Int} {len : Nat} (t : Nat) (hd : decode (zb m) pc = .ok (.tableswitch dflt lo hi offs, len)) (hx : (decide (x.toInt < lo ∨ hi < x.toInt)) = false) (ho : offs[(x.toInt - lo).toNat]? = some off) (ht : (decide (0 ≤ (pc : Int) + off) && decide (((pc : Int) + off).toNat = t)) = true) : ev d m pc al (.int x :: st) h = ev d m t al st h := by
  rw [Bool.and_eq_true, decide_eq_true_eq, decide_eq_true_eq] at ht
  obtain ⟨h1, rfl⟩ := ht
  rw [decide_eq_false_iff_not] at hx
  exact ev_step hd (by simp only [zdo, if_neg hx, ho, Option.bind_some, ztg, if_pos h1])
theorem ev_lookup {dflt off : Int} {ps : Array (Int × Int)} {len : Nat} (t : Nat) (hd : decode (zb m) pc = .ok (.lookupswitch dflt ps, len)) (hp : (ps.toList.zip (ps.toList.drop 1)).all (fun (a, next) => a.1 < next.1) = true) (ho : Op.lookupswitch.offset ps.toList dflt x.toInt = off) (ht : (decide (0 ≤ (pc : Int) + off) && decide (((pc : Int) + off).toNat = t)) = true) : ev d m pc al (.int x :: st) h = ev d m t al st h := by
  rw [Bool.and_eq_true, decide_eq_true_eq, decide_eq_true_eq] at ht
  subst ho
  obtain ⟨h1, rfl⟩ := ht
  exact ev_step hd (by simp only [zdo, hp, zq, ztg, if_pos h1, if_true])
theorem ev_getfield {idx i ci k : Nat} (hd : decode (zb m) pc = .ok (.getfield idx, 3)) (hf : zfld (zcl m) idx = some (ci, k)) : ev d m pc al (.ref i :: st) h = (zgetf h i ci k).bind fun v => ev d m (pc + 3) al (v :: st) h := ev_opt (o := zgetf h i ci k) hd (by simp only [zdo, hf]; rfl)
theorem ev_putfield {idx i ci k : Nat} {v : Value} (hd : decode (zb m) pc = .ok (.putfield idx, 3)) (hf : zfld (zcl m) idx = some (ci, k)) (hv : zpf m ci k v = true) : ev d m pc al (v :: .ref i :: st) h = (zputf h i ci k v).bind fun h1 => ev d m (pc + 3) al st h1 := ev_opt (o := zputf h i ci k v) hd (by simp only [zdo, hf, Option.bind_some, hv]; rfl)
theorem ev_iaload {i : Nat} (hd : decode (zb m) pc = .ok (.iaload, 1)) : ev d m pc al (.int y :: .ref i :: st) h = (zald 0 h i y).bind fun x => ev d m (pc + 1) al (.int x :: st) h := ev_opt (o := zald 0 h i y) hd rfl
theorem ev_saload {i : UInt32} (hd : decode (zb m) pc = .ok (.iaload, 1)) (hy : zin y h.2.2.2.1 = true) : ev d m pc al (.int y :: .float i :: st) h = ev d m (pc + 1) al (.int (h.2.2.2.2 y.toNatClampNeg) :: st) h := ev_step hd (by simp only [zdo, hy]; rfl)
theorem ev_caload {i : Nat} (hd : decode (zb m) pc = .ok (.caload, 1)) : ev d m pc al (.int y :: .ref i :: st) h = (zald 1 h i y).bind fun x => ev d m (pc + 1) al (.int x :: st) h := ev_opt (o := zald 1 h i y) hd rfl
theorem ev_aaload {i : Nat} (hd : decode (zb m) pc = .ok (.aaload, 1)) : ev d m pc al (.int y :: .ref i :: st) h = (zaldq h i y).bind fun x => ev d m (pc + 1) al (.ref x :: st) h := ev_opt (o := zaldq h i y) hd rfl
theorem ev_iastore {i : Nat} (hd : decode (zb m) pc = .ok (.iastore, 1)) : ev d m pc al (.int x :: .int y :: .ref i :: st) h = (zasti h i y x).bind fun h1 => ev d m (pc + 1) al st h1 := ev_opt (o := zasti h i y x) hd rfl
theorem ev_castore {i : Nat} (hd : decode (zb m) pc = .ok (.castore, 1)) : ev d m pc al (.int x :: .int y :: .ref i :: st) h = (zastc h i y x).bind fun h1 => ev d m (pc + 1) al st h1 := ev_opt (o := zastc h i y x) hd rfl
theorem ev_aastore {i a : Nat} (hd : decode (zb m) pc = .ok (.aastore, 1)) : ev d m pc al (.ref a :: .int y :: .ref i :: st) h = (zastq h i y a).bind fun h1 => ev d m (pc + 1) al st h1 := ev_opt (o := zastq h i y a) hd rfl
theorem ev_arraylength {i : Nat} (hd : decode (zb m) pc = .ok (.arraylength, 1)) : ev d m pc al (.ref i :: st) h = (zlen h i).bind fun x => ev d m (pc + 1) al (.int x :: st) h := ev_opt (o := zlen h i) hd rfl
theorem ev_slength {i : UInt32} (hd : decode (zb m) pc = .ok (.arraylength, 1)) : ev d m pc al (.float i :: st) h = ev d m (pc + 1) al (.int (Int32.ofNat h.2.2.2.1) :: st) h := ev_step hd rfl
theorem ev_new {idx : Nat} (ci : Nat) (hd : decode (zb m) pc = .ok (.new idx, 3)) (hn : znew (zcl m) idx = some ci) (hp : (zblank ci).all zplain = true) : ev d m pc al st h = ev d m (pc + 3) al (.ref h.1 :: st) (zpush h (zblank ci).length (.inr (.inr (ci, zblank ci)))) := ev_step hd (by simp only [zdo, hn, Option.bind_some, hp]; rfl)
theorem ev_newi (hd : decode (zb m) pc = .ok (.newarray .int, 2)) (hn : (!decide (x < 0) && decide (x.toNatClampNeg ≤ 1000)) = true) : ev d m pc al (.int x :: st) h = ev d m (pc + 2) al (.ref h.1 :: st) (zpush h x.toNatClampNeg (.inl (0, x.toNatClampNeg, fun _ => 0))) := ev_step hd (by simp only [zdo, hn]; rfl)
theorem ev_newc (hd : decode (zb m) pc = .ok (.newarray .char, 2)) (hn : (!decide (x < 0) && decide (x.toNatClampNeg ≤ 1000)) = true) : ev d m pc al (.int x :: st) h = ev d m (pc + 2) al (.ref h.1 :: st) (zpush h x.toNatClampNeg (.inl (1, x.toNatClampNeg, fun _ => 0))) := ev_step hd (by simp only [zdo, hn]; rfl)
theorem ev_newq {idx : Nat} (hd : decode (zb m) pc = .ok (.anewarray idx, 3)) (hn : (!decide (x < 0) && decide (x.toNatClampNeg ≤ 1000) && zanew (zcl m) idx) = true) : ev d m pc al (.int x :: st) h = ev d m (pc + 3) al (.ref h.1 :: st) (zpush h x.toNatClampNeg (.inr (.inl (x.toNatClampNeg, fun _ => none)))) := ev_step hd (by simp only [zdo, hn]; rfl)
theorem ev_callV {idx k n b : Nat} {st r : List Value} {al0 : List (Option Value)} (hd : decode (zb m) pc = .ok (.invokevirtual idx, 3)) (hc : zcall (zcl m) idx = some (0, k, n)) (h1 : st.drop n = .ref b :: r) (h2 : (decide (n ≤ st.length) && (st.take n).all zarg && zrest r) = true) (h3 : zis h b (zci (zcl k)) = true) (h4 : (decide (n + 1 ≤ zml k) && decide (zcl k ≠ 7) && decide (zcl k < 9)) = true) (h5 : zentry k (.ref b :: (st.take n).reverse) = al0) : ev (d + 1) m pc al st h = (ev d k 0 al0 [] h).bind fun q => ev (d + 1) m (pc + 3) al (q.1.toList ++ r) q.2 := by
  subst h5
  simp only [Bool.and_eq_true] at h2 h4
  exact ev_go hd (by simp only [zdo, hc, zcallV, h1, zq, h2.1.1, h2.1.2, h2.2, h3, h4.1.1, h4.1.2, h4.2, Bool.and_self, if_true, beq_self_eq_true])
theorem ev_callI {idx k n b kind : Nat} {st r : List Value} {al0 : List (Option Value)} (hd : decode (zb m) pc = .ok (.invokespecial idx, 3)) (hc : zcall (zcl m) idx = some (kind, k, n)) (hk : kind = 2 ∨ kind = 4) (h1 : st.drop n = .ref b :: r) (h2 : (decide (n ≤ st.length) && (st.take n).all zarg && zrest r) = true) (h3 : zis h b (zci (zcl k)) = true) (h4 : (decide (n + 1 ≤ zml k) && decide (zcl k ≠ 7) && decide (zcl k < 9)) = true) (h5 : zentry k (.ref b :: (st.take n).reverse) = al0) : ev (d + 1) m pc al st h = (ev d k 0 al0 [] h).bind fun q => ev (d + 1) m (pc + 3) al (q.1.toList ++ r) q.2 := by
  subst h5
  simp only [Bool.and_eq_true] at h2 h4
  rcases hk with rfl | rfl <;> exact ev_go hd (by simp only [zdo, zspecial, hc, zcallV, h1, zq, h2.1.1, h2.1.2, h2.2, h3, h4.1.1, h4.1.2, h4.2, Bool.and_self, if_true, beq_self_eq_true])
theorem ev_callS {idx k n kind : Nat} {st r : List Value} {al0 : List (Option Value)} (hd : decode (zb m) pc = .ok (.invokestatic idx, 3)) (hc : zcall (zcl m) idx = some (kind, k, n)) (hk : kind = 1 ∨ kind = 3) (h1 : st.drop n = r) (h2 : (decide (n ≤ st.length) && (st.take n).all zarg && zrest r && decide (n ≤ zml k)) = true) (h5 : zentry k (st.take n).reverse = al0) : ev (d + 1) m pc al st h = (ev d k 0 al0 [] h).bind fun q => ev (d + 1) m (pc + 3) al (q.1.toList ++ r) q.2 := by
  subst h5
  subst h1
  rcases hk with rfl | rfl <;> exact ev_go hd (by simp only [zdo, zstatic, hc, zcallS, zq, h2, if_true, beq_self_eq_true])
theorem ev_objinit {idx a b q : Nat} (hd : decode (zb m) pc = .ok (.invokespecial idx, 3)) (hc : zcall (zcl m) idx = some (5, b, q)) (hr : zrest st = true) : ev d m pc al (.ref a :: st) h = ev d m (pc + 3) al st h := ev_step hd (by simp only [zdo, zspecial, hc, hr]; rfl)
theorem ev_max {idx b q : Nat} (hd : decode (zb m) pc = .ok (.invokestatic idx, 3)) (hc : zcall (zcl m) idx = some (6, b, q)) (hr : zrest st = true) : ev d m pc al (.int y :: .int x :: st) h = ev d m (pc + 3) al (.int (if x < y then y else x) :: st) h := ev_step hd (by simp only [zdo, zstatic, hc, hr]; rfl)
theorem ev_min {idx b q : Nat} (hd : decode (zb m) pc = .ok (.invokestatic idx, 3)) (hc : zcall (zcl m) idx = some (7, b, q)) (hr : zrest st = true) : ev d m pc al (.int y :: .int x :: st) h = ev d m (pc + 3) al (.int (if y < x then y else x) :: st) h := ev_step hd (by simp only [zdo, zstatic, hc, hr]; rfl)
theorem ev_copy {idx b q i0 i1 : Nat} {sp dp n : Int32} (hd : decode (zb m) pc = .ok (.invokestatic idx, 3)) (hc : zcall (zcl m) idx = some (8, b, q)) (hr : zrest st = true) : ev d m pc al (.int n :: .int dp :: .ref i1 :: .int sp :: .ref i0 :: st) h = (zcopy h i0 sp i1 dp n).bind fun h1 => ev d m (pc + 3) al st h1 := ev_opt (o := zcopy h i0 sp i1 dp n) hd (by simp only [zdo, zstatic, hc, hr]; rfl)
theorem ev_ireturn {ty : FieldType} (hd : decode (zb m) pc = .ok (.ireturn, 1)) (hr : zret m = some ty) (hn : narrow ty (.int x) = .int x) : ev d m pc al [.int x] h = some (some (.int x), h) := ev_end hd (by simp only [zdo, hr, if_pos hn]; rfl)
theorem ev_areturn {a : Nat} {C : String} (hd : decode (zb m) pc = .ok (.areturn, 1)) (hr : zret m = some (.object C)) : ev d m pc al [.ref a] h = some (some (.ref a), h) := ev_end hd (by simp only [zdo, hr]; rfl)
theorem ev_lreturn {a : Int64} (hd : decode (zb m) pc = .ok (.lreturn, 1)) (hr : zret m = some .long) : ev d m pc al [.long a] h = some (some (.long a), h) := ev_end hd (by simp only [zdo, hr]; rfl)
theorem ev_return (hd : decode (zb m) pc = .ok (.return_, 1)) (hr : zret m = none) : ev d m pc al [] h = some (none, h) := ev_end hd (by simp only [zdo, hr]; rfl)
theorem z_nb {x : Int32} (h : x = 0 ∨ x = 1) : narrow .boolean (.int x) = .int x := by rcases h with rfl | rfl <;> rfl
end EV
