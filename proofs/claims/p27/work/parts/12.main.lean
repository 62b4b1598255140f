/-- a step that is no call -/
def znc (o : zO) : Prop := ∀ x, o ≠ some (.inr (.inl x))
theorem znc.none : znc none := fun x e => by cases e
theorem znc.q {b : Bool} {o : zO} (k : znc o) : znc (zq b o) := fun r e => k r (zq_some (α := Nat) e).2
theorem znc.bind {α : Type} {x : Option α} {f : α → zO} (k : ∀ a, x = some a → znc (f a)) : znc (x.bind f) := fun r e => by
  obtain ⟨a, h1, h2⟩ := zb_some e
  exact k a h1 r h2
theorem znc.n {h1 : zH} {pc : Nat} {al : List (Option Value)} {st : List Value} : znc (zn pc al st h1) := fun r e => by unfold zn at e; cases e
theorem znc.t {h1 : zH} {pc : Nat} {off : Int} {al : List (Option Value)} {st : List Value} : znc (ztg pc off al st h1) := fun r e => by
  unfold ztg zn at e
  split at e <;> cases e
theorem znc.r {x : Option Value} : znc (some (.inr (.inr x))) := fun r e => by cases e
theorem zcallV_inl {k n : Nat} {st : List Value} {h : zH} {x : Nat × List Value × List Value} (e : zcallV k n st h = some (.inr (.inl x))) : ∃ b r, st.drop n = .ref b :: r ∧ n ≤ st.length ∧ (st.take n).all zarg = true ∧ zrest r = true ∧ zis h b (zci (zcl k)) = true ∧ n + 1 ≤ zml k ∧ zcl k ≠ 7 ∧ zcl k < 9 ∧ x = (k, .ref b :: (st.take n).reverse, r) := by
  unfold zcallV at e
  split at e
  · rename_i b r hd
    obtain ⟨hq, e⟩ := zq_some (α := Nat) e
    simp only [Bool.and_eq_true, decide_eq_true_eq] at hq
    cases e
    exact ⟨b, r, hd, hq.1.1.1.1.1.1, hq.1.1.1.1.1.2, hq.1.1.1.1.2, hq.1.1.1.2, hq.1.1.2, hq.1.2, hq.2, rfl⟩
  · cases e
theorem zcallS_inl {k n : Nat} {st : List Value} {x : Nat × List Value × List Value} (e : zcallS k n st = some (.inr (.inl x))) : n ≤ st.length ∧ (st.take n).all zarg = true ∧ zrest (st.drop n) = true ∧ n ≤ zml k ∧ x = (k, (st.take n).reverse, st.drop n) := by
  unfold zcallS at e
  obtain ⟨hq, e⟩ := zq_some (α := Nat) e
  simp only [Bool.and_eq_true, decide_eq_true_eq] at hq
  cases e
  exact ⟨hq.1.1.1, hq.1.1.2, hq.1.2, hq.2, rfl⟩
/-- the calls, told apart -/
theorem zstep_call {m pc : Nat} {al : List (Option Value)} {st : List Value} {h : zH} {x : Nat × List Value × List Value} (hs : zstep m pc al st h = some (.inr (.inl x))) :
    (∃ i n, decode (zb m) pc = .ok (.invokevirtual i, 3) ∧ zcall (zcl m) i = some (0, x.1, n) ∧ zcallV x.1 n st h = some (.inr (.inl x))) ∨
    (∃ i n, decode (zb m) pc = .ok (.invokestatic i, 3) ∧ zcall (zcl m) i = some (1, x.1, n) ∧ zcallS x.1 n st = some (.inr (.inl x))) ∨
    (∃ i n, decode (zb m) pc = .ok (.invokestatic i, 3) ∧ zcall (zcl m) i = some (3, x.1, n) ∧ zcallS x.1 n st = some (.inr (.inl x))) ∨
    (∃ i n, decode (zb m) pc = .ok (.invokespecial i, 3) ∧ zcall (zcl m) i = some (2, x.1, n) ∧ zcallV x.1 n st h = some (.inr (.inl x))) ∨
    (∃ i n, decode (zb m) pc = .ok (.invokespecial i, 3) ∧ zcall (zcl m) i = some (4, x.1, n) ∧ zcallV x.1 n st h = some (.inr (.inl x))) := by
  unfold zstep at hs
  split at hs
  · rename_i i len hd
    have key : (∀ q, i ≠ .invokevirtual q) → (∀ q, i ≠ .invokestatic q) → (∀ q, i ≠ .invokespecial q) → znc (zdo m pc i len al st h) := by
      intro g1 g2 g3
      cases i <;> simp only [zdo, zload, zloada, zstore, zstorea, zarith]
      all_goals repeat' first
        | exact znc.none
        | exact znc.r
        | exact znc.n
        | exact znc.t
        | (exact absurd rfl (g1 _))
        | (exact absurd rfl (g2 _))
        | (exact absurd rfl (g3 _))
        | apply znc.q
        | (apply znc.bind; intro a ha)
        | split
    by_cases g1 : ∃ q, i = .invokevirtual q
    · obtain ⟨q, rfl⟩ := g1
      have hq0 := zq_some (α := Nat) hs
      clear hs
      obtain ⟨hl, hs⟩ := hq0
      cases beq_iff_eq.mp hl
      split at hs
      · rename_i k n hc
        have hs2 := hs
        obtain ⟨b, r, -, -, -, -, -, -, -, -, rfl⟩ := zcallV_inl hs
        exact Or.inl ⟨q, n, hd, hc, hs2⟩
      · cases hs
    · by_cases g2 : ∃ q, i = .invokestatic q
      · obtain ⟨q, rfl⟩ := g2
        have hq0 := zq_some (α := Nat) hs
        clear hs
        obtain ⟨hl, hs⟩ := hq0
        cases beq_iff_eq.mp hl
        unfold zstatic at hs
        split at hs
        · rename_i k n hc
          have hs2 := hs
          obtain ⟨-, -, -, -, rfl⟩ := zcallS_inl hs
          exact Or.inr (Or.inl ⟨q, n, hd, hc, hs2⟩)
        · rename_i k n hc
          have hs2 := hs
          obtain ⟨-, -, -, -, rfl⟩ := zcallS_inl hs
          exact Or.inr (Or.inr (Or.inl ⟨q, n, hd, hc, hs2⟩))
        · split at hs
          · exact absurd hs (znc.q znc.n _)
          · cases hs
        · split at hs
          · exact absurd hs (znc.q znc.n _)
          · cases hs
        · split at hs
          · exact absurd hs (znc.bind (fun _ _ => znc.q znc.n) _)
          · cases hs
        · cases hs
      · by_cases g3 : ∃ q, i = .invokespecial q
        · obtain ⟨q, rfl⟩ := g3
          have hq0 := zq_some (α := Nat) hs
          clear hs
          obtain ⟨hl, hs⟩ := hq0
          cases beq_iff_eq.mp hl
          unfold zspecial at hs
          split at hs
          · rename_i k n hc
            have hs2 := hs
            obtain ⟨b, r, -, -, -, -, -, -, -, -, rfl⟩ := zcallV_inl hs
            exact Or.inr (Or.inr (Or.inr (Or.inl ⟨q, n, hd, hc, hs2⟩)))
          · rename_i k n hc
            have hs2 := hs
            obtain ⟨b, r, -, -, -, -, -, -, -, -, rfl⟩ := zcallV_inl hs
            exact Or.inr (Or.inr (Or.inr (Or.inr ⟨q, n, hd, hc, hs2⟩)))
          · split at hs
            · exact absurd hs (znc.q znc.n _)
            · cases hs
          · cases hs
        · exact absurd hs (key (fun q hq => g1 ⟨q, hq⟩) (fun q hq => g2 ⟨q, hq⟩) (fun q hq => g3 ⟨q, hq⟩) x)
  · cases hs
theorem zarg_all_rev {l : List Value} (h : l.all zarg = true) : l.reverse.all zarg = true := by
  rw [List.all_reverse]
  exact h
theorem zstep_args {m pc : Nat} {al : List (Option Value)} {st : List Value} {h : zH} {k : Nat} {as rs : List Value} (hs : zstep m pc al st h = some (.inr (.inl (k, as, rs)))) : as.all zarg = true ∧ as.length ≤ zml k ∧ k < 138 ∧ ∀ j, j < as.length → zwe k j = false := by
  have lt : ∀ {c i n kind : Nat}, zcall c i = some (kind, k, n) → kind < 5 → k < 138 := by
    intro c i n kind hc hk
    obtain ⟨ps, hp⟩ := zcall_ok hc
    match kind, hk with
    | 0, _ => simp only [zCk, Bool.and_eq_true, decide_eq_true_eq] at hp; exact hp.1.2
    | 1, _ => simp only [zCk, Bool.and_eq_true, decide_eq_true_eq] at hp; exact hp.1.2
    | 2, _ => simp only [zCk, Bool.and_eq_true, decide_eq_true_eq] at hp; exact hp.1.1.2
    | 3, _ => simp only [zCk, Bool.and_eq_true, decide_eq_true_eq] at hp; exact hp.1.2
    | 4, _ => simp only [zCk, Bool.and_eq_true, decide_eq_true_eq] at hp; exact hp.1.1.2
  rcases zstep_call hs with ⟨i, n, -, hc, e⟩ | ⟨i, n, -, hc, e⟩ | ⟨i, n, -, hc, e⟩ | ⟨i, n, -, hc, e⟩ | ⟨i, n, -, hc, e⟩
  · obtain ⟨b, r, h1, h2, h3, h4, h5, h6, h7, h8, e⟩ := zcallV_inl e
    cases e
    dsimp only at h6
    refine ⟨?_, by simp; omega, lt hc (by decide), fun j hj => zar_ok hc (by decide) (by simp at hj; omega)⟩
    rw [List.all_cons, zarg_all_rev h3]
    rfl
  · obtain ⟨h1, h2, h3, h4, e⟩ := zcallS_inl e
    cases e
    dsimp only at h4
    exact ⟨zarg_all_rev h2, by simp; omega, lt hc (by decide), fun j hj => zar_ok hc (by decide) (by simp at hj; omega)⟩
  · obtain ⟨h1, h2, h3, h4, e⟩ := zcallS_inl e
    cases e
    dsimp only at h4
    exact ⟨zarg_all_rev h2, by simp; omega, lt hc (by decide), fun j hj => zar_ok hc (by decide) (by simp at hj; omega)⟩
  · obtain ⟨b, r, h1, h2, h3, h4, h5, h6, h7, h8, e⟩ := zcallV_inl e
    cases e
    dsimp only at h6
    refine ⟨?_, by simp; omega, lt hc (by decide), fun j hj => zar_ok hc (by decide) (by simp at hj; omega)⟩
    rw [List.all_cons, zarg_all_rev h3]
    rfl
  · obtain ⟨b, r, h1, h2, h3, h4, h5, h6, h7, h8, e⟩ := zcallV_inl e
    cases e
    dsimp only at h6
    refine ⟨?_, by simp; omega, lt hc (by decide), fun j hj => zar_ok hc (by decide) (by simp at hj; omega)⟩
    rw [List.all_cons, zarg_all_rev h3]
    rfl
section ZM
variable {p : Program} {l : Launch} {e : Env} {R : Room} {s : State} {mth : MethodId} {args : Array Value} {below : List Frame} {meth : Method} {c : Code} {Q : State → Prop} {D : va_G} {y : zY} {A : Nat → Prop} {H0 : Heap} {ob : Option Nat} {m n0 s0 : Nat} {ad0 : List Nat}
variable {pc : Nat} {al : List (Option Value)} {st : List Value} {h : zH} {len : Nat}
theorem zs_call {k d : Nat} {as rs : List Value} {v : Option Value} {h1 : zH} (C : zCx p R s mth args meth c D y A H0 m) (hs : zstep m pc al st h = some (.inr (.inl (k, as, rs)))) (hM : zCt k d as h v h1) (hle : zle h h1) (hfr : d + 2 ≤ R.frames) (hlo : 64 * (d + 2) ≤ R.locals) (hb1 : h1.1 ≤ n0 + R.cells) (hb2 : h1.2.1 ≤ s0 + R.slots) (kk : zWg p l e R s mth args below meth c Q D y A H0 ob m n0 s0 ad0 (pc + 3, al, v.toList ++ rs, h1)) : zWg p l e R s mth args below meth c Q D y A H0 ob m n0 s0 ad0 (pc, al, st, h) := by
  intro ad ws H locs ls cst g1 g2 X
  show W p l e R s mth args below meth c H locs (h.1 - n0) (h.2.1 - s0) Q (F0 mth pc ls cst)
  dsimp only at g1 g2 X
  have X' := X
  obtain ⟨x1, x2, x3, x4, x5, x6, x7, x8⟩ := X'
  have hls := x5.1
  have hA : ∀ q, H0.size ≤ q → A q := C.2.2.2.2.2.2.1
  have hAA : ∀ q, va_A ws H.size q → A q := fun q hq => hq.elim (fun ⟨k, e, hk⟩ => x3.2 k (q, e) hk) (fun hq => hA q (Nat.le_trans x4.1 hq))
  have c1 : h.1 - n0 + (h1.1 - h.1) = h1.1 - n0 := by have := hle.1; omega
  have c2 : h.2.1 - s0 + (h1.2.1 - h.2.1) = h1.2.1 - s0 := by have := hle.2.1; omega
  have fin : ∀ (us : List Value) (st0 : List Value) (a : Array Value), zVs ad ob rs us → va_Run p l e R s mth args below meth c H locs (h.1 - n0) (h.2.1 - s0) (h1.1 - h.1) (h1.2.1 - h.2.1) (F0 mth pc ls st0) us (zQc D y ad (va_A ws H.size) v h1 a) (va_A ws H.size) → W p l e R s mth args below meth c H locs (h.1 - n0) (h.2.1 - s0) Q (F0 mth pc ls st0) := by
    intro us st0 a hus hr
    refine z_call hr (fun _ _ _ q => q.2) x4 hAA hAA (fun vc st1 t H1 locs1 e1 e2 hq hS => ?_)
    obtain ⟨⟨w, ad1, ws1, ew, hvo, hext, hHr1, hP1, hD1⟩, -⟩ := hq
    cases ew
    rw [e2] at hP1
    rw [c1, c2]
    refine kk ad1 ws1 H1 locs1 ls (vc.toList ++ us) (Nat.le_trans g1 hle.1) (Nat.le_trans g2 hle.2.1) ⟨hHr1, hP1, hD1.weaken (fun _ _ _ hq => hAA _ hq), hS, x5.ext hext, ?_, ?_, x8.tr hext⟩
    · have hus2 := hus.ext hext
      cases v with
      | none => cases hvo; exact hus2
      | some v =>
        obtain ⟨u, rfl, hu⟩ := hvo
        exact ⟨u, us, rfl, hu.weak, hus2⟩
    · intro b hb
      rw [hle.2.2]
      exact x7 b hb
  rcases zstep_call hs with ⟨i, n, hd, hc, e⟩ | ⟨i, n, hd, hc, e⟩ | ⟨i, n, hd, hc, e⟩ | ⟨i, n, hd, hc, e⟩ | ⟨i, n, hd, hc, e⟩
  · obtain ⟨b, r, h1', h2, h3, h4, h5, h6, h7, h8, e⟩ := zcallV_inl e
    cases e
    have hdrop := x6.drop (n := n)
    rw [h1'] at hdrop
    obtain ⟨w, us, ecs, ⟨b1, hb, rfl⟩, hus⟩ := hdrop
    have hcst : cst = (cst.take n).reverse.reverse ++ .ref b1 :: us := by rw [List.reverse_reverse, ← ecs, List.take_append_drop]
    rw [hcst]
    exact fin us _ _ hus (zs_vrun C hd hc hM x1 x2 x3 x4 x7 hls ⟨_, _, rfl, ⟨b1, hb, rfl⟩, (x6.take).rev⟩ (by have := x6.len; simp; omega) (zrest_ok h4 hus) (by omega) (by omega) hfr hlo h5 h7 h8)
  · obtain ⟨h1', h2, h3, h4, e⟩ := zcallS_inl e
    cases e
    have hus := x6.drop (n := n)
    have hcst : cst = (cst.take n).reverse.reverse ++ cst.drop n := by rw [List.reverse_reverse, List.take_append_drop]
    rw [hcst]
    exact fin _ _ _ hus (zs_srun C hd hc hM x1 x2 x3 x4 x7 hls (x6.take).rev (by have := x6.len; simp; omega) (zrest_ok h3 hus) (by omega) (by omega) hfr hlo)
  · obtain ⟨h1', h2, h3, h4, e⟩ := zcallS_inl e
    cases e
    have hus := x6.drop (n := n)
    have hcst : cst = (cst.take n).reverse.reverse ++ cst.drop n := by rw [List.reverse_reverse, List.take_append_drop]
    rw [hcst]
    exact fin _ _ _ hus (zs_snrun C hd hc hM x1 x2 x3 x4 x7 hls (x6.take).rev (by have := x6.len; simp; omega) (zrest_ok h3 hus) (by omega) (by omega) hfr hlo)
  · obtain ⟨b, r, h1', h2, h3, h4, h5, h6, h7, h8, e⟩ := zcallV_inl e
    cases e
    have hdrop := x6.drop (n := n)
    rw [h1'] at hdrop
    obtain ⟨w, us, ecs, ⟨b1, hb, rfl⟩, hus⟩ := hdrop
    have hcst : cst = (cst.take n).reverse.reverse ++ .ref b1 :: us := by rw [List.reverse_reverse, ← ecs, List.take_append_drop]
    rw [hcst]
    exact fin us _ _ hus (zs_irun C hd hc hM x1 x2 x3 x4 x7 hls ⟨_, _, rfl, ⟨b1, hb, rfl⟩, (x6.take).rev⟩ (by have := x6.len; simp; omega) (zrest_ok h4 hus) (by omega) (by omega) hfr hlo)
  · obtain ⟨b, r, h1', h2, h3, h4, h5, h6, h7, h8, e⟩ := zcallV_inl e
    cases e
    have hdrop := x6.drop (n := n)
    rw [h1'] at hdrop
    obtain ⟨w, us, ecs, ⟨b1, hb, rfl⟩, hus⟩ := hdrop
    have hcst : cst = (cst.take n).reverse.reverse ++ .ref b1 :: us := by rw [List.reverse_reverse, ← ecs, List.take_append_drop]
    rw [hcst]
    exact fin us _ _ hus (zs_inrun C hd hc hM x1 x2 x3 x4 x7 hls ⟨_, _, rfl, ⟨b1, hb, rfl⟩, (x6.take).rev⟩ (by have := x6.len; simp; omega) (zrest_ok h4 hus) (by omega) (by omega) hfr hlo)
end ZM
