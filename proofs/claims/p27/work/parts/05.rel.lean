/-! A RUN OF THE ABSTRACT MACHINE IS A RUN OF THE MACHINE: what holds between their states -/
abbrev zY : Type := ClassId × ClassId × ClassId
def zV (ad : List Nat) (ob : Option Nat) (v w : Value) : Prop := match v with
  | .ref i => ∃ a, ad[i]? = some a ∧ w = .ref a
  | .float _ => ∃ b, ob = some b ∧ w = .ref b
  | v => w = v
def zVs (ad : List Nat) (ob : Option Nat) : List Value → List Value → Prop
  | [], us => us = []
  | v :: vs, us => ∃ w ws, us = w :: ws ∧ zV ad ob v w ∧ zVs ad ob vs ws
def zExt (a b : List Nat) : Prop := ∀ i q : Nat, a[i]? = some q → b[i]? = some q
theorem zExt.rf {a : List Nat} : zExt a a := fun _ _ h => h
theorem zExt.tr {a b c : List Nat} (h : zExt a b) (g : zExt b c) : zExt a c := fun i q e => g i q (h i q e)
theorem zExt.app {a l : List Nat} : zExt a (a ++ l) := fun i q h => by
  rw [List.getElem?_append_left (List.getElem?_eq_some_iff.mp h).1]
  exact h
theorem zV.ext {a b : List Nat} {ob : Option Nat} {v w : Value} (h : zExt a b) (g : zV a ob v w) : zV b ob v w := by
  cases v with
  | ref i =>
    obtain ⟨q, h1, h2⟩ := g
    exact ⟨q, h i q h1, h2⟩
  | _ => exact g
theorem zVs.ext {a b : List Nat} {ob : Option Nat} (h : zExt a b) : ∀ {vs ws : List Value}, zVs a ob vs ws → zVs b ob vs ws
  | [], _, g => g
  | v :: vs, _, g => by
    obtain ⟨w, ws, h1, h2, h3⟩ := g
    exact ⟨w, ws, h1, h2.ext h, zVs.ext h h3⟩
theorem zV.cat {ad : List Nat} {ob : Option Nat} {v w : Value} (h : zV ad ob v w) : w.category = v.category := by
  cases v with
  | ref i =>
    obtain ⟨q, h1, rfl⟩ := h
    rfl
  | float x =>
    obtain ⟨q, h1, rfl⟩ := h
    rfl
  | _ => cases h; rfl
theorem zVs.cat {ad : List Nat} {ob : Option Nat} : ∀ {vs ws : List Value}, zVs ad ob vs ws → ws.map (fun v => v.category) = vs.map (fun v => v.category)
  | [], _, g => by cases g; rfl
  | v :: vs, _, g => by
    obtain ⟨w, ws, rfl, h2, h3⟩ := g
    rw [List.map_cons, List.map_cons, h2.cat, zVs.cat h3]
theorem zVs.len {ad : List Nat} {ob : Option Nat} : ∀ {vs ws : List Value}, zVs ad ob vs ws → ws.length = vs.length
  | [], _, g => by cases g; rfl
  | v :: vs, _, g => by
    obtain ⟨w, ws, rfl, h2, h3⟩ := g
    rw [List.length_cons, List.length_cons, zVs.len h3]
theorem zVs.app {ad : List Nat} {ob : Option Nat} : ∀ {vs ws vt wt : List Value}, zVs ad ob vs ws → zVs ad ob vt wt → zVs ad ob (vs ++ vt) (ws ++ wt)
  | [], _, _, _, g, k => by cases g; exact k
  | v :: vs, _, _, _, g, k => by
    obtain ⟨w, ws, rfl, h2, h3⟩ := g
    exact ⟨w, _, rfl, h2, zVs.app h3 k⟩
theorem zVs.rev {ad : List Nat} {ob : Option Nat} : ∀ {vs ws : List Value}, zVs ad ob vs ws → zVs ad ob vs.reverse ws.reverse
  | [], _, g => by cases g; exact rfl
  | v :: vs, _, g => by
    obtain ⟨w, ws, rfl, h2, h3⟩ := g
    rw [List.reverse_cons, List.reverse_cons]
    exact zVs.app (zVs.rev h3) ⟨w, [], rfl, h2, rfl⟩
theorem zVs.take {ad : List Nat} {ob : Option Nat} : ∀ {n : Nat} {vs ws : List Value}, zVs ad ob vs ws → zVs ad ob (vs.take n) (ws.take n)
  | 0, _, _, _ => by rw [List.take_zero, List.take_zero]; exact rfl
  | n + 1, [], _, g => by cases g; exact rfl
  | n + 1, v :: vs, _, g => by
    obtain ⟨w, ws, rfl, h2, h3⟩ := g
    rw [List.take_succ_cons, List.take_succ_cons]
    exact ⟨w, _, rfl, h2, zVs.take h3⟩
theorem zVs.drop {ad : List Nat} {ob : Option Nat} : ∀ {n : Nat} {vs ws : List Value}, zVs ad ob vs ws → zVs ad ob (vs.drop n) (ws.drop n)
  | 0, _, _, g => by rw [List.drop_zero, List.drop_zero]; exact g
  | n + 1, [], _, g => by cases g; exact rfl
  | n + 1, v :: vs, _, g => by
    obtain ⟨w, ws, rfl, h2, h3⟩ := g
    rw [List.drop_succ_cons, List.drop_succ_cons]
    exact zVs.drop h3
theorem zVs.set {ad : List Nat} {ob : Option Nat} {v w : Value} (q : zV ad ob v w) : ∀ {k : Nat} {vs ws : List Value}, zVs ad ob vs ws → zVs ad ob (vs.set k v) (ws.set k w)
  | _, [], _, g => by cases g; exact rfl
  | 0, u :: vs, _, g => by
    obtain ⟨x, ws, rfl, h2, h3⟩ := g
    exact ⟨w, ws, rfl, q, h3⟩
  | k + 1, u :: vs, _, g => by
    obtain ⟨x, ws, rfl, h2, h3⟩ := g
    exact ⟨x, _, rfl, h2, zVs.set q h3⟩
theorem zVs.get {ad : List Nat} {ob : Option Nat} : ∀ {k : Nat} {vs ws : List Value} {v : Value}, zVs ad ob vs ws → vs[k]? = some v → ∃ w, ws[k]? = some w ∧ zV ad ob v w
  | _, [], _, _, _, h => by simp at h
  | 0, u :: vs, _, v, g, h => by
    obtain ⟨x, ws, rfl, h2, h3⟩ := g
    rw [List.getElem?_cons_zero] at h
    cases h
    exact ⟨x, List.getElem?_cons_zero, h2⟩
  | k + 1, u :: vs, _, v, g, h => by
    obtain ⟨x, ws, rfl, h2, h3⟩ := g
    rw [List.getElem?_cons_succ] at h
    obtain ⟨w, e1, e2⟩ := zVs.get h3 h
    exact ⟨w, by rw [List.getElem?_cons_succ]; exact e1, e2⟩
theorem zV.i {ad : List Nat} {ob : Option Nat} (x : Int32) : zV ad ob (.int x) (.int x) := rfl
theorem zV.weak {ad : List Nat} {ob : Option Nat} {v w : Value} (h : zV ad none v w) : zV ad ob v w := by
  cases v with
  | float x =>
    obtain ⟨b, h1, -⟩ := h
    cases h1
  | _ => exact h
/-! cells -/
def zR (ad : List Nat) (a b : Option Nat) : Prop := match a with
  | none => b = none
  | some i => ∃ q, ad[i]? = some q ∧ b = some q
def zE (ad : List Nat) (y : zY) (c : zC) (e : va_E) : Prop := match c with
  | .inl (t, n, f) => (t = 0 ∧ e = .inl (y.1, n, .inl f)) ∨ (t = 1 ∧ e = .inl (y.2.1, n, .inl f))
  | .inr (.inl (n, f)) => ∃ g : Nat → Option Nat, (∀ j, zR ad (f j) (g j)) ∧ e = .inl (y.2.2, n, .inr (.inr (.inr (.inr g))))
  | .inr (.inr (ci, fs)) => ∃ gs, zVs ad none fs gs ∧ e = .inr (ci, gs)
theorem zR.ext {a b : List Nat} {x w : Option Nat} (h : zExt a b) (g : zR a x w) : zR b x w := by
  cases x with
  | none => exact g
  | some i =>
    obtain ⟨q, h1, h2⟩ := g
    exact ⟨q, h i q h1, h2⟩
theorem zE.ext {a b : List Nat} {y : zY} {c : zC} {e : va_E} (h : zExt a b) (g : zE a y c e) : zE b y c e := by
  rcases c with ⟨t, n, f⟩ | ⟨n, f⟩ | ⟨ci, fs⟩
  · exact g
  · obtain ⟨q, h1, h2⟩ := g
    exact ⟨q, fun j => (h1 j).ext h, h2⟩
  · obtain ⟨q, h1, h2⟩ := g
    exact ⟨q, h1.ext h, h2⟩
def zHr (ad : List Nat) (y : zY) (h : zH) (ws : va_W) : Prop := h.1 = ad.length ∧ ws.length = ad.length ∧ (∀ i a : Nat, ad[i]? = some a → ∃ e, ws[i]? = some (a, e) ∧ zE ad y (zg h i) e) ∧ ∀ i : Nat, ad.length ≤ i → zg h i = zvoid
theorem zg_zu (h : zH) (i j : Nat) (c : zC) : zg (zu h i c) j = if j = i then c else zg h j := rfl
theorem zHr.at' {ad : List Nat} {y : zY} {h : zH} {ws : va_W} (H : zHr ad y h ws) {i : Nat} {c : zC} (hc : zg h i = c) (hi : c ≠ zvoid) : ∃ a e, ad[i]? = some a ∧ ws[i]? = some (a, e) ∧ zE ad y c e := by
  subst hc
  obtain ⟨h1, h2, h3, h4⟩ := H
  rcases Nat.lt_or_ge i ad.length with q | q
  · obtain ⟨e, e1, e2⟩ := h3 i _ (List.getElem?_eq_getElem q)
    exact ⟨_, e, List.getElem?_eq_getElem q, e1, e2⟩
  · exact absurd (h4 i q) hi
theorem zHr.set {ad : List Nat} {y : zY} {h : zH} {ws : va_W} (H : zHr ad y h ws) {i a : Nat} {c : zC} {e : va_E} (ha : ad[i]? = some a) (hE : zE ad y c e) : zHr ad y (zu h i c) (ws.set i (a, e)) := by
  obtain ⟨h1, h2, h3, h4⟩ := H
  have hi : i < ad.length := (List.getElem?_eq_some_iff.mp ha).1
  refine ⟨h1, by rw [List.length_set]; exact h2, fun j b hb => ?_, fun j hj => ?_⟩
  · rw [zg_zu]
    by_cases q : j = i
    · subst q
      rw [ha] at hb
      cases hb
      exact ⟨e, by rw [List.getElem?_set_self (by omega)], by rw [if_pos rfl]; exact hE⟩
    · obtain ⟨e', e1, e2⟩ := h3 j b hb
      exact ⟨e', by rw [List.getElem?_set_ne (Ne.symm q)]; exact e1, by rw [if_neg q]; exact e2⟩
  · rw [zg_zu, if_neg (by omega)]
    exact h4 j hj
theorem zHr.push {ad : List Nat} {y : zY} {h : zH} {ws : va_W} (H : zHr ad y h ws) {n q : Nat} {c : zC} {e : va_E} (hE : zE (ad ++ [q]) y c e) : zHr (ad ++ [q]) y (zpush h n c) (ws ++ [(q, e)]) := by
  obtain ⟨h1, h2, h3, h4⟩ := H
  have hg : ∀ j, zg (zpush h n c) j = if j = h.1 then c else zg h j := fun _ => rfl
  refine ⟨by simp [zpush, h1], by simp [h2], fun j b hb => ?_, fun j hj => ?_⟩
  · rw [hg]
    rcases Nat.lt_or_ge j ad.length with q1 | q1
    · rw [List.getElem?_append_left q1] at hb
      obtain ⟨e', e1, e2⟩ := h3 j b hb
      exact ⟨e', by rw [List.getElem?_append_left (by omega)]; exact e1, by rw [if_neg (by omega)]; exact e2.ext zExt.app⟩
    · rw [List.getElem?_append_right q1] at hb
      have hz : j - ad.length < 1 := (List.getElem?_eq_some_iff.mp hb).1
      have hj : j = ad.length := by omega
      subst hj
      rw [Nat.sub_self] at hb
      cases hb
      exact ⟨e, by rw [List.getElem?_append_right (by omega), h2, Nat.sub_self]; rfl, by rw [if_pos h1.symm]; exact hE⟩
  · rw [List.length_append] at hj
    rw [hg, if_neg (by have : ([q] : List Nat).length = 1 := rfl; omega)]
    exact h4 j (by omega)
/-! locals -/
def zLr (m : Nat) (ad : List Nat) (ob : Option Nat) (ls : Array Slot) (al : List (Option Value)) : Prop := ls.size = zml m ∧ lv_wf ls ∧ al.length = zml m ∧ ∀ (i : Nat) (v : Value), al[i]? = some (some v) → (v.category = 2 → zwd m i = true) ∧ zwe m i = false ∧ ∃ w, zV ad ob v w ∧ ls[i]? = some (.val w)
def lvOne (i : Nat) (x : Option Slot) : Option (Nat × Value) := match x with
  | some (.val w) => some (i, w)
  | _ => none
def lvAll (ls : Array Slot) : List (Nat × Value) := (List.range ls.size).filterMap (fun i => lvOne i ls[i]?)
theorem lvAll_has {ls : Array Slot} {n : Nat} (h : ls.size = n) (hw : lv_wf ls) : lv_has ls n (lvAll ls) := by
  refine ⟨h, hw, fun q hq => ?_⟩
  obtain ⟨i, -, hi⟩ := List.mem_filterMap.mp hq
  cases hx : ls[i]? with
  | none => rw [hx] at hi; cases hi
  | some x =>
    rw [hx] at hi
    cases x <;> first | (cases hi; exact hx) | cases hi
theorem lvAll_mem {ls : Array Slot} {i : Nat} {w : Value} (h : ls[i]? = some (.val w)) : (i, w) ∈ lvAll ls := by
  refine List.mem_filterMap.mpr ⟨i, List.mem_range.mpr (Array.getElem?_eq_some_iff.mp h).1, ?_⟩
  rw [h]
  rfl
theorem zLr.ext {m : Nat} {a b : List Nat} {ob : Option Nat} {ls : Array Slot} {al : List (Option Value)} (h : zExt a b) (g : zLr m a ob ls al) : zLr m b ob ls al := by
  obtain ⟨h1, h2, h3, h4⟩ := g
  refine ⟨h1, h2, h3, fun i v hi => ?_⟩
  obtain ⟨g1, g2, w, g3, g4⟩ := h4 i v hi
  exact ⟨g1, g2, w, g3.ext h, g4⟩
theorem zld_at {al : List (Option Value)} {i : Nat} {v : Value} (h : zld al i = some v) : al[i]? = some (some v) := by
  unfold zld at h
  split at h
  · rename_i x hx
    cases h
    exact hx
  · cases h
theorem zLr.at' {m : Nat} {a : List Nat} {ob : Option Nat} {ls : Array Slot} {al : List (Option Value)} (g : zLr m a ob ls al) {i : Nat} {v : Value} (h : zld al i = some v) : ∃ w, zV a ob v w ∧ ls[i]? = some (.val w) := (g.2.2.2 i v (zld_at h)).2.2
theorem z1k_s {m i : Nat} (h : z1k m i = true) : zwd m i = false ∧ zwe m i = false := by
  unfold z1k at h
  simpa using h
theorem zLr.st1 {m : Nat} {ad : List Nat} {ob : Option Nat} {ls ls' : Array Slot} {al al' : List (Option Value)} (g : zLr m ad ob ls al) {i : Nat} {v w : Value} (h : zst1 m al i v = some al') (hv : zV ad ob v w) (hc : v.category = 1) (hl : lv_has ls' (zml m) ((i, w) :: (lvAll ls).filter (fun q => !(q.1 == i) && !(q.1 + 1 == i && q.2.category == 2)))) : zLr m ad ob ls' al' := by
  obtain ⟨h1, h2, h3, h4⟩ := g
  unfold zst1 at h
  split at h
  · rename_i hq
    obtain ⟨hq1, hq2⟩ := hq
    obtain ⟨k1, k2⟩ := z1k_s hq2
    cases h
    refine ⟨hl.1, hl.2.1, by rw [List.length_set]; exact h3, fun j u hj => ?_⟩
    by_cases e : j = i
    · subst e
      rw [List.getElem?_set_self hq1] at hj
      cases hj
      exact ⟨fun z => (by rw [hc] at z; cases z), k2, w, hv, hl.2.2 (j, w) List.mem_cons_self⟩
    · rw [List.getElem?_set_ne (Ne.symm e)] at hj
      obtain ⟨g1, g2, x, g3, g4⟩ := h4 j u hj
      refine ⟨g1, g2, x, g3, hl.2.2 (j, x) (List.mem_cons_of_mem _ (List.mem_filter.mpr ⟨lvAll_mem g4, ?_⟩))⟩
      have e1 : (j == i) = false := by simpa using e
      have e2 : (j + 1 == i && x.category == 2) = false := by
        rw [Bool.and_eq_false_iff]
        by_cases k : j + 1 = i
        · refine Or.inr ?_
          rw [beq_eq_false_iff_ne]
          intro z
          have q1 := g1 (by rw [← g3.cat]; exact z)
          subst k
          have q2 : zwe m (j + 1) = zwd m j := rfl
          rw [q2, q1] at k2
          cases k2
        · exact Or.inl (by simpa using k)
      simp [e1, e2]
  · cases h
theorem zLr.st2 {m : Nat} {ad : List Nat} {ob : Option Nat} {ls ls' : Array Slot} {al al' : List (Option Value)} (g : zLr m ad ob ls al) {i : Nat} {v w : Value} (h : zst2 m al i v = some al') (hv : zV ad ob v w) (hl : lv_has ls' (zml m) ((i, w) :: (lvAll ls).filter (fun q => !(q.1 == i) && (!(q.1 == i + 1) && !(q.1 + 1 == i && q.2.category == 2))))) : zLr m ad ob ls' al' := by
  obtain ⟨h1, h2, h3, h4⟩ := g
  unfold zst2 at h
  split at h
  · rename_i hq
    obtain ⟨q1, q3⟩ := hq
    have q2 := zwd_zwe q1
    cases h
    refine ⟨hl.1, hl.2.1, by rw [List.length_set]; exact h3, fun j u hj => ?_⟩
    by_cases e : j = i
    · subst e
      rw [List.getElem?_set_self (by omega)] at hj
      cases hj
      exact ⟨fun _ => q1, q2, w, hv, hl.2.2 (j, w) List.mem_cons_self⟩
    · rw [List.getElem?_set_ne (Ne.symm e)] at hj
      obtain ⟨g1, g2, x, g3, g4⟩ := h4 j u hj
      refine ⟨g1, g2, x, g3, hl.2.2 (j, x) (List.mem_cons_of_mem _ (List.mem_filter.mpr ⟨lvAll_mem g4, ?_⟩))⟩
      have e1 : (j == i) = false := by simpa using e
      have e3 : (j == i + 1) = false := by
        rw [beq_eq_false_iff_ne]
        intro z
        subst z
        have q4 : zwe m (i + 1) = zwd m i := rfl
        rw [q4, q1] at g2
        cases g2
      have e2 : (j + 1 == i && x.category == 2) = false := by
        rw [Bool.and_eq_false_iff]
        by_cases k : j + 1 = i
        · refine Or.inr ?_
          rw [beq_eq_false_iff_ne]
          intro z
          have q5 := g1 (by rw [← g3.cat]; exact z)
          subst k
          have q6 : zwe m (j + 1) = zwd m j := rfl
          rw [q6, q5] at q2
          cases q2
        · exact Or.inl (by simpa using k)
      simp [e1, e2, e3]
  · cases h
theorem zst1_lt {m : Nat} {al al' : List (Option Value)} {i : Nat} {v : Value} (h : zst1 m al i v = some al') : i < al.length := by
  unfold zst1 at h
  split at h
  · rename_i q; exact q.1
  · cases h
theorem zst2_lt {m : Nat} {al al' : List (Option Value)} {i : Nat} {v : Value} (h : zst2 m al i v = some al') : i + 1 < al.length := by
  unfold zst2 at h
  split at h
  · rename_i q; exact q.2
  · cases h
/-- a frame at its entry -/
theorem zLr.entry {m : Nat} {ad : List Nat} {ob : Option Nat} {as cas : List Value} (h : zVs ad ob as cas) (ha : as.all zarg = true) (hn : as.length ≤ zml m) (hm : ∀ i, i < as.length → zwe m i = false) : zLr m ad ob ((cas.map Slot.val ++ List.replicate (zml m - cas.length) Slot.unset).toArray) (zentry m as) := by
  have hlen := h.len
  have hall : ∀ v ∈ as, v.category = 1 := by
    intro v hv
    have := List.all_eq_true.mp ha v hv
    cases v <;> first | rfl | (simp [zarg] at this)
  have hcat : ∀ v ∈ cas, v.category = 1 := by
    intro v hv
    have h1 : v.category ∈ cas.map (fun v => v.category) := List.mem_map.mpr ⟨v, hv, rfl⟩
    rw [h.cat] at h1
    obtain ⟨u, hu, e⟩ := List.mem_map.mp h1
    rw [← e]
    exact hall u hu
  have rd : ∀ (i : Nat) (x : Slot), ((cas.map Slot.val ++ List.replicate (zml m - cas.length) Slot.unset).toArray)[i]? = some x → (∃ v, x = .val v ∧ v ∈ cas) ∨ x = .unset := by
    intro i x hx
    have hx : (cas.map Slot.val ++ List.replicate (zml m - cas.length) Slot.unset)[i]? = some x := by simpa using hx
    rcases List.mem_append.mp (List.mem_of_getElem? hx) with q | q
    · obtain ⟨v, hv, e⟩ := List.mem_map.mp q
      exact Or.inl ⟨v, e.symm, hv⟩
    · exact Or.inr (List.eq_of_mem_replicate q)
  refine ⟨by simp; omega, ⟨fun i v hi hv => ?_, fun i hi => ?_⟩, by simp [zentry]; omega, fun i v hi => ?_⟩
  · rcases rd i _ hi with ⟨u, e, hu⟩ | e
    · cases e
      rw [hcat _ hu] at hv
      cases hv
    · cases e
  · rcases rd i _ hi with ⟨u, e, hu⟩ | e <;> cases e
  · have hlt : i < as.length := by
      rcases Nat.lt_or_ge i as.length with q | q
      · exact q
      · unfold zentry at hi
        rw [List.getElem?_append_right (by simpa using q)] at hi
        have := List.eq_of_mem_replicate (List.mem_of_getElem? hi)
        cases this
    have hi' : as[i]? = some v := by
      unfold zentry at hi
      rw [List.getElem?_append_left (by simpa using hlt), List.getElem?_map] at hi
      cases hx : as[i]? with
      | none => rw [hx] at hi; cases hi
      | some u => rw [hx] at hi; cases hi; rfl
    obtain ⟨w, e1, e2⟩ := h.get hi'
    refine ⟨fun z => (by rw [hall v (List.mem_of_getElem? hi')] at z; cases z), hm i hlt, w, e2, ?_⟩
    have hlt2 : i < (cas.map Slot.val).length := by rw [List.length_map]; omega
    have : (cas.map Slot.val ++ List.replicate (zml m - cas.length) Slot.unset)[i]? = some (.val w) := by
      rw [List.getElem?_append_left hlt2, List.getElem?_map, e1]
      rfl
    simpa using this
/-! the tables' words that hold throughout -/
def zKs (D : va_G) (y : zY) (U : State) : Prop := va_K D vwCl [(y.1, .int), (y.2.1, .char), (y.2.2, .object RX5)] U ∧ (∀ w ∈ zNW, va_Nw w U) ∧ va_AO RX5 U
theorem zNW_warm {s U : State} (hW : s.WarmedH U.vm) (h : ∀ w ∈ zNW, va_Nw w s) : ∀ w ∈ zNW, va_Nw w U := by
  intro w hw
  obtain ⟨q, -, rfl⟩ := List.mem_map.mp hw
  exact va_Nw.warmM hW (h _ hw)
theorem zKs.warm {D : va_G} {y : zY} {s U : State} (hW : s.WarmedH U.vm) (h : zKs D y s) : zKs D y U := ⟨va_K.moved hW.alike h.1, zNW_warm hW h.2.1, va_AO.moved hW.alike h.2.2⟩
theorem zKs.blind {D : va_G} {y : zY} {a : Array Value} {U : State} {g : JFrame} {mk : MethodId} (h : zKs D y U) : zKs D y (U.calling g mk a) := by
  refine ⟨va_K.moved (u := U) (U := U.calling g mk a) (Vm.Alike.refl U.vm) h.1, fun w hw => ?_, va_AO.moved (u := U) (U := U.calling g mk a) (Vm.Alike.refl U.vm) h.2.2⟩
  obtain ⟨q, -, rfl⟩ := List.mem_map.mp hw
  exact va_Nw.same (u := U) (U := U.calling g mk a) rfl rfl (h.2.1 _ hw)
