section ZS2
variable {p : Program} {l : Launch} {e : Env} {R : Room} {s : State} {mth : MethodId} {args : Array Value} {below : List Frame} {meth : Method} {c : Code} {Q : State → Prop} {D : va_G} {y : zY} {A : Nat → Prop} {H0 : Heap} {ob : Option Nat} {m n0 s0 : Nat} {ad0 : List Nat}
variable {pc : Nat} {al : List (Option Value)} {st : List Value} {h : zH} {r : Nat × List (Option Value) × List Value × zH} {len : Nat}
theorem zs_jump {i : Instr} (C : zCx p R s mth args meth c D y A H0 m) (hd : decode (zb m) pc = .ok (i, len)) (hi : (∃ n, i = .goto n) ∨ (∃ d lo hi n, i = .tableswitch d lo hi n) ∨ (∃ n q, i = .lookupswitch n q)) (hs : zdo m pc i len al st h = some (.inl r)) (k : zWg p l e R s mth args below meth c Q D y A H0 ob m n0 s0 ad0 r) : zWg p l e R s mth args below meth c Q D y A H0 ob m n0 s0 ad0 (pc, al, st, h) := by
  obtain ⟨hx, hb, hml, hown, hts, hK, hA, hnm, hR1, hR2⟩ := C
  intro ad ws H locs ls cst h1 h2 X
  have X6 := X.2.2.2.2.2.1
  rcases hi with ⟨n, rfl⟩ | ⟨d, lo, hi, n, rfl⟩ | ⟨n, q, rfl⟩
  · have hq0 := zq_some (α := Nat) hs
    clear hs
    obtain ⟨hl, hs⟩ := hq0
    cases beq_iff_eq.mp hl
    obtain ⟨t, ht, rfl⟩ := ztg_inl hs
    exact lv_goto hx hb hd ht (k _ _ _ _ _ _ h1 h2 X)
  · simp only [zdo] at hs
    split at hs
    · rename_i x t
      obtain ⟨w1, us, rfl, hw1, hus⟩ := X6
      cases hw1
      split at hs
      · rename_i hq
        obtain ⟨t, ht, rfl⟩ := ztg_inl hs
        exact lv_tableOut hx hb hd hq ht (k _ _ _ _ _ _ h1 h2 (X.stk hus))
      · rename_i hq
        obtain ⟨off, ho, hs⟩ := zb_some hs
        obtain ⟨t, ht, rfl⟩ := ztg_inl hs
        exact lv_tableIn hx hb hd (fun z => hq (Or.inl z)) (fun z => hq (Or.inr z)) ho ht (k _ _ _ _ _ _ h1 h2 (X.stk hus))
    · cases hs
  · simp only [zdo] at hs
    split at hs
    · rename_i x t
      obtain ⟨w1, us, rfl, hw1, hus⟩ := X6
      cases hw1
      have hq0 := zq_some (α := Nat) hs
      clear hs
      obtain ⟨hl, hs⟩ := hq0
      obtain ⟨t, ht, rfl⟩ := ztg_inl hs
      exact lv_lookup hx hb hd hl rfl ht (k _ _ _ _ _ _ h1 h2 (X.stk hus))
    · cases hs
theorem zs_icmp {cd : ClassFile.Cond} {off : Int} (C : zCx p R s mth args meth c D y A H0 m) (hd : decode (zb m) pc = .ok (.if_icmp cd off, len)) (hs : zdo m pc (.if_icmp cd off) len al st h = some (.inl r)) (k : zWg p l e R s mth args below meth c Q D y A H0 ob m n0 s0 ad0 r) : zWg p l e R s mth args below meth c Q D y A H0 ob m n0 s0 ad0 (pc, al, st, h) := by
  obtain ⟨hx, hb, hml, hown, hts, hK, hA, hnm, hR1, hR2⟩ := C
  intro ad ws H locs ls cst h1 h2 X
  have X6 := X.2.2.2.2.2.1
  have hq0 := zq_some (α := Nat) hs
  clear hs
  obtain ⟨hl, hs⟩ := hq0
  cases beq_iff_eq.mp hl
  split at hs
  · rename_i y1 x1 t
    obtain ⟨w1, us1, rfl, hw1, w2, us, rfl, hw2, hus⟩ := X6
    cases hw1; cases hw2
    have hq0 := zq_some (α := Nat) hs
    clear hs
    obtain ⟨hq, hs⟩ := hq0
    have hq := of_decide_eq_true hq
    have ht : (pc : Int) + off = ((((pc : Int) + off).toNat : Nat) : Int) := by omega
    have yes : zcond cd x1 y1 = true → W p l e R s mth args below meth c H locs (h.1 - n0) (h.2.1 - s0) Q (F0 mth ((pc : Int) + off).toNat ls us) := by
      intro hc
      rw [if_pos hc] at hs
      cases zn_inl hs
      exact k _ _ _ _ _ _ h1 h2 (X.stk hus)
    have no : zcond cd x1 y1 = false → W p l e R s mth args below meth c H locs (h.1 - n0) (h.2.1 - s0) Q (F0 mth (pc + 3) ls us) := by
      intro hc
      rw [if_neg (by rw [hc]; decide)] at hs
      cases zn_inl hs
      exact k _ _ _ _ _ _ h1 h2 (X.stk hus)
    cases cd
    · exact lv_icmp_eq hx hb hd ht (fun z => yes (decide_eq_true z)) (fun z => no (decide_eq_false z))
    · exact lv_icmp_ne hx hb hd ht (fun z => yes (by simp only [zcond, Bool.not_eq_true', decide_eq_false_iff_not]; exact z)) (fun z => no (by simp only [zcond, Bool.not_eq_false', decide_eq_true_eq]; exact z))
    · exact lv_icmp_lt hx hb hd ht (fun z => yes (decide_eq_true z)) (fun z => no (decide_eq_false z))
    · exact lv_icmp_ge hx hb hd ht (fun z => yes (decide_eq_true z)) (fun z => no (decide_eq_false z))
    · exact lv_icmp_gt hx hb hd ht (fun z => yes (decide_eq_true z)) (fun z => no (decide_eq_false z))
    · exact lv_icmp_le hx hb hd ht (fun z => yes (decide_eq_true z)) (fun z => no (decide_eq_false z))
  · cases hs
theorem zs_if {cd : ClassFile.Cond} {off : Int} (C : zCx p R s mth args meth c D y A H0 m) (hd : decode (zb m) pc = .ok (.ifCond cd off, len)) (hs : zdo m pc (.ifCond cd off) len al st h = some (.inl r)) (k : zWg p l e R s mth args below meth c Q D y A H0 ob m n0 s0 ad0 r) : zWg p l e R s mth args below meth c Q D y A H0 ob m n0 s0 ad0 (pc, al, st, h) := by
  obtain ⟨hx, hb, hml, hown, hts, hK, hA, hnm, hR1, hR2⟩ := C
  intro ad ws H locs ls cst h1 h2 X
  have X6 := X.2.2.2.2.2.1
  have hq0 := zq_some (α := Nat) hs
  clear hs
  obtain ⟨hl, hs⟩ := hq0
  cases beq_iff_eq.mp hl
  split at hs
  · rename_i x1 t
    obtain ⟨w1, us, rfl, hw1, hus⟩ := X6
    cases hw1
    have hq0 := zq_some (α := Nat) hs
    clear hs
    obtain ⟨hq, hs⟩ := hq0
    have hq := of_decide_eq_true hq
    have ht : (pc : Int) + off = ((((pc : Int) + off).toNat : Nat) : Int) := by omega
    have yes : zcond cd x1 0 = true → W p l e R s mth args below meth c H locs (h.1 - n0) (h.2.1 - s0) Q (F0 mth ((pc : Int) + off).toNat ls us) := by
      intro hc
      rw [if_pos hc] at hs
      cases zn_inl hs
      exact k _ _ _ _ _ _ h1 h2 (X.stk hus)
    have no : zcond cd x1 0 = false → W p l e R s mth args below meth c H locs (h.1 - n0) (h.2.1 - s0) Q (F0 mth (pc + 3) ls us) := by
      intro hc
      rw [if_neg (by rw [hc]; decide)] at hs
      cases zn_inl hs
      exact k _ _ _ _ _ _ h1 h2 (X.stk hus)
    cases cd
    · exact lv_if_eq hx hb hd ht (fun z => yes (decide_eq_true z)) (fun z => no (decide_eq_false z))
    · exact lv_if_ne hx hb hd ht (fun z => yes (by simp only [zcond, Bool.not_eq_true', decide_eq_false_iff_not]; exact z)) (fun z => no (by simp only [zcond, Bool.not_eq_false', decide_eq_true_eq]; exact z))
    · exact lv_if_lt hx hb hd ht (fun z => yes (decide_eq_true z)) (fun z => no (decide_eq_false z))
    · exact lv_if_ge hx hb hd ht (fun z => yes (decide_eq_true z)) (fun z => no (decide_eq_false z))
    · exact lv_if_gt hx hb hd ht (fun z => yes (decide_eq_true z)) (fun z => no (decide_eq_false z))
    · exact lv_if_le hx hb hd ht (fun z => yes (decide_eq_true z)) (fun z => no (decide_eq_false z))
  · cases hs
end ZS2
