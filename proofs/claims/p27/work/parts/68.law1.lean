/-! THE LAW'S OWN METHODS: its numbers, and its look at everything -/
def lwv (v : Int32) (n : Nat) : Nat := (v.toBitVec.toNat &&& 2147483647) % n
theorem lw_msk (v : Int32) : v &&& 2147483647 = nI (v.toBitVec.toNat &&& 2147483647) := by
  have h : v.toBitVec.toNat &&& 2147483647 ≤ 2147483647 := Nat.and_le_right
  apply Int32.toBitVec_inj.1
  show v.toBitVec &&& 2147483647#32 = BitVec.ofNat 32 (v.toBitVec.toNat &&& 2147483647)
  have e : (BitVec.ofNat 32 (v.toBitVec.toNat &&& 2147483647)).toNat = v.toBitVec.toNat &&& 2147483647 := by
    rw [BitVec.toNat_ofNat, Nat.mod_eq_of_lt (by omega)]
  apply BitVec.eq_of_toNat_eq
  rw [BitVec.toNat_and, e]
  rfl
theorem lwv_lt {v : Int32} {n : Nat} (hn : 0 < n) : lwv v n < n := Nat.mod_lt _ hn
section LAW1
variable {d : Nat} {H H1 : zH} {σ σ' : mS} {r r' : Int32} {e e' : Nat → mS × Int32} {len len' : Nat} {k : Bool} {κ : mS × Int32} {w w' : Nat → Nat} {m m' : Nat} {x y : Int32} {c : Nat}
theorem CI_z (hC : CI H σ r e len k κ w m) : zis H 0 7 = true := by
  obtain ⟨⟨X, x1, -⟩, -⟩ := hC
  exact cz_sx x1
theorem lw_low {n : Nat} (h0 : 0 < n) (hn : n < 2147483648) : ev d 128 0 [some (.int x), some (.int (nI n))] [] H = some (some (.int (nI (lwv x n))), H) := by
  have h : x.toBitVec.toNat &&& 2147483647 ≤ 2147483647 := Nat.and_le_right
  have e1 : ¬ nI n = 0 := nI_ne0 h0 (by omega)
  have e2 := pk_rem (a := x.toBitVec.toNat &&& 2147483647) (d := n) (by omega) h0 (by omega)
  simp only [e128_0, e128_1, e128_3, e128_4, e128_5, e128_6, Option.bind_some, Option.toList_some, Option.toList_none, List.cons_append, List.nil_append, true_or, or_true, and_true, true_and, i10, Bool.false_eq_true, if_true, if_false, reduceIte, e1, not_false_eq_true, lw_msk, e2, lwv]
theorem lw_lot {L q : Nat} {F : UInt32} (hL : H.2.2.2.1 = L) (h1 : L ≤ 260) (hq : q < 1000) : ∃ v, ev d 127 0 [some (.float F), some (.int (nI q))] [] H = some (some (.int v), H) := by
  by_cases z : L ≤ q
  · have e1 : (Int32.ofNat H.2.2.2.1 ≤ nI q) = True := by
      rw [hL]
      exact (nI_lep (a := L) (by omega) (by omega)).trans (eq_true z)
    exact ⟨-908008083 * (nI q + 4483) + 4241, by simp only [e127_0, e127_1, e127_2, e127_3, e127_6, e127_7, e127_8, e127_9, e127_12, e127_14, e127_15, e127_18, e127_19, e127_20, e127_23, e127_24, Option.bind_some, Option.toList_some, Option.toList_none, List.cons_append, List.nil_append, true_or, or_true, and_true, true_and, i10, Bool.false_eq_true, if_true, if_false, reduceIte, e1]⟩
  · have e1 : (Int32.ofNat H.2.2.2.1 ≤ nI q) = False := by
      rw [hL]
      exact (nI_lep (a := L) (by omega) (by omega)).trans (eq_false z)
    have e2 : zin (nI q) H.2.2.2.1 = true := by
      rw [hL]
      exact zin_T (by omega) (by omega)
    exact ⟨H.2.2.2.2 (nI q).toNatClampNeg, by simp only [e127_0, e127_1, e127_2, e127_3, e127_6, e127_7, e127_9, e127_12, e127_14, e127_15, e127_18, e127_19, e127_20, e127_23, e127_24, e127_8 e2, Option.bind_some, Option.toList_some, Option.toList_none, List.cons_append, List.nil_append, true_or, or_true, and_true, true_and, i10, Bool.false_eq_true, if_true, if_false, reduceIte, e1]⟩
/-! everything that a look sees, as one number -/
def fA (σ : mS) (c k : Nat) (h : Int64) : Int64 := 31 * h + (crv σ c k).toInt64
def fB (σ : mS) (c p : Nat) (h : Int64) : Int64 := 31 * (31 * h + (cB (σ.2 c (3 + p))).toInt64) + (nI (sgn σ c p)).toInt64
def lkc (σ : mS) (c : Nat) (h : Int64) : Int64 := zfold (fB σ c) 4 (zfold (fA σ c) 10 h)
def lk0 (σ : mS) (r : Int32) : Int64 := 31 * (31 * 401 + (nI σ.1).toInt64) + r.toInt64
def lkv (σ : mS) (r : Int32) : Int64 := zfold (lkc σ) σ.1 (lk0 σ r)
theorem lk_A (hC : CI H σ r e len k κ w m) (hW : WF σ e len k κ) (hc : c < σ.1) {t : Int64} : ev (d + 21) 129 43 [some (.ref 0), some (.long t), none, some (.int (nI c)), some (.int 0)] [] H = ev (d + 21) 129 71 [some (.ref 0), some (.long (zfold (fA σ c) 10 t)), none, some (.int (nI c)), some (.int (nI 10))] [] H := by
  have step : ∀ (a : Nat) (s : Int64), a < 10 → ev (d + 21) 129 43 [some (.ref 0), some (.long s), none, some (.int (nI c)), some (.int (nI a))] [] H = ev (d + 21) 129 43 [some (.ref 0), some (.long (fA σ c a s)), none, some (.int (nI c)), some (.int (nI (a + 1)))] [] H := by
    intro a s ha
    have e1 : ((10 : Int32) ≤ nI a) = False := (nI_lep (a := 10) (by omega) (by omega)).trans (eq_false (by omega))
    have e2 := ca_crg (d := d) (u := a) (by omega) hc hC hW
    have z0 : zis H 0 7 = true := CI_z hC
    rw [e129_43]
    simp only [e129_0, e129_3, e129_4, e129_7, e129_10, e129_11, e129_12, e129_13, e129_14, e129_17, e129_18, e129_19, e129_20, e129_21, e129_23, e129_26, e129_27, e129_28, e129_29, e129_30, e129_31, e129_32, e129_33, e129_34, e129_37, e129_40, e129_41, e129_45, e129_47, e129_50, e129_53, e129_54, e129_55, e129_56, e129_57, e129_59, e129_62, e129_63, e129_64, e129_65, e129_68, e129_71, e129_72, e129_74, e129_76, e129_77, e129_80, e129_83, e129_86, e129_87, e129_88, e129_89, e129_90, e129_92, e129_95, e129_96, e129_97, e129_98, e129_99, e129_100, e129_102, e129_105, e129_106, e129_107, e129_108, e129_111, e129_114, e129_117, e129_120, e129_121, Option.bind_some, Option.toList_some, Option.toList_none, List.cons_append, List.nil_append, true_or, or_true, and_true, true_and, i10, Bool.false_eq_true, if_true, if_false, reduceIte, e1, e2, z0, nI_1, fA]
  have fin : ∀ s : Int64, ev (d + 21) 129 43 [some (.ref 0), some (.long s), none, some (.int (nI c)), some (.int (nI 10))] [] H = ev (d + 21) 129 71 [some (.ref 0), some (.long s), none, some (.int (nI c)), some (.int (nI 10))] [] H := by
    intro s
    rw [e129_43]
    simp only [e129_45, e129_47, show ((10 : Int32) ≤ nI 10) = True by decide, if_true]
  have main := z_for (fun (a : Nat) (s : Int64) => ev (d + 21) 129 43 [some (.ref 0), some (.long s), none, some (.int (nI c)), some (.int (nI a))] [] H) (fun a s => fA σ c a s) (n := 10) (s := t) (fun a s ha => step a s ha)
  exact main.trans (fin _)
theorem lk_B (hc : c < σ.1) {t : Int64} (hW : WF σ e len k κ) : ∀ (f p : Nat) (H : zH), p + f = 4 → CI H σ r e len k κ w m → ∃ H1, CO H H1 ∧ CI H1 σ r e len k κ w m ∧ ev (d + 21) 129 74 [some (.ref 0), some (.long (zfold (fB σ c) p t)), none, some (.int (nI c)), some (.int (nI p))] [] H = ev (d + 21) 129 114 [some (.ref 0), some (.long (zfold (fB σ c) 4 t)), none, some (.int (nI c)), some (.int (nI 4))] [] H1
  | 0, p, H, hp, hC => by
    have : p = 4 := by omega
    subst this
    refine ⟨H, CO_r, hC, ?_⟩
    rw [e129_74]
    simp only [e129_76, e129_77, show ((4 : Int32) ≤ nI 4) = True by decide, if_true]
  | f + 1, p, H, hp, hC => by
    have e1 : ((4 : Int32) ≤ nI p) = False := (nI_lep (a := 4) (by omega) (by omega)).trans (eq_false (by omega))
    have e2 := ca_letter (d := d) (p := p) hc (by omega) hC hW
    obtain ⟨H1, a1, a2, a3⟩ := ca_seen (d := d) (p := p) hc (by omega) hC hW
    have z0 : zis H 0 7 = true := CI_z hC
    obtain ⟨H2, b1, b2, b3⟩ := lk_B hc (t := t) hW f (p + 1) H1 (by omega) a3
    refine ⟨H2, CO_t a2 b1, b2, ?_⟩
    rw [← b3, e129_74]
    simp only [e129_0, e129_3, e129_4, e129_7, e129_10, e129_11, e129_12, e129_13, e129_14, e129_17, e129_18, e129_19, e129_20, e129_21, e129_23, e129_26, e129_27, e129_28, e129_29, e129_30, e129_31, e129_32, e129_33, e129_34, e129_37, e129_40, e129_41, e129_45, e129_47, e129_50, e129_53, e129_54, e129_55, e129_56, e129_57, e129_59, e129_62, e129_63, e129_64, e129_65, e129_68, e129_71, e129_72, e129_76, e129_77, e129_80, e129_83, e129_86, e129_87, e129_88, e129_89, e129_90, e129_92, e129_95, e129_96, e129_97, e129_98, e129_99, e129_100, e129_102, e129_105, e129_106, e129_107, e129_108, e129_111, e129_114, e129_117, e129_120, e129_121, Option.bind_some, Option.toList_some, Option.toList_none, List.cons_append, List.nil_append, true_or, or_true, and_true, true_and, i10, Bool.false_eq_true, if_true, if_false, reduceIte, e1, e2, a1, z0, nI_1, zfold, fB]
theorem lk_main (hW : WF σ e len k κ) : ∀ (f c : Nat) (H : zH) (z : Option Value), c + f = σ.1 → CI H σ r e len k κ w m → ∃ H1, CO H H1 ∧ CI H1 σ r e len k κ w m ∧ ev (d + 21) 129 31 [some (.ref 0), some (.long (zfold (lkc σ) c (lk0 σ r))), none, some (.int (nI c)), z] [] H = some (some (.long (lkv σ r)), H1) := by
  intro f
  induction f with
  | zero =>
    intro c  H  z  hp  hC
    have hc : c = σ.1 := by omega
    subst hc
    have e2 := ca_n0 (d := d) hC hW
    have z0 : zis H 0 7 = true := CI_z hC
    refine ⟨H, CO_r, hC, ?_⟩
    rw [e129_31]
    simp only [e129_0, e129_3, e129_4, e129_7, e129_10, e129_11, e129_12, e129_13, e129_14, e129_17, e129_18, e129_19, e129_20, e129_21, e129_23, e129_26, e129_27, e129_28, e129_29, e129_30, e129_32, e129_33, e129_34, e129_37, e129_40, e129_41, e129_45, e129_47, e129_50, e129_53, e129_54, e129_55, e129_56, e129_57, e129_59, e129_62, e129_63, e129_64, e129_65, e129_68, e129_71, e129_72, e129_76, e129_77, e129_80, e129_83, e129_86, e129_87, e129_88, e129_89, e129_90, e129_92, e129_95, e129_96, e129_97, e129_98, e129_99, e129_100, e129_102, e129_105, e129_106, e129_107, e129_108, e129_111, e129_114, e129_117, e129_120, e129_121, Option.bind_some, Option.toList_some, Option.toList_none, List.cons_append, List.nil_append, true_or, or_true, and_true, true_and, i10, Bool.false_eq_true, if_true, if_false, reduceIte, e2, z0, Int32.le_refl, lkv]
  | succ f ih =>
    intro c  H  z  hp  hC
    have hn := hW.1.1
    have e1 : (nI σ.1 ≤ nI c) = False := (nI_lep (by omega) (by omega)).trans (eq_false (by omega))
    have e2 := ca_n0 (d := d) hC hW
    have z0 : zis H 0 7 = true := CI_z hC
    have e3 := lk_A (d := d) hC hW (show c < σ.1 by omega) (t := zfold (lkc σ) c (lk0 σ r))
    obtain ⟨H1, a1, a2, a3⟩ := lk_B (d := d) (c := c) (r := r) (w := w) (m := m) (by omega) (t := zfold (fA σ c) 10 (zfold (lkc σ) c (lk0 σ r))) hW 4 0 H (by omega) hC
    have a3' : ev (d + 21) 129 74 [some (.ref 0), some (.long (zfold (fA σ c) 10 (zfold (lkc σ) c (lk0 σ r)))), none, some (.int (nI c)), some (.int 0)] [] H = _ := a3
    obtain ⟨H2, b1, b2, b3⟩ := ih (c + 1) H1 (some (.int (nI 4))) (by omega) a2
    refine ⟨H2, CO_t a1 b1, b2, ?_⟩
    have e5 : zfold (lkc σ) (c + 1) (lk0 σ r) = zfold (fB σ c) 4 (zfold (fA σ c) 10 (zfold (lkc σ) c (lk0 σ r))) := by rw [zfold, lkc]
    rw [← b3, e5, e129_31]
    simp only [e129_32, e129_33, e129_34, e129_37, e129_40, e129_41, e129_71, e129_72, e129_114, e129_117, Option.bind_some, Option.toList_some, Option.toList_none, List.cons_append, List.nil_append, true_or, or_true, and_true, true_and, i10, Bool.false_eq_true, if_true, if_false, reduceIte, e1, e2, z0, e3, a3', nI_1]
/-- the look -/
theorem lw_look (hC : CI H σ r e len k κ w m) (hW : WF σ e len k κ) : ∃ H1, ev (d + 21) 129 0 [some (.ref 0), none, none, none, none] [] H = some (some (.long (lkv σ r)), H1) ∧ CO H H1 ∧ CI H1 σ r e len k κ w m := by
  have e2 := ca_n0 (d := d) hC hW
  have e12 := ca_n12 (d := d) hC hW
  have z0 : zis H 0 7 = true := CI_z hC
  obtain ⟨H1, a1, a2, a3⟩ := lk_main (d := d) (r := r) (w := w) (m := m) hW σ.1 0 H none (by omega) hC
  have a3' : ev (d + 21) 129 31 [some (.ref 0), some (.long (31 * (31 * 401 + (nI σ.1).toInt64) + r.toInt64)), none, some (.int 0), none] [] H = some (some (.long (lkv σ r)), H1) := a3
  refine ⟨H1, ?_, a1, a2⟩
  simp only [e129_0, e129_3, e129_4, e129_7, e129_10, e129_11, e129_12, e129_13, e129_14, e129_17, e129_18, e129_19, e129_20, e129_21, e129_23, e129_26, e129_27, e129_28, e129_29, e129_30, Option.bind_some, Option.toList_some, Option.toList_none, List.cons_append, List.nil_append, true_or, or_true, and_true, true_and, i10, Bool.false_eq_true, if_true, if_false, reduceIte, e2, e12, z0, a3']
end LAW1
