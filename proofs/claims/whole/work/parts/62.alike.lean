/-! PATTERNS, SIDE BY SIDE -/
section ALIKE
variable {d : Nat} {H H1 : zH} {σ : mS} {r : Int32} {e : Nat → mS × Int32} {len : Nat} {k : Bool} {κ : mS × Int32} {w : Nat → Nat} {m : Nat} {x y : Int32} {M M' : oS}
theorem st_alike {x1 x2 x3 x4 : Int32} (hC : CI H σ r e len k κ w m) (hM : MI H σ r e len k κ w m) (hW : WF σ e len k κ) : PR d H 113 187 [some (.int x1), some (.int x2), some (.int x3), some (.int x4), none, none] [some (.int x1), some (.int x2), some (.int x3), some (.int x4), none, none] := by
  have hC0 := hC
  obtain ⟨⟨X, u1, u2⟩, ⟨S, s1, s2, s3⟩, ⟨T, t1⟩, ⟨K, k1, k2⟩, hh, ⟨P, p1, p2⟩, ⟨R, r1⟩, ⟨F, f1⟩, ⟨Y, y1⟩, ⟨V, v1⟩, ⟨N, n1⟩⟩ := hC
  obtain ⟨M, m0, hF⟩ := hM
  have hF0 := hF
  obtain ⟨m1, m2, m3, m4, m5⟩ := hF
  have hW0 := hW
  obtain ⟨w1, w2, w3, w4⟩ := hW
  have hS := at_st s1
  have hb := w1.bnd
  have hn := hb.1
  have hR := mrw_R m1
  have g0 := cx_0 u1
  have z1 := cz_st s1
  have z0 := cz_sx u1
  by_cases q : wnt x1 ∧ wnt x2 ∧ wnt x3 ∧ wnt x4
  · have ma := m_alike (d := d + 14) (h := H) (i := 71) (M := M) hR w1 q
    obtain ⟨V', b1, b2⟩ := c_view (d := d + 13) u1 s1 v1 s2 hb
    have xB : at_ (hvw H 64 V') 0 (sxL 0 X) := at_out u1 (Or.inl (Nat.le_of_ble_eq_true rfl))
    have sB : at_ (hvw H 64 V') 1 (stL 1 S) := at_out s1 (Or.inl (Nat.le_of_ble_eq_true rfl))
    have hV : hvw (hvw H 64 V') 64 V' = hvw H 64 V' := at_vw at_new
    have zv : zis (hvw H 64 V') 64 6 = true := cz_vw at_new
    have g0' := cx_0 xB
    have g8' := cx_8 xB
    have zs' := cz_st sB
    have nc : ∀ d, ev d 38 0 [some (.ref 1)] [] (hvw H 64 V') = some (some (.int (nI σ.1)), hvw H 64 V') := fun d => S_crates (at_st sB) s2
    have step : ∀ (a s : Nat), a < σ.1 → ev (d + 20) 113 42 [some (.ref 0), some (.int x1), some (.int x2), some (.int x3), some (.int x4), some (.int (nI s)), some (.int (nI a))] [] (hvw H 64 V') = ev (d + 20) 113 42 [some (.ref 0), some (.int x1), some (.int x2), some (.int x3), some (.int x4), some (.int (nI (s + if alk σ x1 x2 x3 x4 a then 1 else 0))), some (.int (nI (a + 1)))] [] (hvw H 64 V') := by
      intro a s ha
      have hlt : (σ.1 ≤ a) = False := eq_false (by omega)
      have a1 := V_shows (d := d + 17) hV b1 hb ha (p := 0) (by decide) (x := x1)
      have a2 := V_shows (d := d + 17) hV b1 hb ha (p := 1) (by decide) (x := x2)
      have a3 := V_shows (d := d + 17) hV b1 hb ha (p := 2) (by decide) (x := x3)
      have a4 := V_shows (d := d + 17) hV b1 hb ha (p := 3) (by decide) (x := x4)
      rw [show nI 0 = 0 from rfl] at a1
      rw [show nI 1 = 1 from rfl] at a2
      rw [show nI 2 = 2 from rfl] at a3
      rw [show nI 3 = 3 from rfl] at a4
      rw [e113_42]
      unfold alk
      by_cases q1 : x1 = 28 ∨ nI (sgn σ a 0) = x1
      · rw [bI_t q1] at a1
        rw [decide_eq_true q1]
        by_cases q2 : x2 = 28 ∨ nI (sgn σ a 1) = x2
        · rw [bI_t q2] at a2
          rw [decide_eq_true q2]
          by_cases q3 : x3 = 28 ∨ nI (sgn σ a 2) = x3
          · rw [bI_t q3] at a3
            rw [decide_eq_true q3]
            by_cases q4 : x4 = 28 ∨ nI (sgn σ a 3) = x4
            · rw [bI_t q4] at a4
              rw [decide_eq_true q4]
              simp only [e113_0, e113_1, e113_4, e113_7, e113_8, e113_11, e113_14, e113_15, e113_18, e113_21, e113_23, e113_26, e113_29, e113_30, e113_31, e113_32, e113_35, e113_36, e113_37, e113_39, e113_40, e113_44, e113_45, e113_48, e113_51, e113_54, e113_55, e113_58, e113_60, e113_61, e113_62, e113_65, e113_68, e113_69, e113_72, e113_74, e113_75, e113_76, e113_79, e113_82, e113_83, e113_86, e113_88, e113_89, e113_90, e113_93, e113_96, e113_97, e113_100, e113_102, e113_103, e113_105, e113_108, e113_111, e113_114, e113_117, e113_120, e113_122, Option.bind_some, Option.toList_some, Option.toList_none, List.cons_append, List.nil_append, true_or, or_true, and_true, true_and, i10, Bool.false_eq_true, if_true, if_false, reduceIte, g0', g8', zs', zv, nc, nI_lep (show σ.1 < 2147483648 by omega) (show a < 2147483648 by omega), hlt, nI_1, a1, a2, a3, a4, Bool.and_self]
            · rw [bI_f q4] at a4
              rw [decide_eq_false q4]
              simp only [e113_0, e113_1, e113_4, e113_7, e113_8, e113_11, e113_14, e113_15, e113_18, e113_21, e113_23, e113_26, e113_29, e113_30, e113_31, e113_32, e113_35, e113_36, e113_37, e113_39, e113_40, e113_44, e113_45, e113_48, e113_51, e113_54, e113_55, e113_58, e113_60, e113_61, e113_62, e113_65, e113_68, e113_69, e113_72, e113_74, e113_75, e113_76, e113_79, e113_82, e113_83, e113_86, e113_88, e113_89, e113_90, e113_93, e113_96, e113_97, e113_100, e113_102, e113_103, e113_105, e113_108, e113_111, e113_114, e113_117, e113_120, e113_122, Option.bind_some, Option.toList_some, Option.toList_none, List.cons_append, List.nil_append, true_or, or_true, and_true, true_and, i10, Bool.false_eq_true, if_true, if_false, reduceIte, g0', g8', zs', zv, nc, nI_lep (show σ.1 < 2147483648 by omega) (show a < 2147483648 by omega), hlt, nI_1, a1, a2, a3, a4, Bool.and_false, Nat.add_zero]
          · rw [bI_f q3] at a3
            rw [decide_eq_false q3]
            simp only [e113_0, e113_1, e113_4, e113_7, e113_8, e113_11, e113_14, e113_15, e113_18, e113_21, e113_23, e113_26, e113_29, e113_30, e113_31, e113_32, e113_35, e113_36, e113_37, e113_39, e113_40, e113_44, e113_45, e113_48, e113_51, e113_54, e113_55, e113_58, e113_60, e113_61, e113_62, e113_65, e113_68, e113_69, e113_72, e113_74, e113_75, e113_76, e113_79, e113_82, e113_83, e113_86, e113_88, e113_89, e113_90, e113_93, e113_96, e113_97, e113_100, e113_102, e113_103, e113_105, e113_108, e113_111, e113_114, e113_117, e113_120, e113_122, Option.bind_some, Option.toList_some, Option.toList_none, List.cons_append, List.nil_append, true_or, or_true, and_true, true_and, i10, Bool.false_eq_true, if_true, if_false, reduceIte, g0', g8', zs', zv, nc, nI_lep (show σ.1 < 2147483648 by omega) (show a < 2147483648 by omega), hlt, nI_1, a1, a2, a3, Bool.and_false, Bool.false_and, Nat.add_zero]
        · rw [bI_f q2] at a2
          rw [decide_eq_false q2]
          simp only [e113_0, e113_1, e113_4, e113_7, e113_8, e113_11, e113_14, e113_15, e113_18, e113_21, e113_23, e113_26, e113_29, e113_30, e113_31, e113_32, e113_35, e113_36, e113_37, e113_39, e113_40, e113_44, e113_45, e113_48, e113_51, e113_54, e113_55, e113_58, e113_60, e113_61, e113_62, e113_65, e113_68, e113_69, e113_72, e113_74, e113_75, e113_76, e113_79, e113_82, e113_83, e113_86, e113_88, e113_89, e113_90, e113_93, e113_96, e113_97, e113_100, e113_102, e113_103, e113_105, e113_108, e113_111, e113_114, e113_117, e113_120, e113_122, Option.bind_some, Option.toList_some, Option.toList_none, List.cons_append, List.nil_append, true_or, or_true, and_true, true_and, i10, Bool.false_eq_true, if_true, if_false, reduceIte, g0', g8', zs', zv, nc, nI_lep (show σ.1 < 2147483648 by omega) (show a < 2147483648 by omega), hlt, nI_1, a1, a2, Bool.and_false, Bool.false_and, Nat.add_zero]
      · rw [bI_f q1] at a1
        rw [decide_eq_false q1]
        simp only [e113_0, e113_1, e113_4, e113_7, e113_8, e113_11, e113_14, e113_15, e113_18, e113_21, e113_23, e113_26, e113_29, e113_30, e113_31, e113_32, e113_35, e113_36, e113_37, e113_39, e113_40, e113_44, e113_45, e113_48, e113_51, e113_54, e113_55, e113_58, e113_60, e113_61, e113_62, e113_65, e113_68, e113_69, e113_72, e113_74, e113_75, e113_76, e113_79, e113_82, e113_83, e113_86, e113_88, e113_89, e113_90, e113_93, e113_96, e113_97, e113_100, e113_102, e113_103, e113_105, e113_108, e113_111, e113_114, e113_117, e113_120, e113_122, Option.bind_some, Option.toList_some, Option.toList_none, List.cons_append, List.nil_append, true_or, or_true, and_true, true_and, i10, Bool.false_eq_true, if_true, if_false, reduceIte, g0', g8', zs', zv, nc, nI_lep (show σ.1 < 2147483648 by omega) (show a < 2147483648 by omega), hlt, nI_1, a1, Bool.false_and, Nat.add_zero]
    have fin : ∀ s : Nat, ev (d + 20) 113 42 [some (.ref 0), some (.int x1), some (.int x2), some (.int x3), some (.int x4), some (.int (nI s)), some (.int (nI σ.1))] [] (hvw H 64 V') = some (some (.int (nI s)), hvw H 64 V') := by
      intro s
      rw [e113_42]
      simp only [e113_0, e113_1, e113_4, e113_7, e113_8, e113_11, e113_14, e113_15, e113_18, e113_21, e113_23, e113_26, e113_29, e113_30, e113_31, e113_32, e113_35, e113_36, e113_37, e113_39, e113_40, e113_44, e113_45, e113_48, e113_51, e113_54, e113_55, e113_58, e113_60, e113_61, e113_62, e113_65, e113_68, e113_69, e113_72, e113_74, e113_75, e113_76, e113_79, e113_82, e113_83, e113_86, e113_88, e113_89, e113_90, e113_93, e113_96, e113_97, e113_100, e113_102, e113_103, e113_105, e113_108, e113_111, e113_114, e113_117, e113_120, e113_122, Option.bind_some, Option.toList_some, Option.toList_none, List.cons_append, List.nil_append, true_or, or_true, and_true, true_and, i10, Bool.false_eq_true, if_true, if_false, reduceIte, g0', zs', nc, Int32.le_refl]
    have main := z_for (fun (a : Nat) (s : Nat) => ev (d + 20) 113 42 [some (.ref 0), some (.int x1), some (.int x2), some (.int x3), some (.int x4), some (.int (nI s)), some (.int (nI a))] [] (hvw H 64 V')) (fun (a : Nat) (s : Nat) => s + if alk σ x1 x2 x3 x4 a then 1 else 0) (n := σ.1) (s := 0) (fun a s ha => step a s ha)
    rw [zfold_ct, Nat.zero_add, fin] at main
    refine PR_mk (v := nI (ct (alk σ x1 x2 x3 x4) σ.1)) (CI_view hC0 V') (CO_vw V') m0 hF0 hW0 ?_ (m_alike (d := d + 14) (h := hvw H 64 V') (i := 71) (M := M) hR w1 q)
    obtain ⟨q1, q2, q3, q4⟩ := q
    unfold wnt at q1 q2 q3 q4
    simp only [e113_0, e113_1, e113_4, e113_7, e113_8, e113_11, e113_14, e113_15, e113_18, e113_21, e113_23, e113_26, e113_29, e113_30, e113_31, e113_32, e113_35, e113_36, e113_37, e113_39, e113_40, e113_44, e113_45, e113_48, e113_51, e113_54, e113_55, e113_58, e113_60, e113_61, e113_62, e113_65, e113_68, e113_69, e113_72, e113_74, e113_75, e113_76, e113_79, e113_82, e113_83, e113_86, e113_88, e113_89, e113_90, e113_93, e113_96, e113_97, e113_100, e113_102, e113_103, e113_105, e113_108, e113_111, e113_114, e113_117, e113_120, e113_122, Option.bind_some, Option.toList_some, Option.toList_none, List.cons_append, List.nil_append, true_or, or_true, and_true, true_and, i10, Bool.false_eq_true, if_true, if_false, reduceIte, c_isW, bI_t q1, bI_t q2, bI_t q3, bI_t q4, z0, b2]
    exact main
  · refine PR_mk (v := -1) hC0 CO_r m0 hF0 hW0 ?_ (m_alike0 (d := d + 14) q)
    unfold wnt at q
    by_cases q1 : (0 : Int32) ≤ x1 ∧ x1 ≤ 28
    · by_cases q2 : (0 : Int32) ≤ x2 ∧ x2 ≤ 28
      · by_cases q3 : (0 : Int32) ≤ x3 ∧ x3 ≤ 28
        · have q4 : ¬ ((0 : Int32) ≤ x4 ∧ x4 ≤ 28) := fun z => q ⟨q1, q2, q3, z⟩
          simp only [e113_0, e113_1, e113_4, e113_7, e113_8, e113_11, e113_14, e113_15, e113_18, e113_21, e113_23, e113_26, e113_29, e113_30, e113_31, e113_32, e113_35, e113_36, e113_37, e113_39, e113_40, e113_44, e113_45, e113_48, e113_51, e113_54, e113_55, e113_58, e113_60, e113_61, e113_62, e113_65, e113_68, e113_69, e113_72, e113_74, e113_75, e113_76, e113_79, e113_82, e113_83, e113_86, e113_88, e113_89, e113_90, e113_93, e113_96, e113_97, e113_100, e113_102, e113_103, e113_105, e113_108, e113_111, e113_114, e113_117, e113_120, e113_122, Option.bind_some, Option.toList_some, Option.toList_none, List.cons_append, List.nil_append, true_or, or_true, and_true, true_and, i10, Bool.false_eq_true, if_true, if_false, reduceIte, c_isW, bI_t q1, bI_t q2, bI_t q3, bI_f q4]
        · simp only [e113_0, e113_1, e113_4, e113_7, e113_8, e113_11, e113_14, e113_15, e113_18, e113_21, e113_23, e113_26, e113_29, e113_30, e113_31, e113_32, e113_35, e113_36, e113_37, e113_39, e113_40, e113_44, e113_45, e113_48, e113_51, e113_54, e113_55, e113_58, e113_60, e113_61, e113_62, e113_65, e113_68, e113_69, e113_72, e113_74, e113_75, e113_76, e113_79, e113_82, e113_83, e113_86, e113_88, e113_89, e113_90, e113_93, e113_96, e113_97, e113_100, e113_102, e113_103, e113_105, e113_108, e113_111, e113_114, e113_117, e113_120, e113_122, Option.bind_some, Option.toList_some, Option.toList_none, List.cons_append, List.nil_append, true_or, or_true, and_true, true_and, i10, Bool.false_eq_true, if_true, if_false, reduceIte, c_isW, bI_t q1, bI_t q2, bI_f q3]
      · simp only [e113_0, e113_1, e113_4, e113_7, e113_8, e113_11, e113_14, e113_15, e113_18, e113_21, e113_23, e113_26, e113_29, e113_30, e113_31, e113_32, e113_35, e113_36, e113_37, e113_39, e113_40, e113_44, e113_45, e113_48, e113_51, e113_54, e113_55, e113_58, e113_60, e113_61, e113_62, e113_65, e113_68, e113_69, e113_72, e113_74, e113_75, e113_76, e113_79, e113_82, e113_83, e113_86, e113_88, e113_89, e113_90, e113_93, e113_96, e113_97, e113_100, e113_102, e113_103, e113_105, e113_108, e113_111, e113_114, e113_117, e113_120, e113_122, Option.bind_some, Option.toList_some, Option.toList_none, List.cons_append, List.nil_append, true_or, or_true, and_true, true_and, i10, Bool.false_eq_true, if_true, if_false, reduceIte, c_isW, bI_t q1, bI_f q2]
    · simp only [e113_0, e113_1, e113_4, e113_7, e113_8, e113_11, e113_14, e113_15, e113_18, e113_21, e113_23, e113_26, e113_29, e113_30, e113_31, e113_32, e113_35, e113_36, e113_37, e113_39, e113_40, e113_44, e113_45, e113_48, e113_51, e113_54, e113_55, e113_58, e113_60, e113_61, e113_62, e113_65, e113_68, e113_69, e113_72, e113_74, e113_75, e113_76, e113_79, e113_82, e113_83, e113_86, e113_88, e113_89, e113_90, e113_93, e113_96, e113_97, e113_100, e113_102, e113_103, e113_105, e113_108, e113_111, e113_114, e113_117, e113_120, e113_122, Option.bind_some, Option.toList_some, Option.toList_none, List.cons_append, List.nil_append, true_or, or_true, and_true, true_and, i10, Bool.false_eq_true, if_true, if_false, reduceIte, c_isW, bI_f q1]
end ALIKE
