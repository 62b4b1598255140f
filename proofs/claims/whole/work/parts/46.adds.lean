/-! A CRATE ADDED TO THE REFERENCE -/
def adf (f : Nat → Int32) (n : Nat) (x0 x1 x2 x7 x8 : Int32) : Nat → Int32 := upd (upd (upd (upd (upd f (2 + 9 * n + 0) x0) (2 + 9 * n + 1) x1) (2 + 9 * n + 2) x2) (2 + 9 * n + 7) x7) (2 + 9 * n + 8) x8
theorem adf_lo {f : Nat → Int32} {n : Nat} {x0 x1 x2 x7 x8 : Int32} {y : Nat} (h : y < 2 + 9 * n) : adf f n x0 x1 x2 x7 x8 y = f y := by
  have h0 : ¬ y = 2 + 9 * n + 0 := by omega
  have h1 : ¬ y = 2 + 9 * n + 1 := by omega
  have h2 : ¬ y = 2 + 9 * n + 2 := by omega
  have h7 : ¬ y = 2 + 9 * n + 7 := by omega
  have h8 : ¬ y = 2 + 9 * n + 8 := by omega
  simp only [adf, upd, h0, h1, h2, h7, h8, if_false]
theorem mrw_adds {f : Nat → Int32} {σ : mS} {r : Int32} {A : Nat → Nat} (h : mrw f 0 σ r) (hl : ∀ q, q < 4 → f (2 + 9 * σ.1 + (3 + q)) = nI (A (3 + q))) : mrw (upd (adf f σ.1 (nI (A 0)) (nI (A 1)) (nI (A 2)) (nI (A 7)) (nI (A 8))) 0 (nI (σ.1 + 1))) 0 (addd σ A) r := by
  obtain ⟨h1, h2, h3⟩ := h
  refine ⟨by simp [upd, addd], ?_, fun c hc j hj => ?_⟩
  · have e : ¬ 0 + 1 = 0 := by decide
    simp only [upd, e, if_false]
    rw [adf_lo (by omega)]
    exact h2
  · have hc : c < σ.1 + 1 := hc
    have e : ¬ 0 + (2 + 9 * c + j) = 0 := by omega
    simp only [upd, e, if_false]
    by_cases q : c = σ.1
    · subst q
      have ea : (addd σ A).2 σ.1 j = A j := if_pos rfl
      rw [ea]
      have h9 : j = 0 ∨ j = 1 ∨ j = 2 ∨ j = 3 ∨ j = 4 ∨ j = 5 ∨ j = 6 ∨ j = 7 ∨ j = 8 := by omega
      have l0 := hl 0 (by decide)
      have l1 := hl 1 (by decide)
      have l2 := hl 2 (by decide)
      have l3 := hl 3 (by decide)
      rcases h9 with w | w | w | w | w | w | w | w | w <;> subst w <;> simp [adf, upd] at l0 l1 l2 l3 ⊢ <;> assumption
    · have ea : (addd σ A).2 c j = σ.2 c j := if_neg q
      rw [ea, adf_lo (by omega)]
      exact h3 c (by omega) j hj
section ADDS
variable {d : Nat} {h : zH} {i : Nat} {M : oS} {n : Nat} {x0 x1 x2 x7 x8 y : Int32}
theorem m_adds (h0 : M.1 0 0 = nI n) (hn : n < 12) (hy : y + 1 = x7) : ev (d + 1) 155 0 [some (.ref i), some (.int x0), some (.int x1), some (.int x2), some (.int y), some (.int x8), none] [] (hmd h i M) = some (none, hmd h i (setR M 0 (upd (adf (M.1 0) n x0 x1 x2 x7 x8) 0 (nI (n + 1))))) := by
  have z0 : zrd 110 (M.1 0) 0 = some (nI n) := by
    rw [show (0 : Int32) = nI 0 from rfl, zrd_nI (by decide) (by decide), h0]
  have z1 : zrd 110 (adf (M.1 0) n x0 x1 x2 x7 x8) 0 = some (nI n) := by
    rw [show (0 : Int32) = nI 0 from rfl, zrd_nI (by decide) (by decide), adf_lo (by omega), h0]
  have zi : zin 0 110 = true := by decide
  have hr : ∀ f g : Nat → Int32, setR (setR M 0 f) 0 g = setR M 0 g := fun f g => setR_setR M 0 f g
  have h1 : ∀ f : Nat → Int32, (setR M 0 f).1 0 = f := fun _ => rfl
  have hf : upd (upd (upd (upd (upd (M.1 0) (2 + 9 * n + 0) x0) (2 + 9 * n + 1) x1) (2 + 9 * n + 2) x2) (2 + 9 * n + 7) x7) (2 + 9 * n + 8) x8 = adf (M.1 0) n x0 x1 x2 x7 x8 := rfl
  simp only [e155_0, e155_1, e155_4, e155_5, e155_6, e155_8, e155_9, e155_11, e155_12, e155_13, e155_16, e155_17, e155_19, e155_20, e155_21, e155_24, e155_25, e155_27, e155_28, e155_29, e155_32, e155_33, e155_35, e155_37, e155_39, e155_40, e155_41, e155_44, e155_45, e155_47, e155_49, e155_51, e155_54, e155_55, e155_58, e155_59, e155_60, e155_61, e155_62, e155_63, e155_64, md_g0, md_g1, md_g2, md_g3, md_g4, md_g5, md_g6, md_g7, md_g8, md_g9, md_g10, md_g11, md_g12, md_g13, md_g14, md_g15, md_g16, md_g17, md_g18, md_p3, md_p5, md_p7, md_p8, md_p9, md_p11, md_p13, md_p15, md_l0, md_l1, md_l2, md_l3, md_l4, md_l5, md_l6, md_l7, md_l8, md_l9, md_l10, md_s0, md_s1, md_s2, md_s3, md_s4, md_s5, md_s6, md_s7, md_s8, md_s9, md_s10, md_is, Option.bind_some, Option.toList_some, Option.toList_none, List.cons_append, List.nil_append, true_or, or_true, and_true, true_and, i10, Bool.false_eq_true, if_true, if_false, reduceIte, z0, m_lays0 hn, m_lays1 hn, m_lays2 hn, m_lays7 hn, m_lays8 hn, hy, hr, h1, hf, z1, zi, cl0, nI_1]
end ADDS
