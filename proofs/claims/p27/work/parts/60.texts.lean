/-! TEXTS, SIDE BY SIDE -/
section TEXTS
variable {d : Nat} {H H1 : zH} {σ σ' : mS} {r r' : Int32} {e e' : Nat → mS × Int32} {len len' : Nat} {k : Bool} {κ : mS × Int32} {w w' : Nat → Nat} {m m' : Nat} {x y : Int32} {M M' : oS}
theorem CI_52 {P' : oS} (hC : CI H σ r e len k κ w m) (hP : pdR P' w' m') : CI (hpd H 52 P') σ r e len k κ w' m' := CI_pd hC (fun j _ a => hrg_out (by rw [pd_len]; omega)) ⟨P', at_new, hP⟩
theorem CO_52 {P' : oS} : CO H (hpd H 52 P') := CO_h (Nat.le_of_ble_eq_true rfl)
theorem P_empty {P : oS} (h : at_ H 52 (pdL 52 P)) : ev d 34 0 [some (.ref 52)] [] H = some (none, hpd H 52 (setI P 0 0)) := by
  have q := p_empty (d := d) (h := H) (u := 52) (P := P)
  rw [at_pd h] at q
  exact q
theorem pdR_0 {P : oS} : pdR (setI P 0 0) w 0 := ⟨rfl, Nat.zero_le _, fun j hj => absurd hj (Nat.not_lt_zero j)⟩
theorem c_found {R' : oS} (h : at_ H 54 (rdL 54 R')) : ev d 12 0 [some (.ref 54)] [] H = some (some (.ref 55), H) := by
  have q : hrd H 54 R' = H := at_rd h
  have g := rd_g0 (h := H) (i := 54) (S := R')
  rw [q] at g
  simp only [e12_0, e12_1, e12_4, Option.bind_some, Option.toList_some, Option.toList_none, List.cons_append, List.nil_append, true_or, or_true, and_true, true_and, i10, Bool.false_eq_true, if_true, if_false, reduceIte, g]
theorem S_isSound {S : oS} {i : Nat} (hH : hst H i S = H) (hR : stR S σ) (hb : bnd σ) : ev (d + 3) 67 0 [some (.ref i), none] [] H = some (some (.int (bI (sou σ = true))), H) := by
  have q := s_isSound (d := d) (h := H) (i := i) (S := S) hR hb
  rw [hH] at q
  exact q
end TEXTS
