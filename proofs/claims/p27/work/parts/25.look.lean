/-! A REGION LEAVES THE OTHERS ALONE -/
section OUT
variable {h : zH} {i j : Nat} {l : List zC}
theorem zgetf_out {ci k : Nat} (hj : j < i ∨ i + l.length ≤ j) : zgetf (hrg h i l) j ci k = zgetf h j ci k := by
  unfold zgetf
  rw [hrg_out hj]
theorem zis_out {ci : Nat} (hj : j < i ∨ i + l.length ≤ j) : zis (hrg h i l) j ci = zis h j ci := by
  unfold zis
  rw [hrg_out hj]
theorem zlen_out (hj : j < i ∨ i + l.length ≤ j) : zlen (hrg h i l) j = zlen h j := by
  unfold zlen
  rw [hrg_out hj]
theorem zald_out {t : Nat} {x : Int32} (hj : j < i ∨ i + l.length ≤ j) : zald t (hrg h i l) j x = zald t h j x := by
  unfold zald
  rw [hrg_out hj]
theorem zaldq_out {x : Int32} (hj : j < i ∨ i + l.length ≤ j) : zaldq (hrg h i l) j x = zaldq h j x := by
  unfold zaldq
  rw [hrg_out hj]
theorem zputf_out {ci k : Nat} {v : Value} (hj : j < i ∨ i + l.length ≤ j) : zputf (hrg h i l) j ci k v = (zputf h j ci k v).map fun g => hrg g i l := by
  unfold zputf
  rw [hrg_out hj]
  split
  · split
    · rw [Option.map_some, hrg_zu hj]
    · rfl
  · rfl
theorem zasti_out {x y : Int32} (hj : j < i ∨ i + l.length ≤ j) : zasti (hrg h i l) j x y = (zasti h j x y).map fun g => hrg g i l := by
  unfold zasti
  rw [hrg_out hj]
  split
  · split
    · rw [Option.map_some, hrg_zu hj]
    · rfl
  · rfl
theorem zastc_out {x y : Int32} (hj : j < i ∨ i + l.length ≤ j) : zastc (hrg h i l) j x y = (zastc h j x y).map fun g => hrg g i l := by
  unfold zastc
  rw [hrg_out hj]
  split
  · split
    · rw [Option.map_some, hrg_zu hj]
    · rfl
  · rfl
end OUT
theorem vw_is_st {h : zH} {v i : Nat} {V S : oS} (hd : v + 4 ≤ i ∨ i + 7 ≤ v) : zis (hst (hvw h v V) i S) v 6 = true := (zis_out (by rw [st_len]; omega)).trans vw_is
theorem vw_g0_st {h : zH} {v i : Nat} {V S : oS} (hd : v + 4 ≤ i ∨ i + 7 ≤ v) : zgetf (hst (hvw h v V) i S) v 6 0 = some (.ref (v + 1)) := (zgetf_out (by rw [st_len]; omega)).trans vw_g0
theorem vw_g1_st {h : zH} {v i : Nat} {V S : oS} (hd : v + 4 ≤ i ∨ i + 7 ≤ v) : zgetf (hst (hvw h v V) i S) v 6 1 = some (.ref (v + 2)) := (zgetf_out (by rw [st_len]; omega)).trans vw_g1
theorem vw_g2_st {h : zH} {v i : Nat} {V S : oS} (hd : v + 4 ≤ i ∨ i + 7 ≤ v) : zgetf (hst (hvw h v V) i S) v 6 2 = some (.ref (v + 3)) := (zgetf_out (by rw [st_len]; omega)).trans vw_g2
theorem vw_g3_st {h : zH} {v i : Nat} {V S : oS} (hd : v + 4 ≤ i ∨ i + 7 ≤ v) : zgetf (hst (hvw h v V) i S) v 6 3 = some (.int (V.2 0)) := (zgetf_out (by rw [st_len]; omega)).trans vw_g3
theorem vw_p3_st {h : zH} {v i : Nat} {V S : oS} (hd : v + 4 ≤ i ∨ i + 7 ≤ v) {x : Int32} : zputf (hst (hvw h v V) i S) v 6 3 (.int x) = some (hst (hvw h v (setI V 0 x)) i S) := by
  refine (zputf_out (by rw [st_len]; omega)).trans ?_
  rw [vw_p3]
  rfl
theorem vw_l0_st {h : zH} {v i : Nat} {V S : oS} (hd : v + 4 ≤ i ∨ i + 7 ≤ v) {j : Int32} : zald 0 (hst (hvw h v V) i S) (v + 1) j = zrd 12 (V.1 0) j := (zald_out (by rw [st_len]; omega)).trans vw_l0
theorem vw_s0_st {h : zH} {v i : Nat} {V S : oS} (hd : v + 4 ≤ i ∨ i + 7 ≤ v) {j x : Int32} : zasti (hst (hvw h v V) i S) (v + 1) j x = if zin j 12 = true then some (hst (hvw h v (setR V 0 (upd (V.1 0) j.toNatClampNeg x))) i S) else none := by
  refine (zasti_out (by rw [st_len]; omega)).trans ?_
  rw [vw_s0]
  split <;> rfl
theorem vw_l1_st {h : zH} {v i : Nat} {V S : oS} (hd : v + 4 ≤ i ∨ i + 7 ≤ v) {j : Int32} : zald 0 (hst (hvw h v V) i S) (v + 2) j = zrd 12 (V.1 1) j := (zald_out (by rw [st_len]; omega)).trans vw_l1
theorem vw_s1_st {h : zH} {v i : Nat} {V S : oS} (hd : v + 4 ≤ i ∨ i + 7 ≤ v) {j x : Int32} : zasti (hst (hvw h v V) i S) (v + 2) j x = if zin j 12 = true then some (hst (hvw h v (setR V 1 (upd (V.1 1) j.toNatClampNeg x))) i S) else none := by
  refine (zasti_out (by rw [st_len]; omega)).trans ?_
  rw [vw_s1]
  split <;> rfl
theorem vw_l2_st {h : zH} {v i : Nat} {V S : oS} (hd : v + 4 ≤ i ∨ i + 7 ≤ v) {j : Int32} : zald 0 (hst (hvw h v V) i S) (v + 3) j = zrd 12 (V.1 2) j := (zald_out (by rw [st_len]; omega)).trans vw_l2
theorem vw_s2_st {h : zH} {v i : Nat} {V S : oS} (hd : v + 4 ≤ i ∨ i + 7 ≤ v) {j x : Int32} : zasti (hst (hvw h v V) i S) (v + 3) j x = if zin j 12 = true then some (hst (hvw h v (setR V 2 (upd (V.1 2) j.toNatClampNeg x))) i S) else none := by
  refine (zasti_out (by rw [st_len]; omega)).trans ?_
  rw [vw_s2]
  split <;> rfl
theorem vw_st_comm {h : zH} {v i : Nat} {V S : oS} (hd : v + 4 ≤ i ∨ i + 7 ≤ v) : hst (hvw h v V) i S = hvw (hst h i S) v V := hrg_comm (by rw [vw_len, st_len]; omega)
theorem ln_is_st {h : zH} {v i : Nat} {V S : oS} (hd : v + 3 ≤ i ∨ i + 7 ≤ v) : zis (hst (hln h v V) i S) v 1 = true := (zis_out (by rw [st_len]; omega)).trans ln_is
theorem ln_g0_st {h : zH} {v i : Nat} {V S : oS} (hd : v + 3 ≤ i ∨ i + 7 ≤ v) : zgetf (hst (hln h v V) i S) v 1 0 = some (.ref (v + 1)) := (zgetf_out (by rw [st_len]; omega)).trans ln_g0
theorem ln_g1_st {h : zH} {v i : Nat} {V S : oS} (hd : v + 3 ≤ i ∨ i + 7 ≤ v) : zgetf (hst (hln h v V) i S) v 1 1 = some (.ref (v + 2)) := (zgetf_out (by rw [st_len]; omega)).trans ln_g1
theorem ln_g2_st {h : zH} {v i : Nat} {V S : oS} (hd : v + 3 ≤ i ∨ i + 7 ≤ v) : zgetf (hst (hln h v V) i S) v 1 2 = some (.int (V.2 0)) := (zgetf_out (by rw [st_len]; omega)).trans ln_g2
theorem ln_p2_st {h : zH} {v i : Nat} {V S : oS} (hd : v + 3 ≤ i ∨ i + 7 ≤ v) {x : Int32} : zputf (hst (hln h v V) i S) v 1 2 (.int x) = some (hst (hln h v (setI V 0 x)) i S) := by
  refine (zputf_out (by rw [st_len]; omega)).trans ?_
  rw [ln_p2]
  rfl
theorem ln_l0_st {h : zH} {v i : Nat} {V S : oS} (hd : v + 3 ≤ i ∨ i + 7 ≤ v) {j : Int32} : zald 0 (hst (hln h v V) i S) (v + 1) j = zrd 12 (V.1 0) j := (zald_out (by rw [st_len]; omega)).trans ln_l0
theorem ln_s0_st {h : zH} {v i : Nat} {V S : oS} (hd : v + 3 ≤ i ∨ i + 7 ≤ v) {j x : Int32} : zasti (hst (hln h v V) i S) (v + 1) j x = if zin j 12 = true then some (hst (hln h v (setR V 0 (upd (V.1 0) j.toNatClampNeg x))) i S) else none := by
  refine (zasti_out (by rw [st_len]; omega)).trans ?_
  rw [ln_s0]
  split <;> rfl
theorem ln_l1_st {h : zH} {v i : Nat} {V S : oS} (hd : v + 3 ≤ i ∨ i + 7 ≤ v) {j : Int32} : zald 0 (hst (hln h v V) i S) (v + 2) j = zrd 12 (V.1 1) j := (zald_out (by rw [st_len]; omega)).trans ln_l1
theorem ln_s1_st {h : zH} {v i : Nat} {V S : oS} (hd : v + 3 ≤ i ∨ i + 7 ≤ v) {j x : Int32} : zasti (hst (hln h v V) i S) (v + 2) j x = if zin j 12 = true then some (hst (hln h v (setR V 1 (upd (V.1 1) j.toNatClampNeg x))) i S) else none := by
  refine (zasti_out (by rw [st_len]; omega)).trans ?_
  rw [ln_s1]
  split <;> rfl
theorem ln_st_comm {h : zH} {v i : Nat} {V S : oS} (hd : v + 3 ≤ i ∨ i + 7 ≤ v) : hst (hln h v V) i S = hln (hst h i S) v V := hrg_comm (by rw [ln_len, st_len]; omega)
theorem nw_is_st {h : zH} {v i : Nat} {V S : oS} (hd : v + 2 ≤ i ∨ i + 7 ≤ v) : zis (hst (hnw h v V) i S) v 3 = true := (zis_out (by rw [st_len]; omega)).trans nw_is
theorem nw_g0_st {h : zH} {v i : Nat} {V S : oS} (hd : v + 2 ≤ i ∨ i + 7 ≤ v) : zgetf (hst (hnw h v V) i S) v 3 0 = some (.ref (v + 1)) := (zgetf_out (by rw [st_len]; omega)).trans nw_g0
theorem nw_g1_st {h : zH} {v i : Nat} {V S : oS} (hd : v + 2 ≤ i ∨ i + 7 ≤ v) : zgetf (hst (hnw h v V) i S) v 3 1 = some (.int (V.2 0)) := (zgetf_out (by rw [st_len]; omega)).trans nw_g1
theorem nw_p1_st {h : zH} {v i : Nat} {V S : oS} (hd : v + 2 ≤ i ∨ i + 7 ≤ v) {x : Int32} : zputf (hst (hnw h v V) i S) v 3 1 (.int x) = some (hst (hnw h v (setI V 0 x)) i S) := by
  refine (zputf_out (by rw [st_len]; omega)).trans ?_
  rw [nw_p1]
  rfl
theorem nw_l0_st {h : zH} {v i : Nat} {V S : oS} (hd : v + 2 ≤ i ∨ i + 7 ≤ v) {j : Int32} : zald 1 (hst (hnw h v V) i S) (v + 1) j = zrd 180 (V.1 0) j := (zald_out (by rw [st_len]; omega)).trans nw_l0
theorem nw_s0_st {h : zH} {v i : Nat} {V S : oS} (hd : v + 2 ≤ i ∨ i + 7 ≤ v) {j x : Int32} : zastc (hst (hnw h v V) i S) (v + 1) j x = if zin j 180 = true then some (hst (hnw h v (setR V 0 (upd (V.1 0) j.toNatClampNeg (vp_nar .char x)))) i S) else none := by
  refine (zastc_out (by rw [st_len]; omega)).trans ?_
  rw [nw_s0]
  split <;> rfl
theorem nw_st_comm {h : zH} {v i : Nat} {V S : oS} (hd : v + 2 ≤ i ∨ i + 7 ≤ v) : hst (hnw h v V) i S = hnw (hst h i S) v V := hrg_comm (by rw [nw_len, st_len]; omega)
theorem st_is_st {h : zH} {v i : Nat} {V S : oS} (hd : v + 7 ≤ i ∨ i + 7 ≤ v) : zis (hst (hst h v V) i S) v 5 = true := (zis_out (by rw [st_len]; omega)).trans st_is
theorem st_g0_st {h : zH} {v i : Nat} {V S : oS} (hd : v + 7 ≤ i ∨ i + 7 ≤ v) : zgetf (hst (hst h v V) i S) v 5 0 = some (.ref (v + 1)) := (zgetf_out (by rw [st_len]; omega)).trans st_g0
theorem st_g1_st {h : zH} {v i : Nat} {V S : oS} (hd : v + 7 ≤ i ∨ i + 7 ≤ v) : zgetf (hst (hst h v V) i S) v 5 1 = some (.ref (v + 2)) := (zgetf_out (by rw [st_len]; omega)).trans st_g1
theorem st_g2_st {h : zH} {v i : Nat} {V S : oS} (hd : v + 7 ≤ i ∨ i + 7 ≤ v) : zgetf (hst (hst h v V) i S) v 5 2 = some (.ref (v + 3)) := (zgetf_out (by rw [st_len]; omega)).trans st_g2
theorem st_g3_st {h : zH} {v i : Nat} {V S : oS} (hd : v + 7 ≤ i ∨ i + 7 ≤ v) : zgetf (hst (hst h v V) i S) v 5 3 = some (.ref (v + 4)) := (zgetf_out (by rw [st_len]; omega)).trans st_g3
theorem st_g4_st {h : zH} {v i : Nat} {V S : oS} (hd : v + 7 ≤ i ∨ i + 7 ≤ v) : zgetf (hst (hst h v V) i S) v 5 4 = some (.ref (v + 5)) := (zgetf_out (by rw [st_len]; omega)).trans st_g4
theorem st_g5_st {h : zH} {v i : Nat} {V S : oS} (hd : v + 7 ≤ i ∨ i + 7 ≤ v) : zgetf (hst (hst h v V) i S) v 5 5 = some (.ref (v + 6)) := (zgetf_out (by rw [st_len]; omega)).trans st_g5
theorem st_g6_st {h : zH} {v i : Nat} {V S : oS} (hd : v + 7 ≤ i ∨ i + 7 ≤ v) : zgetf (hst (hst h v V) i S) v 5 6 = some (.int (V.2 0)) := (zgetf_out (by rw [st_len]; omega)).trans st_g6
theorem st_p6_st {h : zH} {v i : Nat} {V S : oS} (hd : v + 7 ≤ i ∨ i + 7 ≤ v) {x : Int32} : zputf (hst (hst h v V) i S) v 5 6 (.int x) = some (hst (hst h v (setI V 0 x)) i S) := by
  refine (zputf_out (by rw [st_len]; omega)).trans ?_
  rw [st_p6]
  rfl
theorem st_g7_st {h : zH} {v i : Nat} {V S : oS} (hd : v + 7 ≤ i ∨ i + 7 ≤ v) : zgetf (hst (hst h v V) i S) v 5 7 = some (.int (V.2 1)) := (zgetf_out (by rw [st_len]; omega)).trans st_g7
theorem st_p7_st {h : zH} {v i : Nat} {V S : oS} (hd : v + 7 ≤ i ∨ i + 7 ≤ v) {x : Int32} : zputf (hst (hst h v V) i S) v 5 7 (.int x) = some (hst (hst h v (setI V 1 x)) i S) := by
  refine (zputf_out (by rw [st_len]; omega)).trans ?_
  rw [st_p7]
  rfl
theorem st_l0_st {h : zH} {v i : Nat} {V S : oS} (hd : v + 7 ≤ i ∨ i + 7 ≤ v) {j : Int32} : zald 0 (hst (hst h v V) i S) (v + 1) j = zrd 12 (V.1 0) j := (zald_out (by rw [st_len]; omega)).trans st_l0
theorem st_s0_st {h : zH} {v i : Nat} {V S : oS} (hd : v + 7 ≤ i ∨ i + 7 ≤ v) {j x : Int32} : zasti (hst (hst h v V) i S) (v + 1) j x = if zin j 12 = true then some (hst (hst h v (setR V 0 (upd (V.1 0) j.toNatClampNeg x))) i S) else none := by
  refine (zasti_out (by rw [st_len]; omega)).trans ?_
  rw [st_s0]
  split <;> rfl
theorem st_l1_st {h : zH} {v i : Nat} {V S : oS} (hd : v + 7 ≤ i ∨ i + 7 ≤ v) {j : Int32} : zald 0 (hst (hst h v V) i S) (v + 2) j = zrd 12 (V.1 1) j := (zald_out (by rw [st_len]; omega)).trans st_l1
theorem st_s1_st {h : zH} {v i : Nat} {V S : oS} (hd : v + 7 ≤ i ∨ i + 7 ≤ v) {j x : Int32} : zasti (hst (hst h v V) i S) (v + 2) j x = if zin j 12 = true then some (hst (hst h v (setR V 1 (upd (V.1 1) j.toNatClampNeg x))) i S) else none := by
  refine (zasti_out (by rw [st_len]; omega)).trans ?_
  rw [st_s1]
  split <;> rfl
theorem st_l2_st {h : zH} {v i : Nat} {V S : oS} (hd : v + 7 ≤ i ∨ i + 7 ≤ v) {j : Int32} : zald 0 (hst (hst h v V) i S) (v + 3) j = zrd 12 (V.1 2) j := (zald_out (by rw [st_len]; omega)).trans st_l2
theorem st_s2_st {h : zH} {v i : Nat} {V S : oS} (hd : v + 7 ≤ i ∨ i + 7 ≤ v) {j x : Int32} : zasti (hst (hst h v V) i S) (v + 3) j x = if zin j 12 = true then some (hst (hst h v (setR V 2 (upd (V.1 2) j.toNatClampNeg x))) i S) else none := by
  refine (zasti_out (by rw [st_len]; omega)).trans ?_
  rw [st_s2]
  split <;> rfl
theorem st_l3_st {h : zH} {v i : Nat} {V S : oS} (hd : v + 7 ≤ i ∨ i + 7 ≤ v) {j : Int32} : zald 0 (hst (hst h v V) i S) (v + 4) j = zrd 12 (V.1 3) j := (zald_out (by rw [st_len]; omega)).trans st_l3
theorem st_s3_st {h : zH} {v i : Nat} {V S : oS} (hd : v + 7 ≤ i ∨ i + 7 ≤ v) {j x : Int32} : zasti (hst (hst h v V) i S) (v + 4) j x = if zin j 12 = true then some (hst (hst h v (setR V 3 (upd (V.1 3) j.toNatClampNeg x))) i S) else none := by
  refine (zasti_out (by rw [st_len]; omega)).trans ?_
  rw [st_s3]
  split <;> rfl
theorem st_l4_st {h : zH} {v i : Nat} {V S : oS} (hd : v + 7 ≤ i ∨ i + 7 ≤ v) {j : Int32} : zald 0 (hst (hst h v V) i S) (v + 5) j = zrd 12 (V.1 4) j := (zald_out (by rw [st_len]; omega)).trans st_l4
theorem st_s4_st {h : zH} {v i : Nat} {V S : oS} (hd : v + 7 ≤ i ∨ i + 7 ≤ v) {j x : Int32} : zasti (hst (hst h v V) i S) (v + 5) j x = if zin j 12 = true then some (hst (hst h v (setR V 4 (upd (V.1 4) j.toNatClampNeg x))) i S) else none := by
  refine (zasti_out (by rw [st_len]; omega)).trans ?_
  rw [st_s4]
  split <;> rfl
theorem st_l5_st {h : zH} {v i : Nat} {V S : oS} (hd : v + 7 ≤ i ∨ i + 7 ≤ v) {j : Int32} : zald 0 (hst (hst h v V) i S) (v + 6) j = zrd 12 (V.1 5) j := (zald_out (by rw [st_len]; omega)).trans st_l5
theorem st_s5_st {h : zH} {v i : Nat} {V S : oS} (hd : v + 7 ≤ i ∨ i + 7 ≤ v) {j x : Int32} : zasti (hst (hst h v V) i S) (v + 6) j x = if zin j 12 = true then some (hst (hst h v (setR V 5 (upd (V.1 5) j.toNatClampNeg x))) i S) else none := by
  refine (zasti_out (by rw [st_len]; omega)).trans ?_
  rw [st_s5]
  split <;> rfl
theorem st_st_comm {h : zH} {v i : Nat} {V S : oS} (hd : v + 7 ≤ i ∨ i + 7 ≤ v) : hst (hst h v V) i S = hst (hst h i S) v V := hrg_comm (by rw [st_len, st_len]; omega)
theorem rd_is_st {h : zH} {v i : Nat} {V S : oS} (hd : v + 1 ≤ i ∨ i + 7 ≤ v) : zis (hst (hrd h v V) i S) v 2 = true := (zis_out (by rw [st_len]; omega)).trans rd_is
theorem rd_g0_st {h : zH} {v i : Nat} {V S : oS} (hd : v + 1 ≤ i ∨ i + 7 ≤ v) : zgetf (hst (hrd h v V) i S) v 2 0 = some (.ref (v + 1)) := (zgetf_out (by rw [st_len]; omega)).trans rd_g0
theorem rd_g1_st {h : zH} {v i : Nat} {V S : oS} (hd : v + 1 ≤ i ∨ i + 7 ≤ v) : zgetf (hst (hrd h v V) i S) v 2 1 = some (.int (V.2 0)) := (zgetf_out (by rw [st_len]; omega)).trans rd_g1
theorem rd_p1_st {h : zH} {v i : Nat} {V S : oS} (hd : v + 1 ≤ i ∨ i + 7 ≤ v) {x : Int32} : zputf (hst (hrd h v V) i S) v 2 1 (.int x) = some (hst (hrd h v (setI V 0 x)) i S) := by
  refine (zputf_out (by rw [st_len]; omega)).trans ?_
  rw [rd_p1]
  rfl
theorem rd_g2_st {h : zH} {v i : Nat} {V S : oS} (hd : v + 1 ≤ i ∨ i + 7 ≤ v) : zgetf (hst (hrd h v V) i S) v 2 2 = some (.int (V.2 1)) := (zgetf_out (by rw [st_len]; omega)).trans rd_g2
theorem rd_p2_st {h : zH} {v i : Nat} {V S : oS} (hd : v + 1 ≤ i ∨ i + 7 ≤ v) {x : Int32} : zputf (hst (hrd h v V) i S) v 2 2 (.int x) = some (hst (hrd h v (setI V 1 x)) i S) := by
  refine (zputf_out (by rw [st_len]; omega)).trans ?_
  rw [rd_p2]
  rfl
theorem rd_g3_st {h : zH} {v i : Nat} {V S : oS} (hd : v + 1 ≤ i ∨ i + 7 ≤ v) : zgetf (hst (hrd h v V) i S) v 2 3 = some (.int (V.2 2)) := (zgetf_out (by rw [st_len]; omega)).trans rd_g3
theorem rd_p3_st {h : zH} {v i : Nat} {V S : oS} (hd : v + 1 ≤ i ∨ i + 7 ≤ v) {x : Int32} : zputf (hst (hrd h v V) i S) v 2 3 (.int x) = some (hst (hrd h v (setI V 2 x)) i S) := by
  refine (zputf_out (by rw [st_len]; omega)).trans ?_
  rw [rd_p3]
  rfl
theorem rd_g4_st {h : zH} {v i : Nat} {V S : oS} (hd : v + 1 ≤ i ∨ i + 7 ≤ v) : zgetf (hst (hrd h v V) i S) v 2 4 = some (.int (V.2 3)) := (zgetf_out (by rw [st_len]; omega)).trans rd_g4
theorem rd_p4_st {h : zH} {v i : Nat} {V S : oS} (hd : v + 1 ≤ i ∨ i + 7 ≤ v) {x : Int32} : zputf (hst (hrd h v V) i S) v 2 4 (.int x) = some (hst (hrd h v (setI V 3 x)) i S) := by
  refine (zputf_out (by rw [st_len]; omega)).trans ?_
  rw [rd_p4]
  rfl
theorem rd_g5_st {h : zH} {v i : Nat} {V S : oS} (hd : v + 1 ≤ i ∨ i + 7 ≤ v) : zgetf (hst (hrd h v V) i S) v 2 5 = some (.int (V.2 4)) := (zgetf_out (by rw [st_len]; omega)).trans rd_g5
theorem rd_p5_st {h : zH} {v i : Nat} {V S : oS} (hd : v + 1 ≤ i ∨ i + 7 ≤ v) {x : Int32} : zputf (hst (hrd h v V) i S) v 2 5 (.int x) = some (hst (hrd h v (setI V 4 x)) i S) := by
  refine (zputf_out (by rw [st_len]; omega)).trans ?_
  rw [rd_p5]
  rfl
theorem rd_st_comm {h : zH} {v i : Nat} {V S : oS} (hd : v + 1 ≤ i ∨ i + 7 ≤ v) : hst (hrd h v V) i S = hrd (hst h i S) v V := hrg_comm (by rw [rd_len, st_len]; omega)
theorem rd_is_pd {h : zH} {v i : Nat} {V S : oS} (hd : v + 1 ≤ i ∨ i + 2 ≤ v) : zis (hpd (hrd h v V) i S) v 2 = true := (zis_out (by rw [pd_len]; omega)).trans rd_is
theorem rd_g0_pd {h : zH} {v i : Nat} {V S : oS} (hd : v + 1 ≤ i ∨ i + 2 ≤ v) : zgetf (hpd (hrd h v V) i S) v 2 0 = some (.ref (v + 1)) := (zgetf_out (by rw [pd_len]; omega)).trans rd_g0
theorem rd_g1_pd {h : zH} {v i : Nat} {V S : oS} (hd : v + 1 ≤ i ∨ i + 2 ≤ v) : zgetf (hpd (hrd h v V) i S) v 2 1 = some (.int (V.2 0)) := (zgetf_out (by rw [pd_len]; omega)).trans rd_g1
theorem rd_p1_pd {h : zH} {v i : Nat} {V S : oS} (hd : v + 1 ≤ i ∨ i + 2 ≤ v) {x : Int32} : zputf (hpd (hrd h v V) i S) v 2 1 (.int x) = some (hpd (hrd h v (setI V 0 x)) i S) := by
  refine (zputf_out (by rw [pd_len]; omega)).trans ?_
  rw [rd_p1]
  rfl
theorem rd_g2_pd {h : zH} {v i : Nat} {V S : oS} (hd : v + 1 ≤ i ∨ i + 2 ≤ v) : zgetf (hpd (hrd h v V) i S) v 2 2 = some (.int (V.2 1)) := (zgetf_out (by rw [pd_len]; omega)).trans rd_g2
theorem rd_p2_pd {h : zH} {v i : Nat} {V S : oS} (hd : v + 1 ≤ i ∨ i + 2 ≤ v) {x : Int32} : zputf (hpd (hrd h v V) i S) v 2 2 (.int x) = some (hpd (hrd h v (setI V 1 x)) i S) := by
  refine (zputf_out (by rw [pd_len]; omega)).trans ?_
  rw [rd_p2]
  rfl
theorem rd_g3_pd {h : zH} {v i : Nat} {V S : oS} (hd : v + 1 ≤ i ∨ i + 2 ≤ v) : zgetf (hpd (hrd h v V) i S) v 2 3 = some (.int (V.2 2)) := (zgetf_out (by rw [pd_len]; omega)).trans rd_g3
theorem rd_p3_pd {h : zH} {v i : Nat} {V S : oS} (hd : v + 1 ≤ i ∨ i + 2 ≤ v) {x : Int32} : zputf (hpd (hrd h v V) i S) v 2 3 (.int x) = some (hpd (hrd h v (setI V 2 x)) i S) := by
  refine (zputf_out (by rw [pd_len]; omega)).trans ?_
  rw [rd_p3]
  rfl
theorem rd_g4_pd {h : zH} {v i : Nat} {V S : oS} (hd : v + 1 ≤ i ∨ i + 2 ≤ v) : zgetf (hpd (hrd h v V) i S) v 2 4 = some (.int (V.2 3)) := (zgetf_out (by rw [pd_len]; omega)).trans rd_g4
theorem rd_p4_pd {h : zH} {v i : Nat} {V S : oS} (hd : v + 1 ≤ i ∨ i + 2 ≤ v) {x : Int32} : zputf (hpd (hrd h v V) i S) v 2 4 (.int x) = some (hpd (hrd h v (setI V 3 x)) i S) := by
  refine (zputf_out (by rw [pd_len]; omega)).trans ?_
  rw [rd_p4]
  rfl
theorem rd_g5_pd {h : zH} {v i : Nat} {V S : oS} (hd : v + 1 ≤ i ∨ i + 2 ≤ v) : zgetf (hpd (hrd h v V) i S) v 2 5 = some (.int (V.2 4)) := (zgetf_out (by rw [pd_len]; omega)).trans rd_g5
theorem rd_p5_pd {h : zH} {v i : Nat} {V S : oS} (hd : v + 1 ≤ i ∨ i + 2 ≤ v) {x : Int32} : zputf (hpd (hrd h v V) i S) v 2 5 (.int x) = some (hpd (hrd h v (setI V 4 x)) i S) := by
  refine (zputf_out (by rw [pd_len]; omega)).trans ?_
  rw [rd_p5]
  rfl
theorem rd_pd_comm {h : zH} {v i : Nat} {V S : oS} (hd : v + 1 ≤ i ∨ i + 2 ≤ v) : hpd (hrd h v V) i S = hrd (hpd h i S) v V := hrg_comm (by rw [rd_len, pd_len]; omega)
theorem st_is_pd {h : zH} {v i : Nat} {V S : oS} (hd : v + 7 ≤ i ∨ i + 2 ≤ v) : zis (hpd (hst h v V) i S) v 5 = true := (zis_out (by rw [pd_len]; omega)).trans st_is
theorem st_g0_pd {h : zH} {v i : Nat} {V S : oS} (hd : v + 7 ≤ i ∨ i + 2 ≤ v) : zgetf (hpd (hst h v V) i S) v 5 0 = some (.ref (v + 1)) := (zgetf_out (by rw [pd_len]; omega)).trans st_g0
theorem st_g1_pd {h : zH} {v i : Nat} {V S : oS} (hd : v + 7 ≤ i ∨ i + 2 ≤ v) : zgetf (hpd (hst h v V) i S) v 5 1 = some (.ref (v + 2)) := (zgetf_out (by rw [pd_len]; omega)).trans st_g1
theorem st_g2_pd {h : zH} {v i : Nat} {V S : oS} (hd : v + 7 ≤ i ∨ i + 2 ≤ v) : zgetf (hpd (hst h v V) i S) v 5 2 = some (.ref (v + 3)) := (zgetf_out (by rw [pd_len]; omega)).trans st_g2
theorem st_g3_pd {h : zH} {v i : Nat} {V S : oS} (hd : v + 7 ≤ i ∨ i + 2 ≤ v) : zgetf (hpd (hst h v V) i S) v 5 3 = some (.ref (v + 4)) := (zgetf_out (by rw [pd_len]; omega)).trans st_g3
theorem st_g4_pd {h : zH} {v i : Nat} {V S : oS} (hd : v + 7 ≤ i ∨ i + 2 ≤ v) : zgetf (hpd (hst h v V) i S) v 5 4 = some (.ref (v + 5)) := (zgetf_out (by rw [pd_len]; omega)).trans st_g4
theorem st_g5_pd {h : zH} {v i : Nat} {V S : oS} (hd : v + 7 ≤ i ∨ i + 2 ≤ v) : zgetf (hpd (hst h v V) i S) v 5 5 = some (.ref (v + 6)) := (zgetf_out (by rw [pd_len]; omega)).trans st_g5
theorem st_g6_pd {h : zH} {v i : Nat} {V S : oS} (hd : v + 7 ≤ i ∨ i + 2 ≤ v) : zgetf (hpd (hst h v V) i S) v 5 6 = some (.int (V.2 0)) := (zgetf_out (by rw [pd_len]; omega)).trans st_g6
theorem st_p6_pd {h : zH} {v i : Nat} {V S : oS} (hd : v + 7 ≤ i ∨ i + 2 ≤ v) {x : Int32} : zputf (hpd (hst h v V) i S) v 5 6 (.int x) = some (hpd (hst h v (setI V 0 x)) i S) := by
  refine (zputf_out (by rw [pd_len]; omega)).trans ?_
  rw [st_p6]
  rfl
theorem st_g7_pd {h : zH} {v i : Nat} {V S : oS} (hd : v + 7 ≤ i ∨ i + 2 ≤ v) : zgetf (hpd (hst h v V) i S) v 5 7 = some (.int (V.2 1)) := (zgetf_out (by rw [pd_len]; omega)).trans st_g7
theorem st_p7_pd {h : zH} {v i : Nat} {V S : oS} (hd : v + 7 ≤ i ∨ i + 2 ≤ v) {x : Int32} : zputf (hpd (hst h v V) i S) v 5 7 (.int x) = some (hpd (hst h v (setI V 1 x)) i S) := by
  refine (zputf_out (by rw [pd_len]; omega)).trans ?_
  rw [st_p7]
  rfl
theorem st_l0_pd {h : zH} {v i : Nat} {V S : oS} (hd : v + 7 ≤ i ∨ i + 2 ≤ v) {j : Int32} : zald 0 (hpd (hst h v V) i S) (v + 1) j = zrd 12 (V.1 0) j := (zald_out (by rw [pd_len]; omega)).trans st_l0
theorem st_s0_pd {h : zH} {v i : Nat} {V S : oS} (hd : v + 7 ≤ i ∨ i + 2 ≤ v) {j x : Int32} : zasti (hpd (hst h v V) i S) (v + 1) j x = if zin j 12 = true then some (hpd (hst h v (setR V 0 (upd (V.1 0) j.toNatClampNeg x))) i S) else none := by
  refine (zasti_out (by rw [pd_len]; omega)).trans ?_
  rw [st_s0]
  split <;> rfl
theorem st_l1_pd {h : zH} {v i : Nat} {V S : oS} (hd : v + 7 ≤ i ∨ i + 2 ≤ v) {j : Int32} : zald 0 (hpd (hst h v V) i S) (v + 2) j = zrd 12 (V.1 1) j := (zald_out (by rw [pd_len]; omega)).trans st_l1
theorem st_s1_pd {h : zH} {v i : Nat} {V S : oS} (hd : v + 7 ≤ i ∨ i + 2 ≤ v) {j x : Int32} : zasti (hpd (hst h v V) i S) (v + 2) j x = if zin j 12 = true then some (hpd (hst h v (setR V 1 (upd (V.1 1) j.toNatClampNeg x))) i S) else none := by
  refine (zasti_out (by rw [pd_len]; omega)).trans ?_
  rw [st_s1]
  split <;> rfl
theorem st_l2_pd {h : zH} {v i : Nat} {V S : oS} (hd : v + 7 ≤ i ∨ i + 2 ≤ v) {j : Int32} : zald 0 (hpd (hst h v V) i S) (v + 3) j = zrd 12 (V.1 2) j := (zald_out (by rw [pd_len]; omega)).trans st_l2
theorem st_s2_pd {h : zH} {v i : Nat} {V S : oS} (hd : v + 7 ≤ i ∨ i + 2 ≤ v) {j x : Int32} : zasti (hpd (hst h v V) i S) (v + 3) j x = if zin j 12 = true then some (hpd (hst h v (setR V 2 (upd (V.1 2) j.toNatClampNeg x))) i S) else none := by
  refine (zasti_out (by rw [pd_len]; omega)).trans ?_
  rw [st_s2]
  split <;> rfl
theorem st_l3_pd {h : zH} {v i : Nat} {V S : oS} (hd : v + 7 ≤ i ∨ i + 2 ≤ v) {j : Int32} : zald 0 (hpd (hst h v V) i S) (v + 4) j = zrd 12 (V.1 3) j := (zald_out (by rw [pd_len]; omega)).trans st_l3
theorem st_s3_pd {h : zH} {v i : Nat} {V S : oS} (hd : v + 7 ≤ i ∨ i + 2 ≤ v) {j x : Int32} : zasti (hpd (hst h v V) i S) (v + 4) j x = if zin j 12 = true then some (hpd (hst h v (setR V 3 (upd (V.1 3) j.toNatClampNeg x))) i S) else none := by
  refine (zasti_out (by rw [pd_len]; omega)).trans ?_
  rw [st_s3]
  split <;> rfl
theorem st_l4_pd {h : zH} {v i : Nat} {V S : oS} (hd : v + 7 ≤ i ∨ i + 2 ≤ v) {j : Int32} : zald 0 (hpd (hst h v V) i S) (v + 5) j = zrd 12 (V.1 4) j := (zald_out (by rw [pd_len]; omega)).trans st_l4
theorem st_s4_pd {h : zH} {v i : Nat} {V S : oS} (hd : v + 7 ≤ i ∨ i + 2 ≤ v) {j x : Int32} : zasti (hpd (hst h v V) i S) (v + 5) j x = if zin j 12 = true then some (hpd (hst h v (setR V 4 (upd (V.1 4) j.toNatClampNeg x))) i S) else none := by
  refine (zasti_out (by rw [pd_len]; omega)).trans ?_
  rw [st_s4]
  split <;> rfl
theorem st_l5_pd {h : zH} {v i : Nat} {V S : oS} (hd : v + 7 ≤ i ∨ i + 2 ≤ v) {j : Int32} : zald 0 (hpd (hst h v V) i S) (v + 6) j = zrd 12 (V.1 5) j := (zald_out (by rw [pd_len]; omega)).trans st_l5
theorem st_s5_pd {h : zH} {v i : Nat} {V S : oS} (hd : v + 7 ≤ i ∨ i + 2 ≤ v) {j x : Int32} : zasti (hpd (hst h v V) i S) (v + 6) j x = if zin j 12 = true then some (hpd (hst h v (setR V 5 (upd (V.1 5) j.toNatClampNeg x))) i S) else none := by
  refine (zasti_out (by rw [pd_len]; omega)).trans ?_
  rw [st_s5]
  split <;> rfl
theorem st_pd_comm {h : zH} {v i : Nat} {V S : oS} (hd : v + 7 ≤ i ∨ i + 2 ≤ v) : hpd (hst h v V) i S = hst (hpd h i S) v V := hrg_comm (by rw [st_len, pd_len]; omega)
theorem pd_is_st {h : zH} {v i : Nat} {V S : oS} (hd : v + 2 ≤ i ∨ i + 7 ≤ v) : zis (hst (hpd h v V) i S) v 4 = true := (zis_out (by rw [st_len]; omega)).trans pd_is
theorem pd_g0_st {h : zH} {v i : Nat} {V S : oS} (hd : v + 2 ≤ i ∨ i + 7 ≤ v) : zgetf (hst (hpd h v V) i S) v 4 0 = some (.ref (v + 1)) := (zgetf_out (by rw [st_len]; omega)).trans pd_g0
theorem pd_g1_st {h : zH} {v i : Nat} {V S : oS} (hd : v + 2 ≤ i ∨ i + 7 ≤ v) : zgetf (hst (hpd h v V) i S) v 4 1 = some (.int (V.2 0)) := (zgetf_out (by rw [st_len]; omega)).trans pd_g1
theorem pd_p1_st {h : zH} {v i : Nat} {V S : oS} (hd : v + 2 ≤ i ∨ i + 7 ≤ v) {x : Int32} : zputf (hst (hpd h v V) i S) v 4 1 (.int x) = some (hst (hpd h v (setI V 0 x)) i S) := by
  refine (zputf_out (by rw [st_len]; omega)).trans ?_
  rw [pd_p1]
  rfl
theorem pd_l0_st {h : zH} {v i : Nat} {V S : oS} (hd : v + 2 ≤ i ∨ i + 7 ≤ v) {j : Int32} : zald 1 (hst (hpd h v V) i S) (v + 1) j = zrd 80 (V.1 0) j := (zald_out (by rw [st_len]; omega)).trans pd_l0
theorem pd_s0_st {h : zH} {v i : Nat} {V S : oS} (hd : v + 2 ≤ i ∨ i + 7 ≤ v) {j x : Int32} : zastc (hst (hpd h v V) i S) (v + 1) j x = if zin j 80 = true then some (hst (hpd h v (setR V 0 (upd (V.1 0) j.toNatClampNeg (vp_nar .char x)))) i S) else none := by
  refine (zastc_out (by rw [st_len]; omega)).trans ?_
  rw [pd_s0]
  split <;> rfl
theorem pd_st_comm {h : zH} {v i : Nat} {V S : oS} (hd : v + 2 ≤ i ∨ i + 7 ≤ v) : hst (hpd h v V) i S = hpd (hst h i S) v V := hrg_comm (by rw [pd_len, st_len]; omega)
theorem z10 : ((1 : Nat) = 0) = False := by decide
theorem z20 : ((2 : Nat) = 0) = False := by decide
theorem z21 : ((2 : Nat) = 1) = False := by decide
theorem zin_T {n k : Nat} (hk : k < n) (hn : n < 2 ^ 31) : zin (nI k) n = true := by rw [zin_nI (by omega)]; exact decide_eq_true hk
/-- what the view holds after k crates -/
def vwK (V : oS) (σ : mS) (k : Nat) : Prop := V.2 0 = nI σ.1 ∧ ∀ c, c < k → V.1 0 c = nI (σ.2 c 0) ∧ V.1 1 c = nI (dpt σ c) ∧ V.1 2 c = nI (sgs σ c)
section LOOK
variable {d : Nat} {h : zH} {v i : Nat} {V S : oS} {σ : mS}
theorem v_look (hR : stR S σ) (hb : bnd σ) (hd : v + 4 ≤ i ∨ i + 7 ≤ v) : ∃ V', vwR V' σ ∧ ev (d + 4) 82 0 [some (.ref v), some (.ref i), none] [] (hst (hvw h v V) i S) = some (none, hst (hvw h v V') i S) := by
  have hn := hb.1
  have h0 := hR.1
  have emin : (if (12 : Int32) < nI σ.1 then (12 : Int32) else nI σ.1) = nI σ.1 := by
    rw [if_neg]
    rw [show (12 : Int32) = nI 12 from rfl, nI_ltp (by omega) (by omega)]
    omega
  simp only [e82_0, e82_1, e82_2, e82_5, e82_7, e82_10, e82_13, e82_14, e82_16, e82_17, e82_20, e82_23, e82_24, e82_27, e82_28, e82_29, e82_30, e82_33, e82_34, e82_35, e82_38, e82_39, e82_40, e82_41, e82_44, e82_45, e82_46, e82_49, e82_50, e82_51, e82_52, e82_55, e82_56, e82_59, e82_62, st_g0, st_g1, st_g2, st_g3, st_g4, st_g5, st_g6, st_g7, st_p6, st_p7, st_l0, st_l1, st_l2, st_l3, st_l4, st_l5, st_s0, st_s1, st_s2, st_s3, st_s4, st_s5, st_is, vw_is_st hd, vw_g0_st hd, vw_g1_st hd, vw_g2_st hd, vw_g3_st hd, vw_p3_st hd, vw_l0_st hd, vw_s0_st hd, vw_l1_st hd, vw_s1_st hd, vw_l2_st hd, vw_s2_st hd, Option.bind_some, Option.toList_some, Option.toList_none, List.cons_append, List.nil_append, true_or, or_true, and_true, true_and, i10, Bool.false_eq_true, if_true, if_false, reduceIte, s_crates, h0, emin]
  have main : ∀ (f k : Nat) (W : oS), k + f = σ.1 → vwK W σ k → ∃ V', vwR V' σ ∧ ev (d + 4) 82 15 [some (.ref v), some (.ref i), some (.int (nI k))] [] (hst (hvw h v W) i S) = some (none, hst (hvw h v V') i S) := by
    intro f
    induction f with
    | zero =>
      intro k W hk hW
      have hk : k = σ.1 := by omega
      subst hk
      refine ⟨W, hW, ?_⟩
      rw [e82_15]
      simp only [e82_0, e82_1, e82_2, e82_5, e82_7, e82_10, e82_13, e82_14, e82_16, e82_17, e82_20, e82_23, e82_24, e82_27, e82_28, e82_29, e82_30, e82_33, e82_34, e82_35, e82_38, e82_39, e82_40, e82_41, e82_44, e82_45, e82_46, e82_49, e82_50, e82_51, e82_52, e82_55, e82_56, e82_59, e82_62, st_g0, st_g1, st_g2, st_g3, st_g4, st_g5, st_g6, st_g7, st_p6, st_p7, st_l0, st_l1, st_l2, st_l3, st_l4, st_l5, st_s0, st_s1, st_s2, st_s3, st_s4, st_s5, st_is, vw_is_st hd, vw_g0_st hd, vw_g1_st hd, vw_g2_st hd, vw_g3_st hd, vw_p3_st hd, vw_l0_st hd, vw_s0_st hd, vw_l1_st hd, vw_s1_st hd, vw_l2_st hd, vw_s2_st hd, Option.bind_some, Option.toList_some, Option.toList_none, List.cons_append, List.nil_append, true_or, or_true, and_true, true_and, i10, Bool.false_eq_true, if_true, if_false, reduceIte, hW.1, Int32.le_refl]
    | succ f ih =>
      intro k W hk hW
      have hk2 : k < σ.1 := by omega
      have hlt : (σ.1 ≤ k) = False := eq_false (by omega)
      obtain ⟨V', g1, g2⟩ := ih (k + 1) (setR (setR (setR W 0 (upd (W.1 0) k (nI (σ.2 k 0)))) 1 (upd (W.1 1) k (nI (dpt σ k)))) 2 (upd (W.1 2) k (nI (sgs σ k)))) (by omega) ⟨hW.1, fun c hc => by
        by_cases q : c = k
        · subst q
          simp [setR, upd]
        · obtain ⟨a0, a1, a2⟩ := hW.2 c (by omega)
          simp [setR, upd, q, a0, a1, a2]⟩
      refine ⟨V', g1, ?_⟩
      rw [e82_15]
      simp only [e82_0, e82_1, e82_2, e82_5, e82_7, e82_10, e82_13, e82_14, e82_16, e82_17, e82_20, e82_23, e82_24, e82_27, e82_28, e82_29, e82_30, e82_33, e82_34, e82_35, e82_38, e82_39, e82_40, e82_41, e82_44, e82_45, e82_46, e82_49, e82_50, e82_51, e82_52, e82_55, e82_56, e82_59, e82_62, st_g0, st_g1, st_g2, st_g3, st_g4, st_g5, st_g6, st_g7, st_p6, st_p7, st_l0, st_l1, st_l2, st_l3, st_l4, st_l5, st_s0, st_s1, st_s2, st_s3, st_s4, st_s5, st_is, vw_is_st hd, vw_g0_st hd, vw_g1_st hd, vw_g2_st hd, vw_g3_st hd, vw_p3_st hd, vw_l0_st hd, vw_s0_st hd, vw_l1_st hd, vw_s1_st hd, vw_l2_st hd, vw_s2_st hd, Option.bind_some, Option.toList_some, Option.toList_none, List.cons_append, List.nil_append, true_or, or_true, and_true, true_and, i10, Bool.false_eq_true, if_true, if_false, reduceIte, hW.1, nI_lep (show σ.1 < 2147483648 by omega) (show k < 2147483648 by omega), hlt, s_sizeOf hR hb hk2, s_depthOf hR hb hk2, s_signsOf hR hb hk2, zin_T (show k < 12 by omega) (by decide), nI_clamp (show k < 2 ^ 31 by omega), nI_1, setR_1, setR_2, z10, z20, z21]
      exact g2
  exact main σ.1 0 _ (by omega) ⟨by simp [setI], fun c hc => by omega⟩
end LOOK
