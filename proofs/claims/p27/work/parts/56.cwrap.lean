/-! THE CONTRACTS OVER A WHOLE HEAP -/
section CWRAP
variable {d : Nat} {H : zH} {i v c : Nat} {S V : oS} {σ : mS}
theorem S_crates (hH : hst H i S = H) (hR : stR S σ) : ev d 38 0 [some (.ref i)] [] H = some (some (.int (nI σ.1)), H) := by
  have q := s_crates (d := d) (h := H) (i := i) (S := S)
  rw [hH, hR.1] at q
  exact q
theorem S_refused (hH : hst H i S = H) : ev d 39 0 [some (.ref i)] [] H = some (some (.int (S.2 1)), H) := by
  have q := s_refused (d := d) (h := H) (i := i) (S := S)
  rw [hH] at q
  exact q
theorem S_isC0 (hH : hst H i S = H) (hR : stR S σ) (hn : σ.1 ≤ 12) {x : Int32} (hz : zin x σ.1 = false) : ev d 37 0 [some (.ref i), some (.int x)] [] H = some (some (.int 0), H) := by
  have q := s_isCrate (d := d) (h := H) (i := i) (S := S) (c := x) hR.1 (by omega)
  rw [hH, bI_f (by rw [hz]; decide)] at q
  exact q
theorem S_sizeOf (hH : hst H i S = H) (hR : stR S σ) (hb : bnd σ) (hc : c < σ.1) : ev (d + 1) 40 0 [some (.ref i), some (.int (nI c))] [] H = some (some (.int (nI (σ.2 c 0))), H) := by
  have q := s_sizeOf (d := d) (h := H) (i := i) (S := S) hR hb hc
  rw [hH] at q
  exact q
theorem S_roomOf (hH : hst H i S = H) (hR : stR S σ) (hb : bnd σ) (hc : c < σ.1) : ev (d + 1) 41 0 [some (.ref i), some (.int (nI c))] [] H = some (some (.int (nI (σ.2 c 1))), H) := by
  have q := s_roomOf (d := d) (h := H) (i := i) (S := S) hR hb hc
  rw [hH] at q
  exact q
theorem S_gapsOf (hH : hst H i S = H) (hR : stR S σ) (hb : bnd σ) (hc : c < σ.1) : ev (d + 1) 42 0 [some (.ref i), some (.int (nI c))] [] H = some (some (.int (nI (σ.2 c 2))), H) := by
  have q := s_gapsOf (d := d) (h := H) (i := i) (S := S) hR hb hc
  rw [hH] at q
  exact q
theorem S_holderOf (hH : hst H i S = H) (hR : stR S σ) (hb : bnd σ) (hc : c < σ.1) : ev (d + 1) 43 0 [some (.ref i), some (.int (nI c))] [] H = some (some (.int (hI (σ.2 c 7))), H) := by
  have q := s_holderOf (d := d) (h := H) (i := i) (S := S) hR hb hc
  rw [hH] at q
  exact q
theorem S_placeOf (hH : hst H i S = H) (hR : stR S σ) (hb : bnd σ) (hc : c < σ.1) : ev (d + 1) 44 0 [some (.ref i), some (.int (nI c))] [] H = some (some (.int (nI (σ.2 c 8))), H) := by
  have q := s_placeOf (d := d) (h := H) (i := i) (S := S) hR hb hc
  rw [hH] at q
  exact q
theorem S_isOnGround (hH : hst H i S = H) (hR : stR S σ) (hb : bnd σ) (hc : c < σ.1) : ev (d + 2) 47 0 [some (.ref i), some (.int (nI c))] [] H = some (some (.int (bI (σ.2 c 7 = 0))), H) := by
  have q := s_isOnGround (d := d) (h := H) (i := i) (S := S) hR hb hc
  rw [hH] at q
  exact q
theorem S_pileOf (hH : hst H i S = H) (hR : stR S σ) (hb : bnd σ) (hc : c < σ.1) : ev d 50 0 [some (.ref i), some (.int (nI c)), none, none] [] H = some (some (.int (nI (pil σ c))), H) := by
  have q := s_pileOf (d := d) (h := H) (i := i) (S := S) hR hb hc
  rw [hH] at q
  exact q
theorem S_depthOf (hH : hst H i S = H) (hR : stR S σ) (hb : bnd σ) (hc : c < σ.1) : ev (d + 2) 48 0 [some (.ref i), some (.int (nI c)), none, none] [] H = some (some (.int (nI (dpt σ c))), H) := by
  have q := s_depthOf (d := d) (h := H) (i := i) (S := S) hR hb hc
  rw [hH] at q
  exact q
theorem S_loadOf (hH : hst H i S = H) (hR : stR S σ) (hb : bnd σ) (hc : c < σ.1) : ev (d + 3) 52 0 [some (.ref i), some (.int (nI c)), none, none] [] H = some (some (.int (nI (lod σ c))), H) := by
  have q := s_loadOf (d := d) (h := H) (i := i) (S := S) hR hb hc
  rw [hH] at q
  exact q
theorem S_onGround (hH : hst H i S = H) (hR : stR S σ) (hb : bnd σ) : ev (d + 3) 60 0 [some (.ref i), none, none] [] H = some (some (.int (nI (ct (fun c => decide (σ.2 c 7 = 0)) σ.1))), H) := by
  have q := s_onGround (d := d) (h := H) (i := i) (S := S) hR hb
  rw [hH] at q
  exact q
theorem S_roomLeftIn (hH : hst H i S = H) (hR : stR S σ) (hb : bnd σ) (hc : c < σ.1) : ev (d + 2) 53 0 [some (.ref i), some (.int (nI c)), none, none] [] H = some (some (.int (iI (lft σ c))), H) := by
  have q := s_roomLeftIn (d := d) (h := H) (i := i) (S := S) hR hb hc
  rw [hH] at q
  exact q
theorem S_letterAt (hH : hst H i S = H) (hR : stR S σ) (hb : bnd σ) (hc : c < σ.1) {p : Nat} (hp : p < 4) : ev (d + 1) 45 0 [some (.ref i), some (.int (nI c)), some (.int (nI p)), none, none] [] H = some (some (.int (hI (σ.2 c (3 + p)))), H) := by
  have q := s_letterAt (d := d) (h := H) (i := i) (S := S) (p := p) hR hb hc hp
  rw [hH] at q
  exact q
theorem S_lettersOf (hH : hst H i S = H) (hR : stR S σ) (hb : bnd σ) (hc : c < σ.1) : ev (d + 2) 46 0 [some (.ref i), some (.int (nI c)), none, none] [] H = some (some (.int (nI (lts σ c))), H) := by
  have q := s_lettersOf (d := d) (h := H) (i := i) (S := S) hR hb hc
  rw [hH] at q
  exact q
theorem S_reasonNotToGround (hH : hst H i S = H) (hR : stR S σ) (hw : wf σ) (hc : c < σ.1) : ev (d + 4) 57 0 [some (.ref i), some (.int (nI c))] [] H = some (some (.int (nI (rgd σ c))), H) := by
  have q := s_reasonNotToGround (d := d) (h := H) (i := i) (S := S) hR hw hc
  rw [hH] at q
  exact q
theorem S_reasonNotToBreak (hH : hst H i S = H) (hR : stR S σ) (hw : wf σ) (hc : c < σ.1) : ev (d + 4) 58 0 [some (.ref i), some (.int (nI c))] [] H = some (some (.int (nI (rbk σ c))), H) := by
  have q := s_reasonNotToBreak (d := d) (h := H) (i := i) (S := S) hR hw hc
  rw [hH] at q
  exact q
theorem S_reasonNotToPut (hH : hst H i S = H) (hR : stR S σ) (hw : wf σ) (hc : c < σ.1) {x : Nat} (hx : x < σ.1) : ev (d + 4) 56 0 [some (.ref i), some (.int (nI c)), some (.int (nI x)), none] [] H = some (some (.int (nI (rpt σ c x))), H) := by
  have q := s_reasonNotToPut (d := d) (h := H) (i := i) (S := S) (x := x) hR hw hc hx
  rw [hH] at q
  exact q
theorem S_effort (hH : hst H i S = H) (hR : stR S σ) (hw : wf σ) (hc : c < σ.1) : ev (d + 4) 92 0 [some (.ref i), some (.int (nI c)), none, none, none] [] H = some (some (.int (iI (eft σ c))), H) := by
  have q := s_effort (d := d) (h := H) (i := i) (S := S) hR hw hc
  rw [hH] at q
  exact q
theorem S_loose (hH : hst H i S = H) (hR : stR S σ) (hw : wf σ) : ev (d + 4) 61 0 [some (.ref i), none, none] [] H = some (some (.int (nI (ct (lse σ) σ.1))), H) := by
  have q := s_loose (d := d) (h := H) (i := i) (S := S) hR hw
  rw [hH] at q
  exact q
theorem S_sizes (hH : hst H i S = H) (hR : stR S σ) (hw : wf σ) : ev d 63 0 [some (.ref i), none, none] [] H = some (some (.int (nI (sm (fun c => σ.2 c 0) σ.1))), H) := by
  have q := s_sizes (d := d) (h := H) (i := i) (S := S) hR hw
  rw [hH] at q
  exact q
theorem S_rooms (hH : hst H i S = H) (hR : stR S σ) (hw : wf σ) : ev d 65 0 [some (.ref i), none, none] [] H = some (some (.int (nI (sm (fun c => σ.2 c 1) σ.1))), H) := by
  have q := s_rooms (d := d) (h := H) (i := i) (S := S) hR hw
  rw [hH] at q
  exact q
theorem S_letters (hH : hst H i S = H) (hR : stR S σ) (hw : wf σ) : ev (d + 3) 66 0 [some (.ref i), none, none] [] H = some (some (.int (nI (sm (lts σ) σ.1))), H) := by
  have q := s_letters (d := d) (h := H) (i := i) (S := S) hR hw
  rw [hH] at q
  exact q
theorem S_sizesLying (hH : hst H i S = H) (hR : stR S σ) (hw : wf σ) : ev (d + 3) 64 0 [some (.ref i), none, none] [] H = some (some (.int (nI (sm (fun c => if σ.2 c 7 = 0 then 0 else σ.2 c 0) σ.1))), H) := by
  have q := s_sizesLying (d := d) (h := H) (i := i) (S := S) hR hw
  rw [hH] at q
  exact q
theorem S_sumOfAll (hH : hst H i S = H) (hR : stR S σ) (hw : wf σ) : ev (d + 5) 94 0 [some (.ref i), none, none] [] H = some (some (.int (iI (si (eft σ) σ.1))), H) := by
  have q := s_sumOfAll (d := d) (h := H) (i := i) (S := S) hR hw
  rw [hH] at q
  exact q
theorem S_sumGoingUp (hH : hst H i S = H) {z : Int32} (hR : stR S σ) (hw : wf σ) : ev (d + 5) 93 0 [some (.ref i), some (.int z), none, none] [] H = some (some (.int (iI (si (fun c => if nI (σ.2 c 0) = z then eft σ c else 0) σ.1))), H) := by
  have q := s_sumGoingUp (d := d) (h := H) (i := i) (S := S) (z := z) hR hw
  rw [hH] at q
  exact q
theorem S_greatestDepth (hH : hst H i S = H) (hR : stR S σ) (hb : bnd σ) : ev (d + 3) 62 0 [some (.ref i), none, none] [] H = some (some (.int (nI (dmx σ))), H) := by
  have q := s_greatestDepth (d := d) (h := H) (i := i) (S := S) hR hb
  rw [hH] at q
  exact q
theorem S_best (hH : hst H i S = H) (hR : stR S σ) (hw : wf σ) (hc : c < σ.1) : ev (d + 3) 59 0 [some (.ref i), some (.int (nI c)), none, none, none, none, none] [] H = some (some (.int (cB (bst σ c))), H) := by
  have q := s_best (d := d) (h := H) (i := i) (S := S) hR hw hc
  rw [hH] at q
  exact q
theorem S_sumGoingDown (hH : hst H i S = H) {z : Int32} (hR : stR S σ) (hw : wf σ) : ev (d + 15) 95 0 [some (.ref i), some (.int z), none, none] [] H = some (some (.int (iI (si (gz σ z) σ.1))), H) := by
  have q := s_sumGoingDown (d := d) (h := H) (i := i) (S := S) (z := z) hR hw
  rw [hH] at q
  exact q
theorem S_isCrate_k (hH : hst H i S = H) (hR : stR S σ) (hb : bnd σ) (hc : c < σ.1) : ev d 37 0 [some (.ref i), some (.int (nI c))] [] H = some (some (.int 1), H) := by
  have q := s_isCrate_k (d := d) (h := H) (i := i) (S := S) hR hb hc
  rw [hH] at q
  exact q
theorem V_signAt (hH : hvw H v V = H) (hV : vwR V σ) (hb : bnd σ) (hc : c < σ.1) {p : Nat} (hp : p < 4) : ev (d + 1) 85 0 [some (.ref v), some (.int (nI c)), some (.int (nI p)), none] [] H = some (some (.int (nI (sgn σ c p))), H) := by
  have q := v_signAt (d := d) (h := H) (v := v) (V := V) (p := p) hV hb hc hp
  rw [hH] at q
  exact q
theorem V_shows (hH : hvw H v V = H) (hV : vwR V σ) (hb : bnd σ) (hc : c < σ.1) {p : Nat} (hp : p < 4) {x : Int32} : ev (d + 2) 86 0 [some (.ref v), some (.int (nI c)), some (.int (nI p)), some (.int x)] [] H = some (some (.int (bI (x = 28 ∨ nI (sgn σ c p) = x))), H) := by
  have q := v_shows (d := d) (h := H) (v := v) (V := V) (p := p) (x := x) hV hb hc hp
  rw [hH] at q
  exact q
theorem V_lettersSeenOf (hH : hvw H v V = H) (hV : vwR V σ) (hb : bnd σ) (hc : c < σ.1) : ev (d + 2) 87 0 [some (.ref v), some (.int (nI c)), none, none] [] H = some (some (.int (nI (lsn σ c))), H) := by
  have q := v_lettersSeenOf (d := d) (h := H) (v := v) (V := V) hV hb hc
  rw [hH] at q
  exact q
theorem V_canTell (hH : hvw H v V = H) (hV : vwR V σ) (hb : bnd σ) (hc : c < σ.1) : ev d 89 0 [some (.ref v), some (.int (nI c)), none] [] H = some (some (.int (bI (tld σ c = true))), H) := by
  have q := v_canTell (d := d) (h := H) (v := v) (V := V) hV hb hc
  rw [hH] at q
  exact q
theorem V_lettersSeen (hH : hvw H v V = H) (hR : vwR V σ) (hb : bnd σ) : ev (d + 3) 88 0 [some (.ref v), none, none] [] H = some (some (.int (nI (sm (lsn σ) σ.1))), H) := by
  have q := v_lettersSeen (d := d) (h := H) (v := v) (V := V) hR hb
  rw [hH] at q
  exact q
theorem V_tellable (hH : hvw H v V = H) (hR : vwR V σ) (hb : bnd σ) : ev (d + 1) 90 0 [some (.ref v), none, none] [] H = some (some (.int (nI (ct (tld σ) σ.1))), H) := by
  have q := v_tellable (d := d) (h := H) (v := v) (V := V) hR hb
  rw [hH] at q
  exact q
theorem V_differentRows (hH : hvw H v V = H) (hR : vwR V σ) (hb : bnd σ) : ev d 91 0 [some (.ref v), none, none, none, none] [] H = some (some (.int (nI (dif σ))), H) := by
  have q := v_differentRows (d := d) (h := H) (v := v) (V := V) hR hb
  rw [hH] at q
  exact q
end CWRAP
