/-! THE LAW'S LOOP -/
section LAW
variable {sc : Nat → Nat → Int32} {V c Ln : Nat} {I : IT} {J : JT} {Q : IQ}
/-- the law, at its loop's end with one call done -/
def BK (sc : Nat → Nat → Int32) (V c : Nat) (Q : IQ) : Prop := ∀ I J, INV sc (V + 1) I J → EN 62 RF mL_law 13 1360 [(0, .ref 2000), (1, .ref 0), (2, .ref 39), (3, .int (nI (6 * c)))] [] I J Q
theorem sc_in (hL : sc 2001 0 = nI Ln) (hL2 : Ln ≤ 3072) (hc : 6 * c + 6 ≤ Ln) {I : IT} (hI : I 2001 = sc 2001) {x : Int32} {j : Nat} (hx : x = nI j) (hj : j < 6) : vp_in (nI (6 * c) + x) (I 2001 0).toNatClampNeg := by
  rw [hI, hL, cl Ln, hx, nI_add]
  exact ib (hN := by omega) (by omega)
theorem law_0 (hL : sc 2001 0 = nI Ln) (hL2 : Ln ≤ 3072) (hc : 6 * c + 6 ≤ Ln) (hV : V < 1000) (hI : INV sc V I J) (hs0 : I 2000 = sc 2000) (hs1 : I 2001 = sc 2001) (hb : BK sc V c Q) : EN 62 RF mL_law 13 208 [(0, .ref 2000), (1, .ref 0), (2, .ref 39), (3, .int (nI (6 * c)))] [] I J Q := by
  obtain ⟨v, hv⟩ := p_leaf (sc := sc) (V := V) (sc 2000 (nI (6 * c) + 1).toNatClampNeg) (sc 2000 (nI (6 * c) + 2).toNatClampNeg) I J hI
  refine blk s_L_law_208 (And.intro (sc_in hL hL2 hc hs1 (x := 1) (j := 1) rfl (by decide)) (And.intro (sc_in hL hL2 hc hs1 (x := 2) (j := 2) rfl (by decide)) (nm ?_)))
  rw [hs0]
  refine c_L_law_219 hv rfl (by decide) rfl (Nat.le_of_ble_eq_true rfl) (by decide) rfl (fun r I1 J1 hq => ?_)
  obtain ⟨q1, q2, q3⟩ := hq
  subst q1
  refine blk s_L_law_222 (And.intro (sc_in hL hL2 hc (q2 2001 (by decide)) (x := 1) (j := 1) rfl (by decide)) (And.intro (sc_in hL hL2 hc (q2 2001 (by decide)) (x := 2) (j := 2) rfl (by decide)) (nm ?_)))
  rw [q2 2000 (by decide)]
  refine c_L_law_233 q3 rfl (by decide) rfl (Nat.le_of_ble_eq_true rfl) (by decide) rfl (fun r2 I2 J2 hq2 => ?_)
  obtain ⟨q4, q5⟩ := hq2
  subst q4
  exact b_L_law_236 (fun _ => hb I2 J2 q5) (fun h => absurd rfl h)
theorem law_1 (hL : sc 2001 0 = nI Ln) (hL2 : Ln ≤ 3072) (hc : 6 * c + 6 ≤ Ln) (hV : V < 1000) (hI : INV sc V I J) (hs0 : I 2000 = sc 2000) (hs1 : I 2001 = sc 2001) (hb : BK sc V c Q) : EN 62 RF mL_law 13 241 [(0, .ref 2000), (1, .ref 0), (2, .ref 39), (3, .int (nI (6 * c)))] [] I J Q := by
  obtain ⟨v, hv⟩ := p_gate (sc := sc) (V := V) (sc 2000 (nI (6 * c) + 1).toNatClampNeg) (sc 2000 (nI (6 * c) + 2).toNatClampNeg) (sc 2000 (nI (6 * c) + 3).toNatClampNeg) I J hI
  refine blk s_L_law_241 (And.intro (sc_in hL hL2 hc hs1 (x := 1) (j := 1) rfl (by decide)) (And.intro (sc_in hL hL2 hc hs1 (x := 2) (j := 2) rfl (by decide)) (And.intro (sc_in hL hL2 hc hs1 (x := 3) (j := 3) rfl (by decide)) (nm ?_))))
  rw [hs0]
  refine c_L_law_257 hv rfl (by decide) rfl (Nat.le_of_ble_eq_true rfl) (by decide) rfl (fun r I1 J1 hq => ?_)
  obtain ⟨q1, q2, q3⟩ := hq
  subst q1
  refine blk s_L_law_260 (And.intro (sc_in hL hL2 hc (q2 2001 (by decide)) (x := 1) (j := 1) rfl (by decide)) (And.intro (sc_in hL hL2 hc (q2 2001 (by decide)) (x := 2) (j := 2) rfl (by decide)) (And.intro (sc_in hL hL2 hc (q2 2001 (by decide)) (x := 3) (j := 3) rfl (by decide)) (nm ?_))))
  rw [q2 2000 (by decide)]
  refine c_L_law_276 q3 rfl (by decide) rfl (Nat.le_of_ble_eq_true rfl) (by decide) rfl (fun r2 I2 J2 hq2 => ?_)
  obtain ⟨q4, q5⟩ := hq2
  subst q4
  exact b_L_law_279 (fun _ => hb I2 J2 q5) (fun h => absurd rfl h)
theorem law_2 (hL : sc 2001 0 = nI Ln) (hL2 : Ln ≤ 3072) (hc : 6 * c + 6 ≤ Ln) (hV : V < 1000) (hI : INV sc V I J) (hs0 : I 2000 = sc 2000) (hs1 : I 2001 = sc 2001) (hb : BK sc V c Q) : EN 62 RF mL_law 13 284 [(0, .ref 2000), (1, .ref 0), (2, .ref 39), (3, .int (nI (6 * c)))] [] I J Q := by
  obtain ⟨v, hv⟩ := p_choice (sc := sc) (V := V) (sc 2000 (nI (6 * c) + 1).toNatClampNeg) (sc 2000 (nI (6 * c) + 2).toNatClampNeg) (sc 2000 (nI (6 * c) + 3).toNatClampNeg) I J hI
  refine blk s_L_law_284 (And.intro (sc_in hL hL2 hc hs1 (x := 1) (j := 1) rfl (by decide)) (And.intro (sc_in hL hL2 hc hs1 (x := 2) (j := 2) rfl (by decide)) (And.intro (sc_in hL hL2 hc hs1 (x := 3) (j := 3) rfl (by decide)) (nm ?_))))
  rw [hs0]
  refine c_L_law_300 hv rfl (by decide) rfl (Nat.le_of_ble_eq_true rfl) (by decide) rfl (fun r I1 J1 hq => ?_)
  obtain ⟨q1, q2, q3⟩ := hq
  subst q1
  refine blk s_L_law_303 (And.intro (sc_in hL hL2 hc (q2 2001 (by decide)) (x := 1) (j := 1) rfl (by decide)) (And.intro (sc_in hL hL2 hc (q2 2001 (by decide)) (x := 2) (j := 2) rfl (by decide)) (And.intro (sc_in hL hL2 hc (q2 2001 (by decide)) (x := 3) (j := 3) rfl (by decide)) (nm ?_))))
  rw [q2 2000 (by decide)]
  refine c_L_law_319 q3 rfl (by decide) rfl (Nat.le_of_ble_eq_true rfl) (by decide) rfl (fun r2 I2 J2 hq2 => ?_)
  obtain ⟨q4, q5⟩ := hq2
  subst q4
  exact b_L_law_322 (fun _ => hb I2 J2 q5) (fun h => absurd rfl h)
theorem law_3 (hL : sc 2001 0 = nI Ln) (hL2 : Ln ≤ 3072) (hc : 6 * c + 6 ≤ Ln) (hV : V < 1000) (hI : INV sc V I J) (hs0 : I 2000 = sc 2000) (hs1 : I 2001 = sc 2001) (hb : BK sc V c Q) : EN 62 RF mL_law 13 327 [(0, .ref 2000), (1, .ref 0), (2, .ref 39), (3, .int (nI (6 * c)))] [] I J Q := by
  obtain ⟨v, hv⟩ := p_ofTerm (sc := sc) (V := V) (sc 2000 (nI (6 * c) + 1).toNatClampNeg) (sc 2000 (nI (6 * c) + 2).toNatClampNeg) I J hI
  refine blk s_L_law_327 (And.intro (sc_in hL hL2 hc hs1 (x := 1) (j := 1) rfl (by decide)) (And.intro (sc_in hL hL2 hc hs1 (x := 2) (j := 2) rfl (by decide)) (nm ?_)))
  rw [hs0]
  refine c_L_law_338 hv rfl (by decide) rfl (Nat.le_of_ble_eq_true rfl) (by decide) rfl (fun r I1 J1 hq => ?_)
  obtain ⟨q1, q2, q3⟩ := hq
  subst q1
  refine blk s_L_law_341 (And.intro (sc_in hL hL2 hc (q2 2001 (by decide)) (x := 1) (j := 1) rfl (by decide)) (And.intro (sc_in hL hL2 hc (q2 2001 (by decide)) (x := 2) (j := 2) rfl (by decide)) (nm ?_)))
  rw [q2 2000 (by decide)]
  refine c_L_law_352 q3 rfl (by decide) rfl (Nat.le_of_ble_eq_true rfl) (by decide) rfl (fun r2 I2 J2 hq2 => ?_)
  obtain ⟨q4, q5⟩ := hq2
  subst q4
  exact b_L_law_355 (fun _ => hb I2 J2 q5) (fun h => absurd rfl h)
theorem law_4 (hL : sc 2001 0 = nI Ln) (hL2 : Ln ≤ 3072) (hc : 6 * c + 6 ≤ Ln) (hV : V < 1000) (hI : INV sc V I J) (hs0 : I 2000 = sc 2000) (hs1 : I 2001 = sc 2001) (hb : BK sc V c Q) : EN 62 RF mL_law 13 360 [(0, .ref 2000), (1, .ref 0), (2, .ref 39), (3, .int (nI (6 * c)))] [] I J Q := by
  obtain ⟨v, hv⟩ := p_leaves (sc := sc) (V := V) (sc 2000 (nI (6 * c) + 1).toNatClampNeg) I J hI
  refine blk s_L_law_360 (And.intro (sc_in hL hL2 hc hs1 (x := 1) (j := 1) rfl (by decide)) (nm ?_))
  rw [hs0]
  refine c_L_law_366 hv rfl (by decide) rfl (Nat.le_of_ble_eq_true rfl) (by decide) rfl (fun r I1 J1 hq => ?_)
  obtain ⟨q1, q2, q3⟩ := hq
  subst q1
  refine blk s_L_law_369 (And.intro (sc_in hL hL2 hc (q2 2001 (by decide)) (x := 1) (j := 1) rfl (by decide)) (nm ?_))
  rw [q2 2000 (by decide)]
  refine c_L_law_375 q3 rfl (by decide) rfl (Nat.le_of_ble_eq_true rfl) (by decide) rfl (fun r2 I2 J2 hq2 => ?_)
  obtain ⟨q4, q5⟩ := hq2
  subst q4
  refine blk s_L_law_378 (nm ?_)
  exact b_L_law_379 (fun _ => hb I2 J2 q5) (fun h => absurd ((lg_cmp_eq _ _).mpr rfl) h)
theorem law_5 (hL : sc 2001 0 = nI Ln) (hL2 : Ln ≤ 3072) (hc : 6 * c + 6 ≤ Ln) (hV : V < 1000) (hI : INV sc V I J) (hs0 : I 2000 = sc 2000) (hs1 : I 2001 = sc 2001) (hb : BK sc V c Q) : EN 62 RF mL_law 13 384 [(0, .ref 2000), (1, .ref 0), (2, .ref 39), (3, .int (nI (6 * c)))] [] I J Q := by
  obtain ⟨v, hv⟩ := p_value (sc := sc) (V := V) (sc 2000 (nI (6 * c) + 1).toNatClampNeg) (sc 2000 (nI (6 * c) + 2).toNatClampNeg) (sc 2000 (nI (6 * c) + 3).toNatClampNeg) I J hI
  refine blk s_L_law_384 (And.intro (sc_in hL hL2 hc hs1 (x := 1) (j := 1) rfl (by decide)) (And.intro (sc_in hL hL2 hc hs1 (x := 2) (j := 2) rfl (by decide)) (And.intro (sc_in hL hL2 hc hs1 (x := 3) (j := 3) rfl (by decide)) (nm ?_))))
  rw [hs0]
  refine c_L_law_400 hv rfl (by decide) rfl (Nat.le_of_ble_eq_true rfl) (by decide) rfl (fun r I1 J1 hq => ?_)
  obtain ⟨q1, q2, q3⟩ := hq
  subst q1
  refine blk s_L_law_403 (And.intro (sc_in hL hL2 hc (q2 2001 (by decide)) (x := 1) (j := 1) rfl (by decide)) (And.intro (sc_in hL hL2 hc (q2 2001 (by decide)) (x := 2) (j := 2) rfl (by decide)) (And.intro (sc_in hL hL2 hc (q2 2001 (by decide)) (x := 3) (j := 3) rfl (by decide)) (nm ?_))))
  rw [q2 2000 (by decide)]
  refine c_L_law_419 q3 rfl (by decide) rfl (Nat.le_of_ble_eq_true rfl) (by decide) rfl (fun r2 I2 J2 hq2 => ?_)
  obtain ⟨q4, q5⟩ := hq2
  subst q4
  exact b_L_law_422 (fun _ => hb I2 J2 q5) (fun h => absurd rfl h)
theorem law_6 (hL : sc 2001 0 = nI Ln) (hL2 : Ln ≤ 3072) (hc : 6 * c + 6 ≤ Ln) (hV : V < 1000) (hI : INV sc V I J) (hs0 : I 2000 = sc 2000) (hs1 : I 2001 = sc 2001) (hb : BK sc V c Q) : EN 62 RF mL_law 13 427 [(0, .ref 2000), (1, .ref 0), (2, .ref 39), (3, .int (nI (6 * c)))] [] I J Q := by
  obtain ⟨v, hv⟩ := p_holds (sc := sc) (V := V) (sc 2000 (nI (6 * c) + 1).toNatClampNeg) (sc 2000 (nI (6 * c) + 2).toNatClampNeg) I J hI
  refine blk s_L_law_427 (And.intro (sc_in hL hL2 hc hs1 (x := 1) (j := 1) rfl (by decide)) (And.intro (sc_in hL hL2 hc hs1 (x := 2) (j := 2) rfl (by decide)) (nm ?_)))
  rw [hs0]
  refine c_L_law_438 hv rfl (by decide) rfl (Nat.le_of_ble_eq_true rfl) (by decide) rfl (fun r I1 J1 hq => ?_)
  obtain ⟨q1, q2, q3⟩ := hq
  subst q1
  refine blk s_L_law_441 (And.intro (sc_in hL hL2 hc (q2 2001 (by decide)) (x := 1) (j := 1) rfl (by decide)) (And.intro (sc_in hL hL2 hc (q2 2001 (by decide)) (x := 2) (j := 2) rfl (by decide)) (nm ?_)))
  rw [q2 2000 (by decide)]
  refine c_L_law_452 q3 rfl (by decide) rfl (Nat.le_of_ble_eq_true rfl) (by decide) rfl (fun r2 I2 J2 hq2 => ?_)
  obtain ⟨q4, q5⟩ := hq2
  subst q4
  exact b_L_law_455 (fun _ => hb I2 J2 q5) (fun h => absurd rfl h)
theorem law_7 (hL : sc 2001 0 = nI Ln) (hL2 : Ln ≤ 3072) (hc : 6 * c + 6 ≤ Ln) (hV : V < 1000) (hI : INV sc V I J) (hs0 : I 2000 = sc 2000) (hs1 : I 2001 = sc 2001) (hb : BK sc V c Q) : EN 62 RF mL_law 13 460 [(0, .ref 2000), (1, .ref 0), (2, .ref 39), (3, .int (nI (6 * c)))] [] I J Q := by
  obtain ⟨v, hv⟩ := p_alike (sc := sc) (V := V) (sc 2000 (nI (6 * c) + 1).toNatClampNeg) (sc 2000 (nI (6 * c) + 2).toNatClampNeg) I J hI
  refine blk s_L_law_460 (And.intro (sc_in hL hL2 hc hs1 (x := 1) (j := 1) rfl (by decide)) (And.intro (sc_in hL hL2 hc hs1 (x := 2) (j := 2) rfl (by decide)) (nm ?_)))
  rw [hs0]
  refine c_L_law_471 hv rfl (by decide) rfl (Nat.le_of_ble_eq_true rfl) (by decide) rfl (fun r I1 J1 hq => ?_)
  obtain ⟨q1, q2, q3⟩ := hq
  subst q1
  refine blk s_L_law_474 (And.intro (sc_in hL hL2 hc (q2 2001 (by decide)) (x := 1) (j := 1) rfl (by decide)) (And.intro (sc_in hL hL2 hc (q2 2001 (by decide)) (x := 2) (j := 2) rfl (by decide)) (nm ?_)))
  rw [q2 2000 (by decide)]
  refine c_L_law_485 q3 rfl (by decide) rfl (Nat.le_of_ble_eq_true rfl) (by decide) rfl (fun r2 I2 J2 hq2 => ?_)
  obtain ⟨q4, q5⟩ := hq2
  subst q4
  exact b_L_law_488 (fun _ => hb I2 J2 q5) (fun h => absurd rfl h)
theorem law_8 (hL : sc 2001 0 = nI Ln) (hL2 : Ln ≤ 3072) (hc : 6 * c + 6 ≤ Ln) (hV : V < 1000) (hI : INV sc V I J) (hs0 : I 2000 = sc 2000) (hs1 : I 2001 = sc 2001) (hb : BK sc V c Q) : EN 62 RF mL_law 13 493 [(0, .ref 2000), (1, .ref 0), (2, .ref 39), (3, .int (nI (6 * c)))] [] I J Q := by
  obtain ⟨v, hv⟩ := p_starts (sc := sc) (V := V) (sc 2000 (nI (6 * c) + 1).toNatClampNeg) I J hI
  refine blk s_L_law_493 (And.intro (sc_in hL hL2 hc hs1 (x := 1) (j := 1) rfl (by decide)) (nm ?_))
  rw [hs0]
  refine c_L_law_499 hv rfl (by decide) rfl (Nat.le_of_ble_eq_true rfl) (by decide) rfl (fun r I1 J1 hq => ?_)
  obtain ⟨q1, q2, q3⟩ := hq
  subst q1
  refine blk s_L_law_502 (And.intro (sc_in hL hL2 hc (q2 2001 (by decide)) (x := 1) (j := 1) rfl (by decide)) (nm ?_))
  rw [q2 2000 (by decide)]
  refine c_L_law_508 q3 rfl (by decide) rfl (Nat.le_of_ble_eq_true rfl) (by decide) rfl (fun r2 I2 J2 hq2 => ?_)
  obtain ⟨q4, q5⟩ := hq2
  subst q4
  exact b_L_law_511 (fun _ => hb I2 J2 q5) (fun h => absurd rfl h)
theorem law_9 (hL : sc 2001 0 = nI Ln) (hL2 : Ln ≤ 3072) (hc : 6 * c + 6 ≤ Ln) (hV : V < 1000) (hI : INV sc V I J) (hs0 : I 2000 = sc 2000) (hs1 : I 2001 = sc 2001) (hb : BK sc V c Q) : EN 62 RF mL_law 13 516 [(0, .ref 2000), (1, .ref 0), (2, .ref 39), (3, .int (nI (6 * c)))] [] I J Q := by
  obtain ⟨v, hv⟩ := p_next (sc := sc) (V := V) (sc 2000 (nI (6 * c) + 1).toNatClampNeg) (sc 2000 (nI (6 * c) + 2).toNatClampNeg) I J hI
  refine blk s_L_law_516 (And.intro (sc_in hL hL2 hc hs1 (x := 1) (j := 1) rfl (by decide)) (And.intro (sc_in hL hL2 hc hs1 (x := 2) (j := 2) rfl (by decide)) (nm ?_)))
  rw [hs0]
  refine c_L_law_527 hv rfl (by decide) rfl (Nat.le_of_ble_eq_true rfl) (by decide) rfl (fun r I1 J1 hq => ?_)
  obtain ⟨q1, q2, q3⟩ := hq
  subst q1
  refine blk s_L_law_530 (And.intro (sc_in hL hL2 hc (q2 2001 (by decide)) (x := 1) (j := 1) rfl (by decide)) (And.intro (sc_in hL hL2 hc (q2 2001 (by decide)) (x := 2) (j := 2) rfl (by decide)) (nm ?_)))
  rw [q2 2000 (by decide)]
  refine c_L_law_541 q3 rfl (by decide) rfl (Nat.le_of_ble_eq_true rfl) (by decide) rfl (fun r2 I2 J2 hq2 => ?_)
  obtain ⟨q4, q5⟩ := hq2
  subst q4
  exact b_L_law_544 (fun _ => hb I2 J2 q5) (fun h => absurd rfl h)
theorem law_10 (hL : sc 2001 0 = nI Ln) (hL2 : Ln ≤ 3072) (hc : 6 * c + 6 ≤ Ln) (hV : V < 1000) (hI : INV sc V I J) (hs0 : I 2000 = sc 2000) (hs1 : I 2001 = sc 2001) (hb : BK sc V c Q) : EN 62 RF mL_law 13 549 [(0, .ref 2000), (1, .ref 0), (2, .ref 39), (3, .int (nI (6 * c)))] [] I J Q := by
  obtain ⟨v, hv⟩ := p_claim (sc := sc) (V := V) (sc 2000 (nI (6 * c) + 1).toNatClampNeg) I J hI
  refine blk s_L_law_549 (And.intro (sc_in hL hL2 hc hs1 (x := 1) (j := 1) rfl (by decide)) (nm ?_))
  rw [hs0]
  refine c_L_law_555 hv rfl (by decide) rfl (Nat.le_of_ble_eq_true rfl) (by decide) rfl (fun r I1 J1 hq => ?_)
  obtain ⟨q1, q2, q3⟩ := hq
  subst q1
  refine blk s_L_law_558 (And.intro (sc_in hL hL2 hc (q2 2001 (by decide)) (x := 1) (j := 1) rfl (by decide)) (nm ?_))
  rw [q2 2000 (by decide)]
  refine c_L_law_564 q3 rfl (by decide) rfl (Nat.le_of_ble_eq_true rfl) (by decide) rfl (fun r2 I2 J2 hq2 => ?_)
  obtain ⟨q4, q5⟩ := hq2
  subst q4
  exact b_L_law_567 (fun _ => hb I2 J2 q5) (fun h => absurd rfl h)
theorem law_11 (hL : sc 2001 0 = nI Ln) (hL2 : Ln ≤ 3072) (hc : 6 * c + 6 ≤ Ln) (hV : V < 1000) (hI : INV sc V I J) (hs0 : I 2000 = sc 2000) (hs1 : I 2001 = sc 2001) (hb : BK sc V c Q) : EN 62 RF mL_law 13 572 [(0, .ref 2000), (1, .ref 0), (2, .ref 39), (3, .int (nI (6 * c)))] [] I J Q := by
  obtain ⟨v, hv⟩ := p_step (sc := sc) (V := V) (sc 2000 (nI (6 * c) + 1).toNatClampNeg) (sc 2000 (nI (6 * c) + 2).toNatClampNeg) I J hI
  refine blk s_L_law_572 (And.intro (sc_in hL hL2 hc hs1 (x := 1) (j := 1) rfl (by decide)) (And.intro (sc_in hL hL2 hc hs1 (x := 2) (j := 2) rfl (by decide)) (nm ?_)))
  rw [hs0]
  refine c_L_law_583 hv rfl (by decide) rfl (Nat.le_of_ble_eq_true rfl) (by decide) rfl (fun r I1 J1 hq => ?_)
  obtain ⟨q1, q2, q3⟩ := hq
  subst q1
  refine blk s_L_law_586 (And.intro (sc_in hL hL2 hc (q2 2001 (by decide)) (x := 1) (j := 1) rfl (by decide)) (And.intro (sc_in hL hL2 hc (q2 2001 (by decide)) (x := 2) (j := 2) rfl (by decide)) (nm ?_)))
  rw [q2 2000 (by decide)]
  refine c_L_law_597 q3 rfl (by decide) rfl (Nat.le_of_ble_eq_true rfl) (by decide) rfl (fun r2 I2 J2 hq2 => ?_)
  obtain ⟨q4, q5⟩ := hq2
  subst q4
  exact b_L_law_600 (fun _ => hb I2 J2 q5) (fun h => absurd rfl h)
theorem law_12 (hL : sc 2001 0 = nI Ln) (hL2 : Ln ≤ 3072) (hc : 6 * c + 6 ≤ Ln) (hV : V < 1000) (hI : INV sc V I J) (hs0 : I 2000 = sc 2000) (hs1 : I 2001 = sc 2001) (hb : BK sc V c Q) : EN 62 RF mL_law 13 605 [(0, .ref 2000), (1, .ref 0), (2, .ref 39), (3, .int (nI (6 * c)))] [] I J Q := by
  obtain ⟨v, hv⟩ := p_before (sc := sc) (V := V) (sc 2000 (nI (6 * c) + 1).toNatClampNeg) I J hI
  refine blk s_L_law_605 (And.intro (sc_in hL hL2 hc hs1 (x := 1) (j := 1) rfl (by decide)) (nm ?_))
  rw [hs0]
  refine c_L_law_611 hv rfl (by decide) rfl (Nat.le_of_ble_eq_true rfl) (by decide) rfl (fun r I1 J1 hq => ?_)
  obtain ⟨q1, q2, q3⟩ := hq
  subst q1
  refine blk s_L_law_614 (And.intro (sc_in hL hL2 hc (q2 2001 (by decide)) (x := 1) (j := 1) rfl (by decide)) (nm ?_))
  rw [q2 2000 (by decide)]
  refine c_L_law_620 q3 rfl (by decide) rfl (Nat.le_of_ble_eq_true rfl) (by decide) rfl (fun r2 I2 J2 hq2 => ?_)
  obtain ⟨q4, q5⟩ := hq2
  subst q4
  exact b_L_law_623 (fun _ => hb I2 J2 q5) (fun h => absurd rfl h)
theorem law_13 (hL : sc 2001 0 = nI Ln) (hL2 : Ln ≤ 3072) (hc : 6 * c + 6 ≤ Ln) (hV : V < 1000) (hI : INV sc V I J) (hs0 : I 2000 = sc 2000) (hs1 : I 2001 = sc 2001) (hb : BK sc V c Q) : EN 62 RF mL_law 13 628 [(0, .ref 2000), (1, .ref 0), (2, .ref 39), (3, .int (nI (6 * c)))] [] I J Q := by
  obtain ⟨v, hv⟩ := p_distance (sc := sc) (V := V) (sc 2000 (nI (6 * c) + 1).toNatClampNeg) I J hI
  refine blk s_L_law_628 (And.intro (sc_in hL hL2 hc hs1 (x := 1) (j := 1) rfl (by decide)) (nm ?_))
  rw [hs0]
  refine c_L_law_634 hv rfl (by decide) rfl (Nat.le_of_ble_eq_true rfl) (by decide) rfl (fun r I1 J1 hq => ?_)
  obtain ⟨q1, q2, q3⟩ := hq
  subst q1
  refine blk s_L_law_637 (And.intro (sc_in hL hL2 hc (q2 2001 (by decide)) (x := 1) (j := 1) rfl (by decide)) (nm ?_))
  rw [q2 2000 (by decide)]
  refine c_L_law_643 q3 rfl (by decide) rfl (Nat.le_of_ble_eq_true rfl) (by decide) rfl (fun r2 I2 J2 hq2 => ?_)
  obtain ⟨q4, q5⟩ := hq2
  subst q4
  exact b_L_law_646 (fun _ => hb I2 J2 q5) (fun h => absurd rfl h)
theorem law_14 (hL : sc 2001 0 = nI Ln) (hL2 : Ln ≤ 3072) (hc : 6 * c + 6 ≤ Ln) (hV : V < 1000) (hI : INV sc V I J) (hs0 : I 2000 = sc 2000) (hs1 : I 2001 = sc 2001) (hb : BK sc V c Q) : EN 62 RF mL_law 13 651 [(0, .ref 2000), (1, .ref 0), (2, .ref 39), (3, .int (nI (6 * c)))] [] I J Q := by
  obtain ⟨v, hv⟩ := p_met (sc := sc) (V := V) (sc 2000 (nI (6 * c) + 1).toNatClampNeg) I J hI
  refine blk s_L_law_651 (And.intro (sc_in hL hL2 hc hs1 (x := 1) (j := 1) rfl (by decide)) (nm ?_))
  rw [hs0]
  refine c_L_law_657 hv rfl (by decide) rfl (Nat.le_of_ble_eq_true rfl) (by decide) rfl (fun r I1 J1 hq => ?_)
  obtain ⟨q1, q2, q3⟩ := hq
  subst q1
  refine blk s_L_law_660 (And.intro (sc_in hL hL2 hc (q2 2001 (by decide)) (x := 1) (j := 1) rfl (by decide)) (nm ?_))
  rw [q2 2000 (by decide)]
  refine c_L_law_666 q3 rfl (by decide) rfl (Nat.le_of_ble_eq_true rfl) (by decide) rfl (fun r2 I2 J2 hq2 => ?_)
  obtain ⟨q4, q5⟩ := hq2
  subst q4
  exact b_L_law_669 (fun _ => hb I2 J2 q5) (fun h => absurd rfl h)
theorem law_15 (hL : sc 2001 0 = nI Ln) (hL2 : Ln ≤ 3072) (hc : 6 * c + 6 ≤ Ln) (hV : V < 1000) (hI : INV sc V I J) (hs0 : I 2000 = sc 2000) (hs1 : I 2001 = sc 2001) (hb : BK sc V c Q) : EN 62 RF mL_law 13 674 [(0, .ref 2000), (1, .ref 0), (2, .ref 39), (3, .int (nI (6 * c)))] [] I J Q := by
  obtain ⟨v, hv⟩ := p_way (sc := sc) (V := V) (sc 2000 (nI (6 * c) + 1).toNatClampNeg) (sc 2000 (nI (6 * c) + 2).toNatClampNeg) I J hI
  refine blk s_L_law_674 (And.intro (sc_in hL hL2 hc hs1 (x := 1) (j := 1) rfl (by decide)) (And.intro (sc_in hL hL2 hc hs1 (x := 2) (j := 2) rfl (by decide)) (nm ?_)))
  rw [hs0]
  refine c_L_law_685 hv rfl (by decide) rfl (Nat.le_of_ble_eq_true rfl) (by decide) rfl (fun r I1 J1 hq => ?_)
  obtain ⟨q1, q2, q3⟩ := hq
  subst q1
  refine blk s_L_law_688 (And.intro (sc_in hL hL2 hc (q2 2001 (by decide)) (x := 1) (j := 1) rfl (by decide)) (And.intro (sc_in hL hL2 hc (q2 2001 (by decide)) (x := 2) (j := 2) rfl (by decide)) (nm ?_)))
  rw [q2 2000 (by decide)]
  refine c_L_law_699 q3 rfl (by decide) rfl (Nat.le_of_ble_eq_true rfl) (by decide) rfl (fun r2 I2 J2 hq2 => ?_)
  obtain ⟨q4, q5⟩ := hq2
  subst q4
  exact b_L_law_702 (fun _ => hb I2 J2 q5) (fun h => absurd rfl h)
theorem law_16 (hL : sc 2001 0 = nI Ln) (hL2 : Ln ≤ 3072) (hc : 6 * c + 6 ≤ Ln) (hV : V < 1000) (hI : INV sc V I J) (hs0 : I 2000 = sc 2000) (hs1 : I 2001 = sc 2001) (hb : BK sc V c Q) : EN 62 RF mL_law 13 707 [(0, .ref 2000), (1, .ref 0), (2, .ref 39), (3, .int (nI (6 * c)))] [] I J Q := by
  obtain ⟨v, hv⟩ := p_loose (sc := sc) (V := V) (sc 2000 (nI (6 * c) + 1).toNatClampNeg) I J hI
  refine blk s_L_law_707 (And.intro (sc_in hL hL2 hc hs1 (x := 1) (j := 1) rfl (by decide)) (nm ?_))
  rw [hs0]
  refine c_L_law_713 hv rfl (by decide) rfl (Nat.le_of_ble_eq_true rfl) (by decide) rfl (fun r I1 J1 hq => ?_)
  obtain ⟨q1, q2, q3⟩ := hq
  subst q1
  refine blk s_L_law_716 (And.intro (sc_in hL hL2 hc (q2 2001 (by decide)) (x := 1) (j := 1) rfl (by decide)) (nm ?_))
  rw [q2 2000 (by decide)]
  refine c_L_law_722 q3 rfl (by decide) rfl (Nat.le_of_ble_eq_true rfl) (by decide) rfl (fun r2 I2 J2 hq2 => ?_)
  obtain ⟨q4, q5⟩ := hq2
  subst q4
  exact b_L_law_725 (fun _ => hb I2 J2 q5) (fun h => absurd rfl h)
theorem law_17 (hL : sc 2001 0 = nI Ln) (hL2 : Ln ≤ 3072) (hc : 6 * c + 6 ≤ Ln) (hV : V < 1000) (hI : INV sc V I J) (hs0 : I 2000 = sc 2000) (hs1 : I 2001 = sc 2001) (hb : BK sc V c Q) : EN 62 RF mL_law 13 730 [(0, .ref 2000), (1, .ref 0), (2, .ref 39), (3, .int (nI (6 * c)))] [] I J Q := by
  obtain ⟨v, hv⟩ := p_cone (sc := sc) (V := V) (sc 2000 (nI (6 * c) + 1).toNatClampNeg) I J hI
  refine blk s_L_law_730 (And.intro (sc_in hL hL2 hc hs1 (x := 1) (j := 1) rfl (by decide)) (nm ?_))
  rw [hs0]
  refine c_L_law_736 hv rfl (by decide) rfl (Nat.le_of_ble_eq_true rfl) (by decide) rfl (fun r I1 J1 hq => ?_)
  obtain ⟨q1, q2, q3⟩ := hq
  subst q1
  refine blk s_L_law_739 (And.intro (sc_in hL hL2 hc (q2 2001 (by decide)) (x := 1) (j := 1) rfl (by decide)) (nm ?_))
  rw [q2 2000 (by decide)]
  refine c_L_law_745 q3 rfl (by decide) rfl (Nat.le_of_ble_eq_true rfl) (by decide) rfl (fun r2 I2 J2 hq2 => ?_)
  obtain ⟨q4, q5⟩ := hq2
  subst q4
  exact b_L_law_748 (fun _ => hb I2 J2 q5) (fun h => absurd rfl h)
theorem law_18 (hL : sc 2001 0 = nI Ln) (hL2 : Ln ≤ 3072) (hc : 6 * c + 6 ≤ Ln) (hV : V < 1000) (hI : INV sc V I J) (hs0 : I 2000 = sc 2000) (hs1 : I 2001 = sc 2001) (hb : BK sc V c Q) : EN 62 RF mL_law 13 753 [(0, .ref 2000), (1, .ref 0), (2, .ref 39), (3, .int (nI (6 * c)))] [] I J Q := by
  obtain ⟨v, hv⟩ := p_clear (sc := sc) (V := V) (sc 2000 (nI (6 * c) + 1).toNatClampNeg) I J hI
  refine blk s_L_law_753 (And.intro (sc_in hL hL2 hc hs1 (x := 1) (j := 1) rfl (by decide)) (nm ?_))
  rw [hs0]
  refine c_L_law_759 hv rfl (by decide) rfl (Nat.le_of_ble_eq_true rfl) (by decide) rfl (fun r I1 J1 hq => ?_)
  obtain ⟨q1, q2, q3⟩ := hq
  subst q1
  refine blk s_L_law_762 (And.intro (sc_in hL hL2 hc (q2 2001 (by decide)) (x := 1) (j := 1) rfl (by decide)) (nm ?_))
  rw [q2 2000 (by decide)]
  refine c_L_law_768 q3 rfl (by decide) rfl (Nat.le_of_ble_eq_true rfl) (by decide) rfl (fun r2 I2 J2 hq2 => ?_)
  obtain ⟨q4, q5⟩ := hq2
  subst q4
  exact b_L_law_771 (fun _ => hb I2 J2 q5) (fun h => absurd rfl h)
theorem law_19 (hL : sc 2001 0 = nI Ln) (hL2 : Ln ≤ 3072) (hc : 6 * c + 6 ≤ Ln) (hV : V < 1000) (hI : INV sc V I J) (hs0 : I 2000 = sc 2000) (hs1 : I 2001 = sc 2001) (hb : BK sc V c Q) : EN 62 RF mL_law 13 776 [(0, .ref 2000), (1, .ref 0), (2, .ref 39), (3, .int (nI (6 * c)))] [] I J Q := by
  obtain ⟨v, hv⟩ := p_shut (sc := sc) (V := V) hV (sc 2000 (nI (6 * c) + 1).toNatClampNeg) I J hI
  refine blk s_L_law_776 (And.intro (sc_in hL hL2 hc hs1 (x := 1) (j := 1) rfl (by decide)) (nm ?_))
  rw [hs0]
  refine c_L_law_782 hv rfl (by decide) rfl (Nat.le_of_ble_eq_true rfl) (by decide) rfl (fun r I1 J1 hq => ?_)
  obtain ⟨q1, q2, q3⟩ := hq
  subst q1
  refine blk s_L_law_785 (And.intro (sc_in hL hL2 hc (q2 2001 (by decide)) (x := 1) (j := 1) rfl (by decide)) (nm ?_))
  rw [q2 2000 (by decide)]
  refine c_L_law_791 q3 rfl (by decide) rfl (Nat.le_of_ble_eq_true rfl) (by decide) rfl (fun r2 I2 J2 hq2 => ?_)
  obtain ⟨q4, q5⟩ := hq2
  subst q4
  exact b_L_law_794 (fun _ => hb I2 J2 q5) (fun h => absurd rfl h)
theorem law_20 (hL : sc 2001 0 = nI Ln) (hL2 : Ln ≤ 3072) (hc : 6 * c + 6 ≤ Ln) (hV : V < 1000) (hI : INV sc V I J) (hs0 : I 2000 = sc 2000) (hs1 : I 2001 = sc 2001) (hb : BK sc V c Q) : EN 62 RF mL_law 13 799 [(0, .ref 2000), (1, .ref 0), (2, .ref 39), (3, .int (nI (6 * c)))] [] I J Q := by
  obtain ⟨v, hv⟩ := p_settle (sc := sc) (V := V) hV (sc 2000 (nI (6 * c) + 1).toNatClampNeg) I J hI
  refine blk s_L_law_799 (And.intro (sc_in hL hL2 hc hs1 (x := 1) (j := 1) rfl (by decide)) (nm ?_))
  rw [hs0]
  refine c_L_law_805 hv rfl (by decide) rfl (Nat.le_of_ble_eq_true rfl) (by decide) rfl (fun r I1 J1 hq => ?_)
  obtain ⟨q1, q2, q3⟩ := hq
  subst q1
  refine blk s_L_law_808 (And.intro (sc_in hL hL2 hc (q2 2001 (by decide)) (x := 1) (j := 1) rfl (by decide)) (nm ?_))
  rw [q2 2000 (by decide)]
  refine c_L_law_814 q3 rfl (by decide) rfl (Nat.le_of_ble_eq_true rfl) (by decide) rfl (fun r2 I2 J2 hq2 => ?_)
  obtain ⟨q4, q5⟩ := hq2
  subst q4
  exact b_L_law_817 (fun _ => hb I2 J2 q5) (fun h => absurd rfl h)
theorem law_21 (hL : sc 2001 0 = nI Ln) (hL2 : Ln ≤ 3072) (hc : 6 * c + 6 ≤ Ln) (hV : V < 1000) (hI : INV sc V I J) (hs0 : I 2000 = sc 2000) (hs1 : I 2001 = sc 2001) (hb : BK sc V c Q) : EN 62 RF mL_law 13 822 [(0, .ref 2000), (1, .ref 0), (2, .ref 39), (3, .int (nI (6 * c)))] [] I J Q := by
  obtain ⟨v, hv⟩ := p_chain (sc := sc) (V := V) hV (sc 2000 (nI (6 * c) + 1).toNatClampNeg) (sc 2000 (nI (6 * c) + 2).toNatClampNeg) (sc 2000 (nI (6 * c) + 3).toNatClampNeg) I J hI
  refine blk s_L_law_822 (And.intro (sc_in hL hL2 hc hs1 (x := 1) (j := 1) rfl (by decide)) (And.intro (sc_in hL hL2 hc hs1 (x := 2) (j := 2) rfl (by decide)) (And.intro (sc_in hL hL2 hc hs1 (x := 3) (j := 3) rfl (by decide)) (nm ?_))))
  rw [hs0]
  refine c_L_law_838 hv rfl (by decide) rfl (Nat.le_of_ble_eq_true rfl) (by decide) rfl (fun r I1 J1 hq => ?_)
  obtain ⟨q1, q2, q3⟩ := hq
  subst q1
  refine blk s_L_law_841 (And.intro (sc_in hL hL2 hc (q2 2001 (by decide)) (x := 1) (j := 1) rfl (by decide)) (And.intro (sc_in hL hL2 hc (q2 2001 (by decide)) (x := 2) (j := 2) rfl (by decide)) (And.intro (sc_in hL hL2 hc (q2 2001 (by decide)) (x := 3) (j := 3) rfl (by decide)) (nm ?_))))
  rw [q2 2000 (by decide)]
  refine c_L_law_857 q3 rfl (by decide) rfl (Nat.le_of_ble_eq_true rfl) (by decide) rfl (fun r2 I2 J2 hq2 => ?_)
  obtain ⟨q4, q5⟩ := hq2
  subst q4
  exact b_L_law_860 (fun _ => hb I2 J2 q5) (fun h => absurd rfl h)
theorem law_22 (hL : sc 2001 0 = nI Ln) (hL2 : Ln ≤ 3072) (hc : 6 * c + 6 ≤ Ln) (hV : V < 1000) (hI : INV sc V I J) (hs0 : I 2000 = sc 2000) (hs1 : I 2001 = sc 2001) (hb : BK sc V c Q) : EN 62 RF mL_law 13 865 [(0, .ref 2000), (1, .ref 0), (2, .ref 39), (3, .int (nI (6 * c)))] [] I J Q := by
  obtain ⟨v, hv⟩ := p_weak (sc := sc) (V := V) (sc 2000 (nI (6 * c) + 1).toNatClampNeg) I J hI
  refine blk s_L_law_865 (And.intro (sc_in hL hL2 hc hs1 (x := 1) (j := 1) rfl (by decide)) (nm ?_))
  rw [hs0]
  refine c_L_law_871 hv rfl (by decide) rfl (Nat.le_of_ble_eq_true rfl) (by decide) rfl (fun r I1 J1 hq => ?_)
  obtain ⟨q1, q2, q3⟩ := hq
  subst q1
  refine blk s_L_law_874 (And.intro (sc_in hL hL2 hc (q2 2001 (by decide)) (x := 1) (j := 1) rfl (by decide)) (nm ?_))
  rw [q2 2000 (by decide)]
  refine c_L_law_880 q3 rfl (by decide) rfl (Nat.le_of_ble_eq_true rfl) (by decide) rfl (fun r2 I2 J2 hq2 => ?_)
  obtain ⟨q4, q5⟩ := hq2
  subst q4
  exact b_L_law_883 (fun _ => hb I2 J2 q5) (fun h => absurd rfl h)
theorem law_23 (hL : sc 2001 0 = nI Ln) (hL2 : Ln ≤ 3072) (hc : 6 * c + 6 ≤ Ln) (hV : V < 1000) (hI : INV sc V I J) (hs0 : I 2000 = sc 2000) (hs1 : I 2001 = sc 2001) (hb : BK sc V c Q) : EN 62 RF mL_law 13 888 [(0, .ref 2000), (1, .ref 0), (2, .ref 39), (3, .int (nI (6 * c)))] [] I J Q := by
  obtain ⟨v, hv⟩ := p_strengthen (sc := sc) (V := V)  I J hI
  refine blk s_L_law_888 (nm ?_)
  refine c_L_law_889 hv rfl (by decide) rfl (Nat.le_of_ble_eq_true rfl) (by decide) rfl (fun r I1 J1 hq => ?_)
  obtain ⟨q1, q2, q3⟩ := hq
  subst q1
  refine blk s_L_law_892 (nm ?_)
  refine c_L_law_893 q3 rfl (by decide) rfl (Nat.le_of_ble_eq_true rfl) (by decide) rfl (fun r2 I2 J2 hq2 => ?_)
  obtain ⟨q4, q5⟩ := hq2
  subst q4
  exact b_L_law_896 (fun _ => hb I2 J2 q5) (fun h => absurd rfl h)
theorem law_24 (hL : sc 2001 0 = nI Ln) (hL2 : Ln ≤ 3072) (hc : 6 * c + 6 ≤ Ln) (hV : V < 1000) (hI : INV sc V I J) (hs0 : I 2000 = sc 2000) (hs1 : I 2001 = sc 2001) (hb : BK sc V c Q) : EN 62 RF mL_law 13 901 [(0, .ref 2000), (1, .ref 0), (2, .ref 39), (3, .int (nI (6 * c)))] [] I J Q := by
  obtain ⟨v, hv⟩ := p_lemma (sc := sc) (V := V) (sc 2000 (nI (6 * c) + 1).toNatClampNeg) I J hI
  refine blk s_L_law_901 (And.intro (sc_in hL hL2 hc hs1 (x := 1) (j := 1) rfl (by decide)) (nm ?_))
  rw [hs0]
  refine c_L_law_907 hv rfl (by decide) rfl (Nat.le_of_ble_eq_true rfl) (by decide) rfl (fun r I1 J1 hq => ?_)
  obtain ⟨q1, q2, q3⟩ := hq
  subst q1
  refine blk s_L_law_910 (And.intro (sc_in hL hL2 hc (q2 2001 (by decide)) (x := 1) (j := 1) rfl (by decide)) (nm ?_))
  rw [q2 2000 (by decide)]
  refine c_L_law_916 q3 rfl (by decide) rfl (Nat.le_of_ble_eq_true rfl) (by decide) rfl (fun r2 I2 J2 hq2 => ?_)
  obtain ⟨q4, q5⟩ := hq2
  subst q4
  exact b_L_law_919 (fun _ => hb I2 J2 q5) (fun h => absurd rfl h)
theorem law_25 (hL : sc 2001 0 = nI Ln) (hL2 : Ln ≤ 3072) (hc : 6 * c + 6 ≤ Ln) (hV : V < 1000) (hI : INV sc V I J) (hs0 : I 2000 = sc 2000) (hs1 : I 2001 = sc 2001) (hb : BK sc V c Q) : EN 62 RF mL_law 13 924 [(0, .ref 2000), (1, .ref 0), (2, .ref 39), (3, .int (nI (6 * c)))] [] I J Q := by
  obtain ⟨v, hv⟩ := p_block (sc := sc) (V := V) (sc 2000 (nI (6 * c) + 1).toNatClampNeg) I J hI
  refine blk s_L_law_924 (And.intro (sc_in hL hL2 hc hs1 (x := 1) (j := 1) rfl (by decide)) (nm ?_))
  rw [hs0]
  refine c_L_law_930 hv rfl (by decide) rfl (Nat.le_of_ble_eq_true rfl) (by decide) rfl (fun r I1 J1 hq => ?_)
  obtain ⟨q1, q2, q3⟩ := hq
  subst q1
  refine blk s_L_law_933 (And.intro (sc_in hL hL2 hc (q2 2001 (by decide)) (x := 1) (j := 1) rfl (by decide)) (nm ?_))
  rw [q2 2000 (by decide)]
  refine c_L_law_939 q3 rfl (by decide) rfl (Nat.le_of_ble_eq_true rfl) (by decide) rfl (fun r2 I2 J2 hq2 => ?_)
  obtain ⟨q4, q5⟩ := hq2
  subst q4
  exact b_L_law_942 (fun _ => hb I2 J2 q5) (fun h => absurd rfl h)
theorem law_26 (hL : sc 2001 0 = nI Ln) (hL2 : Ln ≤ 3072) (hc : 6 * c + 6 ≤ Ln) (hV : V < 1000) (hI : INV sc V I J) (hs0 : I 2000 = sc 2000) (hs1 : I 2001 = sc 2001) (hb : BK sc V c Q) : EN 62 RF mL_law 13 947 [(0, .ref 2000), (1, .ref 0), (2, .ref 39), (3, .int (nI (6 * c)))] [] I J Q := by
  obtain ⟨v, hv⟩ := p_back (sc := sc) (V := V)  I J hI
  refine blk s_L_law_947 (nm ?_)
  refine c_L_law_948 hv rfl (by decide) rfl (Nat.le_of_ble_eq_true rfl) (by decide) rfl (fun r I1 J1 hq => ?_)
  obtain ⟨q1, q2, q3⟩ := hq
  subst q1
  refine blk s_L_law_951 (nm ?_)
  refine c_L_law_952 q3 rfl (by decide) rfl (Nat.le_of_ble_eq_true rfl) (by decide) rfl (fun r2 I2 J2 hq2 => ?_)
  obtain ⟨q4, q5⟩ := hq2
  subst q4
  exact b_L_law_955 (fun _ => hb I2 J2 q5) (fun h => absurd rfl h)
theorem law_27 (hL : sc 2001 0 = nI Ln) (hL2 : Ln ≤ 3072) (hc : 6 * c + 6 ≤ Ln) (hV : V < 1000) (hI : INV sc V I J) (hs0 : I 2000 = sc 2000) (hs1 : I 2001 = sc 2001) (hb : BK sc V c Q) : EN 62 RF mL_law 13 960 [(0, .ref 2000), (1, .ref 0), (2, .ref 39), (3, .int (nI (6 * c)))] [] I J Q := by
  obtain ⟨v, hv⟩ := p_ofLemma (sc := sc) (V := V) (sc 2000 (nI (6 * c) + 1).toNatClampNeg) (sc 2000 (nI (6 * c) + 2).toNatClampNeg) I J hI
  refine blk s_L_law_960 (And.intro (sc_in hL hL2 hc hs1 (x := 1) (j := 1) rfl (by decide)) (And.intro (sc_in hL hL2 hc hs1 (x := 2) (j := 2) rfl (by decide)) (nm ?_)))
  rw [hs0]
  refine c_L_law_971 hv rfl (by decide) rfl (Nat.le_of_ble_eq_true rfl) (by decide) rfl (fun r I1 J1 hq => ?_)
  obtain ⟨q1, q2, q3⟩ := hq
  subst q1
  refine blk s_L_law_974 (And.intro (sc_in hL hL2 hc (q2 2001 (by decide)) (x := 1) (j := 1) rfl (by decide)) (And.intro (sc_in hL hL2 hc (q2 2001 (by decide)) (x := 2) (j := 2) rfl (by decide)) (nm ?_)))
  rw [q2 2000 (by decide)]
  refine c_L_law_985 q3 rfl (by decide) rfl (Nat.le_of_ble_eq_true rfl) (by decide) rfl (fun r2 I2 J2 hq2 => ?_)
  obtain ⟨q4, q5⟩ := hq2
  subst q4
  exact b_L_law_988 (fun _ => hb I2 J2 q5) (fun h => absurd rfl h)
theorem law_28 (hL : sc 2001 0 = nI Ln) (hL2 : Ln ≤ 3072) (hc : 6 * c + 6 ≤ Ln) (hV : V < 1000) (hI : INV sc V I J) (hs0 : I 2000 = sc 2000) (hs1 : I 2001 = sc 2001) (hb : BK sc V c Q) : EN 62 RF mL_law 13 993 [(0, .ref 2000), (1, .ref 0), (2, .ref 39), (3, .int (nI (6 * c)))] [] I J Q := by
  obtain ⟨v, hv⟩ := p_closed (sc := sc) (V := V)  I J hI
  refine blk s_L_law_993 (nm ?_)
  refine c_L_law_994 hv rfl (by decide) rfl (Nat.le_of_ble_eq_true rfl) (by decide) rfl (fun r I1 J1 hq => ?_)
  obtain ⟨q1, q2, q3⟩ := hq
  subst q1
  refine blk s_L_law_997 (nm ?_)
  refine c_L_law_998 q3 rfl (by decide) rfl (Nat.le_of_ble_eq_true rfl) (by decide) rfl (fun r2 I2 J2 hq2 => ?_)
  obtain ⟨q4, q5⟩ := hq2
  subst q4
  exact b_L_law_1001 (fun _ => hb I2 J2 q5) (fun h => absurd rfl h)
theorem law_29 (hL : sc 2001 0 = nI Ln) (hL2 : Ln ≤ 3072) (hc : 6 * c + 6 ≤ Ln) (hV : V < 1000) (hI : INV sc V I J) (hs0 : I 2000 = sc 2000) (hs1 : I 2001 = sc 2001) (hb : BK sc V c Q) : EN 62 RF mL_law 13 1006 [(0, .ref 2000), (1, .ref 0), (2, .ref 39), (3, .int (nI (6 * c)))] [] I J Q := by
  obtain ⟨v, hv⟩ := p_chance (sc := sc) (V := V) (sc 2000 (nI (6 * c) + 1).toNatClampNeg) I J hI
  refine blk s_L_law_1006 (And.intro (sc_in hL hL2 hc hs1 (x := 1) (j := 1) rfl (by decide)) (nm ?_))
  rw [hs0]
  refine c_L_law_1012 hv rfl (by decide) rfl (Nat.le_of_ble_eq_true rfl) (by decide) rfl (fun r I1 J1 hq => ?_)
  obtain ⟨q1, q2, q3⟩ := hq
  subst q1
  refine blk s_L_law_1015 (And.intro (sc_in hL hL2 hc (q2 2001 (by decide)) (x := 1) (j := 1) rfl (by decide)) (nm ?_))
  rw [q2 2000 (by decide)]
  refine c_L_law_1021 q3 rfl (by decide) rfl (Nat.le_of_ble_eq_true rfl) (by decide) rfl (fun r2 I2 J2 hq2 => ?_)
  obtain ⟨q4, q5⟩ := hq2
  subst q4
  exact b_L_law_1024 (fun _ => hb I2 J2 q5) (fun h => absurd rfl h)
theorem law_30 (hL : sc 2001 0 = nI Ln) (hL2 : Ln ≤ 3072) (hc : 6 * c + 6 ≤ Ln) (hV : V < 1000) (hI : INV sc V I J) (hs0 : I 2000 = sc 2000) (hs1 : I 2001 = sc 2001) (hb : BK sc V c Q) : EN 62 RF mL_law 13 1029 [(0, .ref 2000), (1, .ref 0), (2, .ref 39), (3, .int (nI (6 * c)))] [] I J Q := by
  obtain ⟨v, hv⟩ := p_mean (sc := sc) (V := V)  I J hI
  refine blk s_L_law_1029 (nm ?_)
  refine c_L_law_1030 hv rfl (by decide) rfl (Nat.le_of_ble_eq_true rfl) (by decide) rfl (fun r I1 J1 hq => ?_)
  obtain ⟨q1, q2, q3⟩ := hq
  subst q1
  refine blk s_L_law_1033 (nm ?_)
  refine c_L_law_1034 q3 rfl (by decide) rfl (Nat.le_of_ble_eq_true rfl) (by decide) rfl (fun r2 I2 J2 hq2 => ?_)
  obtain ⟨q4, q5⟩ := hq2
  subst q4
  refine blk s_L_law_1037 (nm ?_)
  exact b_L_law_1038 (fun _ => hb I2 J2 q5) (fun h => absurd ((lg_cmp_eq _ _).mpr rfl) h)
theorem law_31 (hL : sc 2001 0 = nI Ln) (hL2 : Ln ≤ 3072) (hc : 6 * c + 6 ≤ Ln) (hV : V < 1000) (hI : INV sc V I J) (hs0 : I 2000 = sc 2000) (hs1 : I 2001 = sc 2001) (hb : BK sc V c Q) : EN 62 RF mL_law 13 1043 [(0, .ref 2000), (1, .ref 0), (2, .ref 39), (3, .int (nI (6 * c)))] [] I J Q := by
  obtain ⟨v, hv⟩ := p_box (sc := sc) (V := V) (sc 2000 (nI (6 * c) + 1).toNatClampNeg) (sc 2000 (nI (6 * c) + 2).toNatClampNeg) (sc 2000 (nI (6 * c) + 3).toNatClampNeg) I J hI
  refine blk s_L_law_1043 (And.intro (sc_in hL hL2 hc hs1 (x := 1) (j := 1) rfl (by decide)) (And.intro (sc_in hL hL2 hc hs1 (x := 2) (j := 2) rfl (by decide)) (And.intro (sc_in hL hL2 hc hs1 (x := 3) (j := 3) rfl (by decide)) (nm ?_))))
  rw [hs0]
  refine c_L_law_1059 hv rfl (by decide) rfl (Nat.le_of_ble_eq_true rfl) (by decide) rfl (fun r I1 J1 hq => ?_)
  obtain ⟨q1, q2, q3⟩ := hq
  subst q1
  refine blk s_L_law_1062 (And.intro (sc_in hL hL2 hc (q2 2001 (by decide)) (x := 1) (j := 1) rfl (by decide)) (And.intro (sc_in hL hL2 hc (q2 2001 (by decide)) (x := 2) (j := 2) rfl (by decide)) (And.intro (sc_in hL hL2 hc (q2 2001 (by decide)) (x := 3) (j := 3) rfl (by decide)) (nm ?_))))
  rw [q2 2000 (by decide)]
  refine c_L_law_1078 q3 rfl (by decide) rfl (Nat.le_of_ble_eq_true rfl) (by decide) rfl (fun r2 I2 J2 hq2 => ?_)
  obtain ⟨q4, q5⟩ := hq2
  subst q4
  exact b_L_law_1081 (fun _ => hb I2 J2 q5) (fun h => absurd rfl h)
theorem law_32 (hL : sc 2001 0 = nI Ln) (hL2 : Ln ≤ 3072) (hc : 6 * c + 6 ≤ Ln) (hV : V < 1000) (hI : INV sc V I J) (hs0 : I 2000 = sc 2000) (hs1 : I 2001 = sc 2001) (hb : BK sc V c Q) : EN 62 RF mL_law 13 1086 [(0, .ref 2000), (1, .ref 0), (2, .ref 39), (3, .int (nI (6 * c)))] [] I J Q := by
  obtain ⟨v, hv⟩ := p_lay (sc := sc) (V := V) (sc 2000 (nI (6 * c) + 1).toNatClampNeg) (sc 2000 (nI (6 * c) + 2).toNatClampNeg) (sc 2000 (nI (6 * c) + 3).toNatClampNeg) I J hI
  refine blk s_L_law_1086 (And.intro (sc_in hL hL2 hc hs1 (x := 1) (j := 1) rfl (by decide)) (And.intro (sc_in hL hL2 hc hs1 (x := 2) (j := 2) rfl (by decide)) (And.intro (sc_in hL hL2 hc hs1 (x := 3) (j := 3) rfl (by decide)) (nm ?_))))
  rw [hs0]
  refine c_L_law_1102 hv rfl (by decide) rfl (Nat.le_of_ble_eq_true rfl) (by decide) rfl (fun r I1 J1 hq => ?_)
  obtain ⟨q1, q2, q3⟩ := hq
  subst q1
  refine blk s_L_law_1105 (And.intro (sc_in hL hL2 hc (q2 2001 (by decide)) (x := 1) (j := 1) rfl (by decide)) (And.intro (sc_in hL hL2 hc (q2 2001 (by decide)) (x := 2) (j := 2) rfl (by decide)) (And.intro (sc_in hL hL2 hc (q2 2001 (by decide)) (x := 3) (j := 3) rfl (by decide)) (nm ?_))))
  rw [q2 2000 (by decide)]
  refine c_L_law_1121 q3 rfl (by decide) rfl (Nat.le_of_ble_eq_true rfl) (by decide) rfl (fun r2 I2 J2 hq2 => ?_)
  obtain ⟨q4, q5⟩ := hq2
  subst q4
  exact b_L_law_1124 (fun _ => hb I2 J2 q5) (fun h => absurd rfl h)
theorem law_33 (hL : sc 2001 0 = nI Ln) (hL2 : Ln ≤ 3072) (hc : 6 * c + 6 ≤ Ln) (hV : V < 1000) (hI : INV sc V I J) (hs0 : I 2000 = sc 2000) (hs1 : I 2001 = sc 2001) (hb : BK sc V c Q) : EN 62 RF mL_law 13 1129 [(0, .ref 2000), (1, .ref 0), (2, .ref 39), (3, .int (nI (6 * c)))] [] I J Q := by
  obtain ⟨v, hv⟩ := p_take (sc := sc) (V := V) (sc 2000 (nI (6 * c) + 1).toNatClampNeg) (sc 2000 (nI (6 * c) + 2).toNatClampNeg) I J hI
  refine blk s_L_law_1129 (And.intro (sc_in hL hL2 hc hs1 (x := 1) (j := 1) rfl (by decide)) (And.intro (sc_in hL hL2 hc hs1 (x := 2) (j := 2) rfl (by decide)) (nm ?_)))
  rw [hs0]
  refine c_L_law_1140 hv rfl (by decide) rfl (Nat.le_of_ble_eq_true rfl) (by decide) rfl (fun r I1 J1 hq => ?_)
  obtain ⟨q1, q2, q3⟩ := hq
  subst q1
  refine blk s_L_law_1143 (And.intro (sc_in hL hL2 hc (q2 2001 (by decide)) (x := 1) (j := 1) rfl (by decide)) (And.intro (sc_in hL hL2 hc (q2 2001 (by decide)) (x := 2) (j := 2) rfl (by decide)) (nm ?_)))
  rw [q2 2000 (by decide)]
  refine c_L_law_1154 q3 rfl (by decide) rfl (Nat.le_of_ble_eq_true rfl) (by decide) rfl (fun r2 I2 J2 hq2 => ?_)
  obtain ⟨q4, q5⟩ := hq2
  subst q4
  exact b_L_law_1157 (fun _ => hb I2 J2 q5) (fun h => absurd rfl h)
theorem law_34 (hL : sc 2001 0 = nI Ln) (hL2 : Ln ≤ 3072) (hc : 6 * c + 6 ≤ Ln) (hV : V < 1000) (hI : INV sc V I J) (hs0 : I 2000 = sc 2000) (hs1 : I 2001 = sc 2001) (hb : BK sc V c Q) : EN 62 RF mL_law 13 1162 [(0, .ref 2000), (1, .ref 0), (2, .ref 39), (3, .int (nI (6 * c)))] [] I J Q := by
  obtain ⟨v, hv⟩ := p_same (sc := sc) (V := V) (sc 2000 (nI (6 * c) + 1).toNatClampNeg) (sc 2000 (nI (6 * c) + 2).toNatClampNeg) I J hI
  refine blk s_L_law_1162 (And.intro (sc_in hL hL2 hc hs1 (x := 1) (j := 1) rfl (by decide)) (And.intro (sc_in hL hL2 hc hs1 (x := 2) (j := 2) rfl (by decide)) (nm ?_)))
  rw [hs0]
  refine c_L_law_1173 hv rfl (by decide) rfl (Nat.le_of_ble_eq_true rfl) (by decide) rfl (fun r I1 J1 hq => ?_)
  obtain ⟨q1, q2, q3⟩ := hq
  subst q1
  refine blk s_L_law_1176 (And.intro (sc_in hL hL2 hc (q2 2001 (by decide)) (x := 1) (j := 1) rfl (by decide)) (And.intro (sc_in hL hL2 hc (q2 2001 (by decide)) (x := 2) (j := 2) rfl (by decide)) (nm ?_)))
  rw [q2 2000 (by decide)]
  refine c_L_law_1187 q3 rfl (by decide) rfl (Nat.le_of_ble_eq_true rfl) (by decide) rfl (fun r2 I2 J2 hq2 => ?_)
  obtain ⟨q4, q5⟩ := hq2
  subst q4
  exact b_L_law_1190 (fun _ => hb I2 J2 q5) (fun h => absurd rfl h)
theorem law_35 (hL : sc 2001 0 = nI Ln) (hL2 : Ln ≤ 3072) (hc : 6 * c + 6 ≤ Ln) (hV : V < 1000) (hI : INV sc V I J) (hs0 : I 2000 = sc 2000) (hs1 : I 2001 = sc 2001) (hb : BK sc V c Q) : EN 62 RF mL_law 13 1195 [(0, .ref 2000), (1, .ref 0), (2, .ref 39), (3, .int (nI (6 * c)))] [] I J Q := by
  obtain ⟨v, hv⟩ := p_move (sc := sc) (V := V) (sc 2000 (nI (6 * c) + 1).toNatClampNeg) (sc 2000 (nI (6 * c) + 2).toNatClampNeg) (sc 2000 (nI (6 * c) + 3).toNatClampNeg) (sc 2000 (nI (6 * c) + 4).toNatClampNeg) (sc 2000 (nI (6 * c) + 5).toNatClampNeg) I J hI
  refine blk s_L_law_1195 (And.intro (sc_in hL hL2 hc hs1 (x := 1) (j := 1) rfl (by decide)) (And.intro (sc_in hL hL2 hc hs1 (x := 2) (j := 2) rfl (by decide)) (And.intro (sc_in hL hL2 hc hs1 (x := 3) (j := 3) rfl (by decide)) (And.intro (sc_in hL hL2 hc hs1 (x := 4) (j := 4) rfl (by decide)) (And.intro (sc_in hL hL2 hc hs1 (x := 5) (j := 5) rfl (by decide)) (nm ?_))))))
  rw [hs0]
  refine c_L_law_1221 hv rfl (by decide) rfl (Nat.le_of_ble_eq_true rfl) (by decide) rfl (fun r I1 J1 hq => ?_)
  obtain ⟨q1, q2, q3⟩ := hq
  subst q1
  refine blk s_L_law_1224 (And.intro (sc_in hL hL2 hc (q2 2001 (by decide)) (x := 1) (j := 1) rfl (by decide)) (And.intro (sc_in hL hL2 hc (q2 2001 (by decide)) (x := 2) (j := 2) rfl (by decide)) (And.intro (sc_in hL hL2 hc (q2 2001 (by decide)) (x := 3) (j := 3) rfl (by decide)) (And.intro (sc_in hL hL2 hc (q2 2001 (by decide)) (x := 4) (j := 4) rfl (by decide)) (And.intro (sc_in hL hL2 hc (q2 2001 (by decide)) (x := 5) (j := 5) rfl (by decide)) (nm ?_))))))
  rw [q2 2000 (by decide)]
  refine c_L_law_1250 q3 rfl (by decide) rfl (Nat.le_of_ble_eq_true rfl) (by decide) rfl (fun r2 I2 J2 hq2 => ?_)
  obtain ⟨q4, q5⟩ := hq2
  subst q4
  exact b_L_law_1253 (fun _ => hb I2 J2 q5) (fun h => absurd rfl h)
theorem law_36 (hL : sc 2001 0 = nI Ln) (hL2 : Ln ≤ 3072) (hc : 6 * c + 6 ≤ Ln) (hV : V < 1000) (hI : INV sc V I J) (hs0 : I 2000 = sc 2000) (hs1 : I 2001 = sc 2001) (hb : BK sc V c Q) : EN 62 RF mL_law 13 1258 [(0, .ref 2000), (1, .ref 0), (2, .ref 39), (3, .int (nI (6 * c)))] [] I J Q := by
  obtain ⟨v, hv⟩ := p_states (sc := sc) (V := V) (sc 2000 (nI (6 * c) + 1).toNatClampNeg) (sc 2000 (nI (6 * c) + 2).toNatClampNeg) (sc 2000 (nI (6 * c) + 3).toNatClampNeg) I J hI
  refine blk s_L_law_1258 (And.intro (sc_in hL hL2 hc hs1 (x := 1) (j := 1) rfl (by decide)) (And.intro (sc_in hL hL2 hc hs1 (x := 2) (j := 2) rfl (by decide)) (And.intro (sc_in hL hL2 hc hs1 (x := 3) (j := 3) rfl (by decide)) (nm ?_))))
  rw [hs0]
  refine c_L_law_1274 hv rfl (by decide) rfl (Nat.le_of_ble_eq_true rfl) (by decide) rfl (fun r I1 J1 hq => ?_)
  obtain ⟨q1, q2, q3⟩ := hq
  subst q1
  refine blk s_L_law_1277 (And.intro (sc_in hL hL2 hc (q2 2001 (by decide)) (x := 1) (j := 1) rfl (by decide)) (And.intro (sc_in hL hL2 hc (q2 2001 (by decide)) (x := 2) (j := 2) rfl (by decide)) (And.intro (sc_in hL hL2 hc (q2 2001 (by decide)) (x := 3) (j := 3) rfl (by decide)) (nm ?_))))
  rw [q2 2000 (by decide)]
  refine c_L_law_1293 q3 rfl (by decide) rfl (Nat.le_of_ble_eq_true rfl) (by decide) rfl (fun r2 I2 J2 hq2 => ?_)
  obtain ⟨q4, q5⟩ := hq2
  subst q4
  exact b_L_law_1296 (fun _ => hb I2 J2 q5) (fun h => absurd rfl h)
theorem law_37 (hL : sc 2001 0 = nI Ln) (hL2 : Ln ≤ 3072) (hc : 6 * c + 6 ≤ Ln) (hV : V < 1000) (hI : INV sc V I J) (hs0 : I 2000 = sc 2000) (hs1 : I 2001 = sc 2001) (hb : BK sc V c Q) : EN 62 RF mL_law 13 1301 [(0, .ref 2000), (1, .ref 0), (2, .ref 39), (3, .int (nI (6 * c)))] [] I J Q := by
  obtain ⟨v, hv⟩ := p_lose (sc := sc) (V := V) (sc 2000 (nI (6 * c) + 1).toNatClampNeg) I J hI
  refine blk s_L_law_1301 (And.intro (sc_in hL hL2 hc hs1 (x := 1) (j := 1) rfl (by decide)) (nm ?_))
  rw [hs0]
  refine c_L_law_1307 hv rfl (by decide) rfl (Nat.le_of_ble_eq_true rfl) (by decide) rfl (fun r I1 J1 hq => ?_)
  obtain ⟨q1, q2, q3⟩ := hq
  subst q1
  refine blk s_L_law_1310 (And.intro (sc_in hL hL2 hc (q2 2001 (by decide)) (x := 1) (j := 1) rfl (by decide)) (nm ?_))
  rw [q2 2000 (by decide)]
  refine c_L_law_1316 q3 rfl (by decide) rfl (Nat.le_of_ble_eq_true rfl) (by decide) rfl (fun r2 I2 J2 hq2 => ?_)
  obtain ⟨q4, q5⟩ := hq2
  subst q4
  exact b_L_law_1319 (fun _ => hb I2 J2 q5) (fun h => absurd rfl h)
theorem law_38 (hL : sc 2001 0 = nI Ln) (hL2 : Ln ≤ 3072) (hc : 6 * c + 6 ≤ Ln) (hV : V < 1000) (hI : INV sc V I J) (hs0 : I 2000 = sc 2000) (hs1 : I 2001 = sc 2001) (hb : BK sc V c Q) : EN 62 RF mL_law 13 1324 [(0, .ref 2000), (1, .ref 0), (2, .ref 39), (3, .int (nI (6 * c)))] [] I J Q := by
  obtain ⟨v, hv⟩ := p_fault (sc := sc) (V := V)  I J hI
  refine blk s_L_law_1324 (nm ?_)
  refine c_L_law_1325 hv rfl (by decide) rfl (Nat.le_of_ble_eq_true rfl) (by decide) rfl (fun r I1 J1 hq => ?_)
  obtain ⟨q1, q2, q3⟩ := hq
  subst q1
  refine blk s_L_law_1328 (nm ?_)
  refine c_L_law_1329 q3 rfl (by decide) rfl (Nat.le_of_ble_eq_true rfl) (by decide) rfl (fun r2 I2 J2 hq2 => ?_)
  obtain ⟨q4, q5⟩ := hq2
  subst q4
  exact b_L_law_1332 (fun _ => hb I2 J2 q5) (fun h => absurd rfl h)
theorem law_39 (hL : sc 2001 0 = nI Ln) (hL2 : Ln ≤ 3072) (hc : 6 * c + 6 ≤ Ln) (hV : V < 1000) (hI : INV sc V I J) (hs0 : I 2000 = sc 2000) (hs1 : I 2001 = sc 2001) (hb : BK sc V c Q) : EN 62 RF mL_law 13 1337 [(0, .ref 2000), (1, .ref 0), (2, .ref 39), (3, .int (nI (6 * c)))] [] I J Q := by
  obtain ⟨v, hv⟩ := p_many (sc := sc) (V := V) (sc 2000 (nI (6 * c) + 1).toNatClampNeg) I J hI
  refine blk s_L_law_1337 (And.intro (sc_in hL hL2 hc hs1 (x := 1) (j := 1) rfl (by decide)) (nm ?_))
  rw [hs0]
  refine c_L_law_1343 hv rfl (by decide) rfl (Nat.le_of_ble_eq_true rfl) (by decide) rfl (fun r I1 J1 hq => ?_)
  obtain ⟨q1, q2, q3⟩ := hq
  subst q1
  refine blk s_L_law_1346 (And.intro (sc_in hL hL2 hc (q2 2001 (by decide)) (x := 1) (j := 1) rfl (by decide)) (nm ?_))
  rw [q2 2000 (by decide)]
  refine c_L_law_1352 q3 rfl (by decide) rfl (Nat.le_of_ble_eq_true rfl) (by decide) rfl (fun r2 I2 J2 hq2 => ?_)
  obtain ⟨q4, q5⟩ := hq2
  subst q4
  exact b_L_law_1355 (fun _ => hb I2 J2 q5) (fun h => absurd rfl h)
theorem law_loop (hL : sc 2001 0 = nI Ln) (hL2 : Ln ≤ 3072) (hQ : ∀ I J, Q (some (.int 1)) I J) : ∀ (n c : Nat) (I : IT) (J : JT), c + n = Ln / 6 → INV sc (1 + c) I J → EN 62 RF mL_law 13 18 [(0, .ref 2000), (1, .ref 0), (2, .ref 39), (3, .int (nI (6 * c)))] [] I J Q := by
  intro n
  induction n with
  | zero =>
    intro c I J hn hI
    have hs : ∀ o, 62 ≤ o → I o = sc o := by obtain ⟨C, nx, os, oc, K, V', bx, fa, -, -, -, -, hs⟩ := hI; exact hs
    refine blk s_L_law_18 (nm ?_)
    rw [hs 2001 (by decide), hL]
    refine b_L_law_24 (fun h => ?_) (fun h => absurd ?_ h)
    · refine blk s_L_law_1366 (nm ?_)
      exact r_L_law_1367 (Or.inr rfl) (hQ I J)
    · rw [Int32.lt_iff_toInt_lt]
      have e1 := pk_sub_toInt (a := Ln) (b := 6) (by omega) (by decide)
      have e2 := pk_sub_toInt (a := 6 * c) (b := 0) (by omega) (by decide)
      rw [pk_sub (Nat.zero_le _), Nat.sub_zero] at e2
      have e3 : (nI Ln - 6).toInt = (Ln : Int) - (6 : Nat) := e1
      omega
  | succ n ih =>
    intro c I J hn hI
    have hs : ∀ o, 62 ≤ o → I o = sc o := by obtain ⟨C, nx, os, oc, K, V', bx, fa, -, -, -, -, hs⟩ := hI; exact hs
    have hc : 6 * c + 6 ≤ Ln := by omega
    have hb : BK sc (1 + c) c Q := by
      intro I' J' hI'
      refine blk s_L_law_1360 (nm ?_)
      refine en_L ?_ (ih (c + 1) I' J' (by omega) hI')
      rw [show nI (6 * c) + 6 = nI (6 * (c + 1)) from nI_add (6 * c) 6]
    have hV : 1 + c < 1000 := by omega
    have hs0 := hs 2000 (by decide)
    have hs1 := hs 2001 (by decide)
    have hI2 : INV sc (1 + c + 1) I J := by
      obtain ⟨C, nx, os, oc, K, V', bx, fa, h, hh⟩ := hI
      exact ⟨C, nx, os, oc, K, V', bx, fa, Nat.le_succ_of_le h, hh⟩
    refine blk s_L_law_18 (nm ?_)
    rw [hs1, hL]
    refine b_L_law_24 (fun h => absurd h ?_) (fun h => ?_)
    · rw [show nI Ln - 6 = nI (Ln - 6) from pk_sub (a := Ln) (b := 6) (by omega), nI_ltI (by omega) (by omega)]; omega
    refine blk s_L_law_27 (And.intro (show vp_in (nI (6 * c)) (I 2001 0).toNatClampNeg from by rw [hs1, hL, cl Ln]; exact ib (hN := by omega) (by omega)) (nm ?_))
    exact w_L_law_33 (fun _ => law_0 hL hL2 hc hV hI hs0 hs1 hb) (fun _ => law_1 hL hL2 hc hV hI hs0 hs1 hb) (fun _ => law_2 hL hL2 hc hV hI hs0 hs1 hb) (fun _ => law_3 hL hL2 hc hV hI hs0 hs1 hb) (fun _ => law_4 hL hL2 hc hV hI hs0 hs1 hb) (fun _ => law_5 hL hL2 hc hV hI hs0 hs1 hb) (fun _ => law_6 hL hL2 hc hV hI hs0 hs1 hb) (fun _ => law_7 hL hL2 hc hV hI hs0 hs1 hb) (fun _ => law_8 hL hL2 hc hV hI hs0 hs1 hb) (fun _ => law_9 hL hL2 hc hV hI hs0 hs1 hb) (fun _ => law_10 hL hL2 hc hV hI hs0 hs1 hb) (fun _ => law_11 hL hL2 hc hV hI hs0 hs1 hb) (fun _ => law_12 hL hL2 hc hV hI hs0 hs1 hb) (fun _ => law_13 hL hL2 hc hV hI hs0 hs1 hb) (fun _ => law_14 hL hL2 hc hV hI hs0 hs1 hb) (fun _ => law_15 hL hL2 hc hV hI hs0 hs1 hb) (fun _ => law_16 hL hL2 hc hV hI hs0 hs1 hb) (fun _ => law_17 hL hL2 hc hV hI hs0 hs1 hb) (fun _ => law_18 hL hL2 hc hV hI hs0 hs1 hb) (fun _ => law_19 hL hL2 hc hV hI hs0 hs1 hb) (fun _ => law_20 hL hL2 hc hV hI hs0 hs1 hb) (fun _ => law_21 hL hL2 hc hV hI hs0 hs1 hb) (fun _ => law_22 hL hL2 hc hV hI hs0 hs1 hb) (fun _ => law_23 hL hL2 hc hV hI hs0 hs1 hb) (fun _ => law_24 hL hL2 hc hV hI hs0 hs1 hb) (fun _ => law_25 hL hL2 hc hV hI hs0 hs1 hb) (fun _ => law_26 hL hL2 hc hV hI hs0 hs1 hb) (fun _ => law_27 hL hL2 hc hV hI hs0 hs1 hb) (fun _ => law_28 hL hL2 hc hV hI hs0 hs1 hb) (fun _ => law_29 hL hL2 hc hV hI hs0 hs1 hb) (fun _ => law_30 hL hL2 hc hV hI hs0 hs1 hb) (fun _ => law_31 hL hL2 hc hV hI hs0 hs1 hb) (fun _ => law_32 hL hL2 hc hV hI hs0 hs1 hb) (fun _ => law_33 hL hL2 hc hV hI hs0 hs1 hb) (fun _ => law_34 hL hL2 hc hV hI hs0 hs1 hb) (fun _ => law_35 hL hL2 hc hV hI hs0 hs1 hb) (fun _ => law_36 hL hL2 hc hV hI hs0 hs1 hb) (fun _ => law_37 hL hL2 hc hV hI hs0 hs1 hb) (fun _ => law_38 hL hL2 hc hV hI hs0 hs1 hb) (fun _ => law_39 hL hL2 hc hV hI hs0 hs1 hb) (fun _ _ _ _ _ _ _ _ _ _ _ _ _ _ _ _ _ _ _ _ _ _ _ _ _ _ _ _ _ _ _ _ _ _ _ _ _ _ _ _ => hb I J hI2)
end LAW
