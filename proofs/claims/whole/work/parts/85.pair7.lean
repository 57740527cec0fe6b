/-! PAIRS: starts, claim, next -/
section PAIR7
variable {sc : Nat → Nat → Int32} {V : Nat} {I : IT} {J : JT} {g : JT} {C : Nat} {nx : Nat → Option Nat} {os oc : Option Nat}
def fgI (I : IT) : IT := up2 (up2 I 19 3 0) 19 4 65535
theorem fgI_o {o : Nat} (h : o ≠ 19) : fgI I o = I o := by unfold fgI; rw [up2_o h, up2_o h]
theorem bs_all : bs (fun _ => true) = 65535 := by decide +kernel
theorem fg_LM {I' : IT} (h : I' 19 = fgI I 19) : LM I' 0 := by
  refine ⟨?_, Nat.zero_le _, ?_, fun k hk => absurd hk (Nat.not_lt_zero k)⟩
  · rw [h]; unfold fgI; rw [up2_k (by decide), up2_s]; rfl
  · rw [h]
    have e : inA I' 0 = fun _ => true := rfl
    rw [e, bs_all]; unfold fgI; rw [up2_s]
theorem st_tell {dX dM : Nat} {mX mM : MI} {ax : List Value} {nx' : Nat → Option Nat} {os' oc' : Option Nat} {K V' V2 : Nat} {bx : BXT} {fa : Int32} {v : Int32} {I1 I2 : IT} (hb : BOK C bx) (hC : CL C nx os oc K V' bx fa I J) (hR : RE I J C nx os oc K bx fa I J) (hs : ∀ o, 62 ≤ o → I o = sc o)
    (h1 : CN 62 RF mX dX (.ref 0 :: ax) I J (RX (some (.int v)) I1 J)) (hf : ∀ o, ¬ (11 ≤ o ∧ o ≤ 19) → I1 o = I o) (hV2 : V2 ≤ V + 1) (hM : MX I1 J C nx' os' oc') (hL : LM I1 0) (hKp : I1 11 8 = nI V2 ∧ KpOk (Tx J nx') I1 V2)
    (h2 : CN 62 RF mM dM (.ref 39 :: ax) I1 J (RX (some (.int v)) I2 J)) (hg : ∀ o, o ≠ 39 → o ≠ 47 → I2 o = I1 o) (hg39 : ∀ m, m ≠ 9 → m ≠ 10 → m ≠ 16 → I2 39 m = I1 39 m) (hB : RB I2 J C nx' os' oc') (h16 : I2 39 16 = nI 0) : PRs sc V mX mM dX dM ax I J := by
  refine ⟨v, cn_mono h1 ?_⟩
  rintro r I1' J1 ⟨rfl, rfl, rfl⟩
  refine ⟨rfl, fun o ho => (hf o (by omega)).trans (hs o ho), cn_mono h2 ?_⟩
  rintro r I2' J2 ⟨rfl, rfl, rfl⟩
  have R1 : RE I J2 C nx os oc K bx fa I1' J2 := RE_fr hR (fun o a _ => hf o (by omega)) rfl
  have c4 : CBX bx I1' := CBX_cg hC.2.2.2.1 fun o a b => hf o (by omega)
  have c5 : I1' 0 7 = fa := by rw [hf 0 (by decide)]; exact hC.2.2.2.2
  refine ⟨rfl, C, nx', os', oc', 0, V2, bx, fa, hV2, hb, CL_cg ⟨hM, hL, hKp, c4, c5⟩ (fun o ho => hg o (by omega) (by omega)) rfl, ⟨hB, ?_, ⟨h16, Nat.zero_le _, fun k hk => absurd hk (Nat.not_lt_zero k)⟩, ?_, ?_⟩, fun o ho => ?_⟩
  · have h3 : RTm I2' J2 I J2 C := by
      have := R1.2.1
      unfold RTm at *
      rw [hg 40 (by decide) (by decide), hg 41 (by decide) (by decide), hg 42 (by decide) (by decide), hg 43 (by decide) (by decide), hg 44 (by decide) (by decide)]; exact this
    exact RTm_gh h3 (fun o a b => (hg o (by omega) (by omega)).trans (hf o (by omega))) rfl
  · exact RBX_cg R1.2.2.2.1 (hg 58 (by decide) (by decide)) (hg 59 (by decide) (by decide)) (hg 60 (by decide) (by decide))
  · rw [hg39 0 (by decide) (by decide) (by decide)]; exact R1.2.2.2.2
  · rw [hg o (by omega) (by omega), hf o (by omega), hs o ho]
def agV (f : IT) (C : Nat) (t : Int32) : Int32 := match hsB C t with
  | false => -1
  | true => if f 7 t.toNatClampNeg = 0 then 0 else -2
theorem ct_X7_against {f : IT} (hC : I 39 1 = nI C) (h40 : C ≤ 40) (hR : RTm I J f g C) (t : Int32) : CN 62 RF mX7_againstStates 2 [.ref 39, .int t] I J (RX (some (.int (agV f C t))) I J) := by
  unfold agV
  refine cn_of (by decide) rfl (Nat.le_of_ble_eq_true rfl) ?_
  refine blk s_X7_againstStates_0 (nm ?_)
  refine c_X7_againstStates_2 (ct_X7_isTermC hC h40 t) rfl (by decide) rfl (Nat.le_of_ble_eq_true rfl) (by decide) rfl (rx ?_)
  cases ht : hsB C t with
  | false =>
    refine b_X7_againstStates_5 (fun h => absurd rfl h) (fun h => ?_)
    refine blk s_X7_againstStates_8 (nm ?_)
    exact r_X7_againstStates_27 rxq
  | true =>
    obtain ⟨k, hk, rfl⟩ := hs_ex (by omega) ht
    refine b_X7_againstStates_5 (fun h => ?_) (fun h => absurd h (by decide))
    refine blk s_X7_againstStates_12 (And.intro (ib (show k < 40 by omega)) (nm ?_))
    rw [cl k, (hR k hk).2.2.2.2.2.1]
    refine b_X7_againstStates_18 (fun h => ?_) (fun h => ?_)
    · refine blk s_X7_againstStates_26 (nm ?_)
      refine r_X7_againstStates_27 (rxe ?_ rfl rfl)
      rw [if_pos h]
    · refine blk s_X7_againstStates_21 (nm ?_)
      refine r_X7_againstStates_27 (rxe ?_ rfl rfl)
      rw [if_neg h]
theorem ct_X6_starts (hC : I 1 9 = nI C) (h40 : C ≤ 40) {t v : Int32} {I' : IT} (h0 : hsB C t = false → v = -1 ∧ I' = I) (h1 : hsB C t = true → ¬ I 7 t.toNatClampNeg = 0 → v = -2 ∧ I' = I) (h2 : hsB C t = true → I 7 t.toNatClampNeg = 0 → CN 62 RF mX3_tellStarts 3 [.ref 11, .int t] (fgI I) J (RX (some (.int v)) I' J)) : CN 62 RF mX6_starts 4 [.ref 0, .int t] I J (RX (some (.int v)) I' J) := by
  refine cn_of (by decide) rfl (Nat.le_of_ble_eq_true rfl) ?_
  refine blk s_X6_starts_0 (nm ?_)
  refine c_X6_starts_5 (ct_X4_hasC hC t) rfl (by decide) rfl (Nat.le_of_ble_eq_true rfl) (by decide) rfl (rx ?_)
  cases ht : hsB C t with
  | false =>
    obtain ⟨e1, e2⟩ := h0 ht
    refine b_X6_starts_8 (fun h => absurd rfl h) (fun h => ?_)
    refine blk s_X6_starts_11 (nm ?_)
    exact r_X6_starts_12 (rxe (by rw [e1]) e2.symm rfl)
  | true =>
    obtain ⟨k, hk, rfl⟩ := hs_ex (by omega) ht
    refine b_X6_starts_8 (fun h => ?_) (fun h => absurd h (by decide))
    refine blk s_X6_starts_13 (And.intro (ib (show k < 40 by omega)) (nm ?_))
    refine b_X6_starts_22 (fun h => ?_) (fun h => ?_)
    · refine blk s_X6_starts_28 (nm ?_)
      refine c_X6_starts_32 ct_X2_forgetAll rfl (by decide) rfl (Nat.le_of_ble_eq_true rfl) (by decide) rfl (rx ?_)
      refine blk s_X6_starts_35 (nm ?_)
      refine c_X6_starts_40 (h2 ht h) rfl (by decide) rfl (Nat.le_of_ble_eq_true rfl) (by decide) rfl (rx ?_)
      exact r_X6_starts_43 rxq
    · obtain ⟨e1, e2⟩ := h1 ht h
      refine blk s_X6_starts_25 (nm ?_)
      exact r_X6_starts_27 (rxe (by rw [e1]) e2.symm rfl)
theorem ct_X7_starts {f : IT} (hC : I 39 1 = nI C) (h40 : C ≤ 40) (hR : RTm I J f g C) {t v : Int32} {I' : IT} (h0 : ¬ agV f C t = 0 → v = agV f C t ∧ I' = I) (h1 : agV f C t = 0 → v = I 39 9 ∧ I' = up2 (up2 I 39 9 t) 39 16 0) : CN 62 RF mX7_starts 3 [.ref 39, .int t] I J (RX (some (.int v)) I' J) := by
  refine cn_of (by decide) rfl (Nat.le_of_ble_eq_true rfl) ?_
  refine blk s_X7_starts_0 (nm ?_)
  refine c_X7_starts_2 (ct_X7_against hC h40 hR t) rfl (by decide) rfl (Nat.le_of_ble_eq_true rfl) (by decide) rfl (rx ?_)
  refine blk s_X7_starts_5 (nm ?_)
  refine b_X7_starts_7 (fun h => ?_) (fun h => ?_)
  · obtain ⟨e1, e2⟩ := h1 h
    refine blk s_X7_starts_12 (nm ?_)
    exact r_X7_starts_28 (rxe (by rw [e1]) e2.symm rfl)
  · obtain ⟨e1, e2⟩ := h0 h
    refine blk s_X7_starts_10 (nm ?_)
    exact r_X7_starts_11 (rxe (by rw [e1]) e2.symm rfl)
theorem p_starts (t : Int32) : PR sc V mX6_starts mX7_starts 4 3 [.int t] := pr_s fun I J C nx os oc K V' bx fa hV hb hC hR hs => by
  have h40 := c40 hC
  cases ht : hsB C t with
  | false =>
    have e : agV I C t = -1 := by unfold agV; rw [ht]
    exact st_id (v := -1) hV hb hC hR hs (ct_X6_starts (cC hC) h40 (fun _ => ⟨rfl, rfl⟩) (fun h => tf h ht) (fun h => tf h ht)) (ct_X7_starts hR.1.1.1 h40 hR.2.1 (fun _ => ⟨e.symm, rfl⟩) (fun h => absurd (e.symm.trans h) (by decide)))
  | true =>
    obtain ⟨q, hq, rfl⟩ := hs_ex (by omega) ht
    by_cases h7 : I 7 (nI q).toNatClampNeg = 0
    · have e : agV I C (nI q) = 0 := by unfold agV; rw [ht]; exact if_pos h7
      have hM0 : MX (fgI I) J C nx os oc := MX_cg hC.1 fun o ho => fgI_o (by omega)
      obtain ⟨I1, k1, k2, k3, k4⟩ := ct_X3_tellStarts hM0 hq
      have hf : ∀ o, ¬ (11 ≤ o ∧ o ≤ 19) → I1 o = I o := fun o ho => (k3 o (by omega)).trans (fgI_o (by omega))
      have R1 : RE I J C nx os oc K bx fa I1 J := RE_fr hR (fun o a _ => hf o (by omega)) rfl
      have e9 : I1 39 9 = o2i os := R1.1.2.1.1
      obtain ⟨b1, b2, b3, b4, b5⟩ := R1.1
      refine st_tell hb hC hR hs (I2 := up2 (up2 I1 39 9 (nI q)) 39 16 0) (ct_X6_starts (cC hC) h40 (fun h => tf ht h) (fun _ h => absurd h7 h) (fun _ _ => k1)) hf (Nat.le_succ_of_le hV) k2 (fg_LM (k3 19 (by decide))) ⟨?_, ?_⟩ (ct_X7_starts R1.1.1.1 h40 R1.2.1 (fun h => absurd e h) (fun _ => ⟨e9.symm, rfl⟩)) (fun o ho _ => by rw [up2_o ho, up2_o ho]) (fun m h9 h10 h16 => by rw [up2_k h16, up2_k h9]) ⟨⟨?_, b1.2.1, ?_⟩, ?_, ?_, ?_, b5⟩ (by rw [up2_s]; rfl)
      · rw [k4, fgI_o (by decide)]; exact cV hC
      · exact KpOk_cg (cKp hC) (hf 22 (by decide)) (hf 23 (by decide)) (hf 24 (by decide))
      · rw [up2_k (by decide), up2_k (by decide)]; exact b1.1
      · rw [up2_o (by decide), up2_o (by decide)]; exact b1.2.2
      · exact ⟨by rw [up2_k (by decide), up2_s]; rfl, fun t h => by cases h; exact hq⟩
      · refine ⟨?_, b3.2⟩
        rw [up2_k (by decide), up2_k (by decide)]; exact b3.1
      · rw [up2_o (by decide), up2_o (by decide)]; exact b4
    · have e : agV I C (nI q) = -2 := by unfold agV; rw [ht]; exact if_neg h7
      exact st_id (v := -2) hV hb hC hR hs (ct_X6_starts (cC hC) h40 (fun h => tf ht h) (fun _ _ => ⟨rfl, rfl⟩) (fun _ h => absurd h h7)) (ct_X7_starts hR.1.1.1 h40 hR.2.1 (fun _ => ⟨e.symm, rfl⟩) (fun h => absurd (e.symm.trans h) (by decide)))
theorem ct_X6_claim (hC : I 1 9 = nI C) (h40 : C ≤ 40) {t v : Int32} {I' : IT} (h0 : hsB C t = false → v = -1 ∧ I' = I) (h1 : hsB C t = true → ¬ I 7 t.toNatClampNeg = 0 → v = -2 ∧ I' = I) (h2 : hsB C t = true → I 7 t.toNatClampNeg = 0 → CN 62 RF mX3_tellClaim 3 [.ref 11, .int t] (fgI I) J (RX (some (.int v)) I' J)) : CN 62 RF mX6_claim 4 [.ref 0, .int t] I J (RX (some (.int v)) I' J) := by
  refine cn_of (by decide) rfl (Nat.le_of_ble_eq_true rfl) ?_
  refine blk s_X6_claim_0 (nm ?_)
  refine c_X6_claim_5 (ct_X4_hasC hC t) rfl (by decide) rfl (Nat.le_of_ble_eq_true rfl) (by decide) rfl (rx ?_)
  cases ht : hsB C t with
  | false =>
    obtain ⟨e1, e2⟩ := h0 ht
    refine b_X6_claim_8 (fun h => absurd rfl h) (fun h => ?_)
    refine blk s_X6_claim_11 (nm ?_)
    exact r_X6_claim_12 (rxe (by rw [e1]) e2.symm rfl)
  | true =>
    obtain ⟨k, hk, rfl⟩ := hs_ex (by omega) ht
    refine b_X6_claim_8 (fun h => ?_) (fun h => absurd h (by decide))
    refine blk s_X6_claim_13 (And.intro (ib (show k < 40 by omega)) (nm ?_))
    refine b_X6_claim_22 (fun h => ?_) (fun h => ?_)
    · refine blk s_X6_claim_28 (nm ?_)
      refine c_X6_claim_32 ct_X2_forgetAll rfl (by decide) rfl (Nat.le_of_ble_eq_true rfl) (by decide) rfl (rx ?_)
      refine blk s_X6_claim_35 (nm ?_)
      refine c_X6_claim_40 (h2 ht h) rfl (by decide) rfl (Nat.le_of_ble_eq_true rfl) (by decide) rfl (rx ?_)
      exact r_X6_claim_43 rxq
    · obtain ⟨e1, e2⟩ := h1 ht h
      refine blk s_X6_claim_25 (nm ?_)
      exact r_X6_claim_27 (rxe (by rw [e1]) e2.symm rfl)
theorem ct_X7_claim {f : IT} (hC : I 39 1 = nI C) (h40 : C ≤ 40) (hR : RTm I J f g C) {t v : Int32} {I' : IT} (h0 : ¬ agV f C t = 0 → v = agV f C t ∧ I' = I) (h1 : agV f C t = 0 → v = I 39 10 ∧ I' = up2 (up2 I 39 10 t) 39 16 0) : CN 62 RF mX7_claim 3 [.ref 39, .int t] I J (RX (some (.int v)) I' J) := by
  refine cn_of (by decide) rfl (Nat.le_of_ble_eq_true rfl) ?_
  refine blk s_X7_claim_0 (nm ?_)
  refine c_X7_claim_2 (ct_X7_against hC h40 hR t) rfl (by decide) rfl (Nat.le_of_ble_eq_true rfl) (by decide) rfl (rx ?_)
  refine blk s_X7_claim_5 (nm ?_)
  refine b_X7_claim_7 (fun h => ?_) (fun h => ?_)
  · obtain ⟨e1, e2⟩ := h1 h
    refine blk s_X7_claim_12 (nm ?_)
    exact r_X7_claim_28 (rxe (by rw [e1]) e2.symm rfl)
  · obtain ⟨e1, e2⟩ := h0 h
    refine blk s_X7_claim_10 (nm ?_)
    exact r_X7_claim_11 (rxe (by rw [e1]) e2.symm rfl)
theorem p_claim (t : Int32) : PR sc V mX6_claim mX7_claim 4 3 [.int t] := pr_s fun I J C nx os oc K V' bx fa hV hb hC hR hs => by
  have h40 := c40 hC
  cases ht : hsB C t with
  | false =>
    have e : agV I C t = -1 := by unfold agV; rw [ht]
    exact st_id (v := -1) hV hb hC hR hs (ct_X6_claim (cC hC) h40 (fun _ => ⟨rfl, rfl⟩) (fun h => tf h ht) (fun h => tf h ht)) (ct_X7_claim hR.1.1.1 h40 hR.2.1 (fun _ => ⟨e.symm, rfl⟩) (fun h => absurd (e.symm.trans h) (by decide)))
  | true =>
    obtain ⟨q, hq, rfl⟩ := hs_ex (by omega) ht
    by_cases h7 : I 7 (nI q).toNatClampNeg = 0
    · have e : agV I C (nI q) = 0 := by unfold agV; rw [ht]; exact if_pos h7
      have hM0 : MX (fgI I) J C nx os oc := MX_cg hC.1 fun o ho => fgI_o (by omega)
      obtain ⟨I1, k1, k2, k3, k4⟩ := ct_X3_tellClaim hM0 hq
      have hf : ∀ o, ¬ (11 ≤ o ∧ o ≤ 19) → I1 o = I o := fun o ho => (k3 o (by omega)).trans (fgI_o (by omega))
      have R1 : RE I J C nx os oc K bx fa I1 J := RE_fr hR (fun o a _ => hf o (by omega)) rfl
      have e9 : I1 39 10 = o2i oc := R1.1.2.2.1.1
      obtain ⟨b1, b2, b3, b4, b5⟩ := R1.1
      refine st_tell hb hC hR hs (I2 := up2 (up2 I1 39 10 (nI q)) 39 16 0) (ct_X6_claim (cC hC) h40 (fun h => tf ht h) (fun _ h => absurd h7 h) (fun _ _ => k1)) hf (Nat.le_succ_of_le hV) k2 (fg_LM (k3 19 (by decide))) ⟨?_, ?_⟩ (ct_X7_claim R1.1.1.1 h40 R1.2.1 (fun h => absurd e h) (fun _ => ⟨e9.symm, rfl⟩)) (fun o ho _ => by rw [up2_o ho, up2_o ho]) (fun m h9 h10 h16 => by rw [up2_k h16, up2_k h10]) ⟨⟨?_, b1.2.1, ?_⟩, ?_, ?_, ?_, b5⟩ (by rw [up2_s]; rfl)
      · rw [k4, fgI_o (by decide)]; exact cV hC
      · exact KpOk_cg (cKp hC) (hf 22 (by decide)) (hf 23 (by decide)) (hf 24 (by decide))
      · rw [up2_k (by decide), up2_k (by decide)]; exact b1.1
      · rw [up2_o (by decide), up2_o (by decide)]; exact b1.2.2
      · refine ⟨?_, b2.2⟩
        rw [up2_k (by decide), up2_k (by decide)]; exact b2.1
      · exact ⟨by rw [up2_k (by decide), up2_s]; rfl, fun t h => by cases h; exact hq⟩
      · rw [up2_o (by decide), up2_o (by decide)]; exact b4
    · have e : agV I C (nI q) = -2 := by unfold agV; rw [ht]; exact if_neg h7
      exact st_id (v := -2) hV hb hC hR hs (ct_X6_claim (cC hC) h40 (fun h => tf ht h) (fun _ _ => ⟨rfl, rfl⟩) (fun _ h => absurd h h7)) (ct_X7_claim hR.1.1.1 h40 hR.2.1 (fun _ => ⟨e.symm, rfl⟩) (fun h => absurd (e.symm.trans h) (by decide)))
theorem ct_X6_next (hC : I 1 9 = nI C) {w t v : Int32} {I' : IT} (h0 : (ltB w 4 && hsB C t) = false → v = -1 ∧ I' = I) (h2 : (ltB w 4 && hsB C t) = true → CN 62 RF mX3_tellNext 3 [.ref 11, .int w, .int t] (fgI I) J (RX (some (.int v)) I' J)) : CN 62 RF mX6_next 4 [.ref 0, .int w, .int t] I J (RX (some (.int v)) I' J) := by
  have out : (ltB w 4 && hsB C t) = false → EN 62 RF mX6_next 4 20 [(0, .ref 0), (1, .int w), (2, .int t)] [] I J (RX (some (.int v)) I' J) := by
    intro h
    obtain ⟨e1, e2⟩ := h0 h
    refine blk s_X6_next_20 (nm ?_)
    exact r_X6_next_21 (rxe (by rw [e1]) e2.symm rfl)
  refine cn_of (by decide) rfl (Nat.le_of_ble_eq_true rfl) ?_
  refine blk s_X6_next_0 (nm ?_)
  refine b_X6_next_1 (fun h => out (by unfold ltB; rw [decide_eq_true h]; rfl)) (fun h => ?_)
  refine blk s_X6_next_4 (nm ?_)
  refine b_X6_next_6 (fun h' => out (by unfold ltB; rw [decide_eq_false h, decide_eq_true h']; rfl)) (fun h' => ?_)
  have hw : ltB w 4 = true := by unfold ltB; rw [decide_eq_false h, decide_eq_false h']; rfl
  refine blk s_X6_next_9 (nm ?_)
  refine c_X6_next_14 (ct_X4_hasC hC t) rfl (by decide) rfl (Nat.le_of_ble_eq_true rfl) (by decide) rfl (rx ?_)
  cases ht : hsB C t with
  | false => exact b_X6_next_17 (fun h => absurd rfl h) (fun _ => out (by rw [hw, ht]; rfl))
  | true =>
    refine b_X6_next_17 (fun _ => ?_) (fun h => absurd h (by decide))
    refine blk s_X6_next_22 (nm ?_)
    refine c_X6_next_26 ct_X2_forgetAll rfl (by decide) rfl (Nat.le_of_ble_eq_true rfl) (by decide) rfl (rx ?_)
    refine blk s_X6_next_29 (nm ?_)
    refine c_X6_next_35 (h2 (by rw [hw, ht]; rfl)) rfl (by decide) rfl (Nat.le_of_ble_eq_true rfl) (by decide) rfl (rx ?_)
    exact r_X6_next_38 rxq
theorem ct_X7_next (hC : I 39 1 = nI C) (h40 : C ≤ 40) {w t v : Int32} {I' : IT} (h0 : (ltB w 4 && hsB C t) = false → v = -1 ∧ I' = I) (h1 : (ltB w 4 && hsB C t) = true → v = I 47 w.toNatClampNeg ∧ I' = up2 (up2 I 47 w.toNatClampNeg t) 39 16 0) : CN 62 RF mX7_next 3 [.ref 39, .int w, .int t] I J (RX (some (.int v)) I' J) := by
  have out : (ltB w 4 && hsB C t) = false → EN 62 RF mX7_next 3 17 [(0, .ref 39), (1, .int w), (2, .int t)] [] I J (RX (some (.int v)) I' J) := by
    intro h
    obtain ⟨e1, e2⟩ := h0 h
    refine blk s_X7_next_17 (nm ?_)
    exact r_X7_next_18 (rxe (by rw [e1]) e2.symm rfl)
  refine cn_of (by decide) rfl (Nat.le_of_ble_eq_true rfl) ?_
  refine blk s_X7_next_0 (nm ?_)
  refine c_X7_next_3 (ct_X7_within _ _ _) rfl (by decide) rfl (Nat.le_of_ble_eq_true rfl) (rx ?_)
  rw [wi_3]
  cases hw : ltB w 4 with
  | false => exact b_X7_next_6 (fun _ => out (by rw [hw]; rfl)) (fun h => absurd rfl h)
  | true =>
    refine b_X7_next_6 (fun h => absurd h (by decide)) (fun _ => ?_)
    refine blk s_X7_next_9 (nm ?_)
    refine c_X7_next_11 (ct_X7_isTermC hC h40 t) rfl (by decide) rfl (Nat.le_of_ble_eq_true rfl) (by decide) rfl (rx ?_)
    cases ht : hsB C t with
    | false => exact b_X7_next_14 (fun h => absurd rfl h) (fun _ => out (by rw [hw, ht]; rfl))
    | true =>
      obtain ⟨e1, e2⟩ := h1 (by rw [hw, ht]; rfl)
      obtain ⟨q, hq, rfl⟩ := lt_ex (N := 4) (by decide) hw
      refine b_X7_next_14 (fun _ => ?_) (fun h => absurd h (by decide))
      refine blk s_X7_next_19 (And.intro (ib hq) (And.intro (ib hq) (nm ?_)))
      exact r_X7_next_39 (rxe (by rw [e1]) e2.symm rfl)
theorem p_next (w t : Int32) : PR sc V mX6_next mX7_next 4 3 [.int w, .int t] := pr_s fun I J C nx os oc K V' bx fa hV hb hC hR hs => by
  have h40 := c40 hC
  cases h : (ltB w 4 && hsB C t) with
  | false => exact st_id (v := -1) hV hb hC hR hs (ct_X6_next (cC hC) (fun _ => ⟨rfl, rfl⟩) (fun h' => tf h' h)) (ct_X7_next hR.1.1.1 h40 (fun _ => ⟨rfl, rfl⟩) (fun h' => tf h' h))
  | true =>
    obtain ⟨hw, ht⟩ := Bool.and_eq_true_iff.mp h
    obtain ⟨u, hu, rfl⟩ := lt_ex (N := 4) (by decide) hw
    obtain ⟨q, hq, rfl⟩ := hs_ex (by omega) ht
    have hM0 : MX (fgI I) J C nx os oc := MX_cg hC.1 fun o ho => fgI_o (by omega)
    obtain ⟨I1, k1, k2, k3, k4⟩ := ct_X3_tellNext hM0 hu hq
    have hf : ∀ o, ¬ (11 ≤ o ∧ o ≤ 19) → I1 o = I o := fun o ho => (k3 o (by omega)).trans (fgI_o (by omega))
    have R1 : RE I J C nx os oc K bx fa I1 J := RE_fr hR (fun o a _ => hf o (by omega)) rfl
    obtain ⟨b1, b2, b3, b4, b5⟩ := R1.1
    refine st_tell hb hC hR hs (V2 := V' + 1) (I2 := up2 (up2 I1 47 u (nI q)) 39 16 0) (ct_X6_next (cC hC) (fun h' => tf h h') (fun _ => k1)) hf (Nat.succ_le_succ hV) k2 (fg_LM (k3 19 (by decide))) ⟨?_, ?_⟩ (ct_X7_next R1.1.1.1 h40 (fun h' => tf h h') (fun _ => ⟨by rw [cl u]; exact (b4 u hu).symm, by rw [cl u]⟩)) (fun o ho h47 => by rw [up2_o ho, up2_o h47]) (fun m h9 h10 h16 => by rw [up2_k h16, up2_o (by decide)]) ⟨⟨?_, b1.2.1, ?_⟩, ?_, ?_, fun z hz => ?_, fun z y hz hy => ?_⟩ (by rw [up2_s]; rfl)
    · rw [k4, fgI_o (by decide), cV hC, nI_s]
    · obtain ⟨v0, a1, a2, a3, -⟩ := cKp hC
      refine ⟨v0, ?_, Nat.le_succ_of_le a2, ?_, fun e => absurd a2 (by omega)⟩
      · rw [hf 22 (by decide)]; exact a1
      · rw [hf 22 (by decide)]; exact a3
    · rw [up2_k (by decide), up2_o (by decide)]; exact b1.1
    · rw [up2_o (by decide), up2_o (by decide)]; exact b1.2.2
    · refine ⟨?_, b2.2⟩
      rw [up2_k (by decide), up2_o (by decide)]; exact b2.1
    · refine ⟨?_, b3.2⟩
      rw [up2_k (by decide), up2_o (by decide)]; exact b3.1
    · rw [up2_o (by decide)]
      show _ = o2i (if z = u then some q else nx z)
      by_cases e : z = u
      · subst e; rw [up2_s, if_pos rfl]; rfl
      · rw [up2_k e, if_neg e]; exact b4 z hz
    · change (if z = u then some q else nx z) = some y at hy
      by_cases e : z = u
      · subst e; rw [if_pos rfl] at hy; cases hy; exact hq
      · rw [if_neg e] at hy; exact b5 z y hz hy
end PAIR7
