/-! PAIRS: back, strengthen, lemma -/
section PAIR8
variable {sc : Nat → Nat → Int32} {V V' : Nat} {I : IT} {J : JT} {g : JT} {C : Nat} {nx : Nat → Option Nat} {os oc : Option Nat} {K : Nat} {bx : BXT} {fa : Int32}
theorem st_fin {dX dM : Nat} {mX mM : MI} {ax : List Value} {nx2 : Nat → Option Nat} {os2 oc2 : Option Nat} {K2 V2 : Nat} {bx2 : BXT} {fa2 : Int32} {v : Int32} {I1 I2 : IT} (h1 : CN 62 RF mX dX (.ref 0 :: ax) I J (RX (some (.int v)) I1 J)) (h2 : CN 62 RF mM dM (.ref 39 :: ax) I1 J (RX (some (.int v)) I2 J)) (hV2 : V2 ≤ V + 1) (hb : BOK C bx2) (hC : CL C nx2 os2 oc2 K2 V2 bx2 fa2 I1 J) (hR : RE I1 J C nx2 os2 oc2 K2 bx2 fa2 I2 J) (hlo : ∀ o, o < 39 ∨ 62 ≤ o → I2 o = I1 o) (hhi : ∀ o, 62 ≤ o → I1 o = sc o) : PRs sc V mX mM dX dM ax I J := by
  refine ⟨v, cn_mono h1 ?_⟩
  rintro r I1' J1 ⟨rfl, rfl, rfl⟩
  refine ⟨rfl, hhi, cn_mono h2 ?_⟩
  rintro r I2' J2 ⟨rfl, rfl, rfl⟩
  exact ⟨rfl, C, nx2, os2, oc2, K2, V2, bx2, fa2, hV2, hb, CL_cg hC (fun o ho => hlo o (Or.inl ho)) rfl, RE_gh hR (fun o _ _ => hlo o (by omega)) rfl rfl, fun o ho => (hlo o (Or.inr ho)).trans (hhi o ho)⟩
/-- the lemmas alone change -/
theorem CL_lem {I1 : IT} {K2 : Nat} (h : CL C nx os oc K V bx fa I J) (hf : ∀ o, o ≠ 19 → o ≠ 20 → o ≠ 21 → I1 o = I o) (hL : LM I1 K2) : CL C nx os oc K2 V bx fa I1 J := by
  obtain ⟨h1, -, h3, h4, h5⟩ := h
  refine ⟨MX_cg h1 fun o ho => hf o (by omega) (by omega) (by omega), hL, ⟨?_, KpOk_cg h3.2 (hf 22 (by decide) (by decide) (by decide)) (hf 23 (by decide) (by decide) (by decide)) (hf 24 (by decide) (by decide) (by decide))⟩, CBX_cg h4 fun o a b => hf o (by omega) (by omega) (by omega), ?_⟩
  · rw [hf 11 (by decide) (by decide) (by decide)]; exact h3.1
  · rw [hf 0 (by decide) (by decide) (by decide)]; exact h5
theorem RE_lem {f f' : IT} {I1 : IT} {K2 : Nat} (h : RE f g C nx os oc K bx fa I J) (hf : ∀ o, o ≠ 39 → o ≠ 51 → o ≠ 52 → I1 o = I o) (h39 : ∀ m, m ≠ 16 → I1 39 m = I 39 m) (hf' : ∀ o, 2 ≤ o → o ≤ 8 → f' o = f o) (hL : I1 39 16 = nI K2 ∧ K2 ≤ 8 ∧ ∀ k, k < K2 → I1 51 k = f' 20 k ∧ I1 52 k = f' 21 k) : RE f' g C nx os oc K2 bx fa I1 J := by
  obtain ⟨h1, h2, -, h4, h5⟩ := h
  refine ⟨RB_cg h1 ⟨h39 1 (by decide), h39 9 (by decide), h39 10 (by decide)⟩ (hf 46 (by decide) (by decide) (by decide)) (hf 47 (by decide) (by decide) (by decide)), ?_, hL, RBX_cg h4 (hf 58 (by decide) (by decide) (by decide)) (hf 59 (by decide) (by decide) (by decide)) (hf 60 (by decide) (by decide) (by decide)), ?_⟩
  · refine RTm_gh (f := f) (g := g) ?_ hf' rfl
    unfold RTm at *
    rw [hf 40 (by decide) (by decide) (by decide), hf 41 (by decide) (by decide) (by decide), hf 42 (by decide) (by decide) (by decide), hf 43 (by decide) (by decide) (by decide), hf 44 (by decide) (by decide) (by decide)]; exact h2
  · rw [h39 0 (by decide)]; exact h5
theorem ad_o {x c : Int32} {o : Nat} (h19 : o ≠ 19) (h20 : o ≠ 20) (h21 : o ≠ 21) : adI I K x c o = I o := by
  unfold adI; rw [up2_o h19, up2_o h19, up2_o h21, up2_o h20]
theorem ad_20 {x c : Int32} : adI I K x c 20 = up2 I 20 K x 20 := by
  unfold adI; rw [up2_o (by decide), up2_o (by decide), up2_o (by decide)]
theorem ad_21 {x c : Int32} : adI I K x c 21 = up2 (up2 I 20 K x) 21 K c 21 := by
  unfold adI; rw [up2_o (by decide), up2_o (by decide)]
theorem ad_LM {x c : Int32} (h : LM I K) (hK : K < 8) (hx : sm x) : LM (adI I K x c) (K + 1) := by
  obtain ⟨l1, l2, l3, l4⟩ := h
  refine ⟨?_, hK, ?_, fun k hk => ?_⟩
  · unfold adI; rw [up2_s]
  · have e : adI I K x c 19 4 = I 19 4 &&& x := by unfold adI; rw [up2_k (by decide), up2_s]
    rw [e, l3, bs_andx]
    refine bsN_cg fun s hs => ?_
    show (alN (fun k => mb (I 20 k) s) K && mb x s) = alN (fun k => mb (adI I K x c 20 k) s) (K + 1)
    rw [ad_20]
    show _ = (alN (fun k => mb (up2 I 20 K x 20 k) s) K && mb (up2 I 20 K x 20 K) s)
    rw [up2_s]
    congr 1
    exact alN_cg fun k hk => by rw [up2_k (by omega)]
  · rw [ad_20]
    by_cases e : k = K
    · subst e; rw [up2_s]; exact hx
    · rw [up2_k e]; exact l4 k (by omega)
theorem no_o {x c : Int32} {o : Nat} (h39 : o ≠ 39) (h51 : o ≠ 51) (h52 : o ≠ 52) : noI I K x c o = I o := by
  unfold noI; rw [up2_o h39, up2_o h52, up2_o h51]
theorem no_39 {x c : Int32} {m : Nat} (h : m ≠ 16) : noI I K x c 39 m = I 39 m := by
  unfold noI; rw [up2_k h, up2_o (by decide), up2_o (by decide)]
theorem no_L {f Ir : IT} {x c : Int32} (hL : ∀ k, k < K → Ir 51 k = f 20 k ∧ Ir 52 k = f 21 k) (hK : K < 8) : noI Ir K x c 39 16 = nI (K + 1) ∧ K + 1 ≤ 8 ∧ ∀ k, k < K + 1 → noI Ir K x c 51 k = adI f K x c 20 k ∧ noI Ir K x c 52 k = adI f K x c 21 k := by
  refine ⟨by unfold noI; rw [up2_s], hK, fun k hk => ?_⟩
  have e51 : noI Ir K x c 51 = up2 Ir 51 K x 51 := by unfold noI; rw [up2_o (by decide), up2_o (by decide)]
  have e52 : noI Ir K x c 52 = up2 (up2 Ir 51 K x) 52 K c 52 := by unfold noI; rw [up2_o (by decide)]
  rw [ad_20, ad_21, e51, e52]
  by_cases e : k = K
  · subst e; rw [up2_s, up2_s, up2_s, up2_s]; exact ⟨rfl, rfl⟩
  · obtain ⟨e1, e2⟩ := hL k (by omega)
    rw [up2_k e, up2_k e, up2_k e, up2_k e, up2_o (by decide), up2_o (by decide)]; exact ⟨e1, e2⟩
def AP (mA mB : MI) (dA dB : Nat) (axA axB : List Value) (I : IT) (J : JT) (C : Nat) (nx : Nat → Option Nat) (os oc : Option Nat) (K V : Nat) (bx : BXT) (fa : Int32) : Prop := ∃ (v : Int32) (I1 : IT) (K2 : Nat), CN 62 RF mA dA (.ref 19 :: axA) I J (RX (some (.int v)) I1 J) ∧ (∀ o, o ≠ 19 → o ≠ 20 → o ≠ 21 → I1 o = I o) ∧ CL C nx os oc K2 V bx fa I1 J ∧
  ∀ Ir : IT, RE I J C nx os oc K bx fa Ir J → ∃ I2, CN 62 RF mB dB (.ref 39 :: axB) Ir J (RX (some (.int v)) I2 J) ∧ RE I1 J C nx os oc K2 bx fa I2 J ∧ ∀ o, o ≠ 39 → o ≠ 51 → o ≠ 52 → I2 o = Ir o
theorem ap_id {mA mB : MI} {dA dB : Nat} {axA axB : List Value} {v : Int32} (hC : CL C nx os oc K V bx fa I J) (h1 : CN 62 RF mA dA (.ref 19 :: axA) I J (RX (some (.int v)) I J)) (h2 : ∀ Ir : IT, RE I J C nx os oc K bx fa Ir J → CN 62 RF mB dB (.ref 39 :: axB) Ir J (RX (some (.int v)) Ir J)) : AP mA mB dA dB axA axB I J C nx os oc K V bx fa :=
  ⟨v, I, K, h1, fun _ _ _ _ => rfl, hC, fun Ir hR => ⟨Ir, h2 Ir hR, hR, fun _ _ _ _ => rfl⟩⟩
theorem ap_add {mA mB : MI} {dA dB : Nat} {axA axB : List Value} {v x c : Int32} (hK : K < 8) (hx : sm x) (hC : CL C nx os oc K V bx fa I J) (h1 : CN 62 RF mA dA (.ref 19 :: axA) I J (RX (some (.int v)) (adI I K x c) J)) (h2 : ∀ Ir : IT, RE I J C nx os oc K bx fa Ir J → CN 62 RF mB dB (.ref 39 :: axB) Ir J (RX (some (.int v)) (noI Ir K x c) J)) : AP mA mB dA dB axA axB I J C nx os oc K V bx fa :=
  ⟨v, adI I K x c, K + 1, h1, fun o a b d => ad_o a b d, CL_lem hC (fun o a b d => ad_o a b d) (ad_LM hC.2.1 hK hx), fun Ir hR => ⟨noI Ir K x c, h2 Ir hR, RE_lem hR (fun o a b d => no_o a b d) (fun m hm => no_39 hm) (fun o a b => ad_o (by omega) (by omega) (by omega)) (no_L hR.2.2.1.2.2 hK), fun o a b d => no_o a b d⟩⟩
theorem ap_fit (hC : CL C nx os oc K V bx fa I J) {x : Int32} (hx : sm x) : AP mX2_addIfFitting mX7_lemmaBy 3 5 [.int x] [.int x] I J C nx os oc K V bx fa := by
  cases hf : ftB (rc (Tx J nx)) (Sx J os) (fun s => inA I K s && !Bx J oc s) (mb x) with
  | false => exact ap_id hC (ct_X2_addIfFitting_no (cS hC) (cA hC) (cB hC) (c14 hC) hf) (fun Ir hR => ct_X7_lemmaBy_no hR.1 (rA hR) hf)
  | true =>
    by_cases hK : K = 8
    · subst hK
      exact ap_id hC (ct_X2_addIfFitting_yes (cS hC) (cA hC) (cB hC) (c14 hC) hf (ct_X2_addFull hC.2.1.1 x (-9)) ⟨_, rfl⟩) (fun Ir hR => ct_X7_lemmaBy_full hR.1 (rA hR) hf hR.2.2.1.1)
    · have hK8 : K < 8 := by have := hC.2.1.2.1; omega
      exact ap_add hK8 hx hC (ct_X2_addIfFitting_yes (cS hC) (cA hC) (cB hC) (c14 hC) hf (ct_X2_add hC.2.1.1 hK8 x (-9)) ⟨_, rfl⟩) (fun Ir hR => ct_X7_lemmaBy_yes hR.1 (rA hR) hf hR.2.2.1.1 hK8)
theorem ap_str (hC : CL C nx os oc K V bx fa I J) : AP mX2_addByStrengthening mX7_strengthen 4 6 [] [] I J C nx os oc K V bx fa := by
  by_cases hw : ∃ s, s < 16 ∧ wkP (rc (Tx J nx)) (inA I K) (Bx J oc) s = true
  · obtain ⟨s1, hs1, hw1⟩ := hw
    cases hl : lsN (goP (rc (Tx J nx)) (Sx J os) (fun s => inA I K s && !Bx J oc s) (wkP (rc (Tx J nx)) (inA I K) (Bx J oc))) 16 with
    | none => exact ap_id hC (ct_X2_str_state (cS hC) (cA hC) (cB hC) (c14 hC) hs1 hw1 hl) (fun Ir hR => ct_X7_str_state hR.1 (rA hR) hs1 hw1 hl)
    | some s0 =>
      by_cases hK : K = 8
      · subst hK
        have h := str_go2 (cS hC) (cA hC) (cB hC) (c14 hC) hl (J := J) (r := none) (ct_X2_addFull hC.2.1.1 _ _)
        rw [if_pos rfl] at h
        exact ap_id hC h (fun Ir hR => ct_X7_str_full hR.1 (rA hR) hs1 hw1 hl hR.2.2.1.1)
      · have hK8 : K < 8 := by have := hC.2.1.2.1; omega
        have h := str_go2 (cS hC) (cA hC) (cB hC) (c14 hC) hl (J := J) (r := none) (ct_X2_add hC.2.1.1 hK8 _ _)
        rw [if_neg (show ¬ nI K = -4 from fun e => by have := nI_pos (show K < 2 ^ 31 by omega); rw [e] at this; exact this (by decide))] at h
        exact ap_add hK8 (sm_bs _) hC h (fun Ir hR => ct_X7_str_yes hR.1 (rA hR) hs1 hw1 hl hR.2.2.1.1 hK8 rfl)
  · have hw0 : ∀ s, s < 16 → wkP (rc (Tx J nx)) (inA I K) (Bx J oc) s = false := fun s hs => by
      cases h : wkP (rc (Tx J nx)) (inA I K) (Bx J oc) s with
      | false => rfl
      | true => exact absurd ⟨s, hs, h⟩ hw
    exact ap_id hC (ct_X2_str_none (cA hC) (cB hC) (c14 hC) hw0) (fun Ir hR => ct_X7_str_none hR.1 (rA hR) hw0)
theorem p_strengthen : PR sc V mX6_strengthen mX7_strengthen 5 6 [] := pr_s fun I J C nx os oc K V' bx fa hV hb hC hR hs => by
  obtain ⟨v, I1, K2, a1, a2, a3, a4⟩ := ap_str hC
  have R1 : RE I J C nx os oc K bx fa I1 J := RE_fr hR (fun o a _ => a2 o (by omega) (by omega) (by omega)) rfl
  obtain ⟨I2, c1, c2, c3⟩ := a4 I1 R1
  have hx : CN 62 RF mX6_strengthen 5 [.ref 0] I J (RX (some (.int v)) I1 J) := by
    refine cn_of (by decide) rfl (Nat.le_of_ble_eq_true rfl) ?_
    refine blk s_X6_strengthen_0 (nm ?_)
    refine c_X6_strengthen_4 a1 rfl (by decide) rfl (Nat.le_of_ble_eq_true rfl) (by decide) rfl (rx ?_)
    exact r_X6_strengthen_7 rxq
  exact st_fin hx c1 (Nat.le_succ_of_le hV) hb a3 c2 (fun o ho => c3 o (by omega) (by omega) (by omega)) (fun o ho => by rw [a2 o (by omega) (by omega) (by omega), hs o ho])
theorem ct_X6_lemma (hC : I 1 9 = nI C) (h40 : C ≤ 40) {t v : Int32} {I' : IT} (h0 : hsB C t = false → v = -1 ∧ I' = I) (h1 : hsB C t = true → ¬ I 7 t.toNatClampNeg = 0 → v = -2 ∧ I' = I) (h2 : hsB C t = true → I 7 t.toNatClampNeg = 0 → CN 62 RF mX2_addIfFitting 3 [.ref 19, .int (tsX J t.toNatClampNeg 0)] I J (RX (some (.int v)) I' J)) : CN 62 RF mX6_lemma 4 [.ref 0, .int t] I J (RX (some (.int v)) I' J) := by
  refine cn_of (by decide) rfl (Nat.le_of_ble_eq_true rfl) ?_
  refine blk s_X6_lemma_0 (nm ?_)
  refine c_X6_lemma_5 (ct_X4_hasC hC t) rfl (by decide) rfl (Nat.le_of_ble_eq_true rfl) (by decide) rfl (rx ?_)
  cases ht : hsB C t with
  | false =>
    obtain ⟨e1, e2⟩ := h0 ht
    refine b_X6_lemma_8 (fun h => absurd rfl h) (fun h => ?_)
    refine blk s_X6_lemma_11 (nm ?_)
    exact r_X6_lemma_12 (rxe (by rw [e1]) e2.symm rfl)
  | true =>
    obtain ⟨k, hk, rfl⟩ := hs_ex (by omega) ht
    refine b_X6_lemma_8 (fun h => ?_) (fun h => absurd h (by decide))
    refine blk s_X6_lemma_13 (And.intro (ib (show k < 40 by omega)) (nm ?_))
    refine b_X6_lemma_22 (fun h => ?_) (fun h => ?_)
    · have h3 := h2 ht h
      rw [cl k] at h3
      refine blk s_X6_lemma_28 (nm ?_)
      refine c_X6_lemma_38 (ct_X4_trueStates (r := 0) (show k < 40 by omega) (by decide)) rfl (by decide) rfl (Nat.le_of_ble_eq_true rfl) (by decide) rfl (rx ?_)
      refine c_X6_lemma_41 h3 rfl (by decide) rfl (Nat.le_of_ble_eq_true rfl) (by decide) rfl (rx ?_)
      exact r_X6_lemma_44 rxq
    · obtain ⟨e1, e2⟩ := h1 ht h
      refine blk s_X6_lemma_25 (nm ?_)
      exact r_X6_lemma_27 (rxe (by rw [e1]) e2.symm rfl)
theorem ct_X7_lemma {f : IT} (hB : RB I g C nx os oc) (hR : RTm I J f g C) {t v : Int32} {I' : IT} (h0 : ¬ agV f C t = 0 → v = agV f C t ∧ I' = I) (h1 : agV f C t = 0 → CN 62 RF mX7_lemmaBy 5 [.ref 39, .int (tsX g t.toNatClampNeg 0)] I J (RX (some (.int v)) I' J)) : CN 62 RF mX7_lemma 6 [.ref 39, .int t] I J (RX (some (.int v)) I' J) := by
  have h40 := hB.1.2.1
  refine cn_of (by decide) rfl (Nat.le_of_ble_eq_true rfl) ?_
  refine blk s_X7_lemma_0 (nm ?_)
  refine c_X7_lemma_2 (ct_X7_against hB.1.1 h40 hR t) rfl (by decide) rfl (Nat.le_of_ble_eq_true rfl) (by decide) rfl (rx ?_)
  refine blk s_X7_lemma_5 (nm ?_)
  refine b_X7_lemma_7 (fun h => ?_) (fun h => ?_)
  · have ht : hsB C t = true := by
      cases ht : hsB C t with
      | true => rfl
      | false => unfold agV at h; rw [ht] at h; exact absurd h (show ¬ (-1 : Int32) = 0 by decide)
    have h3 := h1 h
    obtain ⟨k, hk, rfl⟩ := hs_ex (by omega) ht
    rw [cl k] at h3
    refine blk s_X7_lemma_14 (nm ?_)
    refine c_X7_lemma_18 (ct_X7_holdsOf (r := 0) hB hk (by decide)) rfl (by decide) rfl (Nat.le_of_ble_eq_true rfl) (by decide) rfl (rx ?_)
    refine c_X7_lemma_21 h3 rfl (by decide) rfl (Nat.le_of_ble_eq_true rfl) (by decide) rfl (rx ?_)
    exact r_X7_lemma_24 rxq
  · obtain ⟨e1, e2⟩ := h0 h
    refine blk s_X7_lemma_10 (nm ?_)
    exact r_X7_lemma_24 (rxe (by rw [e1]) e2.symm rfl)
theorem p_lemma (t : Int32) : PR sc V mX6_lemma mX7_lemma 4 6 [.int t] := pr_s fun I J C nx os oc K V' bx fa hV hb hC hR hs => by
  have h40 := c40 hC
  cases ht : hsB C t with
  | false =>
    have e : agV I C t = -1 := by unfold agV; rw [ht]
    exact st_id (v := -1) hV hb hC hR hs (ct_X6_lemma (cC hC) h40 (fun _ => ⟨rfl, rfl⟩) (fun h => tf h ht) (fun h => tf h ht)) (ct_X7_lemma hR.1 hR.2.1 (fun _ => ⟨e.symm, rfl⟩) (fun h => absurd (e.symm.trans h) (by decide)))
  | true =>
    by_cases h7 : I 7 t.toNatClampNeg = 0
    · have e : agV I C t = 0 := by unfold agV; rw [ht]; exact if_pos h7
      obtain ⟨v, I1, K2, a1, a2, a3, a4⟩ := ap_fit hC (x := tsX J t.toNatClampNeg 0) (sm_bs _)
      have R1 : RE I J C nx os oc K bx fa I1 J := RE_fr hR (fun o a _ => a2 o (by omega) (by omega) (by omega)) rfl
      obtain ⟨I2, c1, c2, c3⟩ := a4 I1 R1
      exact st_fin (ct_X6_lemma (cC hC) h40 (fun h => tf ht h) (fun _ h => absurd h7 h) (fun _ _ => a1)) (ct_X7_lemma R1.1 R1.2.1 (fun h => absurd e h) (fun _ => c1)) (Nat.le_succ_of_le hV) hb a3 c2 (fun o ho => c3 o (by omega) (by omega) (by omega)) (fun o ho => by rw [a2 o (by omega) (by omega) (by omega), hs o ho])
    · have e : agV I C t = -2 := by unfold agV; rw [ht]; exact if_neg h7
      exact st_id (v := -2) hV hb hC hR hs (ct_X6_lemma (cC hC) h40 (fun h => tf ht h) (fun _ _ => ⟨rfl, rfl⟩) (fun _ h => absurd h h7)) (ct_X7_lemma hR.1 hR.2.1 (fun _ => ⟨e.symm, rfl⟩) (fun h => absurd (e.symm.trans h) (by decide)))
theorem p_back : PR sc V mX6_back mX7_back 1 0 [] := pr_s fun I J C nx os oc K V' bx fa hV hb hC hR hs => by
  obtain ⟨l1, l2, l3, l4⟩ := hC.2.1
  cases K with
  | zero => exact st_id hV hb hC hR hs (ct_X6_back_no l1) (ct_X7_back_no hR.2.2.1.1)
  | succ K =>
    have hf : ∀ o, o ≠ 19 → up2 (up2 I 19 3 (nI K)) 19 4 (bs (inA I K)) o = I o := fun o h => by rw [up2_o h, up2_o h]
    have hL : LM (up2 (up2 I 19 3 (nI K)) 19 4 (bs (inA I K))) K := by
      refine ⟨by rw [up2_k (by decide), up2_s], by omega, ?_, fun k hk => ?_⟩
      · rw [up2_s]
        have e : ∀ G : IT, G 20 = I 20 → inA G K = inA I K := fun G hG => by unfold inA; rw [hG]
        rw [e _ (hf 20 (by decide))]
      · rw [hf 20 (by decide)]; exact l4 k (by omega)
    generalize hI1 : up2 (up2 I 19 3 (nI K)) 19 4 (bs (inA I K)) = I1 at hf hL
    have R1 : RE I J C nx os oc (K + 1) bx fa I1 J := RE_fr hR (fun o a _ => hf o (by omega)) rfl
    refine st_fin (I1 := I1) (I2 := up2 I1 39 16 (nI K)) (by rw [← hI1]; exact ct_X6_back_yes l1 (by omega)) (ct_X7_back_yes R1.2.2.1.1 (by omega)) (Nat.le_succ_of_le hV) hb (CL_lem hC (fun o a _ _ => hf o a) hL) (RE_lem R1 (fun o a _ _ => up2_o a) (fun m hm => up2_k hm) (fun o a b => hf o (by omega)) ⟨by rw [up2_s], by omega, fun k hk => ?_⟩) (fun o ho => up2_o (by omega)) (fun o ho => by rw [hf o (by omega), hs o ho])
    rw [up2_o (by decide), up2_o (by decide), hf 20 (by decide), hf 21 (by decide)]
    exact R1.2.2.1.2.2 k (by omega)
end PAIR8
