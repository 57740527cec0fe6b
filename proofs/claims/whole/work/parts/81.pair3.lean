/-! PAIRS: met, many, ofLemma, alike -/
section PAIR3
variable {sc : Nat → Nat → Int32} {V : Nat} {I : IT} {J : JT} {g : JT} {C : Nat} {nx : Nat → Option Nat} {os oc : Option Nat} {A : Nat → Bool}
theorem cnN_cq {p q : Nat → Bool} : ∀ {n : Nat}, (∀ k, k < n → p k = q k) → cnN p n = cnN q n
  | 0, _ => rfl
  | n + 1, h => by
    show cnN p n + (if p n = true then 1 else 0) = cnN q n + (if q n = true then 1 else 0)
    rw [cnN_cq (n := n) (fun k hk => h k (by omega)), h n (by omega)]
theorem cnN_bs (p : Nat → Bool) : cnN (mb (bs p)) 16 = cnN p 16 := cnN_cq fun k hk => mb_bs1 _ hk
def mtV (T : Nat → Nat → Nat) (S B : Nat → Bool) (w : Int32) : Int32 := if w = 0 then nI (cnN (fun s => (dsO (rc T) S 16 s).isSome) 16) else if w = 1 then gdF (fun s => o2i (dsO (rc T) S 16 s)) 16 else if w = 2 then bs (fun s => (dsO (rc T) S 16 s).isSome) else if w = 3 then o2i (lwX (rc T) S B) else if w = 4 then bs S else if w = 5 then bs B else -2
theorem ct_X6_met {T : Nat → Nat → Nat} {S B : Nat → Bool} (hS : I 11 4 = bs S) (hB : I 11 5 = bs B) (hD : ∀ s, s < 16 → I 15 s = o2i (dsO (rc T) S 16 s)) (hm : I 11 10 = bs (fun s => (dsO (rc T) S 16 s).isSome)) (hw : I 11 11 = o2i (lwX (rc T) S B)) (w : Int32) : CN 62 RF mX6_met 2 [.ref 0, .int w] I J (RX (some (.int (mtV T S B w))) I J) := by
  refine cn_of (by decide) rfl (Nat.le_of_ble_eq_true rfl) ?_
  refine blk s_X6_met_0 (nm ?_)
  refine w_X6_met_1 (fun h => ?_) (fun h => ?_) (fun h => ?_) (fun h => ?_) (fun h => ?_) (fun h => ?_) (fun h0 h1 h2 h3 h4 h5 => ?_)
  · subst h
    refine blk s_X6_met_40 (nm ?_)
    rw [hm]
    refine c_X6_met_47 (ct_J6_bitCountS _) rfl (by decide) rfl (Nat.le_of_ble_eq_true rfl) (rx ?_)
    exact r_X6_met_50 rxq
  · subst h
    refine blk s_X6_met_51 (nm ?_)
    refine c_X6_met_55 ct_X3_greatestDistance rfl (by decide) rfl (Nat.le_of_ble_eq_true rfl) (by decide) rfl (rx ?_)
    rw [gdF_cg hD]
    refine r_X6_met_58 (rxe ?_ rfl rfl)
    unfold mtV; rw [if_neg (by decide), if_pos rfl]
  · subst h
    refine blk s_X6_met_59 (nm ?_)
    rw [hm]
    exact r_X6_met_66 rxq
  · subst h
    refine blk s_X6_met_67 (nm ?_)
    rw [hw]
    exact r_X6_met_74 rxq
  · subst h
    refine blk s_X6_met_75 (nm ?_)
    rw [hS]
    exact r_X6_met_82 rxq
  · subst h
    refine blk s_X6_met_83 (nm ?_)
    rw [hB]
    exact r_X6_met_90 rxq
  · refine blk s_X6_met_91 (nm ?_)
    refine r_X6_met_93 (rxe ?_ rfl rfl)
    unfold mtV
    rw [if_neg h0, if_neg h1, if_neg h2, if_neg h3, if_neg h4, if_neg h5]
theorem ct_X7_met (hB : RB I g C nx os oc) (w : Int32) : CN 62 RF mX7_met 4 [.ref 39, .int w] I J (RX (some (.int (mtV (Tx g nx) (Sx g os) (Bx g oc) w))) (faI I (dsO (rc (Tx g nx)) (Sx g os) 16)) J) := by
  refine cn_of (by decide) rfl (Nat.le_of_ble_eq_true rfl) ?_
  refine blk s_X7_met_0 (nm ?_)
  refine c_X7_met_1 (ct_X7_findFar hB) rfl (by decide) rfl (Nat.le_of_ble_eq_true rfl) (by decide) rfl (rx ?_)
  have hB' : RB (faI I (dsO (rc (Tx g nx)) (Sx g os) 16)) g C nx os oc := RB_cg hB ⟨by rw [faI_o (by decide)], by rw [faI_o (by decide)], by rw [faI_o (by decide)]⟩ (faI_o (by decide)) (faI_o (by decide))
  have hD : ∀ s, s < 16 → faI I (dsO (rc (Tx g nx)) (Sx g os) 16) 48 s = o2i (dsO (rc (Tx g nx)) (Sx g os) 16 s) := fun s hs => faI_48 hs
  generalize faI I (dsO (rc (Tx g nx)) (Sx g os) 16) = I1 at hB' hD ⊢
  have hl : ∀ s d, dsO (rc (Tx g nx)) (Sx g os) 16 s = some d → d < 16 := fun s d h => dsO_lt h
  have hl2 : ∀ s d, dsO (rc (Tx g nx)) (Sx g os) 16 s = some d → d < 2 ^ 31 := fun s d h => Nat.lt_trans (dsO_lt h) (by decide)
  refine blk s_X7_met_4 (nm ?_)
  refine w_X7_met_5 (fun h => ?_) (fun h => ?_) (fun h => ?_) (fun h => ?_) (fun h => ?_) (fun h => ?_) (fun h0 h1 h2 h3 h4 h5 => ?_)
  · subst h
    refine blk s_X7_met_44 (nm ?_)
    refine c_X7_met_45 (ct_X7_metSet hD hl2) rfl (by decide) rfl (Nat.le_of_ble_eq_true rfl) (by decide) rfl (rx ?_)
    refine c_X7_met_48 (ct_X7_sizeOf _) rfl (by decide) rfl (Nat.le_of_ble_eq_true rfl) (rx ?_)
    rw [cnN_bs]
    exact r_X7_met_51 rxq
  · subst h
    refine blk s_X7_met_52 (nm ?_)
    refine c_X7_met_53 ct_X7_greatestFar rfl (by decide) rfl (Nat.le_of_ble_eq_true rfl) (by decide) rfl (rx ?_)
    rw [gdF_cg hD]
    refine r_X7_met_56 (rxe ?_ rfl rfl)
    unfold mtV; rw [if_neg (by decide), if_pos rfl]
  · subst h
    refine blk s_X7_met_57 (nm ?_)
    refine c_X7_met_58 (ct_X7_metSet hD hl2) rfl (by decide) rfl (Nat.le_of_ble_eq_true rfl) (by decide) rfl (rx ?_)
    exact r_X7_met_61 rxq
  · subst h
    refine blk s_X7_met_62 (nm ?_)
    refine c_X7_met_63 (ct_X7_wayLong hB' hD hl) rfl (by decide) rfl (Nat.le_of_ble_eq_true rfl) (by decide) rfl (rx ?_)
    exact r_X7_met_66 rxq
  · subst h
    refine blk s_X7_met_67 (nm ?_)
    refine c_X7_met_68 (ct_X7_startSet hB') rfl (by decide) rfl (Nat.le_of_ble_eq_true rfl) (by decide) rfl (rx ?_)
    exact r_X7_met_71 rxq
  · subst h
    refine blk s_X7_met_72 (nm ?_)
    refine c_X7_met_73 (ct_X7_brokenSet hB') rfl (by decide) rfl (Nat.le_of_ble_eq_true rfl) (by decide) rfl (rx ?_)
    exact r_X7_met_76 rxq
  · refine blk s_X7_met_77 (nm ?_)
    refine r_X7_met_79 (rxe ?_ rfl rfl)
    unfold mtV
    rw [if_neg h0, if_neg h1, if_neg h2, if_neg h3, if_neg h4, if_neg h5]
theorem p_met (w : Int32) : PR sc V mX6_met mX7_met 2 4 [.int w] := pr_q fun I J C nx os oc K V' bx fa hV hb hC hR =>
  ⟨_, qx_id (cKp hC) (ct_X6_met (cS hC) (cB hC) (c15 hC) ((cm hC).trans (bsN_cg fun s _ => met_iff 16 s)) (cW hC).1 w), fun I1 h1 => qm_fa (ct_X7_met h1.1 w)⟩
def mnV (C K : Nat) (S A B : Nat → Bool) (bx : BXT) (w : Int32) : Int32 := if w = 0 then nI C else if w = 1 then nI K else if w = 2 then nI (cnN S 16) else if w = 3 then nI (cnN B 16) else if w = 4 then nI (cnN (fun s => A s && !B s) 16) else if w = 5 then nI (cnN (fun b => (bx b).isSome) 4) else -2
theorem hr_bx {bx : BXT} (hb : BOK C bx) (h : CBX bx I) {b : Nat} (hb4 : b < 4) : hrB (I (bO b) 2) = (bx b).isSome := by
  obtain ⟨h1, h2⟩ := h b hb4
  cases e : bx b with
  | none => rw [h1 e]; rfl
  | some q =>
    obtain ⟨so, l, p⟩ := q
    rw [(h2 so l p e).2.1]
    have hl := (hb b so l p hb4 e).2.1
    unfold hrB
    rw [decide_eq_false (nI_pos (show l < 2 ^ 31 by omega))]; rfl
theorem n9_bx {bx : BXT} (hb : BOK C bx) (h : RBX bx I) {b : Nat} (hb4 : b < 4) : (!decide (I 58 b = -9)) = (bx b).isSome := by
  obtain ⟨h1, h2⟩ := h b hb4
  cases e : bx b with
  | none => rw [h1 e]; rfl
  | some q =>
    obtain ⟨so, l, p⟩ := q
    rw [(h2 so l p e).1]
    have hl := (hb b so l p hb4 e).1
    rw [decide_eq_false (o2i_ne (show so < 2 ^ 31 by omega))]; rfl
theorem ct_X6_many {K : Nat} {S B : Nat → Bool} {bx : BXT} (hC : I 1 9 = nI C) (hK : I 19 3 = nI K) (hS : I 11 4 = bs S) (hA : I 19 4 = bs A) (hB : I 11 5 = bs B) (hb : BOK C bx) (hx : CBX bx I) (w : Int32) : CN 62 RF mX6_many 2 [.ref 0, .int w] I J (RX (some (.int (mnV C K S A B bx w))) I J) := by
  refine cn_of (by decide) rfl (Nat.le_of_ble_eq_true rfl) ?_
  refine blk s_X6_many_0 (nm ?_)
  refine w_X6_many_1 (fun h => ?_) (fun h => ?_) (fun h => ?_) (fun h => ?_) (fun h => ?_) (fun h => ?_) (fun h0 h1 h2 h3 h4 h5 => ?_)
  · subst h
    refine blk s_X6_many_40 (nm ?_)
    rw [hC]
    exact r_X6_many_47 rxq
  · subst h
    refine blk s_X6_many_48 (nm ?_)
    rw [hK]
    exact r_X6_many_55 rxq
  · subst h
    refine blk s_X6_many_56 (nm ?_)
    rw [hS]
    refine c_X6_many_63 (ct_J6_bitCountS _) rfl (by decide) rfl (Nat.le_of_ble_eq_true rfl) (rx ?_)
    exact r_X6_many_66 rxq
  · subst h
    refine blk s_X6_many_67 (nm ?_)
    rw [hB]
    refine c_X6_many_74 (ct_J6_bitCountS _) rfl (by decide) rfl (Nat.le_of_ble_eq_true rfl) (rx ?_)
    exact r_X6_many_77 rxq
  · subst h
    refine blk s_X6_many_78 (nm ?_)
    refine c_X6_many_82 (ct_X2_goodStates hA hB) rfl (by decide) rfl (Nat.le_of_ble_eq_true rfl) (by decide) rfl (rx ?_)
    refine c_X6_many_85 (ct_J6_bitCountS _) rfl (by decide) rfl (Nat.le_of_ble_eq_true rfl) (rx ?_)
    exact r_X6_many_88 rxq
  · subst h
    refine blk s_X6_many_89 (nm ?_)
    refine c_X6_many_90 ct_X6_countFilledBoxes rfl (by decide) rfl (Nat.le_of_ble_eq_true rfl) (by decide) rfl (rx ?_)
    rw [cnN_cq fun b hb4 => hr_bx hb hx hb4]
    exact r_X6_many_93 rxq
  · refine blk s_X6_many_94 (nm ?_)
    refine r_X6_many_96 (rxe ?_ rfl rfl)
    unfold mnV
    rw [if_neg h0, if_neg h1, if_neg h2, if_neg h3, if_neg h4, if_neg h5]
theorem ct_X7_many {K : Nat} {bx : BXT} (hB : RB I g C nx os oc) (hA : RA I A) (hK : I 39 16 = nI K) (hb : BOK C bx) (hx : RBX bx I) (w : Int32) : CN 62 RF mX7_many 4 [.ref 39, .int w] I J (RX (some (.int (mnV C K (Sx g os) A (Bx g oc) bx w))) I J) := by
  refine cn_of (by decide) rfl (Nat.le_of_ble_eq_true rfl) ?_
  refine blk s_X7_many_0 (nm ?_)
  refine w_X7_many_1 (fun h => ?_) (fun h => ?_) (fun h => ?_) (fun h => ?_) (fun h => ?_) (fun h => ?_) (fun h0 h1 h2 h3 h4 h5 => ?_)
  · subst h
    refine blk s_X7_many_40 (nm ?_)
    rw [hB.1.1]
    exact r_X7_many_44 rxq
  · subst h
    refine blk s_X7_many_45 (nm ?_)
    rw [hK]
    exact r_X7_many_49 rxq
  · subst h
    refine blk s_X7_many_50 (nm ?_)
    refine c_X7_many_51 (ct_X7_startSet hB) rfl (by decide) rfl (Nat.le_of_ble_eq_true rfl) (by decide) rfl (rx ?_)
    refine c_X7_many_54 (ct_X7_sizeOf _) rfl (by decide) rfl (Nat.le_of_ble_eq_true rfl) (rx ?_)
    rw [cnN_bs]
    exact r_X7_many_57 rxq
  · subst h
    refine blk s_X7_many_58 (nm ?_)
    refine c_X7_many_59 (ct_X7_brokenSet hB) rfl (by decide) rfl (Nat.le_of_ble_eq_true rfl) (by decide) rfl (rx ?_)
    refine c_X7_many_62 (ct_X7_sizeOf _) rfl (by decide) rfl (Nat.le_of_ble_eq_true rfl) (rx ?_)
    rw [cnN_bs]
    exact r_X7_many_65 rxq
  · subst h
    refine blk s_X7_many_66 (nm ?_)
    refine c_X7_many_67 (ct_X7_goodSet hB hA) rfl (by decide) rfl (Nat.le_of_ble_eq_true rfl) (by decide) rfl (rx ?_)
    refine c_X7_many_70 (ct_X7_sizeOf _) rfl (by decide) rfl (Nat.le_of_ble_eq_true rfl) (rx ?_)
    rw [cnN_bs]
    exact r_X7_many_73 rxq
  · subst h
    refine blk s_X7_many_74 (nm ?_)
    refine c_X7_many_75 ct_X7_manyBoxes rfl (by decide) rfl (Nat.le_of_ble_eq_true rfl) (by decide) rfl (rx ?_)
    rw [cnN_cq fun b hb4 => n9_bx hb hx hb4]
    exact r_X7_many_78 rxq
  · refine blk s_X7_many_79 (nm ?_)
    refine r_X7_many_81 (rxe ?_ rfl rfl)
    unfold mnV
    rw [if_neg h0, if_neg h1, if_neg h2, if_neg h3, if_neg h4, if_neg h5]
theorem p_many (w : Int32) : PR sc V mX6_many mX7_many 2 4 [.int w] := pr_q fun I J C nx os oc K V' bx fa hV hb hC hR =>
  ⟨_, qx_id (cKp hC) (ct_X6_many (cC hC) hC.2.1.1 (cS hC) (cA hC) (cB hC) hb hC.2.2.2.1 w), fun I1 h1 => qm_id (ct_X7_many h1.1 (rA h1) h1.2.2.1.1 hb h1.2.2.2.1 w)⟩
def olV (f : IT) (K : Nat) (k w : Int32) : Int32 := match hsB K k with
  | false => -1
  | true => if w = 0 then f 20 k.toNatClampNeg else if w = 1 then nI (cnN (mb (f 20 k.toNatClampNeg)) 16) else if w = 2 then f 21 k.toNatClampNeg else -2
theorem ct_X6_ofLemma {K : Nat} (hL : LM I K) (k w : Int32) : CN 62 RF mX6_ofLemma 1 [.ref 0, .int k, .int w] I J (RX (some (.int (olV I K k w))) I J) := by
  obtain ⟨l1, l2, -, l4⟩ := hL
  have out : hsB K k = false → EN 62 RF mX6_ofLemma 1 15 [(0, .ref 0), (1, .int k), (2, .int w)] [] I J (RX (some (.int (olV I K k w))) I J) := by
    intro he
    refine blk s_X6_ofLemma_15 (nm ?_)
    unfold olV; rw [he]
    exact r_X6_ofLemma_16 rxq
  refine cn_of (by decide) rfl (Nat.le_of_ble_eq_true rfl) ?_
  refine blk s_X6_ofLemma_0 (nm ?_)
  refine b_X6_ofLemma_1 (fun h => ?_) (fun h => ?_)
  · refine out ?_
    unfold hsB; rw [decide_eq_true h]; rfl
  · refine blk s_X6_ofLemma_4 (nm ?_)
    rw [l1]
    refine b_X6_ofLemma_12 (fun h2 => ?_) (fun h2 => ?_)
    · have he : hsB K k = true := by unfold hsB; rw [decide_eq_false h, decide_eq_false (Int32.not_le.mpr h2)]; rfl
      obtain ⟨q, hq, rfl⟩ := hs_ex (by omega) he
      have hq8 : q < 8 := by omega
      unfold olV; rw [he]
      refine blk s_X6_ofLemma_17 (nm ?_)
      refine w_X6_ofLemma_18 (fun h => ?_) (fun h => ?_) (fun h => ?_) (fun h0 h1 h2 => ?_)
      · subst h
        refine blk s_X6_ofLemma_44 (And.intro (ib hq8) (nm ?_))
        exact r_X6_ofLemma_53 rxq
      · subst h
        refine blk s_X6_ofLemma_54 (And.intro (ib hq8) (nm ?_))
        rw [cl q, sm_eq (l4 q hq)]
        refine c_X6_ofLemma_63 (ct_J6_bitCountS _) rfl (by decide) rfl (Nat.le_of_ble_eq_true rfl) (rx ?_)
        refine r_X6_ofLemma_66 (rxe ?_ rfl rfl)
        show _ = some (Value.int (nI (cnN (mb (bs (mb (I 20 q)))) 16)))
        rw [cnN_bs]
      · subst h
        refine blk s_X6_ofLemma_67 (And.intro (ib hq8) (nm ?_))
        exact r_X6_ofLemma_76 rxq
      · refine blk s_X6_ofLemma_77 (nm ?_)
        refine r_X6_ofLemma_79 (rxe ?_ rfl rfl)
        show _ = some (Value.int (if w = 0 then _ else _))
        rw [if_neg h0, if_neg h1, if_neg h2]
    · refine out ?_
      unfold hsB; rw [decide_eq_false h, decide_eq_true (Int32.not_lt.mp h2)]; rfl
theorem ct_X7_ofLemma {f : IT} {K : Nat} (hK : I 39 16 = nI K) (hK8 : K ≤ 8) (hL : ∀ k, k < K → I 51 k = f 20 k ∧ I 52 k = f 21 k) (k w : Int32) : CN 62 RF mX7_ofLemma 2 [.ref 39, .int k, .int w] I J (RX (some (.int (olV f K k w))) I J) := by
  refine cn_of (by decide) rfl (Nat.le_of_ble_eq_true rfl) ?_
  refine blk s_X7_ofLemma_0 (nm ?_)
  refine c_X7_ofLemma_8 (ct_X7_within _ _ _) rfl (by decide) rfl (Nat.le_of_ble_eq_true rfl) (rx ?_)
  rw [hK, wi_has (by omega)]
  show EN 62 RF mX7_ofLemma 2 11 _ [.int (b2i (hsB K k))] I J _
  unfold olV
  cases he : hsB K k with
  | false =>
    refine b_X7_ofLemma_11 (fun h => absurd rfl h) (fun h => ?_)
    refine blk s_X7_ofLemma_14 (nm ?_)
    exact r_X7_ofLemma_15 rxq
  | true =>
    obtain ⟨q, hq, rfl⟩ := hs_ex (by omega) he
    have hq8 : q < 8 := by omega
    obtain ⟨e1, e2⟩ := hL q hq
    refine b_X7_ofLemma_11 (fun h => ?_) (fun h => absurd h (by decide))
    refine blk s_X7_ofLemma_16 (nm ?_)
    refine w_X7_ofLemma_17 (fun h => ?_) (fun h => ?_) (fun h => ?_) (fun h0 h1 h2 => ?_)
    · subst h
      refine blk s_X7_ofLemma_44 (And.intro (ib hq8) (nm ?_))
      rw [cl q, e1]
      exact r_X7_ofLemma_50 rxq
    · subst h
      refine blk s_X7_ofLemma_51 (And.intro (ib hq8) (nm ?_))
      rw [cl q, e1]
      refine c_X7_ofLemma_57 (ct_X7_sizeOf _) rfl (by decide) rfl (Nat.le_of_ble_eq_true rfl) (rx ?_)
      exact r_X7_ofLemma_60 rxq
    · subst h
      refine blk s_X7_ofLemma_61 (And.intro (ib hq8) (nm ?_))
      rw [cl q, e2]
      exact r_X7_ofLemma_67 rxq
    · refine blk s_X7_ofLemma_68 (nm ?_)
      refine r_X7_ofLemma_70 (rxe ?_ rfl rfl)
      show _ = some (Value.int (if w = 0 then _ else _))
      rw [if_neg h0, if_neg h1, if_neg h2]
theorem p_ofLemma (k w : Int32) : PR sc V mX6_ofLemma mX7_ofLemma 1 2 [.int k, .int w] := pr_q fun I J C nx os oc K V' bx fa hV hb hC hR =>
  ⟨_, qx_id (cKp hC) (ct_X6_ofLemma hC.2.1 k w), fun I1 h1 => qm_id (ct_X7_ofLemma h1.2.2.1.1 h1.2.2.1.2.1 h1.2.2.1.2.2 k w)⟩
def akV (g : JT) (C : Nat) (a b : Int32) : Int32 := match hsB C a, hsB C b with
  | true, true => b2i (decide (g 10 a.toNatClampNeg = g 10 b.toNatClampNeg))
  | _, _ => -1
theorem ct_X6_alike (hC : I 1 9 = nI C) (h40 : C ≤ 40) (a b : Int32) : CN 62 RF mX6_alike 1 [.ref 0, .int a, .int b] I J (RX (some (.int (akV J C a b))) I J) := by
  unfold akV
  refine cn_of (by decide) rfl (Nat.le_of_ble_eq_true rfl) ?_
  refine blk s_X6_alike_0 (nm ?_)
  refine c_X6_alike_5 (ct_X4_hasC hC a) rfl (by decide) rfl (Nat.le_of_ble_eq_true rfl) (by decide) rfl (rx ?_)
  cases ha : hsB C a with
  | false =>
    refine b_X6_alike_8 (fun h => ?_) (fun h => absurd rfl h)
    refine blk s_X6_alike_22 (nm ?_)
    exact r_X6_alike_23 rxq
  | true =>
    obtain ⟨x, hx, rfl⟩ := hs_ex (by omega) ha
    refine b_X6_alike_8 (fun h => absurd h (by decide)) (fun h => ?_)
    refine blk s_X6_alike_11 (nm ?_)
    refine c_X6_alike_16 (ct_X4_hasC hC b) rfl (by decide) rfl (Nat.le_of_ble_eq_true rfl) (by decide) rfl (rx ?_)
    cases hb : hsB C b with
    | false =>
      refine b_X6_alike_19 (fun h => absurd rfl h) (fun h => ?_)
      refine blk s_X6_alike_22 (nm ?_)
      exact r_X6_alike_23 rxq
    | true =>
      obtain ⟨y, hy, rfl⟩ := hs_ex (by omega) hb
      refine b_X6_alike_19 (fun h => ?_) (fun h => absurd h (by decide))
      refine blk s_X6_alike_24 (And.intro (ib (show x < 40 by omega)) (And.intro (ib (show y < 40 by omega)) (nm ?_)))
      rw [cl x, cl y]
      refine b_X6_alike_43 (fun h => ?_) (fun h => ?_)
      · rw [decide_eq_false (fun e => h ((lg_cmp_eq _ _).mpr e))]
        refine blk s_X6_alike_50 (nm ?_)
        refine c_X6_alike_51 (ct_X6_bit false) rfl (by decide) rfl (Nat.le_of_ble_eq_true rfl) (rx ?_)
        exact r_X6_alike_54 rxq
      · rw [decide_eq_true ((lg_cmp_eq _ _).mp h)]
        refine blk s_X6_alike_46 (nm ?_)
        refine c_X6_alike_51 (ct_X6_bit true) rfl (by decide) rfl (Nat.le_of_ble_eq_true rfl) (rx ?_)
        exact r_X6_alike_54 rxq
theorem l_ext {x y : Int64} (h : ∀ s r, s < 16 → r < 4 → x.toBitVec.getLsbD (16 * r + s) = y.toBitVec.getLsbD (16 * r + s)) : x = y := by
  have : x.toBitVec = y.toBitVec := BitVec.eq_of_getLsbD_eq fun i hi => by
    have := h (i % 16) (i / 16) (Nat.mod_lt _ (by decide)) (by omega)
    rw [show 16 * (i / 16) + i % 16 = i by omega] at this
    exact this
  exact Int64.toBitVec_inj.mp this
theorem ct_X7_alike (hB : RB I g C nx os oc) (a b : Int32) : CN 62 RF mX7_alike 2 [.ref 39, .int a, .int b] I J (RX (some (.int (akV g C a b))) I J) := by
  have h40 := hB.1.2.1
  unfold akV
  refine cn_of (by decide) rfl (Nat.le_of_ble_eq_true rfl) ?_
  refine blk s_X7_alike_0 (nm ?_)
  refine c_X7_alike_2 (ct_X7_isTermC hB.1.1 h40 a) rfl (by decide) rfl (Nat.le_of_ble_eq_true rfl) (by decide) rfl (rx ?_)
  cases ha : hsB C a with
  | false =>
    refine b_X7_alike_5 (fun h => ?_) (fun h => absurd rfl h)
    refine blk s_X7_alike_16 (nm ?_)
    exact r_X7_alike_17 rxq
  | true =>
    obtain ⟨x, hx, rfl⟩ := hs_ex (by omega) ha
    refine b_X7_alike_5 (fun h => absurd h (by decide)) (fun h => ?_)
    refine blk s_X7_alike_8 (nm ?_)
    refine c_X7_alike_10 (ct_X7_isTermC hB.1.1 h40 b) rfl (by decide) rfl (Nat.le_of_ble_eq_true rfl) (by decide) rfl (rx ?_)
    cases hb : hsB C b with
    | false =>
      refine b_X7_alike_13 (fun h => absurd rfl h) (fun h => ?_)
      refine blk s_X7_alike_16 (nm ?_)
      exact r_X7_alike_17 rxq
    | true =>
      obtain ⟨y, hy, rfl⟩ := hs_ex (by omega) hb
      refine b_X7_alike_13 (fun h => ?_) (fun h => absurd h (by decide))
      show EN 62 RF mX7_alike 2 18 _ [] I J (RX (some (.int (b2i (decide (g 10 (nI x).toNatClampNeg = g 10 (nI y).toNatClampNeg))))) I J)
      rw [cl x, cl y]
      generalize hQ : RX (some (.int (b2i (decide (g 10 x = g 10 y))))) I J = Q
      have hQ' : Q (some (.int (b2i (decide (g 10 x = g 10 y))))) I J := by rw [← hQ]; exact rxq
      clear hQ
      have pt : ∀ t p, t < C → p < 64 → I 46 (64 * t + p) = b2i (vl g t (p / 4) (p % 4)) := fun t p ht hp => by
        have := hB.1.2.2 t (p / 4) (p % 4) ht (by omega) (Nat.mod_lt _ (by decide))
        rw [show 64 * t + 4 * (p / 4) + p % 4 = 64 * t + p by omega] at this
        exact this
      have ix : ∀ t p, (64 : Int32) * nI t + nI p = nI (64 * t + p) := fun t p => by rw [show (64 : Int32) = nI 64 from rfl, nI_mul, nI_add]
      refine blk s_X7_alike_18 (nm ?_)
      refine dn (P := fun k => (∀ j, j < k → vl g x (j / 4) (j % 4) = vl g y (j / 4) (j % 4)) → EN 62 RF mX7_alike 2 20 [(0, .ref 39), (1, .int (nI x)), (2, .int (nI y)), (3, .int (nI k))] [] I J Q) (N := 64) (a := 0) ?_ ?_ (Nat.zero_le _) (fun j hj => absurd hj (Nat.not_lt_zero j))
      · intro hall
        refine blk s_X7_alike_20 (nm ?_)
        refine b_X7_alike_23 (fun h => ?_) (fun h => absurd (Int32.le_refl _) h)
        have e : g 10 x = g 10 y := l_ext fun s r hs hr => by
          have := hall (4 * s + r) (by omega)
          rw [(dm4 hr).1, (dm4 hr).2] at this
          exact this
        rw [decide_eq_true e] at hQ'
        refine blk s_X7_alike_59 (nm ?_)
        exact r_X7_alike_60 hQ'
      · intro k hk ih hall
        refine blk s_X7_alike_20 (nm ?_)
        refine b_X7_alike_23 (fun h => absurd h (nI_ge hk (by decide))) (fun h => ?_)
        refine blk s_X7_alike_26 (And.intro (show vp_in ((64 : Int32) * nI x + nI k) 2560 from by rw [ix]; exact ib (by omega)) (And.intro (show vp_in ((64 : Int32) * nI y + nI k) 2560 from by rw [ix]; exact ib (by omega)) (nm ?_)))
        rw [ix, ix, cl (64 * x + k), cl (64 * y + k), pt x k hx hk, pt y k hy hk]
        refine b_X7_alike_48 (fun h => ?_) (fun h => ?_)
        · refine blk s_X7_alike_53 (nm ?_)
          refine en_L (by rw [nI_s]) (ih fun j hj => ?_)
          by_cases e : j = k
          · subst e
            revert h
            cases vl g x (j / 4) (j % 4) <;> cases vl g y (j / 4) (j % 4) <;> intro h
            · rfl
            · exact absurd h (by decide)
            · exact absurd h (by decide)
            · rfl
          · exact hall j (by omega)
        · have e : ¬ g 10 x = g 10 y := fun e => h (by unfold vl; rw [e])
          rw [decide_eq_false e] at hQ'
          refine blk s_X7_alike_51 (nm ?_)
          exact r_X7_alike_52 hQ'
theorem p_alike (a b : Int32) : PR sc V mX6_alike mX7_alike 1 2 [.int a, .int b] := pr_q fun I J C nx os oc K V' bx fa hV hb hC hR =>
  ⟨_, qx_id (cKp hC) (ct_X6_alike (cC hC) (c40 hC) a b), fun I1 h1 => qm_id (ct_X7_alike h1.1 a b)⟩
end PAIR3
