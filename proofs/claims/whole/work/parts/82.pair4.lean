/-! PAIRS: loose, settle, chain -/
section PAIR4
variable {sc : Nat → Nat → Int32} {V : Nat} {I : IT} {J : JT} {g : JT} {C : Nat} {nx : Nat → Option Nat} {os oc : Option Nat} {A : Nat → Bool}
def loB (w : Nat) (k : Int32) : Bool := !(decide (k < -1)) && decide (k < nI w)
theorem nI_sI : ∀ w, w < 16 → (nI w - 1).toInt = (w : Int) - 1 ∧ (nI w).toInt = (w : Int) := by decide +kernel
theorem wi_m1 {w : Nat} (hw : w ≤ 15) (k : Int32) : wiB k (-1) (nI w - 1) = loB w k := by
  unfold wiB loB
  obtain ⟨e1, e2⟩ := nI_sI w (by omega)
  congr 1
  refine beq_of_iff ⟨fun h => ?_, fun h => ?_⟩
  · refine decide_eq_true ?_
    have h2 : ¬ (nI w - 1 < k) := fun h3 => by rw [decide_eq_true h3] at h; cases h
    rw [Int32.lt_iff_toInt_lt] at h2 ⊢
    omega
  · have h2 := of_decide_eq_true h
    have h3 : ¬ (nI w - 1 < k) := by
      rw [Int32.lt_iff_toInt_lt] at h2 ⊢
      omega
    rw [decide_eq_false h3]; rfl
theorem lo_nat {w : Nat} (hw : w ≤ 15) {k : Int32} (h : loB w k = true) (h1 : ¬ k = -1) : ∃ q, q < w ∧ k = nI q := by
  unfold loB at h
  have h2 := Bool.and_eq_true_iff.mp h
  have h3 : ¬ k < -1 := fun h4 => by rw [decide_eq_true h4] at h2; cases h2.1
  have h4 := of_decide_eq_true h2.2
  have h0 : ¬ k < 0 := by
    rw [Int32.lt_iff_toInt_lt] at h3 ⊢
    have e1 : (-1 : Int32).toInt = -1 := by decide
    have e0 : (0 : Int32).toInt = 0 := by decide
    have h5 : k.toInt ≠ -1 := fun h6 => h1 (Int32.toInt_inj.mp (h6.trans e1.symm))
    omega
  obtain ⟨q, hq, rfl⟩ := nI_of h0
  exact ⟨q, (nI_ltI hq (by omega)).mp h4, rfl⟩
def loV (T : Nat → Nat → Nat) (S B : Nat → Bool) (ow : Option Nat) (k : Int32) : Int32 := match ow with
  | none => -3
  | some w => match loB w k with
    | false => -2
    | true => if k = -1 then bsN (fun v => S (wyA (rc T) S B w ^^^ 2 ^ v) && B (rnS T (wyR T (rc T) S B w) (wyA (rc T) S B w ^^^ 2 ^ v) w)) 4 else bsN (fun v => B (rnS T (fun j => if j = k.toNatClampNeg then wyR T (rc T) S B w j ^^^ 2 ^ v else wyR T (rc T) S B w j) (wyA (rc T) S B w) w)) 2
theorem loV_out {T : Nat → Nat → Nat} {S B : Nat → Bool} {w : Nat} {k : Int32} (he : loB w k = false) : loV T S B (some w) k = -2 := by
  unfold loV; dsimp only; rw [he]
theorem loV_st {T : Nat → Nat → Nat} {S B : Nat → Bool} {w : Nat} (he : loB w (-1) = true) : loV T S B (some w) (-1) = bsN (fun v => S (wyA (rc T) S B w ^^^ 2 ^ v) && B (rnS T (wyR T (rc T) S B w) (wyA (rc T) S B w ^^^ 2 ^ v) w)) 4 := by
  unfold loV; dsimp only; rw [he]; dsimp only; rw [if_pos rfl]
theorem loV_rw {T : Nat → Nat → Nat} {S B : Nat → Bool} {w q : Nat} (hq : q < 2 ^ 31) (he : loB w (nI q) = true) (h3 : ¬ nI q = -1) : loV T S B (some w) (nI q) = bsN (fun v => B (rnS T (fun j => if j = q then wyR T (rc T) S B w j ^^^ 2 ^ v else wyR T (rc T) S B w j) (wyA (rc T) S B w) w)) 2 := by
  unfold loV; dsimp only; rw [he]; dsimp only; rw [if_neg h3, cl q]
theorem ct_X6_loose {T : Nat → Nat → Nat} {S B : Nat → Bool} {ow : Option Nat} (hT : TOk I T) (hS : I 11 4 = bs S) (hB : I 11 5 = bs B) (hw15 : ∀ n, ow = some n → n ≤ 15) (h11 : I 11 11 = o2i ow) (hs : ∀ n, ow = some n → (∀ k, k ≤ n → I 16 k = nI (wyS T (rc T) S B n k)) ∧ ∀ k, k < n → I 17 k = nI (wyR T (rc T) S B n k)) (k : Int32) : CN 62 RF mX6_loose 3 [.ref 0, .int k] I J (RX (some (.int (loV T S B ow k))) I J) := by
  refine cn_of (by decide) rfl (Nat.le_of_ble_eq_true rfl) ?_
  refine blk s_X6_loose_0 (nm ?_)
  rw [h11]
  cases ow with
  | none =>
    refine b_X6_loose_9 (fun h => absurd rfl h) (fun h => ?_)
    refine blk s_X6_loose_12 (nm ?_)
    exact r_X6_loose_14 rxq
  | some w =>
    have hw := hw15 w rfl
    have h11' : I 11 11 = nI w := h11
    refine b_X6_loose_9 (fun h => ?_) (fun h => absurd h (o2i_ne (show w < 2 ^ 31 by omega)))
    have out : loB w k = false → EN 62 RF mX6_loose 3 31 [(0, .ref 0), (1, .int k)] [] I J (RX (some (.int (loV T S B (some w) k))) I J) := by
      intro he
      refine blk s_X6_loose_31 (nm ?_)
      refine r_X6_loose_33 (rxe ?_ rfl rfl)
      rw [loV_out he]
    refine blk s_X6_loose_15 (nm ?_)
    refine b_X6_loose_17 (fun h1 => out (by unfold loB; rw [decide_eq_true h1]; rfl)) (fun h1 => ?_)
    refine blk s_X6_loose_20 (nm ?_)
    rw [h11']
    refine b_X6_loose_28 (fun h2 => ?_) (fun h2 => out (by unfold loB; rw [decide_eq_false h1, decide_eq_false h2]; rfl))
    have he : loB w k = true := by unfold loB; rw [decide_eq_false h1, decide_eq_true h2]; rfl
    obtain ⟨s1, s2⟩ := hs w rfl
    have hrw : ∀ j, j < w → I 17 j = nI (wyR T (rc T) S B w j) ∧ wyR T (rc T) S B w j < 4 := fun j hj => ⟨s2 j hj, lrw_lt _ _ _⟩
    have ha : I 16 0 = nI (wyA (rc T) S B w) := s1 0 (Nat.zero_le _)
    have ha16 := wyA_lt (rc T) S B w
    refine blk s_X6_loose_34 (nm ?_)
    refine b_X6_loose_36 (fun h3 => ?_) (fun h3 => ?_)
    · obtain ⟨q, hq, rfl⟩ := lo_nat hw he h3
      refine blk s_X6_loose_49 (nm ?_)
      refine c_X6_loose_54 (ct_X3_looseInRow hT hB h11' hw hrw ha ha16 hq) rfl (by decide) rfl (Nat.le_of_ble_eq_true rfl) (by decide) rfl (rx ?_)
      refine r_X6_loose_57 (rxe ?_ rfl rfl)
      rw [loV_rw (by omega) he h3]
    · subst h3
      refine blk s_X6_loose_39 (nm ?_)
      refine c_X6_loose_43 (ct_X3_looseInStart hT hS hB h11' hw hrw ha ha16) rfl (by decide) rfl (Nat.le_of_ble_eq_true rfl) (by decide) rfl (rx ?_)
      refine blk s_X6_loose_46 (nm ?_)
      refine r_X6_loose_57 (rxe ?_ rfl rfl)
      rw [loV_st he]
theorem ct_X7_loose (hB : RB I g C nx os oc) (k : Int32) : CN 62 RF mX7_loose 5 [.ref 39, .int k] I J (QM (loV (Tx g nx) (Sx g os) (Bx g oc) (lwX (rc (Tx g nx)) (Sx g os) (Bx g oc)) k) I J) := by
  have hFM := FM_fw I (Tx g nx) (Sx g os) (Bx g oc) (lwX (rc (Tx g nx)) (Sx g os) (Bx g oc))
  have hB1 := fwI_B hB (Tx g nx) (Sx g os) (Bx g oc) (lwX (rc (Tx g nx)) (Sx g os) (Bx g oc))
  have h13 := fwI_13 (I := I) (T := Tx g nx) (S := Sx g os) (B := Bx g oc) (ow := lwX (rc (Tx g nx)) (Sx g os) (Bx g oc))
  refine cn_of (by decide) rfl (Nat.le_of_ble_eq_true rfl) ?_
  refine blk s_X7_loose_0 (nm ?_)
  refine c_X7_loose_1 (ct_X7_findWay hB) rfl (by decide) rfl (Nat.le_of_ble_eq_true rfl) (by decide) rfl (rx ?_)
  refine blk s_X7_loose_4 (nm ?_)
  rw [h13]
  cases how : lwX (rc (Tx g nx)) (Sx g os) (Bx g oc) with
  | none =>
    rw [how] at hFM
    refine b_X7_loose_10 (fun h => absurd rfl h) (fun h => ?_)
    refine blk s_X7_loose_13 (nm ?_)
    exact r_X7_loose_15 ⟨rfl, rfl, hFM⟩
  | some w =>
    rw [how] at hFM hB1 h13
    have hw := lwX_lt how
    have h49 : fwI I (Tx g nx) (Sx g os) (Bx g oc) (some w) 49 0 = nI (wyA (rc (Tx g nx)) (Sx g os) (Bx g oc) w) := fwI_49 (Nat.zero_le _)
    have hrw : ∀ j, j < w → fwI I (Tx g nx) (Sx g os) (Bx g oc) (some w) 50 j = nI (wyR (Tx g nx) (rc (Tx g nx)) (Sx g os) (Bx g oc) w j) ∧ wyR (Tx g nx) (rc (Tx g nx)) (Sx g os) (Bx g oc) w j < 4 := fun j hj => ⟨fwI_50 hj, lrw_lt _ _ _⟩
    generalize fwI I (Tx g nx) (Sx g os) (Bx g oc) (some w) = I1 at *
    have h13' : I1 39 13 = nI w := h13
    refine b_X7_loose_10 (fun h => ?_) (fun h => absurd h (o2i_ne (show w < 2 ^ 31 by omega)))
    refine blk s_X7_loose_16 (nm ?_)
    refine c_X7_loose_24 (ct_X7_within _ _ _) rfl (by decide) rfl (Nat.le_of_ble_eq_true rfl) (rx ?_)
    rw [h13', wi_m1 hw]
    cases he : loB w k with
    | false =>
      refine b_X7_loose_27 (fun h => absurd rfl h) (fun h => ?_)
      refine blk s_X7_loose_30 (nm ?_)
      refine r_X7_loose_32 ⟨?_, rfl, hFM⟩
      rw [loV_out he]
    | true =>
      refine b_X7_loose_27 (fun h => ?_) (fun h => absurd h (by decide))
      by_cases h3 : k = -1
      · subst h3
        refine lo_A hB1 h13' hw hrw h49 (wyA_lt _ _ _ _) ⟨?_, rfl, hFM⟩
        rw [loV_st he]
      · obtain ⟨q, hq, rfl⟩ := lo_nat hw he h3
        refine lo_B hB1 h13' hw hrw h49 (wyA_lt _ _ _ _) hq (way_start how).2.1 ⟨?_, rfl, hFM⟩
        rw [loV_rw (by omega) he h3]
theorem p_loose (k : Int32) : PR sc V mX6_loose mX7_loose 3 5 [.int k] := pr_q fun I J C nx os oc K V' bx fa hV hb hC hR =>
  ⟨_, qx_id (cKp hC) (ct_X6_loose (cT hC) (cS hC) (cB hC) (fun n hn => lwX_lt hn) (cW hC).1 (cW hC).2 k), fun I1 h1 => ct_X7_loose h1.1 k⟩
/-- how settle goes on from k, with n lengths left -/
def seF (c h : Nat → Bool) (x : Int32) : Nat → Nat → Int32
  | 0, _ => -9
  | n + 1, k => match c k, h k with
    | false, _ => x
    | true, false => nI k
    | true, true => seF c h x n (k + 1)
def seV (T : Nat → Nat → Nat) (A B : Nat → Bool) (ow : Option Nat) (l : Int32) : Int32 := match wiB l 0 8 with
  | false => -2
  | true => seF (fun k => clB (o2i ow) (nI k)) (fun k => (fcO T (fun s => A s && !B s) (fun s => A s && B s) k).isSome) (100 + o2i ow) (l.toNatClampNeg + 1) 0
theorem se_X6 {T : Nat → Nat → Nat} {B : Nat → Bool} {ow : Option Nat} {L : Nat} (hL : L ≤ 8) (hT : TOk I T) (hR : ∀ s, s < 16 → I 14 s = bs (rc T s)) (hA : I 19 4 = bs A) (hB : I 11 5 = bs B) (hV : I 11 8 = nI V) (hV2 : V < 2 ^ 31) (hl : lbv I = o2i ow) : ∀ (n k : Nat) (I1 : IT), k + n = L + 1 → KpOk T I1 V → (∀ o, ¬ (22 ≤ o ∧ o ≤ 28) → I1 o = I o) →
    EN 62 RF mX6_settle 12 15 [(0, .ref 0), (1, .int (nI L)), (2, .int (nI k))] [] I1 J (QX T V (seF (fun k => clB (o2i ow) (nI k)) (fun k => (fcO T (fun s => A s && !B s) (fun s => A s && B s) k).isSome) (100 + o2i ow) n k) I J)
  | 0, k, I1, hn, hK, hf => by
    refine blk s_X6_settle_15 (nm ?_)
    refine b_X6_settle_17 (fun h => ?_) (fun h => absurd ((nI_ltI (a := L) (b := k) (by omega) (by omega)).mpr (by omega)) h)
    refine blk s_X6_settle_61 (nm ?_)
    exact r_X6_settle_63 ⟨rfl, rfl, hf, hK⟩
  | n + 1, k, I1, hn, hK, hf => by
    have hl1 : lbv I1 = o2i ow := by
      show lbF (mb (I1 11 5 &&& I1 11 10)) (I1 15) 16 = _
      rw [hf 11 (by decide), hf 15 (by decide)]; exact hl
    refine blk s_X6_settle_15 (nm ?_)
    refine b_X6_settle_17 (fun h => absurd ((nI_ltI (a := L) (b := k) (by omega) (by omega)).mp h) (by omega)) (fun h => ?_)
    refine blk s_X6_settle_20 (nm ?_)
    refine c_X6_settle_25 (ct_X3_isClear (nI k)) rfl (by decide) rfl (Nat.le_of_ble_eq_true rfl) (by decide) rfl (rx ?_)
    rw [hl1]
    simp only [seF]
    cases hc : clB (o2i ow) (nI k) with
    | false =>
      refine b_X6_settle_28 (fun h => absurd rfl h) (fun h => ?_)
      refine blk s_X6_settle_31 (nm ?_)
      refine c_X6_settle_37 ct_X3_leastBrokenDistance rfl (by decide) rfl (Nat.le_of_ble_eq_true rfl) (by decide) rfl (rx ?_)
      rw [hl1]
      refine blk s_X6_settle_40 (nm ?_)
      exact r_X6_settle_41 ⟨rfl, rfl, hf, hK⟩
    | true =>
      refine b_X6_settle_28 (fun h => ?_) (fun h => absurd h (by decide))
      refine blk s_X6_settle_42 (nm ?_)
      have hT1 : TOk I1 T := by unfold TOk at *; rw [hf 13 (by decide)]; exact hT
      refine c_X6_settle_47 (ct_X1_find (I := I1) (A := A) (B := B) (show k ≤ 8 by omega) hT1 (by rw [hf 14 (by decide)]; exact hR) (by rw [hf 19 (by decide)]; exact hA) (by rw [hf 11 (by decide)]; exact hB) (by rw [hf 11 (by decide)]; exact hV) hV2 hK) rfl (by decide) rfl (Nat.le_of_ble_eq_true rfl) (by decide) rfl (fun rv I' J' hq' => ?_)
      obtain ⟨q1, q2, q3, q4, -⟩ := hq'
      subst q1
      obtain rfl := q2.symm
      have fr : ∀ o, ¬ (22 ≤ o ∧ o ≤ 28) → I' o = I o := fun o ho => (q3 o (by omega)).trans (hf o ho)
      cases hb : (fcO T (fun s => A s && !B s) (fun s => A s && B s) k).isSome with
      | false =>
        refine b_X6_settle_50 (fun h => absurd rfl h) (fun h => ?_)
        refine blk s_X6_settle_53 (nm ?_)
        exact r_X6_settle_54 ⟨rfl, rfl, fr, q4⟩
      | true =>
        refine b_X6_settle_50 (fun h => ?_) (fun h => absurd h (by decide))
        refine blk s_X6_settle_55 (nm ?_)
        exact en_L (by rw [nI_s]) (se_X6 hL hT hR hA hB hV hV2 hl n (k + 1) I' (by omega) q4 fr)
theorem ct_X6_settle {T : Nat → Nat → Nat} {B : Nat → Bool} {ow : Option Nat} (hT : TOk I T) (hR : ∀ s, s < 16 → I 14 s = bs (rc T s)) (hA : I 19 4 = bs A) (hB : I 11 5 = bs B) (hV : I 11 8 = nI V) (hV2 : V < 2 ^ 31) (hl : lbv I = o2i ow) (hKp : KpOk T I V) (l : Int32) : CN 62 RF mX6_settle 12 [.ref 0, .int l] I J (QX T V (seV T A B ow l) I J) := by
  have out : wiB l 0 8 = false → EN 62 RF mX6_settle 12 10 [(0, .ref 0), (1, .int l)] [] I J (QX T V (seV T A B ow l) I J) := by
    intro he
    refine blk s_X6_settle_10 (nm ?_)
    refine r_X6_settle_12 ⟨?_, rfl, fun _ _ => rfl, hKp⟩
    unfold seV; rw [he]
  refine cn_of (by decide) rfl (Nat.le_of_ble_eq_true rfl) ?_
  refine blk s_X6_settle_0 (nm ?_)
  refine b_X6_settle_1 (fun h => ?_) (fun h => ?_)
  · refine out ?_
    unfold wiB; rw [decide_eq_true h]; rfl
  · refine blk s_X6_settle_4 (nm ?_)
    refine b_X6_settle_7 (fun h2 => ?_) (fun h2 => ?_)
    · have hk : wiB l 0 8 = true := by unfold wiB; rw [decide_eq_false h, decide_eq_false (Int32.not_lt.mpr h2)]; rfl
      have hk2 := hk
      rw [wi_8] at hk2
      obtain ⟨q, hq, rfl⟩ := lt_ex (N := 9) (by decide) hk2
      unfold seV; rw [hk, cl q]
      refine blk s_X6_settle_13 (nm ?_)
      exact se_X6 (show q ≤ 8 by omega) hT hR hA hB hV hV2 hl (q + 1) 0 I (by omega) hKp (fun _ _ => rfl)
    · refine out ?_
      unfold wiB; rw [decide_eq_false h, decide_eq_true (Int32.not_le.mp h2)]; rfl
theorem FM_tr {I I1 I2 : IT} (h : FM I I1) (h2 : FM I1 I2) : FM I I2 := ⟨fun o a b c d e f g k l => (h2.1 o a b c d e f g k l).trans (h.1 o a b c d e f g k l), fun m a b c => (h2.2 m a b c).trans (h.2 m a b c)⟩
theorem FM_B {I I1 : IT} (h : FM I I1) (hB : RB I g C nx os oc) : RB I1 g C nx os oc := RB_cg hB ⟨h.2 1 (by decide) (by decide) (by decide), h.2 9 (by decide) (by decide) (by decide), h.2 10 (by decide) (by decide) (by decide)⟩ (h.1 46 (by decide) (by decide) (by decide) (by decide) (by decide) (by decide) (by decide) (by decide) (by decide)) (h.1 47 (by decide) (by decide) (by decide) (by decide) (by decide) (by decide) (by decide) (by decide) (by decide))
theorem FM_A {I I1 : IT} (h : FM I I1) (hA : RA I A) : RA I1 A := RA_cg hA (h.2 16 (by decide) (by decide) (by decide)) (h.1 51 (by decide) (by decide) (by decide) (by decide) (by decide) (by decide) (by decide) (by decide) (by decide))
theorem se_X7 {L : Nat} (hL : L ≤ 8) (hB : RB I g C nx os oc) (hA : RA I A) : ∀ (n k : Nat) (I1 : IT), k + n = L + 1 → FM I I1 →
    EN 62 RF mX7_settle 5 15 [(0, .ref 39), (1, .int (nI L)), (2, .int (nI k))] [] I1 J (QM (seF (fun k => clB (o2i (lwX (rc (Tx g nx)) (Sx g os) (Bx g oc))) (nI k)) (fun k => (fcO (Tx g nx) (fun s => A s && !Bx g oc s) (fun s => A s && Bx g oc s) k).isSome) (100 + o2i (lwX (rc (Tx g nx)) (Sx g os) (Bx g oc))) n k) I J)
  | 0, k, I1, hn, hf => by
    refine blk s_X7_settle_15 (nm ?_)
    refine b_X7_settle_17 (fun h => ?_) (fun h => absurd ((nI_ltI (a := L) (b := k) (by omega) (by omega)).mpr (by omega)) h)
    refine blk s_X7_settle_52 (nm ?_)
    exact r_X7_settle_54 ⟨rfl, rfl, hf⟩
  | n + 1, k, I1, hn, hf => by
    refine blk s_X7_settle_15 (nm ?_)
    refine b_X7_settle_17 (fun h => absurd ((nI_ltI (a := L) (b := k) (by omega) (by omega)).mp h) (by omega)) (fun h => ?_)
    refine blk s_X7_settle_20 (nm ?_)
    refine c_X7_settle_22 (ct_X7_isClear (FM_B hf hB) (nI k)) rfl (by decide) rfl (Nat.le_of_ble_eq_true rfl) (by decide) rfl (rx ?_)
    have hf2 := FM_tr hf (FM_fa I1 (dsO (rc (Tx g nx)) (Sx g os) 16))
    have hD : ∀ s, s < 16 → faI I1 (dsO (rc (Tx g nx)) (Sx g os) 16) 48 s = o2i (dsO (rc (Tx g nx)) (Sx g os) 16 s) := fun s hs => faI_48 hs
    generalize faI I1 (dsO (rc (Tx g nx)) (Sx g os) 16) = I2 at hf2 hD ⊢
    simp only [seF]
    cases hc : clB (o2i (lwX (rc (Tx g nx)) (Sx g os) (Bx g oc))) (nI k) with
    | false =>
      refine b_X7_settle_25 (fun h => absurd rfl h) (fun h => ?_)
      refine blk s_X7_settle_28 (nm ?_)
      refine c_X7_settle_31 (ct_X7_wayLong (FM_B hf2 hB) hD (fun s d h => dsO_lt h)) rfl (by decide) rfl (Nat.le_of_ble_eq_true rfl) (by decide) rfl (rx ?_)
      refine blk s_X7_settle_34 (nm ?_)
      exact r_X7_settle_35 ⟨rfl, rfl, hf2⟩
    | true =>
      refine b_X7_settle_25 (fun h => ?_) (fun h => absurd h (by decide))
      refine blk s_X7_settle_36 (nm ?_)
      refine c_X7_settle_38 (ct_X7_findChain (FM_B hf2 hB) (FM_A hf2 hA) (show k ≤ 8 by omega)) rfl (by decide) rfl (Nat.le_of_ble_eq_true rfl) (by decide) rfl (fun rv I' J' hq' => ?_)
      obtain ⟨q1, q2, q3, q4, -⟩ := hq'
      subst q1
      obtain rfl := q2.symm
      have fr : FM I I' := FM_tr hf2 ⟨fun o h39 _ _ _ h53 h54 h55 _ _ => q3 o h39 h53 h54 h55, fun m _ h22 h23 => q4 m h22 h23⟩
      cases hb : (fcO (Tx g nx) (fun s => A s && !Bx g oc s) (fun s => A s && Bx g oc s) k).isSome with
      | false =>
        refine b_X7_settle_41 (fun h => absurd rfl h) (fun h => ?_)
        refine blk s_X7_settle_44 (nm ?_)
        exact r_X7_settle_45 ⟨rfl, rfl, fr⟩
      | true =>
        refine b_X7_settle_41 (fun h => ?_) (fun h => absurd h (by decide))
        refine blk s_X7_settle_46 (nm ?_)
        exact en_L (by rw [nI_s]) (se_X7 hL hB hA n (k + 1) I' (by omega) fr)
theorem ct_X7_settle (hB : RB I g C nx os oc) (hA : RA I A) (l : Int32) : CN 62 RF mX7_settle 5 [.ref 39, .int l] I J (QM (seV (Tx g nx) A (Bx g oc) (lwX (rc (Tx g nx)) (Sx g os) (Bx g oc)) l) I J) := by
  unfold seV
  refine cn_of (by decide) rfl (Nat.le_of_ble_eq_true rfl) ?_
  refine blk s_X7_settle_0 (nm ?_)
  refine c_X7_settle_4 (ct_X7_within _ _ _) rfl (by decide) rfl (Nat.le_of_ble_eq_true rfl) (rx ?_)
  cases hk : wiB l 0 8 with
  | false =>
    refine b_X7_settle_7 (fun h => absurd rfl h) (fun h => ?_)
    refine blk s_X7_settle_10 (nm ?_)
    exact r_X7_settle_12 ⟨rfl, rfl, FM_r I⟩
  | true =>
    rw [wi_8] at hk
    obtain ⟨q, hq, rfl⟩ := lt_ex (N := 9) (by decide) hk
    refine b_X7_settle_7 (fun h => ?_) (fun h => absurd h (by decide))
    rw [cl q]
    refine blk s_X7_settle_13 (nm ?_)
    exact se_X7 (show q ≤ 8 by omega) hB hA (q + 1) 0 I (by omega) (FM_r I)
theorem p_settle (hV0 : V < 1000) (l : Int32) : PR sc V mX6_settle mX7_settle 12 5 [.int l] := pr_q fun I J C nx os oc K V' bx fa hV hb hC hR =>
  ⟨_, ct_X6_settle (cT hC) (c14 hC) (cA hC) (cB hC) (cV hC) (by omega) (clb hC) (cKp hC) l, fun I1 h1 => ct_X7_settle h1.1 (rA h1) l⟩
end PAIR4
