/-! PUBLIC METHODS: more questions. FM: what the reference's questions leave as it was -/
def FM (I I' : IT) : Prop := (∀ o, o ≠ 39 → o ≠ 48 → o ≠ 49 → o ≠ 50 → o ≠ 53 → o ≠ 54 → o ≠ 55 → o ≠ 56 → o ≠ 57 → I' o = I o) ∧ ∀ m, m ≠ 13 → m ≠ 22 → m ≠ 23 → I' 39 m = I 39 m
theorem FM_r (I : IT) : FM I I := ⟨fun _ _ _ _ _ _ _ _ _ _ => rfl, fun _ _ _ _ => rfl⟩
theorem FM_fa (I : IT) (D : Nat → Option Nat) : FM I (faI I D) := ⟨fun o _ h _ _ _ _ _ _ _ => faI_o h, fun m _ _ _ => by rw [faI_o (by decide)]⟩
theorem FM_fw (I : IT) (T : Nat → Nat → Nat) (S B : Nat → Bool) (ow : Option Nat) : FM I (fwI I T S B ow) := ⟨fun o h39 h48 h49 h50 _ _ _ _ _ => fwI_o h39 h48 h49 h50, fun m h _ _ => fwI_39 h⟩
def QM (v : Int32) (I : IT) (J : JT) : IQ := fun r I' J' => r = some (.int v) ∧ J' = J ∧ FM I I'
section PUB2
variable {I : IT} {J : JT} {g : JT} {C : Nat} {nx : Nat → Option Nat} {os oc : Option Nat} {A : Nat → Bool}
def vaV (g : JT) (C : Nat) (t s r : Int32) : Int32 := match hsB C t, ltB s 16, ltB r 4 with
  | false, _, _ => -1
  | true, true, true => b2i (vl g t.toNatClampNeg s.toNatClampNeg r.toNatClampNeg)
  | true, _, _ => -2
theorem ct_X6_value (hC : I 1 9 = nI C) (h40 : C ≤ 40) (t s r : Int32) : CN 62 RF mX6_value 1 [.ref 0, .int t, .int s, .int r] I J (RX (some (.int (vaV J C t s r))) I J) := by
  unfold vaV
  refine cn_of (by decide) rfl (Nat.le_of_ble_eq_true rfl) ?_
  refine blk s_X6_value_0 (nm ?_)
  refine c_X6_value_5 (ct_X4_hasC hC t) rfl (by decide) rfl (Nat.le_of_ble_eq_true rfl) (by decide) rfl (rx ?_)
  cases ht : hsB C t with
  | false =>
    refine b_X6_value_8 (fun h => absurd rfl h) (fun h => ?_)
    refine blk s_X6_value_11 (nm ?_)
    exact r_X6_value_12 rxq
  | true =>
    obtain ⟨k, hk, rfl⟩ := hs_ex (by omega) ht
    refine b_X6_value_8 (fun h => ?_) (fun h => absurd h (by decide))
    refine blk s_X6_value_13 (nm ?_)
    refine c_X6_value_14 (ct_X6_isState s) rfl (by decide) rfl (Nat.le_of_ble_eq_true rfl) (rx ?_)
    cases hs : ltB s 16 with
    | false =>
      refine b_X6_value_17 (fun h => ?_) (fun h => absurd rfl h)
      refine blk s_X6_value_27 (nm ?_)
      exact r_X6_value_29 rxq
    | true =>
      obtain ⟨p, hp, rfl⟩ := lt_ex (N := 16) (by decide) hs
      refine b_X6_value_17 (fun h => absurd h (by decide)) (fun h => ?_)
      refine blk s_X6_value_20 (nm ?_)
      refine c_X6_value_21 (ct_X6_isRow r) rfl (by decide) rfl (Nat.le_of_ble_eq_true rfl) (rx ?_)
      cases hr : ltB r 4 with
      | false =>
        refine b_X6_value_24 (fun h => absurd rfl h) (fun h => ?_)
        refine blk s_X6_value_27 (nm ?_)
        exact r_X6_value_29 rxq
      | true =>
        obtain ⟨q, hq, rfl⟩ := lt_ex (N := 4) (by decide) hr
        refine b_X6_value_24 (fun h => ?_) (fun h => absurd h (by decide))
        refine blk s_X6_value_30 (nm ?_)
        refine c_X6_value_36 (ct_X4_trueStates (by omega) hq) rfl (by decide) rfl (Nat.le_of_ble_eq_true rfl) (by decide) rfl (rx ?_)
        refine blk s_X6_value_39 (nm ?_)
        refine r_X6_value_43 (rxe ?_ rfl rfl)
        rw [bit_at _ (show p < 32 by omega), cl k, cl p, cl q]
        unfold tsX
        rw [mb_bs1 _ hp]
theorem ct_X7_value (hB : RB I g C nx os oc) (t s r : Int32) : CN 62 RF mX7_value 2 [.ref 39, .int t, .int s, .int r] I J (RX (some (.int (vaV g C t s r))) I J) := by
  have h40 := hB.1.2.1
  unfold vaV
  refine cn_of (by decide) rfl (Nat.le_of_ble_eq_true rfl) ?_
  refine blk s_X7_value_0 (nm ?_)
  refine c_X7_value_2 (ct_X7_isTermC hB.1.1 h40 t) rfl (by decide) rfl (Nat.le_of_ble_eq_true rfl) (by decide) rfl (rx ?_)
  cases ht : hsB C t with
  | false =>
    refine b_X7_value_5 (fun h => absurd rfl h) (fun h => ?_)
    refine blk s_X7_value_8 (nm ?_)
    exact r_X7_value_9 rxq
  | true =>
    obtain ⟨k, hk, rfl⟩ := hs_ex (by omega) ht
    refine b_X7_value_5 (fun h => ?_) (fun h => absurd h (by decide))
    refine blk s_X7_value_10 (nm ?_)
    refine c_X7_value_11 (ct_X7_isStateC s) rfl (by decide) rfl (Nat.le_of_ble_eq_true rfl) (rx ?_)
    cases hs : ltB s 16 with
    | false =>
      refine b_X7_value_14 (fun h => ?_) (fun h => absurd rfl h)
      refine blk s_X7_value_34 (nm ?_)
      exact r_X7_value_36 rxq
    | true =>
      obtain ⟨p, hp, rfl⟩ := lt_ex (N := 16) (by decide) hs
      refine b_X7_value_14 (fun h => absurd h (by decide)) (fun h => ?_)
      refine blk s_X7_value_17 (nm ?_)
      refine c_X7_value_18 (ct_X7_isRowC r) rfl (by decide) rfl (Nat.le_of_ble_eq_true rfl) (rx ?_)
      cases hr : ltB r 4 with
      | false =>
        refine b_X7_value_21 (fun h => ?_) (fun h => absurd rfl h)
        refine blk s_X7_value_34 (nm ?_)
        exact r_X7_value_36 rxq
      | true =>
        obtain ⟨q, hq, rfl⟩ := lt_ex (N := 4) (by decide) hr
        refine b_X7_value_21 (fun h => absurd h (by decide)) (fun h => ?_)
        refine blk s_X7_value_24 (nm ?_)
        refine c_X7_value_28 (ct_X7_valueIn hB hk hp hq) rfl (by decide) rfl (Nat.le_of_ble_eq_true rfl) (by decide) rfl (rx ?_)
        refine blk s_X7_value_31 (nm ?_)
        refine r_X7_value_36 (rxe ?_ rfl rfl)
        rw [cl k, cl p, cl q]
def beV (g : JT) (nx : Nat → Option Nat) (s : Int32) : Int32 := match ltB s 16 with
  | true => bs (fun x => rc (Tx g nx) x s.toNatClampNeg)
  | false => -2
theorem ct_X6_before (hR : ∀ s, s < 16 → I 14 s = bs (rc (Tx J nx) s)) (s : Int32) : CN 62 RF mX6_before 1 [.ref 0, .int s] I J (RX (some (.int (beV J nx s))) I J) := by
  unfold beV
  refine cn_of (by decide) rfl (Nat.le_of_ble_eq_true rfl) ?_
  refine blk s_X6_before_0 (nm ?_)
  refine c_X6_before_1 (ct_X6_isState s) rfl (by decide) rfl (Nat.le_of_ble_eq_true rfl) (rx ?_)
  cases hs : ltB s 16 with
  | false =>
    refine b_X6_before_4 (fun h => absurd rfl h) (fun h => ?_)
    refine blk s_X6_before_7 (nm ?_)
    exact r_X6_before_9 rxq
  | true =>
    obtain ⟨p, hp, rfl⟩ := lt_ex (N := 16) (by decide) hs
    refine b_X6_before_4 (fun h => ?_) (fun h => absurd h (by decide))
    refine blk s_X6_before_10 (nm ?_)
    refine c_X6_before_17 (ct_X3_sources hR _) rfl (by decide) rfl (Nat.le_of_ble_eq_true rfl) (by decide) rfl (rx ?_)
    refine r_X6_before_20 (rxe ?_ rfl rfl)
    rw [cl p]
    refine congrArg (fun z => some (Value.int z)) (bsN_cg fun x _ => ?_)
    refine beq_of_iff ⟨fun h => ?_, fun h => anN_iff.mpr ⟨p, hp, ?_⟩⟩
    · obtain ⟨t, ht, h2⟩ := anN_iff.mp h
      have h3 := Bool.and_eq_true_iff.mp h2
      rw [mb_bit (by omega)] at h3
      rw [← of_decide_eq_true h3.2]; exact h3.1
    · rw [mb_bit (by omega), decide_eq_true rfl, Bool.and_true]; exact h
theorem ct_X7_before (hB : RB I g C nx os oc) (s : Int32) : CN 62 RF mX7_before 3 [.ref 39, .int s] I J (RX (some (.int (beV g nx s))) I J) := by
  unfold beV
  refine cn_of (by decide) rfl (Nat.le_of_ble_eq_true rfl) ?_
  refine blk s_X7_before_0 (nm ?_)
  refine c_X7_before_1 (ct_X7_isStateC s) rfl (by decide) rfl (Nat.le_of_ble_eq_true rfl) (rx ?_)
  cases hs : ltB s 16 with
  | false =>
    refine b_X7_before_4 (fun h => ?_) (fun h => absurd rfl h)
    refine blk s_X7_before_15 (nm ?_)
    exact r_X7_before_17 rxq
  | true =>
    obtain ⟨p, hp, rfl⟩ := lt_ex (N := 16) (by decide) hs
    refine b_X7_before_4 (fun h => absurd h (by decide)) (fun h => ?_)
    refine blk s_X7_before_7 (nm ?_)
    refine c_X7_before_9 (ct_X7_beforeOf hB hp) rfl (by decide) rfl (Nat.le_of_ble_eq_true rfl) (by decide) rfl (rx ?_)
    refine blk s_X7_before_12 (nm ?_)
    refine r_X7_before_17 (rxe ?_ rfl rfl)
    rw [cl p]
def diV (g : JT) (nx : Nat → Option Nat) (os : Option Nat) (s : Int32) : Int32 := match ltB s 16 with
  | true => o2i (dsO (rc (Tx g nx)) (Sx g os) 16 s.toNatClampNeg)
  | false => -2
theorem ct_X6_distance (hD : ∀ s, s < 16 → I 15 s = o2i (dsO (rc (Tx J nx)) (Sx J os) 16 s)) (s : Int32) : CN 62 RF mX6_distance 1 [.ref 0, .int s] I J (RX (some (.int (diV J nx os s))) I J) := by
  unfold diV
  refine cn_of (by decide) rfl (Nat.le_of_ble_eq_true rfl) ?_
  refine blk s_X6_distance_0 (nm ?_)
  refine c_X6_distance_1 (ct_X6_isState s) rfl (by decide) rfl (Nat.le_of_ble_eq_true rfl) (rx ?_)
  cases hs : ltB s 16 with
  | false =>
    refine b_X6_distance_4 (fun h => absurd rfl h) (fun h => ?_)
    refine blk s_X6_distance_7 (nm ?_)
    exact r_X6_distance_9 rxq
  | true =>
    obtain ⟨p, hp, rfl⟩ := lt_ex (N := 16) (by decide) hs
    refine b_X6_distance_4 (fun h => ?_) (fun h => absurd h (by decide))
    refine blk s_X6_distance_10 (And.intro (ib hp) (nm ?_))
    refine r_X6_distance_19 (rxe ?_ rfl rfl)
    rw [cl p, hD p hp]
theorem ct_X7_distance (hB : RB I g C nx os oc) (s : Int32) : CN 62 RF mX7_distance 4 [.ref 39, .int s] I J (QM (diV g nx os s) I J) := by
  unfold diV
  refine cn_of (by decide) rfl (Nat.le_of_ble_eq_true rfl) ?_
  refine blk s_X7_distance_0 (nm ?_)
  refine c_X7_distance_1 (ct_X7_isStateC s) rfl (by decide) rfl (Nat.le_of_ble_eq_true rfl) (rx ?_)
  cases hs : ltB s 16 with
  | false =>
    refine b_X7_distance_4 (fun h => absurd rfl h) (fun h => ?_)
    refine blk s_X7_distance_7 (nm ?_)
    exact r_X7_distance_9 ⟨rfl, rfl, FM_r I⟩
  | true =>
    obtain ⟨p, hp, rfl⟩ := lt_ex (N := 16) (by decide) hs
    refine b_X7_distance_4 (fun h => ?_) (fun h => absurd h (by decide))
    refine blk s_X7_distance_10 (nm ?_)
    refine c_X7_distance_11 (ct_X7_findFar hB) rfl (by decide) rfl (Nat.le_of_ble_eq_true rfl) (by decide) rfl (rx ?_)
    refine blk s_X7_distance_14 (And.intro (ib hp) (nm ?_))
    refine r_X7_distance_20 ⟨?_, rfl, FM_fa I _⟩
    rw [cl p, faI_48 hp]
end PUB2
