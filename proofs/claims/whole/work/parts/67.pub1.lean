/-! PUBLIC METHODS: what both sides answer (spec functions), first questions -/
def hsB (C : Nat) (t : Int32) : Bool := !(decide (t < 0)) && !(decide (nI C ≤ t))
theorem hs_ex {C : Nat} (hC : C < 2 ^ 31) {t : Int32} (h : hsB C t = true) : ∃ k, k < C ∧ t = nI k := by
  unfold hsB at h
  simp only [Bool.and_eq_true, Bool.not_eq_true', decide_eq_false_iff_not] at h
  obtain ⟨k, hk, rfl⟩ := nI_of h.1
  refine ⟨k, ?_, rfl⟩
  have := h.2
  rw [nI_leI hC hk] at this
  omega
theorem lt_ex {N : Nat} (hN : N < 2 ^ 31) {t : Int32} (h : ltB t (nI N) = true) : ∃ k, k < N ∧ t = nI k := hs_ex hN h
section PUB1
variable {I : IT} {J : JT} {C : Nat}
theorem ct_X4_hasC (hC : I 1 9 = nI C) (t : Int32) : CN 62 RF mX4_has 0 [.ref 1, .int t] I J (RX (some (.int (b2i (hsB C t)))) I J) := by
  have h := ct_X4_has (I := I) (J := J) t
  unfold hasT at h; rw [hC] at h
  exact h
theorem ct_X7_isTermC (hC : I 39 1 = nI C) (h40 : C ≤ 40) (t : Int32) : CN 62 RF mX7_isTerm 1 [.ref 39, .int t] I J (RX (some (.int (b2i (hsB C t)))) I J) := by
  have h := ct_X7_isTerm (I := I) (J := J) t
  rw [hC, wi_has (by omega)] at h
  exact h
theorem ct_X7_isStateC (s : Int32) : CN 62 RF mX7_isState 1 [.int s] I J (RX (some (.int (b2i (ltB s 16)))) I J) := by
  have h := ct_X7_isState (I := I) (J := J) s
  rw [wi_15] at h; exact h
theorem ct_X7_isRowC (s : Int32) : CN 62 RF mX7_isRow 1 [.int s] I J (RX (some (.int (b2i (ltB s 4)))) I J) := by
  have h := ct_X7_isRow (I := I) (J := J) s
  rw [wi_3] at h; exact h
theorem ct_X7_isBoxC (s : Int32) : CN 62 RF mX7_isBox 1 [.int s] I J (RX (some (.int (b2i (ltB s 4)))) I J) := by
  have h := ct_X7_isBox (I := I) (J := J) s
  rw [wi_3] at h; exact h
def hoV (g : JT) (C : Nat) (t r : Int32) : Int32 := match hsB C t, ltB r 4 with
  | false, _ => -1
  | true, false => -2
  | true, true => tsX g t.toNatClampNeg r.toNatClampNeg
theorem ct_X6_holds (hC : I 1 9 = nI C) (h40 : C ≤ 40) (t r : Int32) : CN 62 RF mX6_holds 1 [.ref 0, .int t, .int r] I J (RX (some (.int (hoV J C t r))) I J) := by
  unfold hoV
  refine cn_of (by decide) rfl (Nat.le_of_ble_eq_true rfl) ?_
  refine blk s_X6_holds_0 (nm ?_)
  refine c_X6_holds_5 (ct_X4_hasC hC t) rfl (by decide) rfl (Nat.le_of_ble_eq_true rfl) (by decide) rfl (rx ?_)
  cases ht : hsB C t with
  | false =>
    refine b_X6_holds_8 (fun h => absurd rfl h) (fun h => ?_)
    refine blk s_X6_holds_11 (nm ?_)
    exact r_X6_holds_12 rxq
  | true =>
    obtain ⟨k, hk, rfl⟩ := hs_ex (by omega) ht
    refine b_X6_holds_8 (fun h => ?_) (fun h => absurd h (by decide))
    refine blk s_X6_holds_13 (nm ?_)
    refine c_X6_holds_14 (ct_X6_isRow r) rfl (by decide) rfl (Nat.le_of_ble_eq_true rfl) (rx ?_)
    cases hr : ltB r 4 with
    | false =>
      refine b_X6_holds_17 (fun h => absurd rfl h) (fun h => ?_)
      refine blk s_X6_holds_20 (nm ?_)
      exact r_X6_holds_22 rxq
    | true =>
      obtain ⟨q, hq, rfl⟩ := lt_ex (N := 4) (by decide) hr
      refine b_X6_holds_17 (fun h => ?_) (fun h => absurd h (by decide))
      refine blk s_X6_holds_23 (nm ?_)
      refine c_X6_holds_29 (ct_X4_trueStates (by omega) hq) rfl (by decide) rfl (Nat.le_of_ble_eq_true rfl) (by decide) rfl (rx ?_)
      refine r_X6_holds_32 (rxe ?_ rfl rfl)
      rw [cl k, cl q]
theorem ct_X7_holds {g : JT} {nx : Nat → Option Nat} {os oc : Option Nat} (hB : RB I g C nx os oc) (t r : Int32) : CN 62 RF mX7_holds 2 [.ref 39, .int t, .int r] I J (RX (some (.int (hoV g C t r))) I J) := by
  have h40 := hB.1.2.1
  unfold hoV
  refine cn_of (by decide) rfl (Nat.le_of_ble_eq_true rfl) ?_
  refine blk s_X7_holds_0 (nm ?_)
  refine c_X7_holds_2 (ct_X7_isTermC hB.1.1 h40 t) rfl (by decide) rfl (Nat.le_of_ble_eq_true rfl) (by decide) rfl (rx ?_)
  cases ht : hsB C t with
  | false =>
    refine b_X7_holds_5 (fun h => absurd rfl h) (fun h => ?_)
    refine blk s_X7_holds_8 (nm ?_)
    exact r_X7_holds_9 rxq
  | true =>
    obtain ⟨k, hk, rfl⟩ := hs_ex (by omega) ht
    refine b_X7_holds_5 (fun h => ?_) (fun h => absurd h (by decide))
    refine blk s_X7_holds_10 (nm ?_)
    refine c_X7_holds_11 (ct_X7_isRowC r) rfl (by decide) rfl (Nat.le_of_ble_eq_true rfl) (rx ?_)
    cases hr : ltB r 4 with
    | false =>
      refine b_X7_holds_14 (fun h => ?_) (fun h => absurd rfl h)
      refine blk s_X7_holds_26 (nm ?_)
      exact r_X7_holds_28 rxq
    | true =>
      obtain ⟨q, hq, rfl⟩ := lt_ex (N := 4) (by decide) hr
      refine b_X7_holds_14 (fun h => absurd h (by decide)) (fun h => ?_)
      refine blk s_X7_holds_17 (nm ?_)
      refine c_X7_holds_20 (ct_X7_holdsOf hB hk hq) rfl (by decide) rfl (Nat.le_of_ble_eq_true rfl) (by decide) rfl (rx ?_)
      refine blk s_X7_holds_23 (nm ?_)
      refine r_X7_holds_28 (rxe ?_ rfl rfl)
      rw [cl k, cl q]
def lvV (g : JT) (C : Nat) (t : Int32) : Int64 := match hsB C t with
  | false => -9223372036854775808
  | true => g 9 t.toNatClampNeg
theorem ct_X6_leaves (hC : I 1 9 = nI C) (h40 : C ≤ 40) (t : Int32) : CN 62 RF mX6_leaves 1 [.ref 0, .int t] I J (RX (some (.long (lvV J C t))) I J) := by
  unfold lvV
  refine cn_of (by decide) rfl (Nat.le_of_ble_eq_true rfl) ?_
  refine blk s_X6_leaves_0 (nm ?_)
  refine c_X6_leaves_5 (ct_X4_hasC hC t) rfl (by decide) rfl (Nat.le_of_ble_eq_true rfl) (by decide) rfl (rx ?_)
  cases ht : hsB C t with
  | false =>
    refine b_X6_leaves_8 (fun h => ?_) (fun h => absurd rfl h)
    refine blk s_X6_leaves_23 (nm ?_)
    exact r_X6_leaves_26 rxq
  | true =>
    obtain ⟨k, hk, rfl⟩ := hs_ex (by omega) ht
    refine b_X6_leaves_8 (fun h => absurd h (by decide)) (fun h => ?_)
    refine blk s_X6_leaves_11 (And.intro (ib (show k < 40 by omega)) (nm ?_))
    exact r_X6_leaves_26 rxq
theorem ct_X7_leaves {f : IT} {g : JT} (hC : I 39 1 = nI C) (h40 : C ≤ 40) (hR : RTm I J f g C) (t : Int32) : CN 62 RF mX7_leaves 2 [.ref 39, .int t] I J (RX (some (.long (lvV g C t))) I J) := by
  unfold lvV
  refine cn_of (by decide) rfl (Nat.le_of_ble_eq_true rfl) ?_
  refine blk s_X7_leaves_0 (nm ?_)
  refine c_X7_leaves_2 (ct_X7_isTermC hC h40 t) rfl (by decide) rfl (Nat.le_of_ble_eq_true rfl) (by decide) rfl (rx ?_)
  cases ht : hsB C t with
  | false =>
    refine b_X7_leaves_5 (fun h => ?_) (fun h => absurd rfl h)
    refine blk s_X7_leaves_17 (nm ?_)
    exact r_X7_leaves_20 rxq
  | true =>
    obtain ⟨k, hk, rfl⟩ := hs_ex (by omega) ht
    refine b_X7_leaves_5 (fun h => absurd h (by decide)) (fun h => ?_)
    refine blk s_X7_leaves_8 (And.intro (ib (show k < 40 by omega)) (nm ?_))
    refine r_X7_leaves_20 (rxe ?_ rfl rfl)
    rw [cl k, (hR k hk).2.2.2.2.2.2.2]
def stW (g : JT) (nx : Nat → Option Nat) (s r : Int32) : Int32 := match ltB s 16, ltB r 4 with
  | true, true => nI (Tx g nx s.toNatClampNeg r.toNatClampNeg)
  | _, _ => -2
theorem ct_X6_step {nx : Nat → Option Nat} (hT : TOk I (Tx J nx)) (s r : Int32) : CN 62 RF mX6_step 1 [.ref 0, .int s, .int r] I J (RX (some (.int (stW J nx s r))) I J) := by
  unfold stW
  refine cn_of (by decide) rfl (Nat.le_of_ble_eq_true rfl) ?_
  refine blk s_X6_step_0 (nm ?_)
  refine c_X6_step_1 (ct_X6_isState s) rfl (by decide) rfl (Nat.le_of_ble_eq_true rfl) (rx ?_)
  cases hs : ltB s 16 with
  | false =>
    refine b_X6_step_4 (fun h => ?_) (fun h => absurd rfl h)
    refine blk s_X6_step_14 (nm ?_)
    exact r_X6_step_16 rxq
  | true =>
    obtain ⟨k, hk, rfl⟩ := lt_ex (N := 16) (by decide) hs
    refine b_X6_step_4 (fun h => absurd h (by decide)) (fun h => ?_)
    refine blk s_X6_step_7 (nm ?_)
    refine c_X6_step_8 (ct_X6_isRow r) rfl (by decide) rfl (Nat.le_of_ble_eq_true rfl) (rx ?_)
    cases hr : ltB r 4 with
    | false =>
      refine b_X6_step_11 (fun h => absurd rfl h) (fun h => ?_)
      refine blk s_X6_step_14 (nm ?_)
      exact r_X6_step_16 rxq
    | true =>
      obtain ⟨q, hq, rfl⟩ := lt_ex (N := 4) (by decide) hr
      refine b_X6_step_11 (fun h => ?_) (fun h => absurd h (by decide))
      refine blk s_X6_step_17 (nm ?_)
      refine c_X6_step_23 (ct_X3_target hk hq) rfl (by decide) rfl (Nat.le_of_ble_eq_true rfl) (by decide) rfl (rx ?_)
      refine r_X6_step_26 (rxe ?_ rfl rfl)
      rw [hT.1 k q hk hq, cl k, cl q]
theorem ct_X7_step {g : JT} {nx : Nat → Option Nat} {os oc : Option Nat} (hB : RB I g C nx os oc) (s r : Int32) : CN 62 RF mX7_step 2 [.ref 39, .int s, .int r] I J (RX (some (.int (stW g nx s r))) I J) := by
  unfold stW
  refine cn_of (by decide) rfl (Nat.le_of_ble_eq_true rfl) ?_
  refine blk s_X7_step_0 (nm ?_)
  refine c_X7_step_1 (ct_X7_isStateC s) rfl (by decide) rfl (Nat.le_of_ble_eq_true rfl) (rx ?_)
  cases hs : ltB s 16 with
  | false =>
    refine b_X7_step_4 (fun h => ?_) (fun h => absurd rfl h)
    refine blk s_X7_step_23 (nm ?_)
    exact r_X7_step_25 rxq
  | true =>
    obtain ⟨k, hk, rfl⟩ := lt_ex (N := 16) (by decide) hs
    refine b_X7_step_4 (fun h => absurd h (by decide)) (fun h => ?_)
    refine blk s_X7_step_7 (nm ?_)
    refine c_X7_step_8 (ct_X7_isRowC r) rfl (by decide) rfl (Nat.le_of_ble_eq_true rfl) (rx ?_)
    cases hr : ltB r 4 with
    | false =>
      refine b_X7_step_11 (fun h => ?_) (fun h => absurd rfl h)
      refine blk s_X7_step_23 (nm ?_)
      exact r_X7_step_25 rxq
    | true =>
      obtain ⟨q, hq, rfl⟩ := lt_ex (N := 4) (by decide) hr
      refine b_X7_step_11 (fun h => absurd h (by decide)) (fun h => ?_)
      refine blk s_X7_step_14 (nm ?_)
      refine c_X7_step_17 (ct_X7_stepOf hB hk hq) rfl (by decide) rfl (Nat.le_of_ble_eq_true rfl) (by decide) rfl (rx ?_)
      refine blk s_X7_step_20 (nm ?_)
      refine r_X7_step_25 (rxe ?_ rfl rfl)
      rw [cl k, cl q]
end PUB1
