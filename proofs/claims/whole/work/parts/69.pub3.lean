/-! PUBLIC METHODS: clear, weak, closed, fault, back -/
section PUB3
variable {I : IT} {J : JT} {g : JT} {C : Nat} {nx : Nat → Option Nat} {os oc : Option Nat} {A : Nat → Bool}
theorem ct_X6_fault : CN 62 RF mX6_fault 0 [.ref 0] I J (RX (some (.int (I 0 7))) I J) := by
  refine cn_of (by decide) rfl (Nat.le_of_ble_eq_true rfl) ?_
  refine blk s_X6_fault_0 (nm ?_)
  exact r_X6_fault_4 rxq
theorem ct_X7_fault : CN 62 RF mX7_fault 0 [.ref 39] I J (RX (some (.int (I 39 0))) I J) := by
  refine cn_of (by decide) rfl (Nat.le_of_ble_eq_true rfl) ?_
  refine blk s_X7_fault_0 (nm ?_)
  exact r_X7_fault_4 rxq
def weV (T : Nat → Nat → Nat) (A B : Nat → Bool) (w : Int32) : Int32 := match wiB w 0 1, decide (w = 0) with
  | false, _ => -2
  | true, true => bs (wkP (rc T) A B)
  | true, false => bs (fun s => A s && !B s)
theorem ct_X6_weak {T : Nat → Nat → Nat} {B : Nat → Bool} (hA : I 19 4 = bs A) (hB : I 11 5 = bs B) (hR : ∀ s, s < 16 → I 14 s = bs (rc T s)) (w : Int32) : CN 62 RF mX6_weak 2 [.ref 0, .int w] I J (RX (some (.int (weV T A B w))) I J) := by
  unfold weV wiB
  refine cn_of (by decide) rfl (Nat.le_of_ble_eq_true rfl) ?_
  refine blk s_X6_weak_0 (nm ?_)
  refine b_X6_weak_1 (fun h => ?_) (fun h => ?_)
  · rw [decide_eq_true h]
    refine blk s_X6_weak_9 (nm ?_)
    exact r_X6_weak_11 rxq
  · rw [decide_eq_false h]
    refine blk s_X6_weak_4 (nm ?_)
    refine b_X6_weak_6 (fun h2 => ?_) (fun h2 => ?_)
    · rw [decide_eq_false (show ¬ (1 : Int32) < w from Int32.not_lt.mpr h2)]
      refine blk s_X6_weak_12 (nm ?_)
      refine b_X6_weak_13 (fun h3 => ?_) (fun h3 => ?_)
      · rw [decide_eq_false h3]
        refine blk s_X6_weak_26 (nm ?_)
        refine c_X6_weak_30 (ct_X2_goodStates hA hB) rfl (by decide) rfl (Nat.le_of_ble_eq_true rfl) (by decide) rfl (rx ?_)
        exact r_X6_weak_33 rxq
      · rw [decide_eq_true h3]
        refine blk s_X6_weak_16 (nm ?_)
        refine c_X6_weak_20 (ct_X2_weakStates hA hB hR) rfl (by decide) rfl (Nat.le_of_ble_eq_true rfl) (by decide) rfl (rx ?_)
        refine blk s_X6_weak_23 (nm ?_)
        exact r_X6_weak_33 rxq
    · rw [decide_eq_true (show (1 : Int32) < w from Int32.not_le.mp h2)]
      refine blk s_X6_weak_9 (nm ?_)
      exact r_X6_weak_11 rxq
theorem ct_X7_weak (hB : RB I g C nx os oc) (hA : RA I A) (w : Int32) : CN 62 RF mX7_weak 5 [.ref 39, .int w] I J (RX (some (.int (weV (Tx g nx) A (Bx g oc) w))) I J) := by
  unfold weV
  refine cn_of (by decide) rfl (Nat.le_of_ble_eq_true rfl) ?_
  refine blk s_X7_weak_0 (nm ?_)
  refine c_X7_weak_3 (ct_X7_within _ _ _) rfl (by decide) rfl (Nat.le_of_ble_eq_true rfl) (rx ?_)
  cases hw : wiB w 0 1 with
  | false =>
    refine b_X7_weak_6 (fun h => absurd rfl h) (fun h => ?_)
    refine blk s_X7_weak_9 (nm ?_)
    exact r_X7_weak_11 rxq
  | true =>
    refine b_X7_weak_6 (fun h => ?_) (fun h => absurd h (by decide))
    refine blk s_X7_weak_12 (nm ?_)
    refine b_X7_weak_13 (fun h3 => ?_) (fun h3 => ?_)
    · rw [decide_eq_false h3]
      refine blk s_X7_weak_23 (nm ?_)
      refine c_X7_weak_24 (ct_X7_goodSet hB hA) rfl (by decide) rfl (Nat.le_of_ble_eq_true rfl) (by decide) rfl (rx ?_)
      exact r_X7_weak_27 rxq
    · rw [decide_eq_true h3]
      refine blk s_X7_weak_16 (nm ?_)
      refine c_X7_weak_17 (ct_X7_weakSet hB hA) rfl (by decide) rfl (Nat.le_of_ble_eq_true rfl) (by decide) rfl (rx ?_)
      refine blk s_X7_weak_20 (nm ?_)
      exact r_X7_weak_27 rxq
def coB (T : Nat → Nat → Nat) (S A B : Nat → Bool) : Bool := decide (bs S &&& (bs (fun s => A s && !B s) ^^^ (-1)) = 0) && decide (bs (wkP (rc T) A B) = 0)
theorem ct_X6_closed {T : Nat → Nat → Nat} {S B : Nat → Bool} (hS : I 11 4 = bs S) (hA : I 19 4 = bs A) (hB : I 11 5 = bs B) (hR : ∀ s, s < 16 → I 14 s = bs (rc T s)) : CN 62 RF mX6_closed 2 [.ref 0] I J (RX (some (.int (b2i (coB T S A B)))) I J) := by
  unfold coB
  refine cn_of (by decide) rfl (Nat.le_of_ble_eq_true rfl) ?_
  refine blk s_X6_closed_0 (nm ?_)
  refine c_X6_closed_11 (ct_X2_goodStates hA hB) rfl (by decide) rfl (Nat.le_of_ble_eq_true rfl) (by decide) rfl (rx ?_)
  refine blk s_X6_closed_14 (nm ?_)
  rw [hS]
  refine b_X6_closed_17 (fun h => ?_) (fun h => ?_)
  · rw [decide_eq_false h]
    refine blk s_X6_closed_24 (nm ?_)
    refine blk s_X6_closed_25 (nm ?_)
    refine b_X6_closed_27 (fun _ => ?_) (fun h2 => absurd rfl h2)
    refine blk s_X6_closed_44 (nm ?_)
    refine c_X6_closed_45 (ct_X6_bit false) rfl (by decide) rfl (Nat.le_of_ble_eq_true rfl) (rx ?_)
    exact r_X6_closed_48 rxq
  · rw [decide_eq_true h]
    refine blk s_X6_closed_20 (nm ?_)
    refine blk s_X6_closed_25 (nm ?_)
    refine b_X6_closed_27 (fun h2 => absurd h2 (by decide)) (fun _ => ?_)
    refine blk s_X6_closed_30 (nm ?_)
    refine c_X6_closed_34 (ct_X2_weakStates hA hB hR) rfl (by decide) rfl (Nat.le_of_ble_eq_true rfl) (by decide) rfl (rx ?_)
    refine b_X6_closed_37 (fun h2 => ?_) (fun h2 => ?_)
    · rw [decide_eq_false h2]
      refine blk s_X6_closed_44 (nm ?_)
      refine c_X6_closed_45 (ct_X6_bit false) rfl (by decide) rfl (Nat.le_of_ble_eq_true rfl) (rx ?_)
      exact r_X6_closed_48 rxq
    · rw [decide_eq_true h2]
      refine blk s_X6_closed_40 (nm ?_)
      refine c_X6_closed_45 (ct_X6_bit true) rfl (by decide) rfl (Nat.le_of_ble_eq_true rfl) (rx ?_)
      exact r_X6_closed_48 rxq
theorem ct_X7_closed (hB : RB I g C nx os oc) (hA : RA I A) : CN 62 RF mX7_closed 5 [.ref 39] I J (RX (some (.int (b2i (coB (Tx g nx) (Sx g os) A (Bx g oc))))) I J) := by
  unfold coB
  refine cn_of (by decide) rfl (Nat.le_of_ble_eq_true rfl) ?_
  refine blk s_X7_closed_0 (nm ?_)
  refine c_X7_closed_1 (ct_X7_startSet hB) rfl (by decide) rfl (Nat.le_of_ble_eq_true rfl) (by decide) rfl (rx ?_)
  refine blk s_X7_closed_4 (nm ?_)
  refine c_X7_closed_5 (ct_X7_goodSet hB hA) rfl (by decide) rfl (Nat.le_of_ble_eq_true rfl) (by decide) rfl (rx ?_)
  refine blk s_X7_closed_8 (nm ?_)
  refine b_X7_closed_11 (fun h => ?_) (fun h => ?_)
  · rw [decide_eq_false h]
    refine blk s_X7_closed_25 (nm ?_)
    exact r_X7_closed_26 rxq
  · rw [decide_eq_true h]
    refine blk s_X7_closed_14 (nm ?_)
    refine c_X7_closed_15 (ct_X7_weakSet hB hA) rfl (by decide) rfl (Nat.le_of_ble_eq_true rfl) (by decide) rfl (rx ?_)
    refine b_X7_closed_18 (fun h2 => ?_) (fun h2 => ?_)
    · rw [decide_eq_false h2]
      refine blk s_X7_closed_25 (nm ?_)
      exact r_X7_closed_26 rxq
    · rw [decide_eq_true h2]
      refine blk s_X7_closed_21 (nm ?_)
      exact r_X7_closed_26 rxq
def clV (ow : Option Nat) (k : Int32) : Int32 := match wiB k 0 16 with
  | false => -2
  | true => b2i (clB (o2i ow) k)
theorem ct_X6_clear {ow : Option Nat} (hl : lbv I = o2i ow) (k : Int32) : CN 62 RF mX6_clear 3 [.ref 0, .int k] I J (RX (some (.int (clV ow k))) I J) := by
  unfold clV wiB
  refine cn_of (by decide) rfl (Nat.le_of_ble_eq_true rfl) ?_
  refine blk s_X6_clear_0 (nm ?_)
  refine b_X6_clear_1 (fun h => ?_) (fun h => ?_)
  · rw [decide_eq_true h]
    refine blk s_X6_clear_10 (nm ?_)
    exact r_X6_clear_12 rxq
  · rw [decide_eq_false h]
    refine blk s_X6_clear_4 (nm ?_)
    refine b_X6_clear_7 (fun h2 => ?_) (fun h2 => ?_)
    · rw [decide_eq_false (show ¬ (16 : Int32) < k from Int32.not_lt.mpr h2)]
      refine blk s_X6_clear_13 (nm ?_)
      refine c_X6_clear_18 (ct_X3_isClear k) rfl (by decide) rfl (Nat.le_of_ble_eq_true rfl) (by decide) rfl (rx ?_)
      refine c_X6_clear_21 (ct_X6_bit _) rfl (by decide) rfl (Nat.le_of_ble_eq_true rfl) (rx ?_)
      rw [hl]
      exact r_X6_clear_24 rxq
    · rw [decide_eq_true (show (16 : Int32) < k from Int32.not_le.mp h2)]
      refine blk s_X6_clear_10 (nm ?_)
      exact r_X6_clear_12 rxq
theorem ct_X7_clear (hB : RB I g C nx os oc) (k : Int32) : CN 62 RF mX7_clear 5 [.ref 39, .int k] I J (QM (clV (lwX (rc (Tx g nx)) (Sx g os) (Bx g oc)) k) I J) := by
  unfold clV
  refine cn_of (by decide) rfl (Nat.le_of_ble_eq_true rfl) ?_
  refine blk s_X7_clear_0 (nm ?_)
  refine c_X7_clear_4 (ct_X7_within _ _ _) rfl (by decide) rfl (Nat.le_of_ble_eq_true rfl) (rx ?_)
  cases hw : wiB k 0 16 with
  | false =>
    refine b_X7_clear_7 (fun h => absurd rfl h) (fun h => ?_)
    refine blk s_X7_clear_10 (nm ?_)
    exact r_X7_clear_12 ⟨rfl, rfl, FM_r I⟩
  | true =>
    refine b_X7_clear_7 (fun h => ?_) (fun h => absurd h (by decide))
    refine blk s_X7_clear_13 (nm ?_)
    refine c_X7_clear_15 (ct_X7_isClear hB k) rfl (by decide) rfl (Nat.le_of_ble_eq_true rfl) (by decide) rfl (rx ?_)
    refine b_X7_clear_18 (fun h2 => ?_) (fun h2 => ?_)
    · refine blk s_X7_clear_25 (nm ?_)
      exact r_X7_clear_26 ⟨by rw [(b2i_0 _).mp h2]; rfl, rfl, FM_fa I _⟩
    · refine blk s_X7_clear_21 (nm ?_)
      exact r_X7_clear_26 ⟨by rw [b2t h2]; rfl, rfl, FM_fa I _⟩
end PUB3
