/-! CONTRACTS of the class: the small ones -/
abbrev ret0 (v : Value) (I : IT) (J : JT) : IQ := fun r I' J' => r = some v ∧ I' = I ∧ J' = J
def b2i (b : Bool) : Int32 := match b with
  | true => 1
  | false => 0
def inS (k x : Int32) : Bool := decide ((x >>> (k &&& 31)) &&& 1 = 1)
theorem ct_X6_isIn {n : Nat} {R : RT} {I : IT} {J : JT} (k x : Int32) : CN n R mX6_isIn 0 [.int k, .int x] I J (ret0 (.int (b2i (inS k x))) I J) := by
  refine cn_of (by decide) rfl (Nat.le_of_ble_eq_true rfl) ?_
  refine blk s_X6_isIn_0 ?_
  refine b_X6_isIn_6 (fun h => ?_) (fun h => ?_)
  · refine blk s_X6_isIn_13 ?_
    refine r_X6_isIn_14 (Or.inl rfl) ⟨?_, rfl, rfl⟩
    unfold inS
    rw [decide_eq_false h]
    rfl
  · refine blk s_X6_isIn_9 ?_
    refine r_X6_isIn_14 (Or.inr rfl) ⟨?_, rfl, rfl⟩
    unfold inS
    rw [decide_eq_true h]
    rfl
def hasT (I : IT) (t : Int32) : Bool := decide (0 ≤ t) && decide (t < I 1 9)
theorem ct_X4_has {I : IT} {J : JT} (t : Int32) : CN 62 RF mX4_has 0 [.ref 1, .int t] I J (ret0 (.int (b2i (hasT I t))) I J) := by
  refine cn_of (by decide) rfl (Nat.le_of_ble_eq_true rfl) ?_
  refine blk s_X4_has_0 ?_
  refine b_X4_has_1 (fun h => ?_) (fun h => ?_)
  · refine blk s_X4_has_16 ?_
    refine r_X4_has_17 (Or.inl rfl) ⟨?_, rfl, rfl⟩
    unfold hasT
    rw [decide_eq_false (fun h2 => by exact absurd h (Int32.not_lt.mpr h2))]
    rfl
  · refine blk s_X4_has_4 ?_
    refine b_X4_has_9 (fun h2 => ?_) (fun h2 => ?_)
    · refine blk s_X4_has_16 ?_
      refine r_X4_has_17 (Or.inl rfl) ⟨?_, rfl, rfl⟩
      unfold hasT
      rw [decide_eq_false (fun h3 => by exact absurd h3 (Int32.not_lt.mpr h2)), Bool.and_false]
      rfl
    · refine blk s_X4_has_12 ?_
      refine r_X4_has_17 (Or.inr rfl) ⟨?_, rfl, rfl⟩
      unfold hasT
      rw [decide_eq_true (Int32.not_lt.mp h), decide_eq_true (Int32.not_le.mp h2)]
      rfl
def tsX (J : JT) (t row : Int32) : Int32 := ((J 10 t.toNatClampNeg).toUInt64 >>> ((16 * row).toInt64.toUInt64 &&& Int64.toUInt64 63)).toInt64.toInt32 &&& 65535
theorem ct_X4_trueStates {I : IT} {J : JT} (t row : Int32) (ht : vp_in t 40) : CN 62 RF mX4_trueStates 0 [.ref 1, .int t, .int row] I J (ret0 (.int (tsX J t row)) I J) := by
  refine cn_of (by decide) rfl (Nat.le_of_ble_eq_true rfl) ?_
  refine blk s_X4_trueStates_0 (And.intro ht ?_)
  exact r_X4_trueStates_15 ⟨rfl, rfl, rfl⟩
def tgX (I : IT) (s row : Int32) : Int32 := I 13 (16 * row + s).toNatClampNeg
theorem ct_X3_target {I : IT} {J : JT} (s row : Int32) (h : vp_in (16 * row + s) 64) : CN 62 RF mX3_target 0 [.ref 11, .int s, .int row] I J (ret0 (.int (tgX I s row)) I J) := by
  refine cn_of (by decide) rfl (Nat.le_of_ble_eq_true rfl) ?_
  refine blk s_X3_target_0 (And.intro h ?_)
  exact r_X3_target_11 ⟨rfl, rfl, rfl⟩
def ntX (I : IT) (J : JT) (v : Nat) : Int64 := if hasT I (I 12 v) then J 10 (I 12 v).toNatClampNeg else stJ 2 v
theorem ct_X3_nextTable {I : IT} {J : JT} (v : Nat) (hv : v < 4) (hc : hasT I (I 12 v) = true → vp_in (I 12 v) 40) : CN 62 RF mX3_nextTable 1 [.ref 11, .int (nI v)] I J (ret0 (.long (ntX I J v)) I J) := by
  have e : (nI v).toNatClampNeg = v := nI_clamp (by omega)
  refine cn_of (by decide) rfl (Nat.le_of_ble_eq_true rfl) ?_
  refine blk s_X3_nextTable_0 (And.intro (vp_in_nI hv (by decide)) ?_)
  rw [e]
  refine c_X3_nextTable_12 (ct_X4_has _) rfl (by decide) rfl (by decide) (by decide) rfl (fun r I' J' h => ?_)
  obtain ⟨rfl, rfl, rfl⟩ := h
  refine b_X3_nextTable_15 (fun h => ?_) (fun h => ?_)
  · refine blk s_X3_nextTable_30 (And.intro (vp_in_nI hv (by decide)) ?_)
    refine r_X3_nextTable_35 ⟨?_, rfl, rfl⟩
    sorry
  · refine blk s_X3_nextTable_18 (And.intro ?_ ?_)
    · sorry
    · refine r_X3_nextTable_35 ⟨?_, rfl, rfl⟩
      sorry
