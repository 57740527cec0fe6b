/-! BOXES: becomeLike; the reference's goesTo, manyBoxes -/
section BOXY
variable {I : IT} {J : JT}
def blI (I : IT) (b q : Nat) : IT := fl (up2 (up2 I (bO b) 1 (I (bO q) 1)) (bO b) 2 (I (bO q) 2)) (bP b) (fun i => I (bP q) i) 8
theorem bl_00 : CN 62 RF mX0_becomeLike 0 [.ref 30, .ref 30] I J (RX none (blI I 0 0) J) := by
  refine cn_of (by decide) rfl (Nat.le_of_ble_eq_true rfl) ?_
  refine blk s_X0_becomeLike_0 (nm ?_)
  have e2 : up2 I 30 1 (I 30 1) 30 2 = I 30 2 := by rw [up2_k (by decide)]
  rw [e2]
  refine en_I (fl_0 (I := up2 (up2 I 30 1 (I 30 1)) 30 2 (I 30 2)) (o := 31) (g := fun i => I 31 i)).symm ?_
  refine dn (P := fun k => EN 62 RF mX0_becomeLike 0 18 [(0, .ref 30), (1, .ref 30), (2, .int (nI k))] [] (fl (up2 (up2 I 30 1 (I 30 1)) 30 2 (I 30 2)) 31 (fun i => I 31 i) k) J (RX none (fl (up2 (up2 I 30 1 (I 30 1)) 30 2 (I 30 2)) 31 (fun i => I 31 i) 8) J)) (N := 8) (a := 0) ?_ ?_ (Nat.zero_le _)
  · refine blk s_X0_becomeLike_18 (nm ?_)
    refine b_X0_becomeLike_21 (fun h => ?_) (fun h => absurd (Int32.le_refl _) h)
    exact r_X0_becomeLike_42 rxq
  · intro k hk ih
    refine blk s_X0_becomeLike_18 (nm ?_)
    refine b_X0_becomeLike_21 (fun h => absurd h (nI_ge hk (by decide))) (fun h => ?_)
    refine blk s_X0_becomeLike_24 (And.intro (ib hk) (And.intro (ib hk) (nm ?_)))
    rw [cl k, fl_s (by rw [fl_out (by omega), up2_o (by decide), up2_o (by decide)])]
    exact en_L (by rw [nI_s]) ih
theorem bl_01 : CN 62 RF mX0_becomeLike 0 [.ref 30, .ref 32] I J (RX none (blI I 0 1) J) := by
  refine cn_of (by decide) rfl (Nat.le_of_ble_eq_true rfl) ?_
  refine blk s_X0_becomeLike_0 (nm ?_)
  have e2 : up2 I 30 1 (I 32 1) 32 2 = I 32 2 := by rw [up2_o (by decide)]
  rw [e2]
  refine en_I (fl_0 (I := up2 (up2 I 30 1 (I 32 1)) 30 2 (I 32 2)) (o := 31) (g := fun i => I 33 i)).symm ?_
  refine dn (P := fun k => EN 62 RF mX0_becomeLike 0 18 [(0, .ref 30), (1, .ref 32), (2, .int (nI k))] [] (fl (up2 (up2 I 30 1 (I 32 1)) 30 2 (I 32 2)) 31 (fun i => I 33 i) k) J (RX none (fl (up2 (up2 I 30 1 (I 32 1)) 30 2 (I 32 2)) 31 (fun i => I 33 i) 8) J)) (N := 8) (a := 0) ?_ ?_ (Nat.zero_le _)
  · refine blk s_X0_becomeLike_18 (nm ?_)
    refine b_X0_becomeLike_21 (fun h => ?_) (fun h => absurd (Int32.le_refl _) h)
    exact r_X0_becomeLike_42 rxq
  · intro k hk ih
    refine blk s_X0_becomeLike_18 (nm ?_)
    refine b_X0_becomeLike_21 (fun h => absurd h (nI_ge hk (by decide))) (fun h => ?_)
    refine blk s_X0_becomeLike_24 (And.intro (ib hk) (And.intro (ib hk) (nm ?_)))
    rw [cl k, fl_s (by rw [fl_o (by decide), up2_o (by decide), up2_o (by decide)])]
    exact en_L (by rw [nI_s]) ih
theorem bl_02 : CN 62 RF mX0_becomeLike 0 [.ref 30, .ref 34] I J (RX none (blI I 0 2) J) := by
  refine cn_of (by decide) rfl (Nat.le_of_ble_eq_true rfl) ?_
  refine blk s_X0_becomeLike_0 (nm ?_)
  have e2 : up2 I 30 1 (I 34 1) 34 2 = I 34 2 := by rw [up2_o (by decide)]
  rw [e2]
  refine en_I (fl_0 (I := up2 (up2 I 30 1 (I 34 1)) 30 2 (I 34 2)) (o := 31) (g := fun i => I 35 i)).symm ?_
  refine dn (P := fun k => EN 62 RF mX0_becomeLike 0 18 [(0, .ref 30), (1, .ref 34), (2, .int (nI k))] [] (fl (up2 (up2 I 30 1 (I 34 1)) 30 2 (I 34 2)) 31 (fun i => I 35 i) k) J (RX none (fl (up2 (up2 I 30 1 (I 34 1)) 30 2 (I 34 2)) 31 (fun i => I 35 i) 8) J)) (N := 8) (a := 0) ?_ ?_ (Nat.zero_le _)
  · refine blk s_X0_becomeLike_18 (nm ?_)
    refine b_X0_becomeLike_21 (fun h => ?_) (fun h => absurd (Int32.le_refl _) h)
    exact r_X0_becomeLike_42 rxq
  · intro k hk ih
    refine blk s_X0_becomeLike_18 (nm ?_)
    refine b_X0_becomeLike_21 (fun h => absurd h (nI_ge hk (by decide))) (fun h => ?_)
    refine blk s_X0_becomeLike_24 (And.intro (ib hk) (And.intro (ib hk) (nm ?_)))
    rw [cl k, fl_s (by rw [fl_o (by decide), up2_o (by decide), up2_o (by decide)])]
    exact en_L (by rw [nI_s]) ih
theorem bl_03 : CN 62 RF mX0_becomeLike 0 [.ref 30, .ref 36] I J (RX none (blI I 0 3) J) := by
  refine cn_of (by decide) rfl (Nat.le_of_ble_eq_true rfl) ?_
  refine blk s_X0_becomeLike_0 (nm ?_)
  have e2 : up2 I 30 1 (I 36 1) 36 2 = I 36 2 := by rw [up2_o (by decide)]
  rw [e2]
  refine en_I (fl_0 (I := up2 (up2 I 30 1 (I 36 1)) 30 2 (I 36 2)) (o := 31) (g := fun i => I 37 i)).symm ?_
  refine dn (P := fun k => EN 62 RF mX0_becomeLike 0 18 [(0, .ref 30), (1, .ref 36), (2, .int (nI k))] [] (fl (up2 (up2 I 30 1 (I 36 1)) 30 2 (I 36 2)) 31 (fun i => I 37 i) k) J (RX none (fl (up2 (up2 I 30 1 (I 36 1)) 30 2 (I 36 2)) 31 (fun i => I 37 i) 8) J)) (N := 8) (a := 0) ?_ ?_ (Nat.zero_le _)
  · refine blk s_X0_becomeLike_18 (nm ?_)
    refine b_X0_becomeLike_21 (fun h => ?_) (fun h => absurd (Int32.le_refl _) h)
    exact r_X0_becomeLike_42 rxq
  · intro k hk ih
    refine blk s_X0_becomeLike_18 (nm ?_)
    refine b_X0_becomeLike_21 (fun h => absurd h (nI_ge hk (by decide))) (fun h => ?_)
    refine blk s_X0_becomeLike_24 (And.intro (ib hk) (And.intro (ib hk) (nm ?_)))
    rw [cl k, fl_s (by rw [fl_o (by decide), up2_o (by decide), up2_o (by decide)])]
    exact en_L (by rw [nI_s]) ih
theorem bl_10 : CN 62 RF mX0_becomeLike 0 [.ref 32, .ref 30] I J (RX none (blI I 1 0) J) := by
  refine cn_of (by decide) rfl (Nat.le_of_ble_eq_true rfl) ?_
  refine blk s_X0_becomeLike_0 (nm ?_)
  have e2 : up2 I 32 1 (I 30 1) 30 2 = I 30 2 := by rw [up2_o (by decide)]
  rw [e2]
  refine en_I (fl_0 (I := up2 (up2 I 32 1 (I 30 1)) 32 2 (I 30 2)) (o := 33) (g := fun i => I 31 i)).symm ?_
  refine dn (P := fun k => EN 62 RF mX0_becomeLike 0 18 [(0, .ref 32), (1, .ref 30), (2, .int (nI k))] [] (fl (up2 (up2 I 32 1 (I 30 1)) 32 2 (I 30 2)) 33 (fun i => I 31 i) k) J (RX none (fl (up2 (up2 I 32 1 (I 30 1)) 32 2 (I 30 2)) 33 (fun i => I 31 i) 8) J)) (N := 8) (a := 0) ?_ ?_ (Nat.zero_le _)
  · refine blk s_X0_becomeLike_18 (nm ?_)
    refine b_X0_becomeLike_21 (fun h => ?_) (fun h => absurd (Int32.le_refl _) h)
    exact r_X0_becomeLike_42 rxq
  · intro k hk ih
    refine blk s_X0_becomeLike_18 (nm ?_)
    refine b_X0_becomeLike_21 (fun h => absurd h (nI_ge hk (by decide))) (fun h => ?_)
    refine blk s_X0_becomeLike_24 (And.intro (ib hk) (And.intro (ib hk) (nm ?_)))
    rw [cl k, fl_s (by rw [fl_o (by decide), up2_o (by decide), up2_o (by decide)])]
    exact en_L (by rw [nI_s]) ih
theorem bl_11 : CN 62 RF mX0_becomeLike 0 [.ref 32, .ref 32] I J (RX none (blI I 1 1) J) := by
  refine cn_of (by decide) rfl (Nat.le_of_ble_eq_true rfl) ?_
  refine blk s_X0_becomeLike_0 (nm ?_)
  have e2 : up2 I 32 1 (I 32 1) 32 2 = I 32 2 := by rw [up2_k (by decide)]
  rw [e2]
  refine en_I (fl_0 (I := up2 (up2 I 32 1 (I 32 1)) 32 2 (I 32 2)) (o := 33) (g := fun i => I 33 i)).symm ?_
  refine dn (P := fun k => EN 62 RF mX0_becomeLike 0 18 [(0, .ref 32), (1, .ref 32), (2, .int (nI k))] [] (fl (up2 (up2 I 32 1 (I 32 1)) 32 2 (I 32 2)) 33 (fun i => I 33 i) k) J (RX none (fl (up2 (up2 I 32 1 (I 32 1)) 32 2 (I 32 2)) 33 (fun i => I 33 i) 8) J)) (N := 8) (a := 0) ?_ ?_ (Nat.zero_le _)
  · refine blk s_X0_becomeLike_18 (nm ?_)
    refine b_X0_becomeLike_21 (fun h => ?_) (fun h => absurd (Int32.le_refl _) h)
    exact r_X0_becomeLike_42 rxq
  · intro k hk ih
    refine blk s_X0_becomeLike_18 (nm ?_)
    refine b_X0_becomeLike_21 (fun h => absurd h (nI_ge hk (by decide))) (fun h => ?_)
    refine blk s_X0_becomeLike_24 (And.intro (ib hk) (And.intro (ib hk) (nm ?_)))
    rw [cl k, fl_s (by rw [fl_out (by omega), up2_o (by decide), up2_o (by decide)])]
    exact en_L (by rw [nI_s]) ih
theorem bl_12 : CN 62 RF mX0_becomeLike 0 [.ref 32, .ref 34] I J (RX none (blI I 1 2) J) := by
  refine cn_of (by decide) rfl (Nat.le_of_ble_eq_true rfl) ?_
  refine blk s_X0_becomeLike_0 (nm ?_)
  have e2 : up2 I 32 1 (I 34 1) 34 2 = I 34 2 := by rw [up2_o (by decide)]
  rw [e2]
  refine en_I (fl_0 (I := up2 (up2 I 32 1 (I 34 1)) 32 2 (I 34 2)) (o := 33) (g := fun i => I 35 i)).symm ?_
  refine dn (P := fun k => EN 62 RF mX0_becomeLike 0 18 [(0, .ref 32), (1, .ref 34), (2, .int (nI k))] [] (fl (up2 (up2 I 32 1 (I 34 1)) 32 2 (I 34 2)) 33 (fun i => I 35 i) k) J (RX none (fl (up2 (up2 I 32 1 (I 34 1)) 32 2 (I 34 2)) 33 (fun i => I 35 i) 8) J)) (N := 8) (a := 0) ?_ ?_ (Nat.zero_le _)
  · refine blk s_X0_becomeLike_18 (nm ?_)
    refine b_X0_becomeLike_21 (fun h => ?_) (fun h => absurd (Int32.le_refl _) h)
    exact r_X0_becomeLike_42 rxq
  · intro k hk ih
    refine blk s_X0_becomeLike_18 (nm ?_)
    refine b_X0_becomeLike_21 (fun h => absurd h (nI_ge hk (by decide))) (fun h => ?_)
    refine blk s_X0_becomeLike_24 (And.intro (ib hk) (And.intro (ib hk) (nm ?_)))
    rw [cl k, fl_s (by rw [fl_o (by decide), up2_o (by decide), up2_o (by decide)])]
    exact en_L (by rw [nI_s]) ih
theorem bl_13 : CN 62 RF mX0_becomeLike 0 [.ref 32, .ref 36] I J (RX none (blI I 1 3) J) := by
  refine cn_of (by decide) rfl (Nat.le_of_ble_eq_true rfl) ?_
  refine blk s_X0_becomeLike_0 (nm ?_)
  have e2 : up2 I 32 1 (I 36 1) 36 2 = I 36 2 := by rw [up2_o (by decide)]
  rw [e2]
  refine en_I (fl_0 (I := up2 (up2 I 32 1 (I 36 1)) 32 2 (I 36 2)) (o := 33) (g := fun i => I 37 i)).symm ?_
  refine dn (P := fun k => EN 62 RF mX0_becomeLike 0 18 [(0, .ref 32), (1, .ref 36), (2, .int (nI k))] [] (fl (up2 (up2 I 32 1 (I 36 1)) 32 2 (I 36 2)) 33 (fun i => I 37 i) k) J (RX none (fl (up2 (up2 I 32 1 (I 36 1)) 32 2 (I 36 2)) 33 (fun i => I 37 i) 8) J)) (N := 8) (a := 0) ?_ ?_ (Nat.zero_le _)
  · refine blk s_X0_becomeLike_18 (nm ?_)
    refine b_X0_becomeLike_21 (fun h => ?_) (fun h => absurd (Int32.le_refl _) h)
    exact r_X0_becomeLike_42 rxq
  · intro k hk ih
    refine blk s_X0_becomeLike_18 (nm ?_)
    refine b_X0_becomeLike_21 (fun h => absurd h (nI_ge hk (by decide))) (fun h => ?_)
    refine blk s_X0_becomeLike_24 (And.intro (ib hk) (And.intro (ib hk) (nm ?_)))
    rw [cl k, fl_s (by rw [fl_o (by decide), up2_o (by decide), up2_o (by decide)])]
    exact en_L (by rw [nI_s]) ih
theorem bl_20 : CN 62 RF mX0_becomeLike 0 [.ref 34, .ref 30] I J (RX none (blI I 2 0) J) := by
  refine cn_of (by decide) rfl (Nat.le_of_ble_eq_true rfl) ?_
  refine blk s_X0_becomeLike_0 (nm ?_)
  have e2 : up2 I 34 1 (I 30 1) 30 2 = I 30 2 := by rw [up2_o (by decide)]
  rw [e2]
  refine en_I (fl_0 (I := up2 (up2 I 34 1 (I 30 1)) 34 2 (I 30 2)) (o := 35) (g := fun i => I 31 i)).symm ?_
  refine dn (P := fun k => EN 62 RF mX0_becomeLike 0 18 [(0, .ref 34), (1, .ref 30), (2, .int (nI k))] [] (fl (up2 (up2 I 34 1 (I 30 1)) 34 2 (I 30 2)) 35 (fun i => I 31 i) k) J (RX none (fl (up2 (up2 I 34 1 (I 30 1)) 34 2 (I 30 2)) 35 (fun i => I 31 i) 8) J)) (N := 8) (a := 0) ?_ ?_ (Nat.zero_le _)
  · refine blk s_X0_becomeLike_18 (nm ?_)
    refine b_X0_becomeLike_21 (fun h => ?_) (fun h => absurd (Int32.le_refl _) h)
    exact r_X0_becomeLike_42 rxq
  · intro k hk ih
    refine blk s_X0_becomeLike_18 (nm ?_)
    refine b_X0_becomeLike_21 (fun h => absurd h (nI_ge hk (by decide))) (fun h => ?_)
    refine blk s_X0_becomeLike_24 (And.intro (ib hk) (And.intro (ib hk) (nm ?_)))
    rw [cl k, fl_s (by rw [fl_o (by decide), up2_o (by decide), up2_o (by decide)])]
    exact en_L (by rw [nI_s]) ih
theorem bl_21 : CN 62 RF mX0_becomeLike 0 [.ref 34, .ref 32] I J (RX none (blI I 2 1) J) := by
  refine cn_of (by decide) rfl (Nat.le_of_ble_eq_true rfl) ?_
  refine blk s_X0_becomeLike_0 (nm ?_)
  have e2 : up2 I 34 1 (I 32 1) 32 2 = I 32 2 := by rw [up2_o (by decide)]
  rw [e2]
  refine en_I (fl_0 (I := up2 (up2 I 34 1 (I 32 1)) 34 2 (I 32 2)) (o := 35) (g := fun i => I 33 i)).symm ?_
  refine dn (P := fun k => EN 62 RF mX0_becomeLike 0 18 [(0, .ref 34), (1, .ref 32), (2, .int (nI k))] [] (fl (up2 (up2 I 34 1 (I 32 1)) 34 2 (I 32 2)) 35 (fun i => I 33 i) k) J (RX none (fl (up2 (up2 I 34 1 (I 32 1)) 34 2 (I 32 2)) 35 (fun i => I 33 i) 8) J)) (N := 8) (a := 0) ?_ ?_ (Nat.zero_le _)
  · refine blk s_X0_becomeLike_18 (nm ?_)
    refine b_X0_becomeLike_21 (fun h => ?_) (fun h => absurd (Int32.le_refl _) h)
    exact r_X0_becomeLike_42 rxq
  · intro k hk ih
    refine blk s_X0_becomeLike_18 (nm ?_)
    refine b_X0_becomeLike_21 (fun h => absurd h (nI_ge hk (by decide))) (fun h => ?_)
    refine blk s_X0_becomeLike_24 (And.intro (ib hk) (And.intro (ib hk) (nm ?_)))
    rw [cl k, fl_s (by rw [fl_o (by decide), up2_o (by decide), up2_o (by decide)])]
    exact en_L (by rw [nI_s]) ih
theorem bl_22 : CN 62 RF mX0_becomeLike 0 [.ref 34, .ref 34] I J (RX none (blI I 2 2) J) := by
  refine cn_of (by decide) rfl (Nat.le_of_ble_eq_true rfl) ?_
  refine blk s_X0_becomeLike_0 (nm ?_)
  have e2 : up2 I 34 1 (I 34 1) 34 2 = I 34 2 := by rw [up2_k (by decide)]
  rw [e2]
  refine en_I (fl_0 (I := up2 (up2 I 34 1 (I 34 1)) 34 2 (I 34 2)) (o := 35) (g := fun i => I 35 i)).symm ?_
  refine dn (P := fun k => EN 62 RF mX0_becomeLike 0 18 [(0, .ref 34), (1, .ref 34), (2, .int (nI k))] [] (fl (up2 (up2 I 34 1 (I 34 1)) 34 2 (I 34 2)) 35 (fun i => I 35 i) k) J (RX none (fl (up2 (up2 I 34 1 (I 34 1)) 34 2 (I 34 2)) 35 (fun i => I 35 i) 8) J)) (N := 8) (a := 0) ?_ ?_ (Nat.zero_le _)
  · refine blk s_X0_becomeLike_18 (nm ?_)
    refine b_X0_becomeLike_21 (fun h => ?_) (fun h => absurd (Int32.le_refl _) h)
    exact r_X0_becomeLike_42 rxq
  · intro k hk ih
    refine blk s_X0_becomeLike_18 (nm ?_)
    refine b_X0_becomeLike_21 (fun h => absurd h (nI_ge hk (by decide))) (fun h => ?_)
    refine blk s_X0_becomeLike_24 (And.intro (ib hk) (And.intro (ib hk) (nm ?_)))
    rw [cl k, fl_s (by rw [fl_out (by omega), up2_o (by decide), up2_o (by decide)])]
    exact en_L (by rw [nI_s]) ih
theorem bl_23 : CN 62 RF mX0_becomeLike 0 [.ref 34, .ref 36] I J (RX none (blI I 2 3) J) := by
  refine cn_of (by decide) rfl (Nat.le_of_ble_eq_true rfl) ?_
  refine blk s_X0_becomeLike_0 (nm ?_)
  have e2 : up2 I 34 1 (I 36 1) 36 2 = I 36 2 := by rw [up2_o (by decide)]
  rw [e2]
  refine en_I (fl_0 (I := up2 (up2 I 34 1 (I 36 1)) 34 2 (I 36 2)) (o := 35) (g := fun i => I 37 i)).symm ?_
  refine dn (P := fun k => EN 62 RF mX0_becomeLike 0 18 [(0, .ref 34), (1, .ref 36), (2, .int (nI k))] [] (fl (up2 (up2 I 34 1 (I 36 1)) 34 2 (I 36 2)) 35 (fun i => I 37 i) k) J (RX none (fl (up2 (up2 I 34 1 (I 36 1)) 34 2 (I 36 2)) 35 (fun i => I 37 i) 8) J)) (N := 8) (a := 0) ?_ ?_ (Nat.zero_le _)
  · refine blk s_X0_becomeLike_18 (nm ?_)
    refine b_X0_becomeLike_21 (fun h => ?_) (fun h => absurd (Int32.le_refl _) h)
    exact r_X0_becomeLike_42 rxq
  · intro k hk ih
    refine blk s_X0_becomeLike_18 (nm ?_)
    refine b_X0_becomeLike_21 (fun h => absurd h (nI_ge hk (by decide))) (fun h => ?_)
    refine blk s_X0_becomeLike_24 (And.intro (ib hk) (And.intro (ib hk) (nm ?_)))
    rw [cl k, fl_s (by rw [fl_o (by decide), up2_o (by decide), up2_o (by decide)])]
    exact en_L (by rw [nI_s]) ih
theorem bl_30 : CN 62 RF mX0_becomeLike 0 [.ref 36, .ref 30] I J (RX none (blI I 3 0) J) := by
  refine cn_of (by decide) rfl (Nat.le_of_ble_eq_true rfl) ?_
  refine blk s_X0_becomeLike_0 (nm ?_)
  have e2 : up2 I 36 1 (I 30 1) 30 2 = I 30 2 := by rw [up2_o (by decide)]
  rw [e2]
  refine en_I (fl_0 (I := up2 (up2 I 36 1 (I 30 1)) 36 2 (I 30 2)) (o := 37) (g := fun i => I 31 i)).symm ?_
  refine dn (P := fun k => EN 62 RF mX0_becomeLike 0 18 [(0, .ref 36), (1, .ref 30), (2, .int (nI k))] [] (fl (up2 (up2 I 36 1 (I 30 1)) 36 2 (I 30 2)) 37 (fun i => I 31 i) k) J (RX none (fl (up2 (up2 I 36 1 (I 30 1)) 36 2 (I 30 2)) 37 (fun i => I 31 i) 8) J)) (N := 8) (a := 0) ?_ ?_ (Nat.zero_le _)
  · refine blk s_X0_becomeLike_18 (nm ?_)
    refine b_X0_becomeLike_21 (fun h => ?_) (fun h => absurd (Int32.le_refl _) h)
    exact r_X0_becomeLike_42 rxq
  · intro k hk ih
    refine blk s_X0_becomeLike_18 (nm ?_)
    refine b_X0_becomeLike_21 (fun h => absurd h (nI_ge hk (by decide))) (fun h => ?_)
    refine blk s_X0_becomeLike_24 (And.intro (ib hk) (And.intro (ib hk) (nm ?_)))
    rw [cl k, fl_s (by rw [fl_o (by decide), up2_o (by decide), up2_o (by decide)])]
    exact en_L (by rw [nI_s]) ih
theorem bl_31 : CN 62 RF mX0_becomeLike 0 [.ref 36, .ref 32] I J (RX none (blI I 3 1) J) := by
  refine cn_of (by decide) rfl (Nat.le_of_ble_eq_true rfl) ?_
  refine blk s_X0_becomeLike_0 (nm ?_)
  have e2 : up2 I 36 1 (I 32 1) 32 2 = I 32 2 := by rw [up2_o (by decide)]
  rw [e2]
  refine en_I (fl_0 (I := up2 (up2 I 36 1 (I 32 1)) 36 2 (I 32 2)) (o := 37) (g := fun i => I 33 i)).symm ?_
  refine dn (P := fun k => EN 62 RF mX0_becomeLike 0 18 [(0, .ref 36), (1, .ref 32), (2, .int (nI k))] [] (fl (up2 (up2 I 36 1 (I 32 1)) 36 2 (I 32 2)) 37 (fun i => I 33 i) k) J (RX none (fl (up2 (up2 I 36 1 (I 32 1)) 36 2 (I 32 2)) 37 (fun i => I 33 i) 8) J)) (N := 8) (a := 0) ?_ ?_ (Nat.zero_le _)
  · refine blk s_X0_becomeLike_18 (nm ?_)
    refine b_X0_becomeLike_21 (fun h => ?_) (fun h => absurd (Int32.le_refl _) h)
    exact r_X0_becomeLike_42 rxq
  · intro k hk ih
    refine blk s_X0_becomeLike_18 (nm ?_)
    refine b_X0_becomeLike_21 (fun h => absurd h (nI_ge hk (by decide))) (fun h => ?_)
    refine blk s_X0_becomeLike_24 (And.intro (ib hk) (And.intro (ib hk) (nm ?_)))
    rw [cl k, fl_s (by rw [fl_o (by decide), up2_o (by decide), up2_o (by decide)])]
    exact en_L (by rw [nI_s]) ih
theorem bl_32 : CN 62 RF mX0_becomeLike 0 [.ref 36, .ref 34] I J (RX none (blI I 3 2) J) := by
  refine cn_of (by decide) rfl (Nat.le_of_ble_eq_true rfl) ?_
  refine blk s_X0_becomeLike_0 (nm ?_)
  have e2 : up2 I 36 1 (I 34 1) 34 2 = I 34 2 := by rw [up2_o (by decide)]
  rw [e2]
  refine en_I (fl_0 (I := up2 (up2 I 36 1 (I 34 1)) 36 2 (I 34 2)) (o := 37) (g := fun i => I 35 i)).symm ?_
  refine dn (P := fun k => EN 62 RF mX0_becomeLike 0 18 [(0, .ref 36), (1, .ref 34), (2, .int (nI k))] [] (fl (up2 (up2 I 36 1 (I 34 1)) 36 2 (I 34 2)) 37 (fun i => I 35 i) k) J (RX none (fl (up2 (up2 I 36 1 (I 34 1)) 36 2 (I 34 2)) 37 (fun i => I 35 i) 8) J)) (N := 8) (a := 0) ?_ ?_ (Nat.zero_le _)
  · refine blk s_X0_becomeLike_18 (nm ?_)
    refine b_X0_becomeLike_21 (fun h => ?_) (fun h => absurd (Int32.le_refl _) h)
    exact r_X0_becomeLike_42 rxq
  · intro k hk ih
    refine blk s_X0_becomeLike_18 (nm ?_)
    refine b_X0_becomeLike_21 (fun h => absurd h (nI_ge hk (by decide))) (fun h => ?_)
    refine blk s_X0_becomeLike_24 (And.intro (ib hk) (And.intro (ib hk) (nm ?_)))
    rw [cl k, fl_s (by rw [fl_o (by decide), up2_o (by decide), up2_o (by decide)])]
    exact en_L (by rw [nI_s]) ih
theorem bl_33 : CN 62 RF mX0_becomeLike 0 [.ref 36, .ref 36] I J (RX none (blI I 3 3) J) := by
  refine cn_of (by decide) rfl (Nat.le_of_ble_eq_true rfl) ?_
  refine blk s_X0_becomeLike_0 (nm ?_)
  have e2 : up2 I 36 1 (I 36 1) 36 2 = I 36 2 := by rw [up2_k (by decide)]
  rw [e2]
  refine en_I (fl_0 (I := up2 (up2 I 36 1 (I 36 1)) 36 2 (I 36 2)) (o := 37) (g := fun i => I 37 i)).symm ?_
  refine dn (P := fun k => EN 62 RF mX0_becomeLike 0 18 [(0, .ref 36), (1, .ref 36), (2, .int (nI k))] [] (fl (up2 (up2 I 36 1 (I 36 1)) 36 2 (I 36 2)) 37 (fun i => I 37 i) k) J (RX none (fl (up2 (up2 I 36 1 (I 36 1)) 36 2 (I 36 2)) 37 (fun i => I 37 i) 8) J)) (N := 8) (a := 0) ?_ ?_ (Nat.zero_le _)
  · refine blk s_X0_becomeLike_18 (nm ?_)
    refine b_X0_becomeLike_21 (fun h => ?_) (fun h => absurd (Int32.le_refl _) h)
    exact r_X0_becomeLike_42 rxq
  · intro k hk ih
    refine blk s_X0_becomeLike_18 (nm ?_)
    refine b_X0_becomeLike_21 (fun h => absurd h (nI_ge hk (by decide))) (fun h => ?_)
    refine blk s_X0_becomeLike_24 (And.intro (ib hk) (And.intro (ib hk) (nm ?_)))
    rw [cl k, fl_s (by rw [fl_out (by omega), up2_o (by decide), up2_o (by decide)])]
    exact en_L (by rw [nI_s]) ih
theorem ct_X0_becomeLike {b q : Nat} (hb : b < 4) (hq : q < 4) : CN 62 RF mX0_becomeLike 0 [.ref (bO b), .ref (bO q)] I J (RX none (blI I b q) J) := by
  rcases b4 hb with rfl | rfl | rfl | rfl <;> rcases b4 hq with rfl | rfl | rfl | rfl
  · exact bl_00
  · exact bl_01
  · exact bl_02
  · exact bl_03
  · exact bl_10
  · exact bl_11
  · exact bl_12
  · exact bl_13
  · exact bl_20
  · exact bl_21
  · exact bl_22
  · exact bl_23
  · exact bl_30
  · exact bl_31
  · exact bl_32
  · exact bl_33
theorem ct_X7_goesTo {t : Nat} (ht : t < 40) {so : Nat} (hso : so < 4) : CN 62 RF mX7_goesTo 1 [.ref 39, .int (nI t), .int (nI so)] I J (RX (some (.int (b2i (amB (nI so) (I 40 t))))) I J) := by
  unfold amB
  refine cn_of (by decide) rfl (Nat.le_of_ble_eq_true rfl) ?_
  refine blk s_X7_goesTo_0 (nm ?_)
  refine b_X7_goesTo_3 (fun h => absurd h (o2i_ne (by omega))) (fun h => ?_)
  refine blk s_X7_goesTo_6 (nm ?_)
  rcases b4 hso with rfl | rfl | rfl | rfl
  · refine b_X7_goesTo_7 (fun h => absurd rfl h) (fun h => ?_)
    refine blk s_X7_goesTo_10 (nm ?_)
    exact r_X7_goesTo_11 (Or.inr rfl) rxq
  · refine b_X7_goesTo_7 (fun h => ?_) (fun h => absurd h (by decide))
    refine blk s_X7_goesTo_12 (nm ?_)
    refine b_X7_goesTo_14 (fun h => absurd rfl h) (fun h => ?_)
    refine blk s_X7_goesTo_17 (And.intro (ib ht) (nm ?_))
    rw [cl t, if_pos (show nI 1 = 1 from rfl)]
    refine b_X7_goesTo_24 (fun h => ?_) (fun h => ?_)
    · refine blk s_X7_goesTo_31 (nm ?_)
      exact r_X7_goesTo_70 (Or.inl rfl) (rz0 (by rw [decide_eq_true (show (2 : Int32) < I 40 t from h)]; rfl))
    · refine blk s_X7_goesTo_27 (nm ?_)
      exact r_X7_goesTo_70 (Or.inr rfl) (rz1 (by rw [decide_eq_false (show ¬ (2 : Int32) < I 40 t from h)]; rfl))
  · refine b_X7_goesTo_7 (fun h => ?_) (fun h => absurd h (by decide))
    refine blk s_X7_goesTo_12 (nm ?_)
    refine b_X7_goesTo_14 (fun h => ?_) (fun h => absurd h (by decide))
    refine blk s_X7_goesTo_35 (nm ?_)
    refine b_X7_goesTo_37 (fun h => absurd rfl h) (fun h => ?_)
    refine blk s_X7_goesTo_40 (And.intro (ib ht) (nm ?_))
    rw [cl t, if_neg (show ¬ nI 2 = 1 by decide), if_pos (show nI 2 = 2 from rfl)]
    refine b_X7_goesTo_47 (fun h => ?_) (fun h => ?_)
    · refine blk s_X7_goesTo_54 (nm ?_)
      exact r_X7_goesTo_70 (Or.inl rfl) (rz0 (decide_eq_false h))
    · refine blk s_X7_goesTo_50 (nm ?_)
      exact r_X7_goesTo_70 (Or.inr rfl) (rz1 (decide_eq_true h))
  · refine b_X7_goesTo_7 (fun h => ?_) (fun h => absurd h (by decide))
    refine blk s_X7_goesTo_12 (nm ?_)
    refine b_X7_goesTo_14 (fun h => ?_) (fun h => absurd h (by decide))
    refine blk s_X7_goesTo_35 (nm ?_)
    refine b_X7_goesTo_37 (fun h => ?_) (fun h => absurd h (by decide))
    refine blk s_X7_goesTo_58 (And.intro (ib ht) (nm ?_))
    rw [cl t, if_neg (show ¬ nI 3 = 1 by decide), if_neg (show ¬ nI 3 = 2 by decide), if_pos (show nI 3 = 3 from rfl)]
    refine c_X7_goesTo_67 (ct_X7_within _ _ _) rfl (by decide) rfl (Nat.le_of_ble_eq_true rfl) (rx ?_)
    exact r_X7_goesTo_70 (b2i_z _) rxq
theorem ct_X7_goesNone {so : Int32} : CN 62 RF mX7_goesTo 1 [.ref 39, .int (-9), .int so] I J (RX (some (.int 1)) I J) := by
  refine cn_of (by decide) rfl (Nat.le_of_ble_eq_true rfl) ?_
  refine blk s_X7_goesTo_0 (nm ?_)
  refine b_X7_goesTo_3 (fun h => ?_) (fun h => absurd rfl h)
  refine blk s_X7_goesTo_10 (nm ?_)
  exact r_X7_goesTo_11 (Or.inr rfl) rxq
theorem ct_X7_manyBoxes : CN 62 RF mX7_manyBoxes 0 [.ref 39] I J (RX (some (.int (nI (cnN (fun b => !decide (I 58 b = -9)) 4)))) I J) := by
  generalize hp : (fun b => !decide (I 58 b = -9)) = p
  have hp' : ∀ b, (!decide (I 58 b = -9)) = p b := fun b => by rw [← hp]
  generalize hQ : RX (some (.int (nI (cnN p 4)))) I J = Q
  have hQ' : Q (some (.int (nI (cnN p 4)))) I J := by rw [← hQ]; exact rxq
  clear hQ
  refine cn_of (by decide) rfl (Nat.le_of_ble_eq_true rfl) ?_
  refine blk s_X7_manyBoxes_0 (nm ?_)
  refine dn (P := fun k => EN 62 RF mX7_manyBoxes 0 4 [(0, .ref 39), (1, .int (nI (cnN p k))), (2, .int (nI k))] [] I J Q) (N := 4) (a := 0) ?_ ?_ (Nat.zero_le _)
  · refine blk s_X7_manyBoxes_4 (nm ?_)
    refine b_X7_manyBoxes_6 (fun h => ?_) (fun h => absurd (Int32.le_refl _) h)
    refine blk s_X7_manyBoxes_34 (nm ?_)
    exact r_X7_manyBoxes_35 hQ'
  · intro k hk ih
    refine blk s_X7_manyBoxes_4 (nm ?_)
    refine b_X7_manyBoxes_6 (fun h => absurd h (nI_ge hk (by decide))) (fun h => ?_)
    refine blk s_X7_manyBoxes_9 (And.intro (ib hk) (nm ?_))
    rw [cl k]
    have back : ∀ m : Nat, m = (if p k = true then 1 else 0) → EN 62 RF mX7_manyBoxes 0 26 [(0, .ref 39), (1, .int (nI (cnN p k))), (2, .int (nI k))] [.int (nI m), .int (nI (cnN p k))] I J Q := by
      intro m hm
      subst hm
      refine blk s_X7_manyBoxes_26 (nm ?_)
      rw [nI_add]
      exact en_L (by rw [nI_s]; rfl) ih
    refine b_X7_manyBoxes_18 (fun h => ?_) (fun h => ?_)
    · refine blk s_X7_manyBoxes_25 (nm ?_)
      exact back 1 (by rw [← hp' k, decide_eq_false h]; rfl)
    · refine blk s_X7_manyBoxes_21 (nm ?_)
      exact back 0 (by rw [← hp' k, decide_eq_true h]; rfl)
end BOXY
