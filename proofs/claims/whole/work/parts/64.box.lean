/-! BOXES: the class's -/
section BOXX
variable {I : IT} {J : JT}
abbrev bO (b : Nat) : Nat := 30 + 2 * b
abbrev bP (b : Nat) : Nat := 31 + 2 * b
theorem b4 {b : Nat} (h : b < 4) : b = 0 ∨ b = 1 ∨ b = 2 ∨ b = 3 := by omega
def hrB (l : Int32) : Bool := !(decide (l < 0))
def hpB (i l : Int32) : Bool := !(decide (i < 0)) && !(decide (l ≤ i))
def hgB (i n l : Int32) : Bool := !(decide (i < 0)) && !(decide (n < 0)) && !(decide (l < i)) && !(decide (l - i < n))
def amB (so kd : Int32) : Bool := if so = 1 then !(decide (2 < kd)) else if so = 2 then decide (kd = 1) else if so = 3 then wiB kd 3 6 else true
theorem ct_X0_hasRow {b : Nat} (hb : b < 4) : CN 62 RF mX0_hasRow 0 [.ref (bO b)] I J (RX (some (.int (b2i (hrB (I (bO b) 2))))) I J) := by
  unfold hrB
  rcases b4 hb with rfl | rfl | rfl | rfl
  all_goals
    refine cn_of (by decide) rfl (Nat.le_of_ble_eq_true rfl) ?_
    refine blk s_X0_hasRow_0 (nm ?_)
    refine b_X0_hasRow_4 (fun h => ?_) (fun h => ?_)
    · refine blk s_X0_hasRow_11 (nm ?_)
      exact r_X0_hasRow_12 (Or.inl rfl) (rz0 (by rw [decide_eq_true h]; rfl))
    · refine blk s_X0_hasRow_7 (nm ?_)
      exact r_X0_hasRow_12 (Or.inr rfl) (rz1 (by rw [decide_eq_false h]; rfl))
theorem ct_X0_hasPlace {b : Nat} (hb : b < 4) (i : Int32) : CN 62 RF mX0_hasPlace 0 [.ref (bO b), .int i] I J (RX (some (.int (b2i (hpB i (I (bO b) 2))))) I J) := by
  unfold hpB
  rcases b4 hb with rfl | rfl | rfl | rfl
  all_goals
    refine cn_of (by decide) rfl (Nat.le_of_ble_eq_true rfl) ?_
    refine blk s_X0_hasPlace_0 (nm ?_)
    refine b_X0_hasPlace_1 (fun h => ?_) (fun h => ?_)
    · refine blk s_X0_hasPlace_16 (nm ?_)
      exact r_X0_hasPlace_17 (Or.inl rfl) (rz0 (by rw [decide_eq_true h]; rfl))
    · refine blk s_X0_hasPlace_4 (nm ?_)
      refine b_X0_hasPlace_9 (fun h2 => ?_) (fun h2 => ?_)
      · refine blk s_X0_hasPlace_16 (nm ?_)
        exact r_X0_hasPlace_17 (Or.inl rfl) (rz0 (by rw [decide_eq_true h2]; exact Bool.and_false _))
      · refine blk s_X0_hasPlace_12 (nm ?_)
        exact r_X0_hasPlace_17 (Or.inr rfl) (rz1 (by rw [decide_eq_false h, decide_eq_false h2]; rfl))
theorem ct_X0_hasRange {b : Nat} (hb : b < 4) (i n : Int32) : CN 62 RF mX0_hasRange 0 [.ref (bO b), .int i, .int n] I J (RX (some (.int (b2i (hgB i n (I (bO b) 2))))) I J) := by
  unfold hgB
  rcases b4 hb with rfl | rfl | rfl | rfl
  all_goals
    refine cn_of (by decide) rfl (Nat.le_of_ble_eq_true rfl) ?_
    refine blk s_X0_hasRange_0 (nm ?_)
    refine b_X0_hasRange_1 (fun h => ?_) (fun h => ?_)
    · refine blk s_X0_hasRange_30 (nm ?_)
      exact r_X0_hasRange_31 (Or.inl rfl) (rz0 (by rw [decide_eq_true h]; rfl))
    · refine blk s_X0_hasRange_4 (nm ?_)
      refine b_X0_hasRange_5 (fun h2 => ?_) (fun h2 => ?_)
      · refine blk s_X0_hasRange_30 (nm ?_)
        exact r_X0_hasRange_31 (Or.inl rfl) (rz0 (by rw [decide_eq_true h2, Bool.not_true, Bool.and_false]; rfl))
      · refine blk s_X0_hasRange_8 (nm ?_)
        refine b_X0_hasRange_13 (fun h3 => ?_) (fun h3 => ?_)
        · refine blk s_X0_hasRange_30 (nm ?_)
          refine r_X0_hasRange_31 (Or.inl rfl) (rz0 ?_)
          rw [decide_eq_true h3, Bool.not_true, Bool.and_false]; rfl
        · refine blk s_X0_hasRange_16 (nm ?_)
          refine b_X0_hasRange_23 (fun h4 => ?_) (fun h4 => ?_)
          · refine blk s_X0_hasRange_30 (nm ?_)
            refine r_X0_hasRange_31 (Or.inl rfl) (rz0 ?_)
            rw [decide_eq_true h4, Bool.not_true, Bool.and_false]
          · refine blk s_X0_hasRange_26 (nm ?_)
            refine r_X0_hasRange_31 (Or.inr rfl) (rz1 ?_)
            rw [decide_eq_false h, decide_eq_false h2, decide_eq_false h3, decide_eq_false h4]; rfl
theorem ct_X0_admits {b : Nat} (hb : b < 4) (kd : Int32) : CN 62 RF mX0_admits 0 [.ref (bO b), .int kd] I J (RX (some (.int (b2i (amB (I (bO b) 1) kd)))) I J) := by
  unfold amB
  rcases b4 hb with rfl | rfl | rfl | rfl
  all_goals
    refine cn_of (by decide) rfl (Nat.le_of_ble_eq_true rfl) ?_
    refine blk s_X0_admits_0 (nm ?_)
    refine w_X0_admits_4 (fun h => ?_) (fun h => ?_) (fun h => ?_) (fun h1 h2 h3 => ?_)
    · refine blk s_X0_admits_32 (nm ?_)
      rw [if_pos h]
      refine b_X0_admits_34 (fun h => ?_) (fun h => ?_)
      · refine blk s_X0_admits_41 (nm ?_)
        exact r_X0_admits_42 (Or.inl rfl) (rz0 (by rw [decide_eq_true h]; rfl))
      · refine blk s_X0_admits_37 (nm ?_)
        exact r_X0_admits_42 (Or.inr rfl) (rz1 (by rw [decide_eq_false h]; rfl))
    · refine blk s_X0_admits_43 (nm ?_)
      rw [if_neg (by rw [h]; decide), if_pos h]
      refine b_X0_admits_45 (fun h => ?_) (fun h => ?_)
      · refine blk s_X0_admits_52 (nm ?_)
        exact r_X0_admits_53 (Or.inl rfl) (rz0 (decide_eq_false h))
      · refine blk s_X0_admits_48 (nm ?_)
        exact r_X0_admits_53 (Or.inr rfl) (rz1 (decide_eq_true h))
    · refine blk s_X0_admits_54 (nm ?_)
      rw [if_neg (by rw [h]; decide), if_neg (by rw [h]; decide), if_pos h]
      unfold wiB
      refine b_X0_admits_56 (fun h => ?_) (fun h => ?_)
      · refine blk s_X0_admits_69 (nm ?_)
        exact r_X0_admits_70 (Or.inl rfl) (rz0 (by rw [decide_eq_true h]; rfl))
      · refine blk s_X0_admits_59 (nm ?_)
        refine b_X0_admits_62 (fun h2 => ?_) (fun h2 => ?_)
        · refine blk s_X0_admits_69 (nm ?_)
          refine r_X0_admits_70 (Or.inl rfl) (rz0 ?_)
          rw [decide_eq_true (show (6 : Int32) < kd from h2)]; exact Bool.and_false _
        · refine blk s_X0_admits_65 (nm ?_)
          refine r_X0_admits_70 (Or.inr rfl) (rz1 ?_)
          rw [decide_eq_false h, decide_eq_false (show ¬ (6 : Int32) < kd from h2)]; rfl
    · refine blk s_X0_admits_71 (nm ?_)
      rw [if_neg h1, if_neg h2, if_neg h3]
      exact r_X0_admits_72 (Or.inr rfl) rxq
theorem ct_X0_loseRow {b : Nat} (hb : b < 4) : CN 62 RF mX0_loseRow 0 [.ref (bO b)] I J (RX none (up2 I (bO b) 2 (-9)) J) := by
  rcases b4 hb with rfl | rfl | rfl | rfl
  all_goals
    refine cn_of (by decide) rfl (Nat.le_of_ble_eq_true rfl) ?_
    refine blk s_X0_loseRow_0 (nm ?_)
    exact r_X0_loseRow_6 rxq
def gnI (I : IT) (b : Nat) (so n : Int32) : IT := fl (up2 (up2 I (bO b) 1 so) (bO b) 2 n) (bP b) (fun _ => -9) 8
theorem ct_X0_getNewRow {b : Nat} (hb : b < 4) (so n : Int32) : CN 62 RF mX0_getNewRow 0 [.ref (bO b), .int so, .int n] I J (RX none (gnI I b so n) J) := by
  unfold gnI
  rcases b4 hb with rfl | rfl | rfl | rfl
  all_goals
    refine cn_of (by decide) rfl (Nat.le_of_ble_eq_true rfl) ?_
    refine blk s_X0_getNewRow_0 (nm ?_)
  · generalize hI1 : up2 (up2 I 30 1 so) 30 2 n = I1
    refine en_I (fl_0 (I := I1) (o := 31) (g := fun _ => -9)).symm ?_
    refine dn (P := fun k => EN 62 RF mX0_getNewRow 0 12 [(0, .ref 30), (1, .int so), (2, .int n), (3, .int (nI k))] [] (fl I1 31 (fun _ => -9) k) J (RX none (fl I1 31 (fun _ => -9) 8) J)) (N := 8) (a := 0) ?_ ?_ (Nat.zero_le _)
    · refine blk s_X0_getNewRow_12 (nm ?_)
      refine b_X0_getNewRow_15 (fun h => ?_) (fun h => absurd (Int32.le_refl _) h)
      exact r_X0_getNewRow_32 rxq
    · intro k hk ih
      refine blk s_X0_getNewRow_12 (nm ?_)
      refine b_X0_getNewRow_15 (fun h => absurd h (nI_ge hk (by decide))) (fun h => ?_)
      refine blk s_X0_getNewRow_18 (And.intro (ib hk) (nm ?_))
      rw [cl k]
      exact en_L (by rw [nI_s]) (en_I (fl_s rfl) ih)
  · generalize hI1 : up2 (up2 I 32 1 so) 32 2 n = I1
    refine en_I (fl_0 (I := I1) (o := 33) (g := fun _ => -9)).symm ?_
    refine dn (P := fun k => EN 62 RF mX0_getNewRow 0 12 [(0, .ref 32), (1, .int so), (2, .int n), (3, .int (nI k))] [] (fl I1 33 (fun _ => -9) k) J (RX none (fl I1 33 (fun _ => -9) 8) J)) (N := 8) (a := 0) ?_ ?_ (Nat.zero_le _)
    · refine blk s_X0_getNewRow_12 (nm ?_)
      refine b_X0_getNewRow_15 (fun h => ?_) (fun h => absurd (Int32.le_refl _) h)
      exact r_X0_getNewRow_32 rxq
    · intro k hk ih
      refine blk s_X0_getNewRow_12 (nm ?_)
      refine b_X0_getNewRow_15 (fun h => absurd h (nI_ge hk (by decide))) (fun h => ?_)
      refine blk s_X0_getNewRow_18 (And.intro (ib hk) (nm ?_))
      rw [cl k]
      exact en_L (by rw [nI_s]) (en_I (fl_s rfl) ih)
  · generalize hI1 : up2 (up2 I 34 1 so) 34 2 n = I1
    refine en_I (fl_0 (I := I1) (o := 35) (g := fun _ => -9)).symm ?_
    refine dn (P := fun k => EN 62 RF mX0_getNewRow 0 12 [(0, .ref 34), (1, .int so), (2, .int n), (3, .int (nI k))] [] (fl I1 35 (fun _ => -9) k) J (RX none (fl I1 35 (fun _ => -9) 8) J)) (N := 8) (a := 0) ?_ ?_ (Nat.zero_le _)
    · refine blk s_X0_getNewRow_12 (nm ?_)
      refine b_X0_getNewRow_15 (fun h => ?_) (fun h => absurd (Int32.le_refl _) h)
      exact r_X0_getNewRow_32 rxq
    · intro k hk ih
      refine blk s_X0_getNewRow_12 (nm ?_)
      refine b_X0_getNewRow_15 (fun h => absurd h (nI_ge hk (by decide))) (fun h => ?_)
      refine blk s_X0_getNewRow_18 (And.intro (ib hk) (nm ?_))
      rw [cl k]
      exact en_L (by rw [nI_s]) (en_I (fl_s rfl) ih)
  · generalize hI1 : up2 (up2 I 36 1 so) 36 2 n = I1
    refine en_I (fl_0 (I := I1) (o := 37) (g := fun _ => -9)).symm ?_
    refine dn (P := fun k => EN 62 RF mX0_getNewRow 0 12 [(0, .ref 36), (1, .int so), (2, .int n), (3, .int (nI k))] [] (fl I1 37 (fun _ => -9) k) J (RX none (fl I1 37 (fun _ => -9) 8) J)) (N := 8) (a := 0) ?_ ?_ (Nat.zero_le _)
    · refine blk s_X0_getNewRow_12 (nm ?_)
      refine b_X0_getNewRow_15 (fun h => ?_) (fun h => absurd (Int32.le_refl _) h)
      exact r_X0_getNewRow_32 rxq
    · intro k hk ih
      refine blk s_X0_getNewRow_12 (nm ?_)
      refine b_X0_getNewRow_15 (fun h => absurd h (nI_ge hk (by decide))) (fun h => ?_)
      refine blk s_X0_getNewRow_18 (And.intro (ib hk) (nm ?_))
      rw [cl k]
      exact en_L (by rw [nI_s]) (en_I (fl_s rfl) ih)
theorem ct_X6_countFilledBoxes : CN 62 RF mX6_countFilledBoxes 1 [.ref 0] I J (RX (some (.int (nI (cnN (fun b => hrB (I (bO b) 2)) 4)))) I J) := by
  generalize hp : (fun b => hrB (I (bO b) 2)) = p
  have hp' : ∀ b, hrB (I (bO b) 2) = p b := fun b => by rw [← hp]
  generalize hQ : RX (some (.int (nI (cnN p 4)))) I J = Q
  have hQ' : Q (some (.int (nI (cnN p 4)))) I J := by rw [← hQ]; exact rxq
  clear hQ
  refine cn_of (by decide) rfl (Nat.le_of_ble_eq_true rfl) ?_
  refine blk s_X6_countFilledBoxes_0 (nm ?_)
  refine dn (P := fun k => EN 62 RF mX6_countFilledBoxes 1 4 [(0, .ref 0), (1, .int (nI (cnN p k))), (2, .int (nI k))] [] I J Q) (N := 4) (a := 0) ?_ ?_ (Nat.zero_le _)
  · refine blk s_X6_countFilledBoxes_4 (nm ?_)
    refine b_X6_countFilledBoxes_6 (fun h => ?_) (fun h => absurd (Int32.le_refl _) h)
    refine blk s_X6_countFilledBoxes_30 (nm ?_)
    exact r_X6_countFilledBoxes_31 hQ'
  · intro k hk ih
    have back : ∀ m, m = cnN p (k + 1) → EN 62 RF mX6_countFilledBoxes 1 24 [(0, .ref 0), (1, .int (nI m)), (2, .int (nI k))] [] I J Q := by
      intro m hm
      subst hm
      refine blk s_X6_countFilledBoxes_24 (nm ?_)
      exact en_L (by rw [nI_s]) ih
    have ec : cnN p (k + 1) = cnN p k + (if p k = true then 1 else 0) := rfl
    have go : EN 62 RF mX6_countFilledBoxes 1 15 [(0, .ref 0), (1, .int (nI (cnN p k))), (2, .int (nI k))] [.ref (bO k)] I J Q := by
      refine c_X6_countFilledBoxes_15 (ct_X0_hasRow hk) rfl (by decide) rfl (Nat.le_of_ble_eq_true rfl) ?_ ?_ (rx ?_)
      · rcases b4 hk with rfl | rfl | rfl | rfl <;> decide
      · rcases b4 hk with rfl | rfl | rfl | rfl <;> rfl
      rw [hp' k]
      refine b_X6_countFilledBoxes_18 (fun h => ?_) (fun h => ?_)
      · exact back _ (by rw [ec, if_neg (by rw [(b2i_0 _).mp h]; decide)]; rfl)
      · refine blk s_X6_countFilledBoxes_21 (nm ?_)
        rw [nI_s]
        exact back _ (by rw [ec, if_pos (b2t h)])
    refine blk s_X6_countFilledBoxes_4 (nm ?_)
    refine b_X6_countFilledBoxes_6 (fun h => absurd h (nI_ge hk (by decide))) (fun h => ?_)
    rcases b4 hk with rfl | rfl | rfl | rfl
    all_goals
      refine blk s_X6_countFilledBoxes_9 (And.intro (ib hk) (nm ?_))
      exact go
end BOXX
