/-! THE REFERENCE: small methods, sets, steps -/
section MOD1
variable {n : Nat} {R : RT} {I : IT} {J : JT}
def wiB (v l m : Int32) : Bool := !(decide (v < l)) && !(decide (m < v))
theorem ct_X7_within (v l m : Int32) : CN n R mX7_within 0 [.int v, .int l, .int m] I J (RX (some (.int (b2i (wiB v l m)))) I J) := by
  refine cn_of (by decide) rfl (Nat.le_of_ble_eq_true rfl) ?_
  unfold wiB
  refine blk s_X7_within_0 (nm ?_)
  refine b_X7_within_2 (fun h => ?_) (fun h => ?_)
  · refine blk s_X7_within_14 (nm ?_)
    exact r_X7_within_15 (Or.inl rfl) (rz0 (by rw [decide_eq_true h]; rfl))
  · refine blk s_X7_within_5 (nm ?_)
    refine b_X7_within_7 (fun h2 => ?_) (fun h2 => ?_)
    · refine blk s_X7_within_14 (nm ?_)
      exact r_X7_within_15 (Or.inl rfl) (rz0 (by rw [decide_eq_true (show m < v from h2)]; exact Bool.and_false _))
    · refine blk s_X7_within_10 (nm ?_)
      exact r_X7_within_15 (Or.inr rfl) (rz1 (by rw [decide_eq_false h, decide_eq_false (show ¬ m < v from h2)]; rfl))
theorem ct_X7_isIn (x : Int32) {k : Nat} (hk : k < 32) : CN n R mX7_isIn 0 [.int x, .int (nI k)] I J (RX (some (.int (b2i (mb x k)))) I J) := by
  refine cn_of (by decide) rfl (Nat.le_of_ble_eq_true rfl) ?_
  refine blk s_X7_isIn_0 (nm ?_)
  rw [bit_at x hk]
  exact r_X7_isIn_5 rxq
/-- how many of the k < n have p -/
def cnN (p : Nat → Bool) : Nat → Nat
  | 0 => 0
  | k + 1 => cnN p k + (if p k = true then 1 else 0)
theorem cnN_cg {p q : Nat → Bool} : ∀ {n : Nat}, (∀ k, k < n → p k = q k) → cnN p n = cnN q n
  | 0, _ => rfl
  | n + 1, h => by show cnN p n + _ = cnN q n + _; rw [cnN_cg fun k hk => h k (by omega), h n (by omega)]
theorem b2i_n (b : Bool) : b2i b = nI (if b = true then 1 else 0) := by cases b <;> rfl
theorem ct_X7_sizeOf (x : Int32) : CN n R mX7_sizeOf 1 [.int x] I J (RX (some (.int (nI (cnN (mb x) 16)))) I J) := by
  generalize hQ : RX (some (.int (nI (cnN (mb x) 16)))) I J = Q
  have hQ' : Q (some (.int (nI (cnN (mb x) 16)))) I J := by rw [← hQ]; exact rxq
  clear hQ
  refine cn_of (by decide) rfl (Nat.le_of_ble_eq_true rfl) ?_
  refine blk s_X7_sizeOf_0 (nm ?_)
  refine dn (P := fun k => EN n R mX7_sizeOf 1 4 [(0, .int x), (1, .int (nI (cnN (mb x) k))), (2, .int (nI k))] [] I J Q) (N := 16) ?_ ?_ (Nat.zero_le _)
  · refine blk s_X7_sizeOf_4 (nm ?_)
    refine b_X7_sizeOf_7 (fun h => ?_) (fun h => absurd (Int32.le_refl _) h)
    refine blk s_X7_sizeOf_24 (nm ?_)
    exact r_X7_sizeOf_25 hQ'
  · intro k hk ih
    refine blk s_X7_sizeOf_4 (nm ?_)
    refine b_X7_sizeOf_7 (fun h => absurd h (nI_ge hk (by decide))) (fun h => ?_)
    refine blk s_X7_sizeOf_10 (nm ?_)
    refine c_X7_sizeOf_13 (ct_X7_isIn x (by omega)) rfl (by decide) rfl (Nat.le_of_ble_eq_true rfl) (rx ?_)
    refine blk s_X7_sizeOf_16 (nm ?_)
    exact en_L (by rw [nI_s, b2i_n, nI_add]; rfl) ih
end MOD1
section MOD2
variable {I : IT} {J : JT}
theorem ct_X7_isState (s : Int32) : CN 62 RF mX7_isState 1 [.int s] I J (RX (some (.int (b2i (wiB s 0 15)))) I J) := by
  refine cn_of (by decide) rfl (Nat.le_of_ble_eq_true rfl) ?_
  refine blk s_X7_isState_0 (nm ?_)
  refine c_X7_isState_4 (ct_X7_within _ _ _) rfl (by decide) rfl (by decide) (rx ?_)
  exact r_X7_isState_7 (b2i_z _) rxq
theorem ct_X7_isRow (s : Int32) : CN 62 RF mX7_isRow 1 [.int s] I J (RX (some (.int (b2i (wiB s 0 3)))) I J) := by
  refine cn_of (by decide) rfl (Nat.le_of_ble_eq_true rfl) ?_
  refine blk s_X7_isRow_0 (nm ?_)
  refine c_X7_isRow_3 (ct_X7_within _ _ _) rfl (by decide) rfl (by decide) (rx ?_)
  exact r_X7_isRow_6 (b2i_z _) rxq
theorem ct_X7_isBox (s : Int32) : CN 62 RF mX7_isBox 1 [.int s] I J (RX (some (.int (b2i (wiB s 0 3)))) I J) := by
  refine cn_of (by decide) rfl (Nat.le_of_ble_eq_true rfl) ?_
  refine blk s_X7_isBox_0 (nm ?_)
  refine c_X7_isBox_3 (ct_X7_within _ _ _) rfl (by decide) rfl (by decide) (rx ?_)
  exact r_X7_isBox_6 (b2i_z _) rxq
theorem ct_X7_isTerm (t : Int32) : CN 62 RF mX7_isTerm 1 [.ref 39, .int t] I J (RX (some (.int (b2i (wiB t 0 (I 39 1 - 1))))) I J) := by
  refine cn_of (by decide) rfl (Nat.le_of_ble_eq_true rfl) ?_
  refine blk s_X7_isTerm_0 (nm ?_)
  refine c_X7_isTerm_8 (ct_X7_within _ _ _) rfl (by decide) rfl (by decide) (rx ?_)
  exact r_X7_isTerm_11 (b2i_z _) rxq
/-- what the reference holds of the terms' values and of the machine -/
def RB (I : IT) (g : JT) (C : Nat) (nx : Nat → Option Nat) (os oc : Option Nat) : Prop :=
  (I 39 1 = nI C ∧ C ≤ 40 ∧ ∀ t s r, t < C → s < 16 → r < 4 → I 46 (64 * t + 4 * s + r) = b2i (vl g t s r)) ∧
  (I 39 9 = o2i os ∧ ∀ t, os = some t → t < C) ∧ (I 39 10 = o2i oc ∧ ∀ t, oc = some t → t < C) ∧
  (∀ v, v < 4 → I 47 v = o2i (nx v)) ∧ ∀ v t, v < 4 → nx v = some t → t < C
theorem RB_cg {I I' : IT} {g : JT} {C : Nat} {nx : Nat → Option Nat} {os oc : Option Nat} (h : RB I g C nx os oc) (h39 : I' 39 1 = I 39 1 ∧ I' 39 9 = I 39 9 ∧ I' 39 10 = I 39 10) (h46 : I' 46 = I 46) (h47 : I' 47 = I 47) : RB I' g C nx os oc := by
  unfold RB
  rw [h39.1, h39.2.1, h39.2.2, h46, h47]
  exact h
variable {g : JT} {C : Nat} {nx : Nat → Option Nat} {os oc : Option Nat}
theorem ct_X7_valueIn (hB : RB I g C nx os oc) {t s r : Nat} (ht : t < C) (hs : s < 16) (hr : r < 4) : CN 62 RF mX7_valueIn 0 [.ref 39, .int (nI t), .int (nI s), .int (nI r)] I J (RX (some (.int (b2i (vl g t s r)))) I J) := by
  have h40 := hB.1.2.1
  refine cn_of (by decide) rfl (Nat.le_of_ble_eq_true rfl) ?_
  have e : (64 : Int32) * nI t + 4 * nI s + nI r = nI (64 * t + 4 * s + r) := by
    rw [show (64 : Int32) = nI 64 from rfl, show (4 : Int32) = nI 4 from rfl, nI_mul, nI_mul, nI_add, nI_add]
  refine blk s_X7_valueIn_0 (And.intro (show vp_in ((64 : Int32) * nI t + 4 * nI s + nI r) 2560 from by rw [e]; exact ib (by omega)) (nm ?_))
  rw [e, cl (64 * t + 4 * s + r), hB.1.2.2 t s r ht hs hr]
  exact r_X7_valueIn_15 rxq
theorem bsN_b (p : Nat → Bool) {k : Nat} (hk : k < 32) : bsN p k ||| b2i (p k) <<< (nI k &&& 31) = bsN p (k + 1) := by
  rw [b2i_shl (p k) hk]; rfl
theorem ct_X7_holdsOf (hB : RB I g C nx os oc) {t r : Nat} (ht : t < C) (hr : r < 4) : CN 62 RF mX7_holdsOf 1 [.ref 39, .int (nI t), .int (nI r)] I J (RX (some (.int (tsX g t r))) I J) := by
  unfold tsX
  generalize hp : (fun s => vl g t s r) = p
  have hp' : ∀ s, vl g t s r = p s := fun s => by rw [← hp]
  generalize hQ : RX (some (.int (bs p))) I J = Q
  have hQ' : Q (some (.int (bs p))) I J := by rw [← hQ]; exact rxq
  clear hQ
  refine cn_of (by decide) rfl (Nat.le_of_ble_eq_true rfl) ?_
  refine blk s_X7_holdsOf_0 (nm ?_)
  refine dn (P := fun k => EN 62 RF mX7_holdsOf 1 5 [(0, .ref 39), (1, .int (nI t)), (2, .int (nI r)), (3, .int (bsN p k)), (4, .int (nI k))] [] I J Q) (N := 16) ?_ ?_ (Nat.zero_le _)
  · refine blk s_X7_holdsOf_5 (nm ?_)
    refine b_X7_holdsOf_9 (fun h => ?_) (fun h => absurd (Int32.le_refl _) h)
    refine blk s_X7_holdsOf_32 (nm ?_)
    exact r_X7_holdsOf_33 hQ'
  · intro k hk ih
    refine blk s_X7_holdsOf_5 (nm ?_)
    refine b_X7_holdsOf_9 (fun h => absurd h (nI_ge hk (by decide))) (fun h => ?_)
    refine blk s_X7_holdsOf_12 (nm ?_)
    refine c_X7_holdsOf_18 (ct_X7_valueIn hB ht hk hr) rfl (by decide) rfl (Nat.le_of_ble_eq_true rfl) (by decide) rfl (rx ?_)
    refine blk s_X7_holdsOf_21 (nm ?_)
    exact en_L (by rw [nI_s, hp' k, bsN_b p (by omega)]) ih
theorem ct_X7_startSet (hB : RB I g C nx os oc) : CN 62 RF mX7_startSet 2 [.ref 39] I J (RX (some (.int (bs (Sx g os)))) I J) := by
  refine cn_of (by decide) rfl (Nat.le_of_ble_eq_true rfl) ?_
  refine blk s_X7_startSet_0 (nm ?_)
  rw [hB.2.1.1]
  cases ho : os with
  | none =>
    refine b_X7_startSet_6 (fun h => absurd rfl h) (fun h => ?_)
    refine blk s_X7_startSet_9 (nm ?_)
    exact r_X7_startSet_23 (rxe (by rw [all_bs]; rfl) rfl rfl)
  | some t =>
    have ht := hB.2.1.2 t ho
    have h40 := hB.1.2.1
    refine b_X7_startSet_6 (fun h => ?_) (fun h => absurd h (o2i_ne (by omega)))
    refine blk s_X7_startSet_14 (nm ?_)
    rw [hB.2.1.1, ho]
    refine c_X7_startSet_20 (ct_X7_holdsOf hB ht (r := 0) (by decide)) rfl (by decide) rfl (Nat.le_of_ble_eq_true rfl) (by decide) rfl (rx ?_)
    exact r_X7_startSet_23 rxq
theorem ct_X7_brokenSet (hB : RB I g C nx os oc) : CN 62 RF mX7_brokenSet 2 [.ref 39] I J (RX (some (.int (bs (Bx g oc)))) I J) := by
  refine cn_of (by decide) rfl (Nat.le_of_ble_eq_true rfl) ?_
  refine blk s_X7_brokenSet_0 (nm ?_)
  rw [hB.2.2.1.1]
  cases ho : oc with
  | none =>
    refine b_X7_brokenSet_6 (fun h => absurd rfl h) (fun h => ?_)
    refine blk s_X7_brokenSet_9 (nm ?_)
    exact r_X7_brokenSet_27 (rxe (by rw [zero_bs]; rfl) rfl rfl)
  | some t =>
    have ht := hB.2.2.1.2 t ho
    have h40 := hB.1.2.1
    refine b_X7_brokenSet_6 (fun h => ?_) (fun h => absurd h (o2i_ne (by omega)))
    refine blk s_X7_brokenSet_13 (nm ?_)
    rw [hB.2.2.1.1, ho]
    refine c_X7_brokenSet_21 (ct_X7_holdsOf hB ht (r := 0) (by decide)) rfl (by decide) rfl (Nat.le_of_ble_eq_true rfl) (by decide) rfl (rx ?_)
    refine blk s_X7_brokenSet_24 (nm ?_)
    refine r_X7_brokenSet_27 (rxe ?_ rfl rfl)
    rw [all_bs]; unfold tsX; rw [bs_diff]; rfl
theorem mb_nI {s : Nat} (hs : s < 2 ^ 31) {v : Nat} (hv : v < 32) : mb (nI s) v = s.testBit v := by
  unfold mb
  show (BitVec.ofNat 32 s).getLsbD v = _
  rw [BitVec.getLsbD_ofNat, decide_eq_true hv, Bool.true_and]
theorem ct_X7_stepOf (hB : RB I g C nx os oc) {s r : Nat} (hs : s < 16) (hr : r < 4) : CN 62 RF mX7_stepOf 1 [.ref 39, .int (nI s), .int (nI r)] I J (RX (some (.int (nI (Tx g nx s r)))) I J) := by
  have e : nI (Tx g nx s r) = bsN (nbX g nx s r) 4 := (bsN4 _).symm
  rw [e]
  have hp' : ∀ v, nbX g nx s r v = nbX g nx s r v := fun _ => rfl
  generalize hQ : RX (some (.int (bsN (nbX g nx s r) 4))) I J = Q
  have hQ' : Q (some (.int (bsN (nbX g nx s r) 4))) I J := by rw [← hQ]; exact rxq
  clear hQ
  have h40 := hB.1.2.1
  refine cn_of (by decide) rfl (Nat.le_of_ble_eq_true rfl) ?_
  refine blk s_X7_stepOf_0 (nm ?_)
  refine dn (P := fun k => EN 62 RF mX7_stepOf 1 5 [(0, .ref 39), (1, .int (nI s)), (2, .int (nI r)), (3, .int (bsN (nbX g nx s r) k)), (4, .int (nI k))] [] I J Q) (N := 4) ?_ ?_ (Nat.zero_le _)
  · refine blk s_X7_stepOf_5 (nm ?_)
    refine b_X7_stepOf_8 (fun h => ?_) (fun h => absurd (Int32.le_refl _) h)
    refine blk s_X7_stepOf_57 (nm ?_)
    exact r_X7_stepOf_58 hQ'
  · intro k hk ih
    refine blk s_X7_stepOf_5 (nm ?_)
    refine b_X7_stepOf_8 (fun h => absurd h (nI_ge hk (by decide))) (fun h => ?_)
    refine blk s_X7_stepOf_11 (And.intro (ib hk) (nm ?_))
    rw [cl k, hB.2.2.2.1 k hk]
    have back : ∀ b : Bool, b = nbX g nx s r k → EN 62 RF mX7_stepOf 1 46 [(0, .ref 39), (1, .int (nI s)), (2, .int (nI r)), (3, .int (bsN (nbX g nx s r) k)), (4, .int (nI k))] [.int (b2i b), .int (bsN (nbX g nx s r) k)] I J Q := by
      intro b hb
      subst hb
      refine blk s_X7_stepOf_46 (nm ?_)
      exact en_L (by rw [nI_s, bsN_b (nbX g nx s r) (by omega)]) ih
    cases ho : nx k with
    | none =>
      refine b_X7_stepOf_21 (fun h => absurd rfl h) (fun h => ?_)
      refine blk s_X7_stepOf_24 (nm ?_)
      refine c_X7_stepOf_27 (ct_X7_isIn _ (by omega)) rfl (by decide) rfl (Nat.le_of_ble_eq_true rfl) (rx ?_)
      refine blk s_X7_stepOf_30 (nm ?_)
      refine back _ ?_
      rw [mb_nI (by omega) (by omega)]
      unfold nbX; rw [ho]
    | some t =>
      have ht := hB.2.2.2.2 k t hk ho
      refine b_X7_stepOf_21 (fun h => ?_) (fun h => absurd h (o2i_ne (by omega)))
      refine blk s_X7_stepOf_33 (And.intro (ib hk) (nm ?_))
      rw [cl k, hB.2.2.2.1 k hk, ho]
      refine c_X7_stepOf_43 (ct_X7_valueIn hB ht hs hr) rfl (by decide) rfl (Nat.le_of_ble_eq_true rfl) (by decide) rfl (rx ?_)
      refine back _ ?_
      unfold nbX; rw [ho]
end MOD2
