/-! CONTRACTS: the class's small methods -/
theorem en_I {n : Nat} {R : RT} {M : MI} {d pc : Nat} {L : LT} {st : List Value} {I I' : IT} {J : JT} {Q : IQ} (h : I = I') (k : EN n R M d pc L st I' J Q) : EN n R M d pc L st I J Q := h ▸ k
theorem en_J {n : Nat} {R : RT} {M : MI} {d pc : Nat} {L : LT} {st : List Value} {I : IT} {J J' : JT} {Q : IQ} (h : J = J') (k : EN n R M d pc L st I J' Q) : EN n R M d pc L st I J Q := h ▸ k
theorem en_L {n : Nat} {R : RT} {M : MI} {d pc : Nat} {L L' : LT} {st : List Value} {I : IT} {J : JT} {Q : IQ} (h : L = L') (k : EN n R M d pc L' st I J Q) : EN n R M d pc L st I J Q := h ▸ k
theorem en_S {n : Nat} {R : RT} {M : MI} {d pc : Nat} {L : LT} {st st' : List Value} {I : IT} {J : JT} {Q : IQ} (h : st = st') (k : EN n R M d pc L st' I J Q) : EN n R M d pc L st I J Q := h ▸ k
theorem rz0 {b : Bool} {I : IT} {J : JT} (h : b = false) : RX (some (.int (b2i b))) I J (some (.int 0)) I J := by subst h; exact rxq
theorem rz1 {b : Bool} {I : IT} {J : JT} (h : b = true) : RX (some (.int (b2i b))) I J (some (.int 1)) I J := by subst h; exact rxq
theorem rxe {r r' : Option Value} {I I' : IT} {J J' : JT} (h : r' = r) (h1 : I' = I) (h2 : J' = J) : RX r I J r' I' J' := ⟨h, h1, h2⟩
/-- an array filled up to k -/
def fl (I : IT) (o : Nat) (g : Nat → Int32) (k : Nat) : IT := fun a b => if a = o then (if b < k then g b else I a b) else I a b
theorem fl_0 {I : IT} {o : Nat} {g : Nat → Int32} : fl I o g 0 = I := by
  funext a b; unfold fl
  split
  · rw [if_neg (by omega)]
  · rfl
theorem fl_s {I : IT} {o : Nat} {g : Nat → Int32} {k : Nat} {v : Int32} (h : v = g k) : up2 (fl I o g k) o k v = fl I o g (k + 1) := by
  subst h
  funext a b; unfold up2 fl
  by_cases ha : a = o
  · rw [if_pos ha, if_pos ha, if_pos ha]
    by_cases hb : b = k
    · subst hb; rw [if_pos rfl, if_pos (by omega)]
    · rw [if_neg hb]
      by_cases hk : b < k
      · rw [if_pos hk, if_pos (by omega)]
      · rw [if_neg hk, if_neg (by omega)]
  · rw [if_neg ha, if_neg ha, if_neg ha]
theorem fl_in {I : IT} {o : Nat} {g : Nat → Int32} {k b : Nat} (h : b < k) : fl I o g k o b = g b := by unfold fl; rw [if_pos rfl, if_pos h]
theorem fl_out {I : IT} {o : Nat} {g : Nat → Int32} {k b : Nat} (h : ¬ b < k) : fl I o g k o b = I o b := by unfold fl; rw [if_pos rfl, if_neg h]
theorem fl_o {I : IT} {o : Nat} {g : Nat → Int32} {k a : Nat} (h : a ≠ o) : fl I o g k a = I a := by funext b; unfold fl; rw [if_neg h]
theorem up2_2 {α : Type} {f : Nat → Nat → α} {o k : Nat} {v w : α} : up2 (up2 f o k v) o k w = up2 f o k w := by
  funext a b; unfold up2
  split
  · split
    · rfl
    · rfl
  · rfl
theorem up2_id {α : Type} {f : Nat → Nat → α} {o k : Nat} : up2 f o k (f o k) = f := by
  funext a b; unfold up2
  split
  · rename_i h; subst h
    split
    · rename_i h; subst h; rfl
    · rfl
  · rfl
theorem cl (k : Nat) (h : k < 2 ^ 31 := by omega) : (nI k).toNatClampNeg = k := nI_clamp h
theorem ib {k N : Nat} (h : k < N) (hN : N < 2 ^ 31 := by decide) : vp_in (nI k) N := vp_in_nI h hN
theorem nI_s (k : Nat) : nI k + 1 = nI (k + 1) := nI_1 k
theorem nI_ge' {a b : Nat} (hb : b < 2 ^ 31) (h : nI a ≤ nI b) (ha : a < 2 ^ 31) : a ≤ b := (nI_leI ha hb).mp h
section SMALL
variable {n : Nat} {R : RT} {I : IT} {J : JT}
theorem ct_X6_isIn (k x : Int32) : CN n R mX6_isIn 0 [.int k, .int x] I J (RX (some (.int (b2i (inS k x)))) I J) := by
  refine cn_of (by decide) rfl (Nat.le_of_ble_eq_true rfl) ?_
  refine blk s_X6_isIn_0 ?_
  refine b_X6_isIn_6 (fun h => ?_) (fun h => ?_)
  · refine blk s_X6_isIn_13 ?_
    exact r_X6_isIn_14 (Or.inl rfl) (rz0 (by unfold inS; exact decide_eq_false h))
  · refine blk s_X6_isIn_9 ?_
    exact r_X6_isIn_14 (Or.inr rfl) (rz1 (by unfold inS; exact decide_eq_true h))
theorem ct_X6_isInN {k : Nat} (hk : k < 32) (x : Int32) : CN n R mX6_isIn 0 [.int (nI k), .int x] I J (RX (some (.int (b2i (mb x k)))) I J) := by
  rw [← inS_nI x hk]; exact ct_X6_isIn _ _
theorem ct_X6_bit (b : Bool) : CN n R mX6_bit 0 [.int (b2i b)] I J (RX (some (.int (b2i b))) I J) := by
  refine cn_of (by decide) rfl (Nat.le_of_ble_eq_true rfl) ?_
  refine blk s_X6_bit_0 ?_
  refine b_X6_bit_1 (fun h => ?_) (fun h => ?_)
  · refine blk s_X6_bit_8 ?_
    exact r_X6_bit_9 (rz0 ((b2i_0 b).mp h))
  · refine blk s_X6_bit_4 ?_
    exact r_X6_bit_9 (rz1 (by cases b; exact absurd rfl h; rfl))
def ltB (s : Int32) (N : Int32) : Bool := !(decide (s < 0)) && !(decide (N ≤ s))
theorem ct_X6_isState (s : Int32) : CN n R mX6_isState 0 [.int s] I J (RX (some (.int (b2i (ltB s 16)))) I J) := by
  refine cn_of (by decide) rfl (Nat.le_of_ble_eq_true rfl) ?_
  refine blk s_X6_isState_0 ?_
  refine b_X6_isState_1 (fun h => ?_) (fun h => ?_)
  · refine blk s_X6_isState_14 ?_
    exact r_X6_isState_15 (Or.inl rfl) (rz0 (by simp [ltB, h]))
  · refine blk s_X6_isState_4 ?_
    refine b_X6_isState_7 (fun h2 => ?_) (fun h2 => ?_)
    · refine blk s_X6_isState_14 ?_
      exact r_X6_isState_15 (Or.inl rfl) (rz0 (by simp only [ltB, h2, decide_true, Bool.not_true, Bool.and_false]))
    · refine blk s_X6_isState_10 ?_
      exact r_X6_isState_15 (Or.inr rfl) (rz1 (by simp only [ltB, h, h2, decide_false, Bool.not_false, Bool.and_true]))
theorem ct_X6_isRow (s : Int32) : CN n R mX6_isRow 0 [.int s] I J (RX (some (.int (b2i (ltB s 4)))) I J) := by
  refine cn_of (by decide) rfl (Nat.le_of_ble_eq_true rfl) ?_
  refine blk s_X6_isRow_0 ?_
  refine b_X6_isRow_1 (fun h => ?_) (fun h => ?_)
  · refine blk s_X6_isRow_13 ?_
    exact r_X6_isRow_14 (Or.inl rfl) (rz0 (by simp [ltB, h]))
  · refine blk s_X6_isRow_4 ?_
    refine b_X6_isRow_6 (fun h2 => ?_) (fun h2 => ?_)
    · refine blk s_X6_isRow_13 ?_
      exact r_X6_isRow_14 (Or.inl rfl) (rz0 (by simp only [ltB, h2, decide_true, Bool.not_true, Bool.and_false]))
    · refine blk s_X6_isRow_9 ?_
      exact r_X6_isRow_14 (Or.inr rfl) (rz1 (by simp only [ltB, h, h2, decide_false, Bool.not_false, Bool.and_true]))
theorem ct_X6_isBox (s : Int32) : CN n R mX6_isBox 0 [.int s] I J (RX (some (.int (b2i (ltB s 4)))) I J) := by
  refine cn_of (by decide) rfl (Nat.le_of_ble_eq_true rfl) ?_
  refine blk s_X6_isBox_0 ?_
  refine b_X6_isBox_1 (fun h => ?_) (fun h => ?_)
  · refine blk s_X6_isBox_13 ?_
    exact r_X6_isBox_14 (Or.inl rfl) (rz0 (by simp [ltB, h]))
  · refine blk s_X6_isBox_4 ?_
    refine b_X6_isBox_6 (fun h2 => ?_) (fun h2 => ?_)
    · refine blk s_X6_isBox_13 ?_
      exact r_X6_isBox_14 (Or.inl rfl) (rz0 (by simp only [ltB, h2, decide_true, Bool.not_true, Bool.and_false]))
    · refine blk s_X6_isBox_9 ?_
      exact r_X6_isBox_14 (Or.inr rfl) (rz1 (by simp only [ltB, h, h2, decide_false, Bool.not_false, Bool.and_true]))
theorem ct_X6_faulted (w : Int32) : CN 62 RF mX6_faulted 0 [.ref 0, .int w] I J (RX (some (.int (-10 - w))) (up2 I 0 7 w) J) := by
  refine cn_of (by decide) rfl (Nat.le_of_ble_eq_true rfl) ?_
  refine blk s_X6_faulted_0 ?_
  exact r_X6_faulted_9 rxq
/-- the least number of a set of states -/
def lsN (p : Nat → Bool) : Nat → Option Nat
  | 0 => none
  | k + 1 => match lsN p k with
    | some j => some j
    | none => if p k then some k else none
def o2i (o : Option Nat) : Int32 := match o with
  | some k => nI k
  | none => -9
theorem lsN_none {p : Nat → Bool} : ∀ {k : Nat}, lsN p k = none ↔ ∀ j, j < k → p j = false
  | 0 => ⟨fun _ j h => (by omega), fun _ => rfl⟩
  | k + 1 => by
    show (match lsN p k with | some j => some j | none => if p k then some k else none) = none ↔ _
    cases h : lsN p k with
    | some j =>
      constructor
      · intro h2; cases h2
      · intro h2
        have := (lsN_none (p := p) (k := k)).mpr (fun j hj => h2 j (by omega))
        rw [h] at this; cases this
    | none =>
      have h1 := lsN_none.mp h
      constructor
      · intro h2 j hj
        by_cases hk : j < k
        · exact h1 j hk
        · have : j = k := by omega
          subst this
          cases hp : p j
          · rfl
          · rw [hp] at h2; cases h2
      · intro h2
        show (if p k then some k else none) = none
        rw [h2 k (by omega)]; rfl
theorem lsN_some {p : Nat → Bool} : ∀ {k j : Nat}, lsN p k = some j → j < k ∧ p j = true ∧ ∀ i, i < j → p i = false
  | 0, j, h => by cases h
  | k + 1, j, h => by
    change (match lsN p k with | some j => some j | none => if p k then some k else none) = some j at h
    cases hl : lsN p k with
    | some i =>
      rw [hl] at h
      cases h
      obtain ⟨a, b, c⟩ := lsN_some hl
      exact ⟨by omega, b, c⟩
    | none =>
      rw [hl] at h
      have h1 := lsN_none.mp hl
      cases hp : p k
      · rw [hp] at h; cases h
      · rw [hp] at h; cases h
        exact ⟨by omega, hp, h1⟩
theorem lsN_mono {p : Nat → Bool} {j : Nat} : ∀ {k m : Nat}, lsN p k = some j → k ≤ m → lsN p m = some j
  | k, 0, h, hm => by rw [show k = 0 by omega] at h; cases h
  | k, m + 1, h, hm => by
    by_cases hk : k ≤ m
    · have := lsN_mono h hk
      show (match lsN p m with | some j => some j | none => if p m then some m else none) = some j
      rw [this]
    · rw [show m + 1 = k by omega]; exact h
theorem lsN_first {p : Nat → Bool} {j k : Nat} (hj : j < k) (hp : p j = true) (hn : ∀ i, i < j → p i = false) : lsN p k = some j := by
  have h1 : lsN p j = none := lsN_none.mpr hn
  have h2 : lsN p (j + 1) = some j := by
    show (match lsN p j with | some i => some i | none => if p j then some j else none) = some j
    rw [h1, hp]; rfl
  exact lsN_mono h2 hj
theorem ct_X6_leastOf (x : Int32) : CN n R mX6_leastOf 1 [.int x] I J (RX (some (.int (o2i (lsN (mb x) 16)))) I J) := by
  generalize hQ : RX (some (.int (o2i (lsN (mb x) 16)))) I J = Q
  refine cn_of (by decide) rfl (Nat.le_of_ble_eq_true rfl) ?_
  refine blk s_X6_leastOf_0 ?_
  have key : ∀ k, k ≤ 16 → lsN (mb x) k = none → EN n R mX6_leastOf 1 2 [(0, .int x), (1, .int (nI k))] [] I J Q := by
    intro k hk
    refine dn (P := fun k => lsN (mb x) k = none → EN n R mX6_leastOf 1 2 [(0, .int x), (1, .int (nI k))] [] I J Q) (N := 16) ?_ ?_ hk
    · intro h0
      refine blk s_X6_leastOf_2 ?_
      refine b_X6_leastOf_5 (fun h => ?_) (fun h => ?_)
      · refine blk s_X6_leastOf_24 ?_
        refine r_X6_leastOf_26 ?_
        rw [← hQ, h0]; exact rxq
      · exact absurd (Int32.le_refl _) h
    · intro k hk ih h0
      refine blk s_X6_leastOf_2 ?_
      refine b_X6_leastOf_5 (fun h => ?_) (fun h => ?_)
      · exact absurd h (nI_ge hk (by decide))
      · refine blk s_X6_leastOf_8 ?_
        refine c_X6_leastOf_10 (ct_X6_isInN (by omega) x) rfl (by decide) rfl (by decide) (rx ?_)
        refine b_X6_leastOf_13 (fun h => ?_) (fun h => ?_)
        · refine blk s_X6_leastOf_18 ?_
          refine en_L (by rw [nI_s]) (ih ?_)
          show (match lsN (mb x) k with | some i => some i | none => if mb x k then some k else none) = none
          rw [h0, (b2i_0 _).mp h]; rfl
        · refine blk s_X6_leastOf_16 ?_
          refine r_X6_leastOf_17 ?_
          have hb : mb x k = true := by cases hm : mb x k; exact absurd (by rw [hm]; rfl) h; rfl
          rw [← hQ, lsN_first hk hb (lsN_none.mp h0)]; exact rxq
  exact key 0 (by omega) rfl
end SMALL
/-! Terms: has, trueStates -/
def hasT (I : IT) (t : Int32) : Bool := !(decide (t < 0)) && !(decide (I 1 9 ≤ t))
theorem ct_X4_has {I : IT} {J : JT} (t : Int32) : CN 62 RF mX4_has 0 [.ref 1, .int t] I J (RX (some (.int (b2i (hasT I t)))) I J) := by
  refine cn_of (by decide) rfl (Nat.le_of_ble_eq_true rfl) ?_
  refine blk s_X4_has_0 ?_
  refine b_X4_has_1 (fun h => ?_) (fun h => ?_)
  · refine blk s_X4_has_16 ?_
    exact r_X4_has_17 (Or.inl rfl) (rz0 (by simp [hasT, h]))
  · refine blk s_X4_has_4 ?_
    refine b_X4_has_9 (fun h2 => ?_) (fun h2 => ?_)
    · refine blk s_X4_has_16 ?_
      exact r_X4_has_17 (Or.inl rfl) (rz0 (by simp only [hasT, h2, decide_true, Bool.not_true, Bool.and_false]))
    · refine blk s_X4_has_12 ?_
      exact r_X4_has_17 (Or.inr rfl) (rz1 (by simp only [hasT, h, h2, decide_false, Bool.not_false, Bool.and_true]))
/-- the count of terms is C -/
theorem hasT_nI {I : IT} {C : Nat} (hC : I 1 9 = nI C) (hC2 : C < 2 ^ 31) {t : Nat} (ht : t < 2 ^ 31) : hasT I (nI t) = decide (t < C) := by
  unfold hasT
  rw [hC, decide_eq_false (nI_pos ht), Bool.not_false, Bool.true_and]
  by_cases h : t < C
  · rw [decide_eq_true h, decide_eq_false (fun h2 => by have := (nI_leI hC2 ht).mp h2; omega)]; rfl
  · rw [decide_eq_false h, decide_eq_true ((nI_leI hC2 ht).mpr (by omega))]; rfl
theorem hasT_none {I : IT} : hasT I (-9) = false := by unfold hasT; rw [decide_eq_true (by decide)]; rfl
theorem hasT_ex {I : IT} {C : Nat} (hC : I 1 9 = nI C) (hC2 : C < 2 ^ 31) {t : Int32} (h : hasT I t = true) : ∃ k, k < C ∧ t = nI k := by
  unfold hasT at h
  simp only [Bool.and_eq_true, Bool.not_eq_true', decide_eq_false_iff_not] at h
  obtain ⟨k, hk, rfl⟩ := nI_of h.1
  refine ⟨k, ?_, rfl⟩
  have := h.2
  rw [hC, nI_leI hC2 hk] at this
  omega
/-- a term's value: the bit of its table -/
def vl (J : JT) (t s r : Nat) : Bool := (J 10 t).toBitVec.getLsbD (16 * r + s)
theorem lushr_bit (x : Int64) {n : Nat} (hn : n < 64) (k : Nat) : ((x.toUInt64 >>> ((nI n).toInt64.toUInt64 &&& Int64.toUInt64 63)).toInt64).toBitVec.getLsbD k = x.toBitVec.getLsbD (n + k) := by
  have h1 : (((nI n).toInt64.toUInt64 &&& Int64.toUInt64 63)).toBitVec = BitVec.ofNat 64 n := by
    revert n; decide +kernel
  show ((x.toUInt64 >>> ((nI n).toInt64.toUInt64 &&& Int64.toUInt64 63)).toBitVec).getLsbD k = _
  rw [UInt64.toBitVec_shiftRight, h1]
  have h2 : (BitVec.ofNat 64 n % 64) = BitVec.ofNat 64 n := by
    revert n; decide +kernel
  rw [h2, BitVec.ushiftRight_eq', BitVec.getLsbD_ushiftRight]
  have h3 : (BitVec.ofNat 64 n).toNat = n := by rw [BitVec.toNat_ofNat]; exact Nat.mod_eq_of_lt (by omega)
  rw [h3]; rfl
theorem l2i_bit (x : Int64) {k : Nat} (hk : k < 32) : mb x.toInt32 k = x.toBitVec.getLsbD k := by
  unfold mb
  rw [Int64.toBitVec_toInt32, BitVec.getLsbD_signExtend]
  rw [decide_eq_true hk, Bool.true_and, if_pos (by omega)]
def tsX (J : JT) (t r : Nat) : Int32 := bs (fun s => vl J t s r)
theorem nI_mul (a b : Nat) : nI a * nI b = nI (a * b) := pk_mul a b
theorem ct_X4_trueStates {I : IT} {J : JT} {t r : Nat} (ht : t < 40) (hr : r < 4) : CN 62 RF mX4_trueStates 0 [.ref 1, .int (nI t), .int (nI r)] I J (RX (some (.int (tsX J t r))) I J) := by
  refine cn_of (by decide) rfl (Nat.le_of_ble_eq_true rfl) ?_
  refine blk s_X4_trueStates_0 (And.intro (ib ht) ?_)
  refine r_X4_trueStates_15 (rxe ?_ rfl rfl)
  rw [cl t]
  have e : (16 : Int32) * nI r = nI (16 * r) := nI_mul 16 r
  rw [e]
  congr 2
  refine bs_eq _ (fun k hk => by rw [mb_and, mb_all, decide_eq_false (by omega), Bool.and_false]) (fun k hk => ?_)
  rw [mb_and, mb_all, decide_eq_true hk, Bool.and_true, l2i_bit _ (by omega), lushr_bit _ (by omega)]
  rfl
