/-! CONTRACTS of Lemmas -/
section LEM
variable {I : IT} {J : JT}
theorem ct_X2_forgetAll : CN 62 RF mX2_forgetAll 0 [.ref 19] I J (RX none (up2 (up2 I 19 3 0) 19 4 65535) J) := by
  refine cn_of (by decide) rfl (Nat.le_of_ble_eq_true rfl) ?_
  refine blk s_X2_forgetAll_0 (nm ?_)
  exact r_X2_forgetAll_11 rxq
theorem ct_X2_goodStates {A B : Nat → Bool} (hA : I 19 4 = bs A) (hB : I 11 5 = bs B) : CN 62 RF mX2_goodStates 0 [.ref 19] I J (RX (some (.int (bs (fun s => A s && !B s)))) I J) := by
  refine cn_of (by decide) rfl (Nat.le_of_ble_eq_true rfl) ?_
  refine blk s_X2_goodStates_0 (nm ?_)
  rw [hA, hB, bs_diff]
  exact r_X2_goodStates_14 rxq
theorem ct_X2_threats {A B : Nat → Bool} (hA : I 19 4 = bs A) (hB : I 11 5 = bs B) : CN 62 RF mX2_threats 0 [.ref 19] I J (RX (some (.int (bs (fun s => A s && B s)))) I J) := by
  refine cn_of (by decide) rfl (Nat.le_of_ble_eq_true rfl) ?_
  refine blk s_X2_threats_0 (nm ?_)
  rw [hA, hB, bs_and]
  exact r_X2_threats_12 rxq
def wkP (rr : Nat → Nat → Bool) (A B : Nat → Bool) (s : Nat) : Bool := (A s && !B s) && so rr (fun t => A t && B t) s
theorem ct_X2_weakStates {rr : Nat → Nat → Bool} {A B : Nat → Bool} (hA : I 19 4 = bs A) (hB : I 11 5 = bs B) (hR : ∀ s, s < 16 → I 14 s = bs (rr s)) : CN 62 RF mX2_weakStates 1 [.ref 19] I J (RX (some (.int (bs (wkP rr A B)))) I J) := by
  refine cn_of (by decide) rfl (Nat.le_of_ble_eq_true rfl) ?_
  refine blk s_X2_weakStates_0 (nm ?_)
  refine c_X2_weakStates_1 (ct_X2_goodStates hA hB) rfl (by decide) rfl (Nat.le_of_ble_eq_true rfl) (by decide) rfl (rx ?_)
  refine blk s_X2_weakStates_4 (nm ?_)
  refine c_X2_weakStates_9 (ct_X2_threats hA hB) rfl (by decide) rfl (Nat.le_of_ble_eq_true rfl) (by decide) rfl (rx ?_)
  refine c_X2_weakStates_12 (ct_X3_sources hR _) rfl (by decide) rfl (Nat.le_of_ble_eq_true rfl) (by decide) rfl (rx ?_)
  refine blk s_X2_weakStates_15 (nm ?_)
  rw [bs_and]
  refine r_X2_weakStates_16 (rxe ?_ rfl rfl)
  congr 2
  refine bsN_cg fun s _ => ?_
  show _ = ((A s && !B s) && _)
  rw [so_cg (fun t ht => mb_bs1 _ ht)]
/-- a set fits: it has all starts, and steps from good ones of it lead into it -/
def ftB (rr : Nat → Nat → Bool) (S G p : Nat → Bool) : Bool := alN (fun s => !S s || p s) 16 && alN (fun t => !(im rr (fun s => G s && p s) t) || p t) 16
theorem ftB_cg {rr : Nat → Nat → Bool} {S G p q : Nat → Bool} (h : ∀ s, s < 16 → p s = q s) : ftB rr S G p = ftB rr S G q := by
  unfold ftB
  rw [alN_cg (p := fun s => !S s || p s) (q := fun s => !S s || q s) (fun s hs => by rw [h s hs]), alN_cg (p := fun t => !(im rr (fun s => G s && p s) t) || p t) (q := fun t => !(im rr (fun s => G s && q s) t) || q t) (fun t ht => by rw [h t ht, im_cg (q := fun s => G s && q s) (fun s hs => by rw [h s hs])])]
theorem diff0 (p : Nat → Bool) (x : Int32) : bs p &&& (x ^^^ (-1)) = 0 ↔ alN (fun s => !p s || mb x s) 16 = true := by
  have e : bs p &&& (x ^^^ (-1)) = bs (fun s => p s && !mb x s) := bs_eq _ (sm_and (sm_bs p) _) fun k hk => by rw [mb_and, mb_not _ (by omega), mb_bs1 p hk]
  rw [e, bs_0, alN_iff]
  constructor
  · intro h k hk
    have := h k hk
    cases hp : p k <;> cases hm : mb x k <;> simp_all
  · intro h k hk
    have := h k hk
    cases hp : p k <;> cases hm : mb x k <;> simp_all
theorem ct_X2_fits {rr : Nat → Nat → Bool} {S A B : Nat → Bool} (hS : I 11 4 = bs S) (hA : I 19 4 = bs A) (hB : I 11 5 = bs B) (hR : ∀ s, s < 16 → I 14 s = bs (rr s)) (x : Int32) : CN 62 RF mX2_fits 2 [.ref 19, .int x] I J (RX (some (.int (b2i (ftB rr S (fun s => A s && !B s) (mb x))))) I J) := by
  refine cn_of (by decide) rfl (Nat.le_of_ble_eq_true rfl) ?_
  refine blk s_X2_fits_0 (nm ?_)
  rw [hS]
  refine b_X2_fits_11 (fun h => ?_) (fun h => ?_)
  · have h1 := (diff0 _ _).mp h
    refine blk s_X2_fits_16 (nm ?_)
    refine c_X2_fits_21 (ct_X2_goodStates hA hB) rfl (by decide) rfl (Nat.le_of_ble_eq_true rfl) (by decide) rfl (rx ?_)
    refine blk s_X2_fits_24 (nm ?_)
    rw [bs_andx]
    refine c_X2_fits_26 (ct_X3_image hR _) rfl (by decide) rfl (Nat.le_of_ble_eq_true rfl) (by decide) rfl (rx ?_)
    refine blk s_X2_fits_29 (nm ?_)
    have e2 : bs (im rr (mb (bs fun t => (A t && !B t) && mb x t))) = bs (im rr (fun t => (A t && !B t) && mb x t)) := bsN_cg fun t _ => im_cg (fun s hs => mb_bs1 _ hs) t
    rw [e2]
    refine b_X2_fits_33 (fun h => ?_) (fun h => ?_)
    · refine blk s_X2_fits_40 (nm ?_)
      refine r_X2_fits_41 (Or.inl rfl) (rz0 ?_)
      unfold ftB
      rw [h1, Bool.true_and]
      cases hh : alN (fun t => !(im rr (fun s => (A s && !B s) && mb x s) t) || mb x t) 16
      · rfl
      · exact absurd ((diff0 _ _).mpr hh) h
    · refine blk s_X2_fits_36 (nm ?_)
      refine r_X2_fits_41 (Or.inr rfl) (rz1 ?_)
      unfold ftB
      rw [h1, Bool.true_and]
      exact (diff0 _ _).mp h
  · refine blk s_X2_fits_14 (nm ?_)
    refine r_X2_fits_15 (Or.inl rfl) (rz0 ?_)
    unfold ftB
    cases hh : alN (fun s => !S s || mb x s) 16
    · rfl
    · exact absurd ((diff0 _ _).mpr hh) h
/-- what is written as a lemma comes -/
def adI (I : IT) (K : Nat) (x c : Int32) : IT := up2 (up2 (up2 (up2 I 20 K x) 21 K c) 19 4 (I 19 4 &&& x)) 19 3 (nI (K + 1))
theorem ct_X2_addFull (hK : I 19 3 = nI 8) (x c : Int32) : CN 62 RF mX2_add 0 [.ref 19, .int x, .int c] I J (RX (some (.int (-4))) I J) := by
  refine cn_of (by decide) rfl (Nat.le_of_ble_eq_true rfl) ?_
  refine blk s_X2_add_0 (nm ?_)
  rw [hK]
  refine b_X2_add_6 (fun h => absurd h Int32.lt_irrefl) (fun h => ?_)
  refine blk s_X2_add_9 (nm ?_)
  exact r_X2_add_11 rxq
theorem ct_X2_add {K : Nat} (hK : I 19 3 = nI K) (hK8 : K < 8) (x c : Int32) : CN 62 RF mX2_add 0 [.ref 19, .int x, .int c] I J (RX (some (.int (nI K))) (adI I K x c) J) := by
  refine cn_of (by decide) rfl (Nat.le_of_ble_eq_true rfl) ?_
  refine blk s_X2_add_0 (nm ?_)
  rw [hK]
  refine b_X2_add_6 (fun h => ?_) (fun h => absurd ((nI_ltI (b := 8) (by omega) (by decide)).mpr hK8) h)
  have e1 : ∀ v, up2 I 20 K v 19 3 = nI K := fun v => by rw [up2_o (by decide)]; exact hK
  refine blk s_X2_add_12 (And.intro (by rw [hK]; exact ib (by omega)) (And.intro (by rw [hK, cl K, e1]; exact ib (by omega)) (And.intro rfl (And.intro rfl (nm ?_)))))
  rw [hK, cl K, e1, cl K]
  rw [show (up2 (up2 I 20 K x) 21 K c) 19 4 = I 19 4 from by rw [up2_o (by decide), up2_o (by decide)]]
  rw [show (up2 (up2 (up2 I 20 K x) 21 K c) 19 4 (I 19 4 &&& x)) 19 3 = nI K from by rw [up2_k (by decide), up2_o (by decide), up2_o (by decide)]; exact hK]
  rw [nI_s, up2_s, nI_pred]
  exact r_X2_add_58 rxq
def inA (I : IT) (K s : Nat) : Bool := alN (fun k => mb (I 20 k) s) K
theorem bs_alN_s (f : Nat → Int32) (k : Nat) : bs (fun s => alN (fun j => mb (f j) s) k) &&& f k = bs (fun s => alN (fun j => mb (f j) s) (k + 1)) := by
  rw [bs_andx]; rfl
theorem ct_X2_removeLast {K : Nat} (hK : I 19 3 = nI (K + 1)) (hK8 : K < 8) : CN 62 RF mX2_removeLast 0 [.ref 19] I J (RX (some (.int (nI K))) (up2 (up2 I 19 3 (nI K)) 19 4 (bs (inA I K))) J) := by
  generalize hQ : RX (some (.int (nI K))) (up2 (up2 I 19 3 (nI K)) 19 4 (bs (inA I K))) J = Q
  have hQ' : Q (some (.int (nI K))) (up2 (up2 I 19 3 (nI K)) 19 4 (bs (inA I K))) J := by rw [← hQ]; exact rxq
  clear hQ
  refine cn_of (by decide) rfl (Nat.le_of_ble_eq_true rfl) ?_
  refine blk s_X2_removeLast_0 (nm ?_)
  rw [hK]
  refine b_X2_removeLast_4 (fun h => absurd h (nI_nle (by omega) (by omega))) (fun h => ?_)
  refine blk s_X2_removeLast_7 (And.intro rfl (nm ?_))
  rw [hK, nI_pred]
  refine blk s_X2_removeLast_17 (nm ?_)
  generalize hX : up2 I 19 3 (nI K) = X at *
  have hX3 : X 19 3 = nI K := by rw [← hX, up2_s]
  have hX20 : X 20 = I 20 := by rw [← hX]; exact up2_o (by decide)
  refine en_I (I' := up2 X 19 4 (bs (fun s => alN (fun j => mb (I 20 j) s) 0))) (congrArg (up2 X 19 4) all_bs) ?_
  refine dn (P := fun k => EN 62 RF mX2_removeLast 0 25 [(0, .ref 19), (1, .int (nI k))] [] (up2 X 19 4 (bs (fun s => alN (fun j => mb (I 20 j) s) k))) J Q) (N := K) ?_ ?_ (Nat.zero_le _)
  · refine blk s_X2_removeLast_25 (nm ?_)
    rw [up2_k (by decide), hX3]
    refine b_X2_removeLast_30 (fun h => ?_) (fun h => absurd (Int32.le_refl _) h)
    refine blk s_X2_removeLast_54 (nm ?_)
    rw [up2_k (by decide), hX3]
    exact r_X2_removeLast_58 hQ'
  · intro k hk ih
    refine blk s_X2_removeLast_25 (nm ?_)
    rw [up2_k (by decide), hX3]
    refine b_X2_removeLast_30 (fun h => absurd h (nI_ge hk (by omega))) (fun h => ?_)
    refine blk s_X2_removeLast_33 (And.intro rfl (And.intro (ib (by omega)) (nm ?_)))
    rw [cl k, up2_s, show ∀ v, up2 X 19 4 v 20 k = I 20 k from fun v => by rw [up2_o (by decide), hX20], up2_2, bs_alN_s]
    exact en_L (by rw [nI_s]) ih
/-- the states that differ from s0 in one of the named variables -/
def ouP (a s0 s : Nat) : Bool := decide (((s ^^^ s0) &&& a) ≠ 0)
theorem ou_bit : ∀ s, s < 16 → ∀ s0, s0 < 16 → (nI s ^^^ nI s0) = nI (s ^^^ s0) := by decide +kernel
theorem nI_and16 : ∀ a, a < 16 → ∀ b, b < 16 → nI a &&& nI b = nI (a &&& b) := by decide +kernel
theorem and_lt16 : ∀ a, a < 16 → ∀ b, b < 16 → a &&& b < 16 := by decide +kernel
theorem ct_X2_outside {n : Nat} {R : RT} {a s0 : Nat} (ha : a < 16) (hs0 : s0 < 16) : CN n R mX2_outside 0 [.int (nI a), .int (nI s0)] I J (RX (some (.int (bs (ouP a s0)))) I J) := by
  generalize hQ : RX (some (.int (bs (ouP a s0)))) I J = Q
  have hQ' : Q (some (.int (bs (ouP a s0)))) I J := by rw [← hQ]; exact rxq
  clear hQ
  refine cn_of (by decide) rfl (Nat.le_of_ble_eq_true rfl) ?_
  refine blk s_X2_outside_0 (nm ?_)
  refine dn (P := fun k => EN n R mX2_outside 0 4 [(0, .int (nI a)), (1, .int (nI s0)), (2, .int (bsN (ouP a s0) k)), (3, .int (nI k))] [] I J Q) (N := 16) ?_ ?_ (Nat.zero_le _)
  · refine blk s_X2_outside_4 (nm ?_)
    refine b_X2_outside_7 (fun h => ?_) (fun h => absurd (Int32.le_refl _) h)
    refine blk s_X2_outside_30 (nm ?_)
    exact r_X2_outside_31 hQ'
  · intro k hk ih
    have back : ∀ y : Int32, y = bsN (ouP a s0) (k + 1) → EN n R mX2_outside 0 24 [(0, .int (nI a)), (1, .int (nI s0)), (2, .int y), (3, .int (nI k))] [] I J Q := by
      intro y hy
      subst hy
      refine blk s_X2_outside_24 (nm ?_)
      exact en_L (by rw [nI_s]) ih
    refine blk s_X2_outside_4 (nm ?_)
    refine b_X2_outside_7 (fun h => absurd h (nI_ge hk (by decide))) (fun h => ?_)
    refine blk s_X2_outside_10 (nm ?_)
    have hx := xor_lt16 k hk s0 hs0
    have hl := and_lt16 _ hx a ha
    rw [ou_bit k hk s0 hs0, nI_and16 _ hx a ha]
    refine b_X2_outside_15 (fun h => ?_) (fun h => ?_)
    · refine back _ (bsN_f (decide_eq_false (fun hn => hn ?_)))
      exact (nI_eq (b := 0) (by omega) (by decide)).mp h
    · refine blk s_X2_outside_18 (nm ?_)
      exact back _ (bsN_t (decide_eq_true (fun hn => h (by rw [hn]; rfl))))
/-- the least of the weak states without which all others fit -/
def goP (rr : Nat → Nat → Bool) (S G W : Nat → Bool) (s : Nat) : Bool := W s && ftB rr S G (fun k => !decide (k = s))
theorem ct_X2_leastThatCanGo {rr : Nat → Nat → Bool} {S A B : Nat → Bool} (hS : I 11 4 = bs S) (hA : I 19 4 = bs A) (hB : I 11 5 = bs B) (hR : ∀ s, s < 16 → I 14 s = bs (rr s)) (W : Nat → Bool) : CN 62 RF mX2_leastThatCanGo 3 [.ref 19, .int (bs W)] I J (RX (some (.int (o2i (lsN (goP rr S (fun s => A s && !B s) W) 16)))) I J) := by
  generalize hQ : RX (some (.int (o2i (lsN (goP rr S (fun s => A s && !B s) W) 16)))) I J = Q
  have hQ' : Q (some (.int (o2i (lsN (goP rr S (fun s => A s && !B s) W) 16)))) I J := by rw [← hQ]; exact rxq
  clear hQ
  generalize hp : goP rr S (fun s => A s && !B s) W = p at hQ'
  have hp' : ∀ s, p s = (W s && ftB rr S (fun s => A s && !B s) (fun k => !decide (k = s))) := fun s => by rw [← hp]; rfl
  refine cn_of (by decide) rfl (Nat.le_of_ble_eq_true rfl) ?_
  refine blk s_X2_leastThatCanGo_0 (nm ?_)
  have key : ∀ k, k ≤ 16 → lsN p k = none → EN 62 RF mX2_leastThatCanGo 3 2 [(0, .ref 19), (1, .int (bs W)), (2, .int (nI k))] [] I J Q := by
    intro k hk
    refine dn (P := fun k => lsN p k = none → EN 62 RF mX2_leastThatCanGo 3 2 [(0, .ref 19), (1, .int (bs W)), (2, .int (nI k))] [] I J Q) (N := 16) ?_ ?_ hk
    · intro h0
      refine blk s_X2_leastThatCanGo_2 (nm ?_)
      refine b_X2_leastThatCanGo_5 (fun h => ?_) (fun h => absurd (Int32.le_refl _) h)
      refine blk s_X2_leastThatCanGo_39 (nm ?_)
      refine r_X2_leastThatCanGo_41 ?_
      rw [h0] at hQ'
      exact hQ'
    · intro k hk ih h0
      have no : p k = false → EN 62 RF mX2_leastThatCanGo 3 33 [(0, .ref 19), (1, .int (bs W)), (2, .int (nI k))] [] I J Q := by
        intro hn
        refine blk s_X2_leastThatCanGo_33 (nm ?_)
        refine en_L (by rw [nI_s]) (ih ?_)
        show (match lsN p k with | some i => some i | none => if p k then some k else none) = none
        rw [h0, hn]; rfl
      refine blk s_X2_leastThatCanGo_2 (nm ?_)
      refine b_X2_leastThatCanGo_5 (fun h => absurd h (nI_ge hk (by decide))) (fun h => ?_)
      refine blk s_X2_leastThatCanGo_8 (nm ?_)
      refine c_X2_leastThatCanGo_10 (ct_X6_isInN (by omega) _) rfl (by decide) rfl (Nat.le_of_ble_eq_true rfl) (rx ?_)
      rw [mb_bs1 _ hk]
      refine b_X2_leastThatCanGo_13 (fun h => no (by rw [hp', (b2i_0 _).mp h, Bool.false_and])) (fun h => ?_)
      refine blk s_X2_leastThatCanGo_16 (nm ?_)
      have ex : (65535 : Int32) &&& ((1 : Int32) <<< (nI k &&& 31) ^^^ (-1)) = bs (fun j => !decide (j = k)) := by
        rw [all_bs, bs_one hk, bs_diff]
        exact bsN_cg fun j _ => Bool.true_and _
      rw [ex]
      refine c_X2_leastThatCanGo_25 (ct_X2_fits hS hA hB hR _) rfl (by decide) rfl (Nat.le_of_ble_eq_true rfl) (by decide) rfl (rx ?_)
      rw [ftB_cg (q := fun j => !decide (j = k)) (fun s hs => mb_bs1 _ hs)]
      refine b_X2_leastThatCanGo_28 (fun h2 => no (by rw [hp', (b2i_0 _).mp h2, Bool.and_false])) (fun h2 => ?_)
      refine blk s_X2_leastThatCanGo_31 (nm ?_)
      refine r_X2_leastThatCanGo_32 ?_
      rw [lsN_first hk (by rw [hp', b2t h, b2t h2]; rfl) (lsN_none.mp h0)] at hQ'
      exact hQ'
  exact key 0 (by omega) rfl
/-- names made fewer, one by one -/
def fw (a v : Nat) : Nat := a &&& (15 ^^^ 2 ^ v)
theorem fw_bit : ∀ a, a < 16 → ∀ v, v < 4 → nI a &&& ((1 : Int32) <<< (nI v &&& 31) ^^^ (-1)) = nI (fw a v) ∧ fw a v < 16 := by decide +kernel
def wdN (rr : Nat → Nat → Bool) (S G : Nat → Bool) (s0 : Nat) : Nat → Nat
  | 0 => 15
  | v + 1 => match ftB rr S G (ouP (fw (wdN rr S G s0 v) v) s0) with
    | true => fw (wdN rr S G s0 v) v
    | false => wdN rr S G s0 v
theorem wdN_lt (rr : Nat → Nat → Bool) (S G : Nat → Bool) (s0 : Nat) : ∀ v, v ≤ 4 → wdN rr S G s0 v < 16
  | 0, _ => by show 15 < 16; omega
  | v + 1, h => by
    have ih := wdN_lt rr S G s0 v (by omega)
    show (match ftB rr S G (ouP (fw (wdN rr S G s0 v) v) s0) with | true => fw (wdN rr S G s0 v) v | false => wdN rr S G s0 v) < 16
    split
    · exact (fw_bit _ ih v (by omega)).2
    · exact ih
theorem ct_X2_widestNames {rr : Nat → Nat → Bool} {S A B : Nat → Bool} (hS : I 11 4 = bs S) (hA : I 19 4 = bs A) (hB : I 11 5 = bs B) (hR : ∀ s, s < 16 → I 14 s = bs (rr s)) {s0 : Nat} (hs0 : s0 < 16) : CN 62 RF mX2_widestNames 3 [.ref 19, .int (nI s0)] I J (RX (some (.int (nI (wdN rr S (fun s => A s && !B s) s0 4)))) I J) := by
  generalize hG : (fun s => A s && !B s) = G
  generalize hQ : RX (some (.int (nI (wdN rr S G s0 4)))) I J = Q
  have hQ' : Q (some (.int (nI (wdN rr S G s0 4)))) I J := by rw [← hQ]; exact rxq
  clear hQ
  refine cn_of (by decide) rfl (Nat.le_of_ble_eq_true rfl) ?_
  refine blk s_X2_widestNames_0 (nm ?_)
  refine dn (P := fun v => EN 62 RF mX2_widestNames 3 5 [(0, .ref 19), (1, .int (nI s0)), (2, .int (nI (wdN rr S G s0 v))), (3, .int (nI v))] [] I J Q) (N := 4) ?_ ?_ (Nat.zero_le _)
  · refine blk s_X2_widestNames_5 (nm ?_)
    refine b_X2_widestNames_7 (fun h => ?_) (fun h => absurd (Int32.le_refl _) h)
    refine blk s_X2_widestNames_41 (nm ?_)
    exact r_X2_widestNames_42 hQ'
  · intro v hv ih
    have ha := wdN_lt rr S G s0 v (by omega)
    obtain ⟨e1, e2⟩ := fw_bit _ ha v hv
    have back : ∀ y : Nat, y = wdN rr S G s0 (v + 1) → EN 62 RF mX2_widestNames 3 35 [(0, .ref 19), (1, .int (nI s0)), (2, .int (nI y)), (3, .int (nI v)), (4, .int (nI (fw (wdN rr S G s0 v) v)))] [] I J Q := by
      intro y hy
      subst hy
      refine blk s_X2_widestNames_35 (nm ?_)
      exact wkt 4 (en_L (by rw [nI_s]; rfl) ih)
    refine blk s_X2_widestNames_5 (nm ?_)
    refine b_X2_widestNames_7 (fun h => absurd h (nI_ge hv (by decide))) (fun h => ?_)
    refine blk s_X2_widestNames_10 (nm ?_)
    rw [e1]
    refine c_X2_widestNames_23 (ct_X2_outside e2 hs0) rfl (by decide) rfl (Nat.le_of_ble_eq_true rfl) (rx ?_)
    refine c_X2_widestNames_26 (ct_X2_fits hS hA hB hR _) rfl (by decide) rfl (Nat.le_of_ble_eq_true rfl) (by decide) rfl (rx ?_)
    rw [ftB_cg (q := ouP (fw (wdN rr S G s0 v) v) s0) (fun s hs => mb_bs1 _ hs), hG]
    refine b_X2_widestNames_29 (fun h => ?_) (fun h => ?_)
    · refine back _ ?_
      show _ = (match ftB rr S G (ouP (fw (wdN rr S G s0 v) v) s0) with | true => _ | false => _)
      rw [(b2i_0 _).mp h]
    · refine blk s_X2_widestNames_32 (nm ?_)
      refine back _ ?_
      show _ = (match ftB rr S G (ouP (fw (wdN rr S G s0 v) v) s0) with | true => _ | false => _)
      rw [b2t h]
theorem ct_X2_addIfFitting_no {rr : Nat → Nat → Bool} {S A B : Nat → Bool} (hS : I 11 4 = bs S) (hA : I 19 4 = bs A) (hB : I 11 5 = bs B) (hR : ∀ s, s < 16 → I 14 s = bs (rr s)) {x : Int32} (hf : ftB rr S (fun s => A s && !B s) (mb x) = false) : CN 62 RF mX2_addIfFitting 3 [.ref 19, .int x] I J (RX (some (.int (-3))) I J) := by
  refine cn_of (by decide) rfl (Nat.le_of_ble_eq_true rfl) ?_
  refine blk s_X2_addIfFitting_0 (nm ?_)
  refine c_X2_addIfFitting_2 (ct_X2_fits hS hA hB hR _) rfl (by decide) rfl (Nat.le_of_ble_eq_true rfl) (by decide) rfl (rx ?_)
  rw [hf]
  refine b_X2_addIfFitting_5 (fun h => absurd rfl h) (fun h => ?_)
  refine blk s_X2_addIfFitting_8 (nm ?_)
  exact r_X2_addIfFitting_10 rxq
theorem ct_X2_addIfFitting_yes {rr : Nat → Nat → Bool} {S A B : Nat → Bool} (hS : I 11 4 = bs S) (hA : I 19 4 = bs A) (hB : I 11 5 = bs B) (hR : ∀ s, s < 16 → I 14 s = bs (rr s)) {x : Int32} (hf : ftB rr S (fun s => A s && !B s) (mb x) = true) {r : Option Value} {I' : IT} (hadd : CN 62 RF mX2_add 0 [.ref 19, .int x, .int (-9)] I J (RX r I' J)) (hr : ∃ v, r = some (.int v)) : CN 62 RF mX2_addIfFitting 3 [.ref 19, .int x] I J (RX r I' J) := by
  obtain ⟨v, rfl⟩ := hr
  refine cn_of (by decide) rfl (Nat.le_of_ble_eq_true rfl) ?_
  refine blk s_X2_addIfFitting_0 (nm ?_)
  refine c_X2_addIfFitting_2 (ct_X2_fits hS hA hB hR _) rfl (by decide) rfl (Nat.le_of_ble_eq_true rfl) (by decide) rfl (rx ?_)
  rw [hf]
  refine b_X2_addIfFitting_5 (fun h => ?_) (fun h => by cases h)
  refine blk s_X2_addIfFitting_11 (nm ?_)
  refine c_X2_addIfFitting_15 hadd rfl (by decide) rfl (Nat.le_of_ble_eq_true rfl) (by decide) rfl (rx ?_)
  exact r_X2_addIfFitting_18 rxq
/-- a cube, told as by strengthen -/
def cbV (a s0 : Nat) : Int32 := nI (16 * a + (s0 &&& a))
theorem cb_eq : ∀ a, a < 16 → ∀ s0, s0 < 16 → (16 : Int32) * nI a + (nI s0 &&& nI a) = cbV a s0 ∧ ¬ cbV a s0 = -4 := by decide +kernel
section STR
variable {rr : Nat → Nat → Bool} {S A B : Nat → Bool}
theorem ct_X2_str_none (hA : I 19 4 = bs A) (hB : I 11 5 = bs B) (hR : ∀ s, s < 16 → I 14 s = bs (rr s)) (hw : ∀ s, s < 16 → wkP rr A B s = false) : CN 62 RF mX2_addByStrengthening 4 [.ref 19] I J (RX (some (.int (-9))) I J) := by
  refine cn_of (by decide) rfl (Nat.le_of_ble_eq_true rfl) ?_
  refine blk s_X2_addByStrengthening_0 (nm ?_)
  refine c_X2_addByStrengthening_1 (ct_X2_weakStates hA hB hR) rfl (by decide) rfl (Nat.le_of_ble_eq_true rfl) (by decide) rfl (rx ?_)
  refine b_X2_addByStrengthening_4 (fun h => absurd ((bs_0 _).mpr hw) h) (fun h => ?_)
  refine blk s_X2_addByStrengthening_7 (nm ?_)
  exact r_X2_addByStrengthening_9 rxq
theorem str_go (hS : I 11 4 = bs S) (hA : I 19 4 = bs A) (hB : I 11 5 = bs B) (hR : ∀ s, s < 16 → I 14 s = bs (rr s)) {s1 : Nat} (hs1 : s1 < 16) (hw : wkP rr A B s1 = true) {Q : IQ} (h : EN 62 RF mX2_addByStrengthening 4 18 [(0, .ref 19)] [.int (o2i (lsN (goP rr S (fun s => A s && !B s) (wkP rr A B)) 16))] I J Q) : CN 62 RF mX2_addByStrengthening 4 [.ref 19] I J Q := by
  refine cn_of (by decide) rfl (Nat.le_of_ble_eq_true rfl) ?_
  refine blk s_X2_addByStrengthening_0 (nm ?_)
  refine c_X2_addByStrengthening_1 (ct_X2_weakStates hA hB hR) rfl (by decide) rfl (Nat.le_of_ble_eq_true rfl) (by decide) rfl (rx ?_)
  refine b_X2_addByStrengthening_4 (fun _ => ?_) (fun h2 => by have := (bs_0 _).mp h2 s1 hs1; rw [hw] at this; cases this)
  refine blk s_X2_addByStrengthening_10 (nm ?_)
  refine c_X2_addByStrengthening_12 (ct_X2_weakStates hA hB hR) rfl (by decide) rfl (Nat.le_of_ble_eq_true rfl) (by decide) rfl (rx ?_)
  exact c_X2_addByStrengthening_15 (ct_X2_leastThatCanGo hS hA hB hR _) rfl (by decide) rfl (Nat.le_of_ble_eq_true rfl) (by decide) rfl (rx h)
theorem ct_X2_str_state (hS : I 11 4 = bs S) (hA : I 19 4 = bs A) (hB : I 11 5 = bs B) (hR : ∀ s, s < 16 → I 14 s = bs (rr s)) {s1 : Nat} (hs1 : s1 < 16) (hw : wkP rr A B s1 = true) (hl : lsN (goP rr S (fun s => A s && !B s) (wkP rr A B)) 16 = none) : CN 62 RF mX2_addByStrengthening 4 [.ref 19] I J (RX (some (.int (-3))) I J) := by
  refine str_go hS hA hB hR hs1 hw ?_
  rw [hl]
  refine blk s_X2_addByStrengthening_18 (nm ?_)
  refine b_X2_addByStrengthening_22 (fun h => absurd rfl h) (fun h => ?_)
  refine blk s_X2_addByStrengthening_25 (nm ?_)
  exact r_X2_addByStrengthening_27 rxq
theorem str_go2 (hS : I 11 4 = bs S) (hA : I 19 4 = bs A) (hB : I 11 5 = bs B) (hR : ∀ s, s < 16 → I 14 s = bs (rr s)) {s0 : Nat} (hl : lsN (goP rr S (fun s => A s && !B s) (wkP rr A B)) 16 = some s0) {r : Option Value} {I' : IT} {v : Int32}
    (hadd : CN 62 RF mX2_add 0 [.ref 19, .int (bs (ouP (wdN rr S (fun s => A s && !B s) s0 4) s0)), .int (cbV (wdN rr S (fun s => A s && !B s) s0 4) s0)] I J (RX (some (.int v)) I' J)) :
    CN 62 RF mX2_addByStrengthening 4 [.ref 19] I J (RX (some (.int (if v = -4 then -4 else cbV (wdN rr S (fun s => A s && !B s) s0 4) s0))) I' J) := by
  obtain ⟨hs0, hg, -⟩ := lsN_some hl
  have hw : wkP rr A B s0 = true := by
    have : (wkP rr A B s0 && _) = true := hg
    rw [Bool.and_eq_true] at this; exact this.1
  refine str_go hS hA hB hR hs0 hw ?_
  rw [hl]
  have ha := wdN_lt rr S (fun s => A s && !B s) s0 4 (Nat.le_refl 4)
  generalize hn : wdN rr S (fun s => A s && !B s) s0 4 = a at *
  refine blk s_X2_addByStrengthening_18 (nm ?_)
  refine b_X2_addByStrengthening_22 (fun h => ?_) (fun h => absurd h (o2i_ne (by omega)))
  refine blk s_X2_addByStrengthening_28 (nm ?_)
  refine c_X2_addByStrengthening_30 (ct_X2_widestNames hS hA hB hR hs0) rfl (by decide) rfl (Nat.le_of_ble_eq_true rfl) (by decide) rfl (rx ?_)
  rw [hn]
  refine blk s_X2_addByStrengthening_33 (nm ?_)
  rw [show o2i (some s0) = nI s0 from rfl, (cb_eq a ha s0 hs0).1]
  refine c_X2_addByStrengthening_46 (ct_X2_outside ha hs0) rfl (by decide) rfl (Nat.le_of_ble_eq_true rfl) (rx ?_)
  refine blk s_X2_addByStrengthening_49 (nm ?_)
  refine c_X2_addByStrengthening_50 hadd rfl (by decide) rfl (Nat.le_of_ble_eq_true rfl) (by decide) rfl (rx ?_)
  refine blk s_X2_addByStrengthening_53 (nm ?_)
  refine b_X2_addByStrengthening_55 (fun h => ?_) (fun h => ?_)
  · refine blk s_X2_addByStrengthening_63 (nm ?_)
    exact r_X2_addByStrengthening_64 (rxe (by rw [if_neg h]) rfl rfl)
  · refine blk s_X2_addByStrengthening_58 (nm ?_)
    exact r_X2_addByStrengthening_64 (rxe (by rw [if_pos h]) rfl rfl)
end STR
end LEM
