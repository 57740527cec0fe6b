/-! CONTRACTS of Machine, all being made -/
section M2
variable {I : IT} {J : JT}
theorem ct_X3_target {s r : Nat} (hs : s < 16) (hr : r < 4) : CN 62 RF mX3_target 0 [.ref 11, .int (nI s), .int (nI r)] I J (RX (some (.int (I 13 (16 * r + s)))) I J) := by
  have h := ctG_X3_target (m := 43) (R' := RF) (I := I) (J := J) hs hr; rw [RM_RF] at h; exact h
theorem ct_X3_renewSteps {C : Nat} (hC : I 1 9 = nI C) (hC40 : C ≤ 40) : CN 62 RF mX3_renewSteps 2 [.ref 11] I J (RX none (rsI I J) J) := by
  have h := ctG_X3_renewSteps (m := 43) (R' := RF) (I := I) (J := J) hC hC40; rw [RM_RF] at h; exact h
theorem ct_X3_image {rr : Nat → Nat → Bool} (hR : ∀ s, s < 16 → I 14 s = bs (rr s)) (x : Int32) : CN 62 RF mX3_image 1 [.ref 11, .int x] I J (RX (some (.int (bs (im rr (mb x))))) I J) := by
  have h := ctG_X3_image (m := 43) (R' := RF) (I := I) (J := J) hR x; rw [RM_RF] at h; exact h
theorem ct_X3_renewDistances {rr : Nat → Nat → Bool} {S : Nat → Bool} (hR : ∀ s, s < 16 → I 14 s = bs (rr s)) (hS : I 11 4 = bs S) : CN 62 RF mX3_renewDistances 2 [.ref 11] I J (RX none (rdI I rr S) J) := by
  have h := ctG_X3_renewDistances (m := 43) (R' := RF) (I := I) (J := J) hR hS; rw [RM_RF] at h; exact h
theorem bs_andx (p : Nat → Bool) (x : Int32) : bs p &&& x = bs (fun t => p t && mb x t) := bs_eq _ (sm_and (sm_bs p) _) fun k hk => by rw [mb_and, mb_bs1 p hk]
/-- from which states a step leads into a set -/
def so (rr : Nat → Nat → Bool) (p : Nat → Bool) (s : Nat) : Bool := anN (fun t => rr s t && p t) 16
theorem so_cg {rr : Nat → Nat → Bool} {p q : Nat → Bool} (h : ∀ s, s < 16 → p s = q s) (t : Nat) : so rr p t = so rr q t := anN_cg fun s hs => by rw [h s hs]
theorem b2t {b : Bool} (h : ¬ b2i b = 0) : b = true := by cases b; exact absurd rfl h; rfl
theorem ct_X3_sources {rr : Nat → Nat → Bool} (hR : ∀ s, s < 16 → I 14 s = bs (rr s)) (x : Int32) : CN 62 RF mX3_sources 0 [.ref 11, .int x] I J (RX (some (.int (bs (so rr (mb x))))) I J) := by
  generalize hQ : RX (some (.int (bs (so rr (mb x))))) I J = Q
  have hQ' : Q (some (.int (bs (so rr (mb x))))) I J := by rw [← hQ]; exact rxq
  clear hQ
  refine cn_of (by decide) rfl (Nat.le_of_ble_eq_true rfl) ?_
  refine blk s_X3_sources_0 (nm ?_)
  refine dn (P := fun k => EN 62 RF mX3_sources 0 4 [(0, .ref 11), (1, .int x), (2, .int (bsN (so rr (mb x)) k)), (3, .int (nI k))] [] I J Q) (N := 16) ?_ ?_ (Nat.zero_le _)
  · refine blk s_X3_sources_4 (nm ?_)
    refine b_X3_sources_7 (fun h => ?_) (fun h => absurd (Int32.le_refl _) h)
    refine blk s_X3_sources_33 (nm ?_)
    exact r_X3_sources_34 hQ'
  · intro k hk ih
    refine blk s_X3_sources_4 (nm ?_)
    refine b_X3_sources_7 (fun h => absurd h (nI_ge hk (by decide))) (fun h => ?_)
    refine blk s_X3_sources_10 (And.intro (ib hk) (nm ?_))
    rw [cl k, hR k hk, bs_andx]
    have back : ∀ y : Int32, y = bsN (so rr (mb x)) (k + 1) → EN 62 RF mX3_sources 0 27 [(0, .ref 11), (1, .int x), (2, .int y), (3, .int (nI k))] [] I J Q := by
      intro y hy
      subst hy
      refine blk s_X3_sources_27 (nm ?_)
      exact en_L (by rw [nI_s]) ih
    refine b_X3_sources_18 (fun h => ?_) (fun h => ?_)
    · refine back _ ?_
      have hz : so rr (mb x) k = false := by
        cases hs : so rr (mb x) k
        · rfl
        · obtain ⟨t, h1, h2⟩ := anN_iff.mp hs
          rw [(bs_0 _).mp h t h1] at h2; cases h2
      show _ = bsN _ k ||| (match so rr (mb x) k with | true => (1 : Int32) <<< (nI k &&& 31) | false => 0)
      rw [hz]
      exact (by apply mb_ext; intro j _; rw [mb_or, mb_0, Bool.or_false])
    · refine blk s_X3_sources_21 (nm ?_)
      refine back _ ?_
      have hz : so rr (mb x) k = true := by
        cases hs : so rr (mb x) k
        · refine absurd ((bs_0 _).mpr fun t ht => ?_) h
          cases hv : (rr k t && mb x t)
          · rfl
          · have := (anN_iff (p := fun t => rr k t && mb x t)).mpr ⟨t, ht, hv⟩
            rw [show so rr (mb x) k = anN (fun t => rr k t && mb x t) 16 from rfl, this] at hs; cases hs
        · rfl
      show _ = bsN _ k ||| (match so rr (mb x) k with | true => (1 : Int32) <<< (nI k &&& 31) | false => 0)
      rw [hz]
def gdF (D : Nat → Int32) : Nat → Int32
  | 0 => -9
  | k + 1 => if gdF D k < D k then D k else gdF D k
theorem gdF_cg {D D' : Nat → Int32} : ∀ {k : Nat}, (∀ s, s < k → D s = D' s) → gdF D k = gdF D' k
  | 0, _ => rfl
  | k + 1, h => by show (if gdF D k < D k then D k else gdF D k) = _; rw [gdF_cg (fun s hs => h s (by omega)), h k (by omega)]; rfl
theorem ct_X3_greatestDistance : CN 62 RF mX3_greatestDistance 1 [.ref 11] I J (RX (some (.int (gdF (I 15) 16))) I J) := by
  generalize hQ : RX (some (.int (gdF (I 15) 16))) I J = Q
  have hQ' : Q (some (.int (gdF (I 15) 16))) I J := by rw [← hQ]; exact rxq
  clear hQ
  refine cn_of (by decide) rfl (Nat.le_of_ble_eq_true rfl) ?_
  refine blk s_X3_greatestDistance_0 (nm ?_)
  refine dn (P := fun k => EN 62 RF mX3_greatestDistance 1 5 [(0, .ref 11), (1, .int (gdF (I 15) k)), (2, .int (nI k))] [] I J Q) (N := 16) ?_ ?_ (Nat.zero_le _)
  · refine blk s_X3_greatestDistance_5 (nm ?_)
    refine b_X3_greatestDistance_8 (fun h => ?_) (fun h => absurd (Int32.le_refl _) h)
    refine blk s_X3_greatestDistance_28 (nm ?_)
    exact r_X3_greatestDistance_29 hQ'
  · intro k hk ih
    refine blk s_X3_greatestDistance_5 (nm ?_)
    refine b_X3_greatestDistance_8 (fun h => absurd h (nI_ge hk (by decide))) (fun h => ?_)
    refine blk s_X3_greatestDistance_11 (And.intro (ib hk) (nm ?_))
    rw [cl k]
    refine c_X3_greatestDistance_18 (by decide) (Nat.le_of_ble_eq_true rfl) ?_
    refine blk s_X3_greatestDistance_21 (nm ?_)
    exact en_L (by rw [nI_s]; rfl) ih
def smF (p : Nat → Bool) (D : Nat → Int32) : Nat → Int32
  | 0 => 0
  | k + 1 => match p k with
    | true => smF p D k + D k
    | false => smF p D k
theorem smF_cg {p p' : Nat → Bool} {D D' : Nat → Int32} : ∀ {k : Nat}, (∀ s, s < k → p s = p' s ∧ D s = D' s) → smF p D k = smF p' D' k
  | 0, _ => rfl
  | k + 1, h => by
    show (match p k with | true => smF p D k + D k | false => smF p D k) = (match p' k with | true => smF p' D' k + D' k | false => smF p' D' k)
    rw [smF_cg (fun s hs => h s (by omega)), (h k (by omega)).1, (h k (by omega)).2]
theorem ct_X3_sumOfDistances : CN 62 RF mX3_sumOfDistances 1 [.ref 11] I J (RX (some (.int (smF (mb (I 11 10)) (I 15) 16))) I J) := by
  generalize hQ : RX (some (.int (smF (mb (I 11 10)) (I 15) 16))) I J = Q
  have hQ' : Q (some (.int (smF (mb (I 11 10)) (I 15) 16))) I J := by rw [← hQ]; exact rxq
  clear hQ
  refine cn_of (by decide) rfl (Nat.le_of_ble_eq_true rfl) ?_
  refine blk s_X3_sumOfDistances_0 (nm ?_)
  refine dn (P := fun k => EN 62 RF mX3_sumOfDistances 1 4 [(0, .ref 11), (1, .int (smF (mb (I 11 10)) (I 15) k)), (2, .int (nI k))] [] I J Q) (N := 16) ?_ ?_ (Nat.zero_le _)
  · refine blk s_X3_sumOfDistances_4 (nm ?_)
    refine b_X3_sumOfDistances_7 (fun h => ?_) (fun h => absurd (Int32.le_refl _) h)
    refine blk s_X3_sumOfDistances_36 (nm ?_)
    exact r_X3_sumOfDistances_37 hQ'
  · intro k hk ih
    refine blk s_X3_sumOfDistances_4 (nm ?_)
    refine b_X3_sumOfDistances_7 (fun h => absurd h (nI_ge hk (by decide))) (fun h => ?_)
    refine blk s_X3_sumOfDistances_10 (nm ?_)
    refine c_X3_sumOfDistances_15 (ct_X6_isInN (by omega) _) rfl (by decide) rfl (Nat.le_of_ble_eq_true rfl) (rx ?_)
    refine b_X3_sumOfDistances_18 (fun h => ?_) (fun h => ?_)
    · refine blk s_X3_sumOfDistances_30 (nm ?_)
      exact en_L (by rw [nI_s]; show _ = [_, (1, Value.int (match mb (I 11 10) k with | true => _ | false => _)), _]; rw [(b2i_0 _).mp h]) ih
    · refine blk s_X3_sumOfDistances_21 (And.intro (ib hk) (nm ?_))
      rw [cl k]
      refine blk s_X3_sumOfDistances_30 (nm ?_)
      exact en_L (by rw [nI_s]; show _ = [_, (1, Value.int (match mb (I 11 10) k with | true => _ | false => _)), _]; rw [b2t h]) ih
/-- the least of the distances of some states -/
def lbF (p : Nat → Bool) (D : Nat → Int32) : Nat → Int32
  | 0 => -9
  | k + 1 => if p k = true ∧ (lbF p D k = -9 ∨ D k < lbF p D k) then D k else lbF p D k
theorem lbF_cg {p p' : Nat → Bool} {D D' : Nat → Int32} : ∀ {k : Nat}, (∀ s, s < k → p s = p' s ∧ D s = D' s) → lbF p D k = lbF p' D' k
  | 0, _ => rfl
  | k + 1, h => by
    show (if p k = true ∧ (lbF p D k = -9 ∨ D k < lbF p D k) then D k else lbF p D k) = _
    rw [lbF_cg (fun s hs => h s (by omega)), (h k (by omega)).1, (h k (by omega)).2]; rfl
abbrev lbv (I : IT) : Int32 := lbF (mb (I 11 5 &&& I 11 10)) (I 15) 16
theorem ct_X3_leastBrokenDistance : CN 62 RF mX3_leastBrokenDistance 1 [.ref 11] I J (RX (some (.int (lbv I))) I J) := by
  generalize hQ : RX (some (.int (lbv I))) I J = Q
  have hQ' : Q (some (.int (lbv I))) I J := by rw [← hQ]; exact rxq
  clear hQ
  change Q (some (.int (lbF (mb (I 11 5 &&& I 11 10)) (I 15) 16))) I J at hQ'
  generalize hp : mb (I 11 5 &&& I 11 10) = p at hQ'
  refine cn_of (by decide) rfl (Nat.le_of_ble_eq_true rfl) ?_
  refine blk s_X3_leastBrokenDistance_0 (nm ?_)
  refine dn (P := fun k => EN 62 RF mX3_leastBrokenDistance 1 5 [(0, .ref 11), (1, .int (lbF p (I 15) k)), (2, .int (nI k))] [] I J Q) (N := 16) ?_ ?_ (Nat.zero_le _)
  · refine blk s_X3_leastBrokenDistance_5 (nm ?_)
    refine b_X3_leastBrokenDistance_8 (fun h => ?_) (fun h => absurd (Int32.le_refl _) h)
    refine blk s_X3_leastBrokenDistance_59 (nm ?_)
    exact r_X3_leastBrokenDistance_60 hQ'
  · intro k hk ih
    have back : ∀ y : Int32, y = lbF p (I 15) (k + 1) → EN 62 RF mX3_leastBrokenDistance 1 53 [(0, .ref 11), (1, .int y), (2, .int (nI k))] [] I J Q := by
      intro y hy
      subst hy
      refine blk s_X3_leastBrokenDistance_53 (nm ?_)
      exact en_L (by rw [nI_s]) ih
    refine blk s_X3_leastBrokenDistance_5 (nm ?_)
    refine b_X3_leastBrokenDistance_8 (fun h => absurd h (nI_ge hk (by decide))) (fun h => ?_)
    refine blk s_X3_leastBrokenDistance_11 (nm ?_)
    refine c_X3_leastBrokenDistance_21 (ct_X6_isInN (by omega) _) rfl (by decide) rfl (Nat.le_of_ble_eq_true rfl) (rx ?_)
    rw [hp]
    refine b_X3_leastBrokenDistance_24 (fun h => ?_) (fun h => ?_)
    · have hpk := b2t h
      have upd_ : ∀ hc : lbF p (I 15) k = -9 ∨ I 15 k < lbF p (I 15) k, EN 62 RF mX3_leastBrokenDistance 1 46 [(0, .ref 11), (1, .int (lbF p (I 15) k)), (2, .int (nI k))] [] I J Q := by
        intro hc
        refine blk s_X3_leastBrokenDistance_46 (And.intro (ib hk) (nm ?_))
        rw [cl k]
        refine back _ ?_
        show _ = if p k = true ∧ _ then _ else _
        rw [if_pos ⟨hpk, hc⟩]
      refine blk s_X3_leastBrokenDistance_30 (nm ?_)
      refine b_X3_leastBrokenDistance_33 (fun h2 => upd_ (Or.inl h2)) (fun h2 => ?_)
      refine blk s_X3_leastBrokenDistance_36 (And.intro (ib hk) (nm ?_))
      rw [cl k]
      refine b_X3_leastBrokenDistance_43 (fun h3 => ?_) (fun h3 => upd_ (Or.inr (Int32.not_le.mp h3)))
      refine back _ ?_
      show _ = if p k = true ∧ _ then _ else _
      rw [if_neg (fun hh => hh.2.elim h2 (fun h4 => absurd h4 (Int32.not_lt.mpr h3)))]
    · refine blk s_X3_leastBrokenDistance_27 (nm ?_)
      refine back _ ?_
      show _ = if p k = true ∧ _ then _ else _
      rw [if_neg (fun hh => by rw [(b2i_0 _).mp h] at hh; cases hh.1)]
def clB (w k : Int32) : Bool := decide (w = -9) || !(decide (w < k))
theorem ct_X3_isClear (k : Int32) : CN 62 RF mX3_isClear 2 [.ref 11, .int k] I J (RX (some (.int (b2i (clB (lbv I) k)))) I J) := by
  refine cn_of (by decide) rfl (Nat.le_of_ble_eq_true rfl) ?_
  refine blk s_X3_isClear_0 (nm ?_)
  refine c_X3_isClear_1 ct_X3_leastBrokenDistance rfl (by decide) rfl (Nat.le_of_ble_eq_true rfl) (by decide) rfl (rx ?_)
  refine blk s_X3_isClear_4 (nm ?_)
  refine b_X3_isClear_8 (fun h => ?_) (fun h => ?_)
  · refine blk s_X3_isClear_16 (nm ?_)
    exact r_X3_isClear_21 (Or.inr rfl) (rz1 (by unfold clB; rw [decide_eq_true h]; rfl))
  · refine blk s_X3_isClear_11 (nm ?_)
    refine b_X3_isClear_13 (fun h2 => ?_) (fun h2 => ?_)
    · refine blk s_X3_isClear_20 (nm ?_)
      exact r_X3_isClear_21 (Or.inl rfl) (rz0 (by unfold clB; rw [decide_eq_false h, decide_eq_true h2]; rfl))
    · refine blk s_X3_isClear_16 (nm ?_)
      exact r_X3_isClear_21 (Or.inr rfl) (rz1 (by unfold clB; rw [decide_eq_false h2]; simp))
theorem dn1 {P : Nat → Prop} {a N : Nat} (hx : P N) (hs : ∀ k, a ≤ k → k < N → P (k + 1) → P k) (ha : a ≤ N) : P a := by
  have key : ∀ m k, a ≤ k → k + m = N → P k := by
    intro m
    induction m with
    | zero => intro k _ h; rw [show k = N by omega]; exact hx
    | succ m ih => intro k hk h; exact hs k hk (by omega) (ih (k + 1) (by omega) (by omega))
  exact key (N - a) a (Nat.le_refl _) (by omega)
/-! THE WAY -/
def TOk (I : IT) (T : Nat → Nat → Nat) : Prop := (∀ s r, s < 16 → r < 4 → I 13 (16 * r + s) = nI (T s r)) ∧ ∀ s r, s < 16 → r < 4 → T s r < 16
def lrw (T : Nat → Nat → Nat) (p : Nat → Bool) (s : Nat) : Nat := (lsN (fun r => p (T s r)) 4).getD 0
theorem lrw_lt (T : Nat → Nat → Nat) (p : Nat → Bool) (s : Nat) : lrw T p s < 4 := by
  unfold lrw
  cases h : lsN (fun r => p (T s r)) 4 with
  | none => show 0 < 4; omega
  | some r => exact (lsN_some h).1
theorem ct_X3_leastRowInto {T : Nat → Nat → Nat} (hT : TOk I T) {s : Nat} (hs : s < 16) (x : Int32) : CN 62 RF mX3_leastRowInto 1 [.ref 11, .int (nI s), .int x] I J (RX (some (.int (nI (lrw T (mb x) s)))) I J) := by
  generalize hQ : RX (some (.int (nI (lrw T (mb x) s)))) I J = Q
  have hQ' : Q (some (.int (nI (lrw T (mb x) s)))) I J := by rw [← hQ]; exact rxq
  clear hQ
  refine cn_of (by decide) rfl (Nat.le_of_ble_eq_true rfl) ?_
  refine blk s_X3_leastRowInto_0 (nm ?_)
  have key : ∀ k, k ≤ 4 → lsN (fun r => mb x (T s r)) k = none → EN 62 RF mX3_leastRowInto 1 2 [(0, .ref 11), (1, .int (nI s)), (2, .int x), (3, .int (nI k))] [] I J Q := by
    intro k hk
    refine dn (P := fun k => lsN (fun r => mb x (T s r)) k = none → EN 62 RF mX3_leastRowInto 1 2 [(0, .ref 11), (1, .int (nI s)), (2, .int x), (3, .int (nI k))] [] I J Q) (N := 4) ?_ ?_ hk
    · intro h0
      refine blk s_X3_leastRowInto_2 (nm ?_)
      refine b_X3_leastRowInto_4 (fun h => ?_) (fun h => absurd (Int32.le_refl _) h)
      refine blk s_X3_leastRowInto_28 (nm ?_)
      refine r_X3_leastRowInto_29 ?_
      unfold lrw at hQ'
      rw [h0] at hQ'
      exact hQ'
    · intro k hk ih h0
      refine blk s_X3_leastRowInto_2 (nm ?_)
      refine b_X3_leastRowInto_4 (fun h => absurd h (nI_ge hk (by decide))) (fun h => ?_)
      refine blk s_X3_leastRowInto_7 (nm ?_)
      refine c_X3_leastRowInto_10 (ct_X3_target hs hk) rfl (by decide) rfl (Nat.le_of_ble_eq_true rfl) (by decide) rfl (rx ?_)
      rw [hT.1 s k hs hk]
      refine blk s_X3_leastRowInto_13 (nm ?_)
      refine c_X3_leastRowInto_14 (ct_X6_isInN (by have := hT.2 s k hs hk; omega) x) rfl (by decide) rfl (Nat.le_of_ble_eq_true rfl) (rx ?_)
      refine b_X3_leastRowInto_17 (fun h => ?_) (fun h => ?_)
      · refine blk s_X3_leastRowInto_22 (nm ?_)
        refine en_L (by rw [nI_s]) (ih ?_)
        show (match lsN (fun r => mb x (T s r)) k with | some i => some i | none => if mb x (T s k) then some k else none) = none
        rw [h0, (b2i_0 _).mp h]; rfl
      · refine blk s_X3_leastRowInto_20 (nm ?_)
        refine r_X3_leastRowInto_21 ?_
        unfold lrw at hQ'
        rw [lsN_first hk (b2t h) (lsN_none.mp h0)] at hQ'
        exact hQ'
  exact key 0 (by omega) rfl
/-- from which states m steps come to a broken one -/
def soN (rr : Nat → Nat → Bool) (B : Nat → Bool) : Nat → Nat → Bool
  | 0 => B
  | k + 1 => so rr (soN rr B k)
def wyA (rr : Nat → Nat → Bool) (S B : Nat → Bool) (w : Nat) : Nat := (lsN (fun s => S s && soN rr B w s) 16).getD 0
def wyS (T : Nat → Nat → Nat) (rr : Nat → Nat → Bool) (S B : Nat → Bool) (w : Nat) : Nat → Nat
  | 0 => wyA rr S B w
  | k + 1 => T (wyS T rr S B w k) (lrw T (soN rr B (w - 1 - k)) (wyS T rr S B w k))
def wyR (T : Nat → Nat → Nat) (rr : Nat → Nat → Bool) (S B : Nat → Bool) (w k : Nat) : Nat := lrw T (soN rr B (w - 1 - k)) (wyS T rr S B w k)
theorem wyA_lt (rr : Nat → Nat → Bool) (S B : Nat → Bool) (w : Nat) : wyA rr S B w < 16 := by
  unfold wyA
  cases h : lsN (fun s => S s && soN rr B w s) 16 with
  | none => show 0 < 16; omega
  | some r => exact (lsN_some h).1
theorem wyR_lt (T : Nat → Nat → Nat) (rr : Nat → Nat → Bool) (S B : Nat → Bool) (w k : Nat) : wyR T rr S B w k < 4 := lrw_lt _ _ _
theorem wyS_lt {T : Nat → Nat → Nat} (hT : ∀ s r, s < 16 → r < 4 → T s r < 16) (rr : Nat → Nat → Bool) (S B : Nat → Bool) (w : Nat) : ∀ k, wyS T rr S B w k < 16
  | 0 => wyA_lt rr S B w
  | k + 1 => hT _ _ (wyS_lt hT rr S B w k) (lrw_lt _ _ _)
theorem fl_up {I : IT} {o o' a k : Nat} {g : Nat → Int32} {v : Int32} (h : o' ≠ o) : up2 (fl I o g k) o' a v = fl (up2 I o' a v) o g k := by
  funext x y; unfold up2 fl
  by_cases h1 : x = o'
  · subst h1; simp [h]
  · by_cases h2 : x = o
    · subst h2; simp [h1]
    · simp [h1, h2]
theorem fl_1 {I : IT} {o : Nat} {g : Nat → Int32} {v : Int32} (h : v = g 0) : up2 I o 0 v = fl I o g 1 := by
  have := fl_s (I := I) (o := o) (g := g) (k := 0) h
  rw [fl_0] at this; exact this
def rwI (I : IT) (T : Nat → Nat → Nat) (rr : Nat → Nat → Bool) (S B : Nat → Bool) : Option Nat → IT
  | none => up2 I 11 11 (-9)
  | some w => fl (fl (fl (up2 I 11 11 (nI w)) 18 (fun m => bs (soN rr B m)) (w + 1)) 16 (fun k => nI (wyS T rr S B w k)) (w + 1)) 17 (fun k => nI (wyR T rr S B w k)) w
theorem max0 {k : Nat} (hk : k < 2 ^ 31) : (if (0 : Int32) < nI k then nI k else 0) = nI k := by
  by_cases h : (0 : Int32) < nI k
  · rw [if_pos h]
  · rw [if_neg h]
    have : k = 0 := by
      rcases Nat.eq_zero_or_pos k with h1 | h1
      · exact h1
      · exact absurd ((nI_ltI (a := 0) (by decide) hk).mpr h1) h
    subst this; rfl
theorem ct_X3_renewWay {T : Nat → Nat → Nat} {rr : Nat → Nat → Bool} {S B : Nat → Bool} (hT : TOk I T) (hR : ∀ s, s < 16 → I 14 s = bs (rr s)) (hS : I 11 4 = bs S) (hB : I 11 5 = bs B) (lw : Option Nat) (hlw : lbv I = o2i lw) (hw : ∀ w, lw = some w → w ≤ 15) : CN 62 RF mX3_renewWay 2 [.ref 11] I J (RX none (rwI I T rr S B lw) J) := by
  generalize hQ : RX none (rwI I T rr S B lw) J = Q
  have hQ' : Q none (rwI I T rr S B lw) J := by rw [← hQ]; exact rxq
  clear hQ
  refine cn_of (by decide) rfl (Nat.le_of_ble_eq_true rfl) ?_
  refine blk s_X3_renewWay_0 (nm ?_)
  refine c_X3_renewWay_2 ct_X3_leastBrokenDistance rfl (by decide) rfl (Nat.le_of_ble_eq_true rfl) (by decide) rfl (rx ?_)
  rw [hlw]
  refine blk s_X3_renewWay_5 (nm ?_)
  rw [up2_s]
  cases lw with
  | none =>
    refine b_X3_renewWay_12 (fun h => ?_) (fun h => absurd (by decide) h)
    exact r_X3_renewWay_24 hQ'
  | some w =>
    have hw15 := hw w rfl
    generalize hX : up2 I 11 11 (nI w) = X at *
    have hX11 : X 11 11 = nI w := by rw [← hX, up2_s]
    have hX4 : X 11 4 = bs S := by rw [← hX, up2_k (by decide)]; exact hS
    have hX5 : X 11 5 = bs B := by rw [← hX, up2_k (by decide)]; exact hB
    have hX13 : ∀ s r, s < 16 → r < 4 → X 13 (16 * r + s) = nI (T s r) := fun s r h1 h2 => by rw [← hX, up2_o (by decide)]; exact hT.1 s r h1 h2
    have hX14 : ∀ s, s < 16 → X 14 s = bs (rr s) := fun s h1 => by rw [← hX, up2_o (by decide)]; exact hR s h1
    refine b_X3_renewWay_12 (fun h => absurd h (nI_pos (by omega))) (fun h => ?_)
    refine blk s_X3_renewWay_15 (nm ?_)
    show EN 62 RF mX3_renewWay 2 21 [(0, .ref 11)] [.int 15, .int (up2 I 11 11 (nI w) 11 11)] _ J Q
    rw [up2_s]
    refine b_X3_renewWay_21 (fun h => ?_) (fun h => absurd ((nI_leI (b := 15) (by omega) (by decide)).mpr hw15) h)
    rw [show up2 I 11 11 (o2i (some w)) = X from hX]
    refine blk s_X3_renewWay_25 (And.intro (by unfold vp_in; decide) (nm ?_))
    rw [hX5]
    refine en_I (I' := fl X 18 (fun m => bs (soN rr B m)) 1) (fl_1 rfl) ?_
    let g18 : Nat → Int32 := fun m => bs (soN rr B m)
    refine dn1 (P := fun k => EN 62 RF mX3_renewWay 2 37 [(0, .ref 11), (1, .int (nI k))] [] (fl X 18 g18 k) J Q) (N := w + 1) (a := 1) ?_ ?_ (by omega)
    · refine blk s_X3_renewWay_37 (nm ?_)
      rw [show (fl X 18 g18 (w + 1)) 11 11 = nI w from by rw [fl_o (by decide)]; exact hX11]
      refine b_X3_renewWay_42 (fun h => ?_) (fun h => absurd ((nI_ltI (by omega) (by omega)).mpr (by omega)) h)
      generalize hY : fl X 18 g18 (w + 1) = Y at *
      have hY11 : ∀ k, Y 11 k = X 11 k := fun k => by rw [← hY, fl_o (by decide)]
      have hY18 : ∀ k, k ≤ w → Y 18 k = bs (soN rr B k) := fun k hk => by rw [← hY, fl_in (by omega)]
      refine blk s_X3_renewWay_69 (And.intro (by rw [hY11, hX11]; exact ib (by omega)) (nm ?_))
      rw [hY11, hY11, hX11, hX4, cl w, hY18 w (Nat.le_refl w), bs_and]
      refine c_X3_renewWay_84 (ct_X6_leastOf _) rfl (by decide) rfl (Nat.le_of_ble_eq_true rfl) (rx ?_)
      refine c_X3_renewWay_87 (by decide) (Nat.le_of_ble_eq_true rfl) ?_
      have ea : (if (0 : Int32) < o2i (lsN (mb (bs fun k => S k && soN rr B w k)) 16) then o2i (lsN (mb (bs fun k => S k && soN rr B w k)) 16) else 0) = nI (wyA rr S B w) := by
        have e1 : lsN (mb (bs fun k => S k && soN rr B w k)) 16 = lsN (fun s => S s && soN rr B w s) 16 := by
          have : ∀ k, k ≤ 16 → lsN (mb (bs fun k => S k && soN rr B w k)) k = lsN (fun s => S s && soN rr B w s) k := by
            intro k hk
            induction k with
            | zero => rfl
            | succ k ih =>
              show (match lsN (mb (bs fun k => S k && soN rr B w k)) k with | some j => some j | none => if mb (bs fun k => S k && soN rr B w k) k then some k else none) = (match lsN (fun s => S s && soN rr B w s) k with | some j => some j | none => if (S k && soN rr B w k) then some k else none)
              rw [ih (by omega), mb_bs1 _ (by omega)]
          exact this 16 (Nat.le_refl _)
        rw [e1]
        unfold wyA
        cases hl : lsN (fun s => S s && soN rr B w s) 16 with
        | none => rfl
        | some a => exact max0 (by have := (lsN_some hl).1; omega)
      rw [ea]
      refine blk s_X3_renewWay_90 (And.intro (by unfold vp_in; decide) (nm ?_))
      refine en_I (I' := fl (fl Y 16 (fun k => nI (wyS T rr S B w k)) 1) 17 (fun k => nI (wyR T rr S B w k)) 0) (by rw [fl_0]; exact fl_1 rfl) ?_
      let g16 : Nat → Int32 := fun k => nI (wyS T rr S B w k)
      let g17 : Nat → Int32 := fun k => nI (wyR T rr S B w k)
      refine dn (P := fun k => EN 62 RF mX3_renewWay 2 100 [(0, .ref 11), (1, .int (nI (wyS T rr S B w k))), (2, .int (nI k))] [] (fl (fl Y 16 g16 (k + 1)) 17 g17 k) J Q) (N := w) ?_ ?_ (Nat.zero_le _)
      · refine blk s_X3_renewWay_100 (nm ?_)
        rw [show (fl (fl Y 16 g16 (w + 1)) 17 g17 w) 11 11 = nI w from by rw [fl_o (by decide), fl_o (by decide), hY11]; exact hX11]
        refine b_X3_renewWay_105 (fun h => ?_) (fun h => absurd (Int32.le_refl _) h)
        refine r_X3_renewWay_159 ?_
        rw [← hY, ← hX]
        exact hQ'
      · intro k hk ih
        refine blk s_X3_renewWay_100 (nm ?_)
        have z11 : (fl (fl Y 16 g16 (k + 1)) 17 g17 k) 11 11 = nI w := by rw [fl_o (by decide), fl_o (by decide), hY11]; exact hX11
        rw [z11]
        refine b_X3_renewWay_105 (fun h => absurd h (nI_ge hk (by omega))) (fun h => ?_)
        have es : nI w - 1 - nI k = nI (w - 1 - k) := by
          rw [show nI w - 1 = nI (w - 1) from pk_sub (b := 1) (by omega), pk_sub (by omega)]
        refine blk s_X3_renewWay_108 (And.intro (by rw [z11, es]; exact ib (by omega)) (nm ?_))
        rw [z11, es, cl (w - 1 - k), show (fl (fl Y 16 g16 (k + 1)) 17 g17 k) 18 (w - 1 - k) = bs (soN rr B (w - 1 - k)) from by rw [fl_o (by decide), fl_o (by decide)]; exact hY18 _ (by omega)]
        have hTok : TOk (fl (fl Y 16 g16 (k + 1)) 17 g17 k) T := ⟨fun s r h1 h2 => by rw [fl_o (by decide), fl_o (by decide), ← hY, fl_o (by decide)]; exact hX13 s r h1 h2, hT.2⟩
        have hsk := wyS_lt hT.2 rr S B w k
        refine c_X3_renewWay_128 (ct_X3_leastRowInto hTok hsk _) rfl (by decide) rfl (Nat.le_of_ble_eq_true rfl) (by decide) rfl (rx ?_)
        have el : lrw T (mb (bs (soN rr B (w - 1 - k)))) (wyS T rr S B w k) = wyR T rr S B w k := by
          unfold wyR lrw
          congr 1
          have : ∀ j, j ≤ 4 → lsN (fun r => mb (bs (soN rr B (w - 1 - k))) (T (wyS T rr S B w k) r)) j = lsN (fun r => soN rr B (w - 1 - k) (T (wyS T rr S B w k) r)) j := by
            intro j hj
            induction j with
            | zero => rfl
            | succ j ihj =>
              show (match lsN (fun r => mb (bs (soN rr B (w - 1 - k))) (T (wyS T rr S B w k) r)) j with | some i => some i | none => if mb (bs (soN rr B (w - 1 - k))) (T (wyS T rr S B w k) j) then some j else none) = (match lsN (fun r => soN rr B (w - 1 - k) (T (wyS T rr S B w k) r)) j with | some i => some i | none => if soN rr B (w - 1 - k) (T (wyS T rr S B w k) j) then some j else none)
              rw [ihj (by omega), mb_bs1 _ (hT.2 _ _ hsk (by omega))]
          exact this 4 (Nat.le_refl _)
        rw [el]
        have hrk := wyR_lt T rr S B w k
        refine blk s_X3_renewWay_131 (And.intro (ib (by omega)) (And.intro (ib (by omega)) (nm ?_)))
        rw [cl k, up2_s, fl_s (g := g17) (k := k) rfl]
        refine c_X3_renewWay_140 (ct_X3_target hsk hrk) rfl (by decide) rfl (Nat.le_of_ble_eq_true rfl) (by decide) rfl (rx ?_)
        rw [show (fl (fl Y 16 g16 (k + 1)) 17 g17 (k + 1)) 13 (16 * wyR T rr S B w k + wyS T rr S B w k) = nI (wyS T rr S B w (k + 1)) from by
          rw [fl_o (by decide), fl_o (by decide), ← hY, fl_o (by decide)]; exact hX13 _ _ hsk hrk]
        refine blk s_X3_renewWay_143 (And.intro (by rw [nI_s]; exact ib (by omega)) (nm ?_))
        rw [nI_s, cl (k + 1)]
        refine en_I ?_ ih
        rw [fl_up (by decide), fl_s (g := g16) (k := k + 1) rfl]
    · intro k hk1 hk ih
      refine blk s_X3_renewWay_37 (nm ?_)
      rw [show (fl X 18 g18 k) 11 11 = nI w from by rw [fl_o (by decide)]; exact hX11]
      refine b_X3_renewWay_42 (fun h => absurd ((nI_ltI (by omega) (by omega)).mp h) (by omega)) (fun h => ?_)
      have e1 : nI k - 1 = nI (k - 1) := pk_sub (b := 1) hk1
      refine blk s_X3_renewWay_45 (And.intro (by rw [e1]; exact ib (by omega)) (nm ?_))
      rw [e1, cl (k - 1), fl_in (by omega)]
      refine c_X3_renewWay_59 (ct_X3_sources (rr := rr) (fun s hs => by rw [fl_o (by decide)]; exact hX14 s hs) _) rfl (by decide) rfl (Nat.le_of_ble_eq_true rfl) (by decide) rfl (rx ?_)
      refine blk s_X3_renewWay_62 (And.intro (ib (by omega)) (nm ?_))
      rw [cl k]
      refine en_L (by rw [nI_s]) (en_I (fl_s ?_) ih)
      show bs (so rr (mb (bs (soN rr B (k - 1))))) = bs (soN rr B k)
      obtain ⟨j, rfl⟩ : ∃ j, k = j + 1 := ⟨k - 1, by omega⟩
      refine bsN_cg fun s _ => ?_
      exact so_cg (fun t ht => mb_bs1 _ ht) s
/-- the state behind k steps with these rows -/
def rnS (T : Nat → Nat → Nat) (rows : Nat → Nat) (s : Nat) : Nat → Nat
  | 0 => s
  | k + 1 => T (rnS T rows s k) (rows k)
theorem rnS_lt {T : Nat → Nat → Nat} (hT : ∀ s r, s < 16 → r < 4 → T s r < 16) {rows : Nat → Nat} {s w : Nat} (hr : ∀ k, k < w → rows k < 4) (hs : s < 16) : ∀ k, k ≤ w → rnS T rows s k < 16
  | 0, _ => hs
  | k + 1, h => hT _ _ (rnS_lt hT hr hs k (by omega)) (hr k (by omega))
theorem rnS_cg {T : Nat → Nat → Nat} {rows rows' : Nat → Nat} {s : Nat} : ∀ {w : Nat}, (∀ k, k < w → rows k = rows' k) → rnS T rows s w = rnS T rows' s w
  | 0, _ => rfl
  | w + 1, h => by show T (rnS T rows s w) (rows w) = T (rnS T rows' s w) (rows' w); rw [rnS_cg (fun k hk => h k (by omega)), h w (by omega)]
theorem nI_xor : ∀ a, a < 16 → ∀ b, b < 16 → nI a ^^^ nI b = nI (a ^^^ b) := by decide +kernel
theorem xor_lt4 : ∀ a, a < 4 → ∀ b, b < 4 → a ^^^ b < 4 := by decide +kernel
theorem xor_lt16 : ∀ a, a < 16 → ∀ b, b < 16 → a ^^^ b < 16 := by decide +kernel
theorem one_shl : ∀ v, v < 4 → (1 : Int32) <<< (nI v &&& 31) = nI (2 ^ v) := by decide +kernel
theorem two_lt {v : Nat} (h : v < 4) : 2 ^ v < 16 := by
  rcases (show v = 0 ∨ v = 1 ∨ v = 2 ∨ v = 3 by omega) with rfl | rfl | rfl | rfl <;> decide
theorem two_lt2 {v : Nat} (h : v < 2) : 2 ^ v < 4 := by
  rcases (show v = 0 ∨ v = 1 by omega) with rfl | rfl <;> decide
theorem ct_X3_endsBroken {T : Nat → Nat → Nat} {B : Nat → Bool} {rw_ : Nat → Nat} {w : Nat} (hT : TOk I T) (hB : I 11 5 = bs B) (hw : I 11 11 = nI w) (hw15 : w ≤ 15) (hrw : ∀ k, k < w → I 17 k = nI (rw_ k) ∧ rw_ k < 4) {s : Nat} (hs : s < 16) (ts : Int32) {ti : Nat} (hti : ti < 4) :
    CN 62 RF mX3_endsBroken 1 [.ref 11, .int (nI s), .int ts, .int (nI ti)] I J (RX (some (.int (b2i (B (rnS T (fun k => if nI k = ts then rw_ k ^^^ ti else rw_ k) s w))))) I J) := by
  generalize hrows : (fun k => if nI k = ts then rw_ k ^^^ ti else rw_ k) = rows
  have hr4 : ∀ k, k < w → rows k < 4 := by
    intro k hk
    rw [← hrows]
    show (if nI k = ts then rw_ k ^^^ ti else rw_ k) < 4
    split
    · exact xor_lt4 _ (hrw k hk).2 _ hti
    · exact (hrw k hk).2
  have hlt := rnS_lt hT.2 hr4 hs
  generalize hQ : RX (some (.int (b2i (B (rnS T rows s w))))) I J = Q
  have hQ' : Q (some (.int (b2i (B (rnS T rows s w))))) I J := by rw [← hQ]; exact rxq
  clear hQ
  refine cn_of (by decide) rfl (Nat.le_of_ble_eq_true rfl) ?_
  refine blk s_X3_endsBroken_0 (nm ?_)
  refine dn (P := fun k => EN 62 RF mX3_endsBroken 1 6 [(0, .ref 11), (1, .int (nI s)), (2, .int ts), (3, .int (nI ti)), (4, .int (nI (rnS T rows s k))), (5, .int (nI k))] [] I J Q) (N := w) ?_ ?_ (Nat.zero_le _)
  · refine blk s_X3_endsBroken_6 (nm ?_)
    rw [hw]
    refine b_X3_endsBroken_12 (fun h => ?_) (fun h => absurd (Int32.le_refl _) h)
    refine blk s_X3_endsBroken_58 (nm ?_)
    rw [hB]
    have h1 := hlt w (Nat.le_refl w)
    refine c_X3_endsBroken_64 (ct_X6_isInN (by omega) _) rfl (by decide) rfl (Nat.le_of_ble_eq_true rfl) (rx ?_)
    rw [mb_bs1 _ h1]
    exact r_X3_endsBroken_67 (b2i_z _) hQ'
  · intro k hk ih
    have h1 := hlt k (by omega)
    have back : EN 62 RF mX3_endsBroken 1 40 [(0, .ref 11), (1, .int (nI s)), (2, .int ts), (3, .int (nI ti)), (4, .int (nI (rnS T rows s k))), (5, .int (nI k))] [.int (nI (rows k))] I J Q := by
      refine blk s_X3_endsBroken_40 (nm ?_)
      refine c_X3_endsBroken_47 (ct_X3_target h1 (hr4 k hk)) rfl (by decide) rfl (Nat.le_of_ble_eq_true rfl) (by decide) rfl (rx ?_)
      rw [hT.1 _ _ h1 (hr4 k hk)]
      refine blk s_X3_endsBroken_50 (nm ?_)
      exact wkt 6 (en_L (by rw [nI_s]; rfl) ih)
    refine blk s_X3_endsBroken_6 (nm ?_)
    rw [hw]
    refine b_X3_endsBroken_12 (fun h => absurd h (nI_ge hk (by omega))) (fun h => ?_)
    refine blk s_X3_endsBroken_15 (nm ?_)
    refine b_X3_endsBroken_18 (fun h => ?_) (fun h => ?_)
    · refine blk s_X3_endsBroken_33 (And.intro (ib (by omega)) (nm ?_))
      rw [cl k, (hrw k hk).1]
      refine en_S ?_ back
      rw [← hrows]
      show _ = [Value.int (nI (if nI k = ts then _ else _))]
      rw [if_neg h]
    · refine blk s_X3_endsBroken_21 (And.intro (ib (by omega)) (nm ?_))
      rw [cl k, (hrw k hk).1, nI_xor _ (by have := (hrw k hk).2; omega) _ (by omega)]
      refine en_S ?_ back
      rw [← hrows]
      show _ = [Value.int (nI (if nI k = ts then _ else _))]
      rw [if_pos h]
/-- a loop that puts a bit for each number that is so -/
theorem bsN_t {p : Nat → Bool} {k : Nat} (h : p k = true) : bsN p k ||| (1 : Int32) <<< (nI k &&& 31) = bsN p (k + 1) := by
  show _ = bsN p k ||| (match p k with | true => (1 : Int32) <<< (nI k &&& 31) | false => 0)
  rw [h]
theorem bsN_f {p : Nat → Bool} {k : Nat} (h : p k = false) : bsN p k = bsN p (k + 1) := by
  show _ = bsN p k ||| (match p k with | true => (1 : Int32) <<< (nI k &&& 31) | false => 0)
  rw [h]
  apply mb_ext; intro j _; rw [mb_or, mb_0, Bool.or_false]
theorem ct_X3_looseInStart {T : Nat → Nat → Nat} {S B : Nat → Bool} {rw_ : Nat → Nat} {w a : Nat} (hT : TOk I T) (hS : I 11 4 = bs S) (hB : I 11 5 = bs B) (hw : I 11 11 = nI w) (hw15 : w ≤ 15) (hrw : ∀ k, k < w → I 17 k = nI (rw_ k) ∧ rw_ k < 4) (ha : I 16 0 = nI a) (ha16 : a < 16) :
    CN 62 RF mX3_looseInStart 2 [.ref 11] I J (RX (some (.int (bsN (fun v => S (a ^^^ 2 ^ v) && B (rnS T rw_ (a ^^^ 2 ^ v) w)) 4))) I J) := by
  generalize hp : (fun v => S (a ^^^ 2 ^ v) && B (rnS T rw_ (a ^^^ 2 ^ v) w)) = p
  have hp' : ∀ v, p v = (S (a ^^^ 2 ^ v) && B (rnS T rw_ (a ^^^ 2 ^ v) w)) := fun v => by rw [← hp]
  generalize hQ : RX (some (.int (bsN p 4))) I J = Q
  have hQ' : Q (some (.int (bsN p 4))) I J := by rw [← hQ]; exact rxq
  clear hQ
  refine cn_of (by decide) rfl (Nat.le_of_ble_eq_true rfl) ?_
  refine blk s_X3_looseInStart_0 (nm ?_)
  refine dn (P := fun k => EN 62 RF mX3_looseInStart 2 4 [(0, .ref 11), (1, .int (bsN p k)), (2, .int (nI k))] [] I J Q) (N := 4) ?_ ?_ (Nat.zero_le _)
  · refine blk s_X3_looseInStart_4 (nm ?_)
    refine b_X3_looseInStart_6 (fun h => ?_) (fun h => absurd (Int32.le_refl _) h)
    refine blk s_X3_looseInStart_54 (nm ?_)
    exact r_X3_looseInStart_55 hQ'
  · intro k hk ih
    have hx : a ^^^ 2 ^ k < 16 := xor_lt16 _ ha16 _ (two_lt hk)
    have back : ∀ y : Int32, y = bsN p (k + 1) → EN 62 RF mX3_looseInStart 2 48 [(0, .ref 11), (1, .int y), (2, .int (nI k)), (3, .int (nI (a ^^^ 2 ^ k)))] [] I J Q := by
      intro y hy
      subst hy
      refine blk s_X3_looseInStart_48 (nm ?_)
      exact wkt 3 (en_L (by rw [nI_s]; rfl) ih)
    refine blk s_X3_looseInStart_4 (nm ?_)
    refine b_X3_looseInStart_6 (fun h => absurd h (nI_ge hk (by decide))) (fun h => ?_)
    refine blk s_X3_looseInStart_9 (And.intro (by unfold vp_in; decide) (nm ?_))
    rw [show I 16 (Int32.toNatClampNeg 0) = nI a from ha, one_shl k hk, nI_xor a ha16 _ (two_lt hk), hS]
    refine c_X3_looseInStart_25 (ct_X6_isInN (by omega) _) rfl (by decide) rfl (Nat.le_of_ble_eq_true rfl) (rx ?_)
    rw [mb_bs1 _ hx]
    refine b_X3_looseInStart_28 (fun h => ?_) (fun h => ?_)
    · exact back _ (bsN_f (by rw [hp', (b2i_0 _).mp h, Bool.false_and]))
    · refine blk s_X3_looseInStart_31 (nm ?_)
      refine c_X3_looseInStart_36 (ct_X3_endsBroken (ti := 0) hT hB hw hw15 hrw hx (-9) (by decide)) rfl (by decide) rfl (Nat.le_of_ble_eq_true rfl) (by decide) rfl (rx ?_)
      rw [rnS_cg (T := T) (rows' := rw_) (w := w) (fun j hj => if_neg (fun h => by
        have : ¬ nI j < 0 := nI_pos (by omega)
        rw [h] at this; exact this (by decide)))]
      refine b_X3_looseInStart_39 (fun h2 => ?_) (fun h2 => ?_)
      · exact back _ (bsN_f (by rw [hp', (b2i_0 _).mp h2, Bool.and_false]))
      · refine blk s_X3_looseInStart_42 (nm ?_)
        exact back _ (bsN_t (by rw [hp', b2t h, b2t h2]; rfl))
theorem ct_X3_looseInRow {T : Nat → Nat → Nat} {B : Nat → Bool} {rw_ : Nat → Nat} {w a k0 : Nat} (hT : TOk I T) (hB : I 11 5 = bs B) (hw : I 11 11 = nI w) (hw15 : w ≤ 15) (hrw : ∀ k, k < w → I 17 k = nI (rw_ k) ∧ rw_ k < 4) (ha : I 16 0 = nI a) (ha16 : a < 16) (hk0 : k0 < w) :
    CN 62 RF mX3_looseInRow 2 [.ref 11, .int (nI k0)] I J (RX (some (.int (bsN (fun i => B (rnS T (fun k => if k = k0 then rw_ k ^^^ 2 ^ i else rw_ k) a w)) 2))) I J) := by
  generalize hp : (fun i => B (rnS T (fun k => if k = k0 then rw_ k ^^^ 2 ^ i else rw_ k) a w)) = p
  have hp' : ∀ i, p i = B (rnS T (fun k => if k = k0 then rw_ k ^^^ 2 ^ i else rw_ k) a w) := fun i => by rw [← hp]
  generalize hQ : RX (some (.int (bsN p 2))) I J = Q
  have hQ' : Q (some (.int (bsN p 2))) I J := by rw [← hQ]; exact rxq
  clear hQ
  refine cn_of (by decide) rfl (Nat.le_of_ble_eq_true rfl) ?_
  refine blk s_X3_looseInRow_0 (nm ?_)
  refine dn (P := fun i => EN 62 RF mX3_looseInRow 2 4 [(0, .ref 11), (1, .int (nI k0)), (2, .int (bsN p i)), (3, .int (nI i))] [] I J Q) (N := 2) ?_ ?_ (Nat.zero_le _)
  · refine blk s_X3_looseInRow_4 (nm ?_)
    refine b_X3_looseInRow_6 (fun h => ?_) (fun h => absurd (Int32.le_refl _) h)
    refine blk s_X3_looseInRow_38 (nm ?_)
    exact r_X3_looseInRow_39 hQ'
  · intro i hi ih
    have back : ∀ y : Int32, y = bsN p (i + 1) → EN 62 RF mX3_looseInRow 2 32 [(0, .ref 11), (1, .int (nI k0)), (2, .int y), (3, .int (nI i))] [] I J Q := by
      intro y hy
      subst hy
      refine blk s_X3_looseInRow_32 (nm ?_)
      exact en_L (by rw [nI_s]) ih
    refine blk s_X3_looseInRow_4 (nm ?_)
    refine b_X3_looseInRow_6 (fun h => absurd h (nI_ge hi (by decide))) (fun h => ?_)
    refine blk s_X3_looseInRow_9 (And.intro (by unfold vp_in; decide) (nm ?_))
    rw [show I 16 (Int32.toNatClampNeg 0) = nI a from ha, one_shl i (by omega)]
    refine c_X3_looseInRow_20 (ct_X3_endsBroken hT hB hw hw15 hrw ha16 (nI k0) (two_lt2 hi)) rfl (by decide) rfl (Nat.le_of_ble_eq_true rfl) (by decide) rfl (rx ?_)
    rw [rnS_cg (T := T) (rows' := fun k => if k = k0 then rw_ k ^^^ 2 ^ i else rw_ k) (w := w) (fun j hj => by
      by_cases h : j = k0
      · subst h; rw [if_pos rfl, if_pos rfl]
      · rw [if_neg h, if_neg (fun h2 => h ((nI_eq (by omega) (by omega)).mp h2))])]
    rw [← hp' i]
    refine b_X3_looseInRow_23 (fun h2 => ?_) (fun h2 => ?_)
    · exact back _ (bsN_f ((b2i_0 _).mp h2))
    · refine blk s_X3_looseInRow_26 (nm ?_)
      exact back _ (bsN_t (b2t h2))
/-! the cone -/
def cnR (f : Nat → Option Int32) (c : Int32) : Nat → Int32
  | 0 => c
  | v + 1 => match mb (cnR f c v) v, f v with
    | true, some x => cnR f c v ||| x
    | _, _ => cnR f c v
def cnI (f : Nat → Option Int32) (c : Int32) : Nat → Int32
  | 0 => c
  | k + 1 => cnR f (cnI f c k) 4
def inF (g : Nat → Option Int32) (c : Int32) : Nat → Int32
  | 0 => 0
  | v + 1 => match mb c v, g v with
    | true, some x => inF g c v ||| x
    | _, _ => inF g c v
/-- nx: the variables' next terms, of C terms in all -/
def NXok (I : IT) (C : Nat) (nx : Nat → Option Nat) : Prop := I 1 9 = nI C ∧ C ≤ 40 ∧ (∀ v, v < 4 → I 12 v = o2i (nx v)) ∧ ∀ v t, v < 4 → nx v = some t → t < C
theorem has_o {I : IT} {C : Nat} (hC : I 1 9 = nI C) (hC40 : C ≤ 40) {o : Option Nat} (ho : ∀ t, o = some t → t < C) : hasT I (o2i o) = o.isSome := by
  cases o with
  | none => exact hasT_none
  | some t => rw [show o2i (some t) = nI t from rfl, hasT_nI hC (by omega) (by have := ho t rfl; omega), decide_eq_true (ho t rfl)]; rfl
theorem ct_X3_coneVariables {C : Nat} {nx : Nat → Option Nat} (hN : NXok I C nx) (oc : Option Nat) (hoc : I 11 2 = o2i oc) (hoc2 : ∀ t, oc = some t → t < C) :
    CN 62 RF mX3_coneVariables 1 [.ref 11] I J (RX (some (.int (cnI (fun v => (nx v).map (I 6)) ((oc.map (I 6)).getD 0) 4))) I J) := by
  obtain ⟨hC, hC40, hx1, hx2⟩ := hN
  generalize hf : (fun v => (nx v).map (I 6)) = f
  generalize hc0 : (oc.map (I 6)).getD 0 = c0
  generalize hQ : RX (some (.int (cnI f c0 4))) I J = Q
  have hQ' : Q (some (.int (cnI f c0 4))) I J := by rw [← hQ]; exact rxq
  clear hQ
  refine cn_of (by decide) rfl (Nat.le_of_ble_eq_true rfl) ?_
  refine blk s_X3_coneVariables_0 (nm ?_)
  rw [hoc]
  refine c_X3_coneVariables_8 (ct_X4_has _) rfl (by decide) rfl (Nat.le_of_ble_eq_true rfl) (by decide) rfl (rx ?_)
  rw [has_o hC hC40 hoc2]
  have go : EN 62 RF mX3_coneVariables 1 30 [(0, .ref 11)] [.int c0] I J Q := by
    refine blk s_X3_coneVariables_30 (nm ?_)
    refine dn (P := fun k => EN 62 RF mX3_coneVariables 1 33 [(0, .ref 11), (1, .int (cnI f c0 k)), (2, .int (nI k))] [] I J Q) (N := 4) ?_ ?_ (Nat.zero_le _)
    · refine blk s_X3_coneVariables_33 (nm ?_)
      refine b_X3_coneVariables_35 (fun h => ?_) (fun h => absurd (Int32.le_refl _) h)
      refine blk s_X3_coneVariables_98 (nm ?_)
      exact r_X3_coneVariables_99 hQ'
    · intro k hk ih
      refine blk s_X3_coneVariables_33 (nm ?_)
      refine b_X3_coneVariables_35 (fun h => absurd h (nI_ge hk (by decide))) (fun h => ?_)
      refine blk s_X3_coneVariables_38 (nm ?_)
      generalize hc : cnI f c0 k = c at *
      refine dn (P := fun v => EN 62 RF mX3_coneVariables 1 40 [(0, .ref 11), (1, .int (cnR f c v)), (2, .int (nI k)), (3, .int (nI v))] [] I J Q) (N := 4) ?_ ?_ (Nat.zero_le _)
      · refine blk s_X3_coneVariables_40 (nm ?_)
        refine b_X3_coneVariables_42 (fun h => ?_) (fun h => absurd (Int32.le_refl _) h)
        refine blk s_X3_coneVariables_92 (nm ?_)
        refine wkt 3 (en_L ?_ ih)
        rw [nI_s, ← hc]; rfl
      · intro v hv ih2
        have back : ∀ y : Int32, y = cnR f c (v + 1) → EN 62 RF mX3_coneVariables 1 86 [(0, .ref 11), (1, .int y), (2, .int (nI k)), (3, .int (nI v))] [] I J Q := by
          intro y hy
          subst hy
          refine blk s_X3_coneVariables_86 (nm ?_)
          exact en_L (by rw [nI_s]) ih2
        refine blk s_X3_coneVariables_40 (nm ?_)
        refine b_X3_coneVariables_42 (fun h => absurd h (nI_ge hv (by decide))) (fun h => ?_)
        refine blk s_X3_coneVariables_45 (nm ?_)
        refine c_X3_coneVariables_47 (ct_X6_isInN (by omega) _) rfl (by decide) rfl (Nat.le_of_ble_eq_true rfl) (rx ?_)
        refine b_X3_coneVariables_50 (fun h => ?_) (fun h => ?_)
        · refine back _ ?_
          show _ = (match mb (cnR f c v) v, f v with | true, some x => cnR f c v ||| x | _, _ => cnR f c v)
          rw [(b2i_0 _).mp h]
        · refine blk s_X3_coneVariables_53 (And.intro (ib hv) (nm ?_))
          rw [cl v, hx1 v hv]
          refine c_X3_coneVariables_63 (ct_X4_has _) rfl (by decide) rfl (Nat.le_of_ble_eq_true rfl) (by decide) rfl (rx ?_)
          rw [has_o hC hC40 (fun t ht => hx2 v t hv ht)]
          refine b_X3_coneVariables_66 (fun h2 => ?_) (fun h2 => ?_)
          · refine back _ ?_
            have hn : nx v = none := Option.isSome_eq_false_iff.mp ((b2i_0 _).mp h2) |> Option.isNone_iff_eq_none.mp
            show _ = (match mb (cnR f c v) v, f v with | true, some x => cnR f c v ||| x | _, _ => cnR f c v)
            rw [← hf]
            show _ = (match mb _ v, (nx v).map (I 6) with | true, some x => _ ||| x | _, _ => _)
            rw [hn]
            cases mb (cnR (fun v => (nx v).map (I 6)) c v) v <;> rfl
          · obtain ⟨t, ht⟩ := Option.isSome_iff_exists.mp (b2t h2)
            have htC := hx2 v t hv ht
            have e1 : I 12 v = nI t := by rw [hx1 v hv, ht]; rfl
            refine blk s_X3_coneVariables_69 (And.intro (ib hv) (And.intro (by rw [cl v, e1]; exact ib (by omega)) (nm ?_)))
            rw [cl v, e1, cl t]
            refine back _ ?_
            show _ = (match mb (cnR f c v) v, f v with | true, some x => cnR f c v ||| x | _, _ => cnR f c v)
            rw [b2t h, show f v = some (I 6 t) from by rw [← hf]; show (nx v).map (I 6) = _; rw [ht]; rfl]
  cases oc with
  | none =>
    refine b_X3_coneVariables_11 (fun h => ?_) (fun h => absurd rfl h)
    refine blk s_X3_coneVariables_29 (nm ?_)
    exact en_S (by rw [← hc0]; rfl) go
  | some t =>
    have htC := hoc2 t rfl
    refine b_X3_coneVariables_11 (fun h => by cases h) (fun h => ?_)
    refine blk s_X3_coneVariables_14 (And.intro (by rw [hoc]; exact ib (by omega)) (nm ?_))
    rw [hoc]
    exact en_S (by rw [← hc0, show o2i (some t) = nI t from rfl, cl t]; rfl) go
theorem ct_X3_inputsOf {C : Nat} {nx : Nat → Option Nat} (hN : NXok I C nx) (c : Int32) :
    CN 62 RF mX3_inputsOf 1 [.ref 11, .int c] I J (RX (some (.int (inF (fun v => (nx v).map (I 7)) c 4))) I J) := by
  obtain ⟨hC, hC40, hx1, hx2⟩ := hN
  generalize hf : (fun v => (nx v).map (I 7)) = g
  generalize hQ : RX (some (.int (inF g c 4))) I J = Q
  have hQ' : Q (some (.int (inF g c 4))) I J := by rw [← hQ]; exact rxq
  clear hQ
  refine cn_of (by decide) rfl (Nat.le_of_ble_eq_true rfl) ?_
  refine blk s_X3_inputsOf_0 (nm ?_)
  refine dn (P := fun v => EN 62 RF mX3_inputsOf 1 4 [(0, .ref 11), (1, .int c), (2, .int (inF g c v)), (3, .int (nI v))] [] I J Q) (N := 4) ?_ ?_ (Nat.zero_le _)
  · refine blk s_X3_inputsOf_4 (nm ?_)
    refine b_X3_inputsOf_6 (fun h => ?_) (fun h => absurd (Int32.le_refl _) h)
    refine blk s_X3_inputsOf_56 (nm ?_)
    exact r_X3_inputsOf_57 hQ'
  · intro v hv ih
    have back : ∀ y : Int32, y = inF g c (v + 1) → EN 62 RF mX3_inputsOf 1 50 [(0, .ref 11), (1, .int c), (2, .int y), (3, .int (nI v))] [] I J Q := by
      intro y hy
      subst hy
      refine blk s_X3_inputsOf_50 (nm ?_)
      exact en_L (by rw [nI_s]) ih
    refine blk s_X3_inputsOf_4 (nm ?_)
    refine b_X3_inputsOf_6 (fun h => absurd h (nI_ge hv (by decide))) (fun h => ?_)
    refine blk s_X3_inputsOf_9 (nm ?_)
    refine c_X3_inputsOf_11 (ct_X6_isInN (by omega) _) rfl (by decide) rfl (Nat.le_of_ble_eq_true rfl) (rx ?_)
    refine b_X3_inputsOf_14 (fun h => ?_) (fun h => ?_)
    · refine back _ ?_
      show _ = (match mb c v, g v with | true, some x => inF g c v ||| x | _, _ => inF g c v)
      rw [(b2i_0 _).mp h]
    · refine blk s_X3_inputsOf_17 (And.intro (ib hv) (nm ?_))
      rw [cl v, hx1 v hv]
      refine c_X3_inputsOf_27 (ct_X4_has _) rfl (by decide) rfl (Nat.le_of_ble_eq_true rfl) (by decide) rfl (rx ?_)
      rw [has_o hC hC40 (fun t ht => hx2 v t hv ht)]
      refine b_X3_inputsOf_30 (fun h2 => ?_) (fun h2 => ?_)
      · refine back _ ?_
        have hn : nx v = none := Option.isSome_eq_false_iff.mp ((b2i_0 _).mp h2) |> Option.isNone_iff_eq_none.mp
        show _ = (match mb c v, g v with | true, some x => inF g c v ||| x | _, _ => inF g c v)
        rw [show g v = none from by rw [← hf]; show (nx v).map (I 7) = _; rw [hn]; rfl]
        cases mb c v <;> rfl
      · obtain ⟨t, ht⟩ := Option.isSome_iff_exists.mp (b2t h2)
        have htC := hx2 v t hv ht
        have e1 : I 12 v = nI t := by rw [hx1 v hv, ht]; rfl
        refine blk s_X3_inputsOf_33 (And.intro (ib hv) (And.intro (by rw [cl v, e1]; exact ib (by omega)) (nm ?_)))
        rw [cl v, e1, cl t]
        refine back _ ?_
        show _ = (match mb c v, g v with | true, some x => inF g c v ||| x | _, _ => inF g c v)
        rw [b2t h, show g v = some (I 7 t) from by rw [← hf]; show (nx v).map (I 7) = _; rw [ht]; rfl]
end M2
