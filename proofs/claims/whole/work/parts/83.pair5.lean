/-! PAIRS: chain -/
section PAIR5
variable {sc : Nat → Nat → Int32} {V : Nat} {I : IT} {J : JT} {g : JT} {C : Nat} {nx : Nat → Option Nat} {os oc : Option Nat} {A : Nat → Bool}
def chG (T : Nat → Nat → Nat) (c : Option (Nat × List Nat)) (q m : Nat) (z : Bool) : Int32 := match c, z with
  | none, _ => -9
  | some c, true => if m ≤ q then nI (rnS T (fun j => c.2.getD j 0) c.1 m) else -9
  | some c, false => if m < q then nI (c.2.getD m 0) else -9
def cnW (T : Nat → Nat → Nat) (A B : Nat → Bool) (k i w : Int32) : Int32 := match wiB k 0 8, wiB i 0 8, wiB w 0 1 with
  | true, true, true => chG T (fcO T (fun s => A s && !B s) (fun s => A s && B s) k.toNatClampNeg) k.toNatClampNeg i.toNatClampNeg (decide (w = 0))
  | _, _, _ => -2
theorem chG_9 {T : Nat → Nat → Nat} {c : Option (Nat × List Nat)} {q m : Nat} {z : Bool} (h : match z with | true => q < m | false => q ≤ m) : chG T c q m z = -9 := by
  cases c with
  | none => rfl
  | some c =>
    cases z with
    | true => show (if m ≤ q then _ else _) = _; rw [if_neg (by change q < m at h; omega)]
    | false => show (if m < q then _ else _) = _; rw [if_neg (by change q ≤ m at h; omega)]
theorem ct_X6_chain {T : Nat → Nat → Nat} {B : Nat → Bool} (hT : TOk I T) (hR : ∀ s, s < 16 → I 14 s = bs (rc T s)) (hA : I 19 4 = bs A) (hB : I 11 5 = bs B) (hV : I 11 8 = nI V) (hV2 : V < 2 ^ 31) (hKp : KpOk T I V) (k i w : Int32) : CN 62 RF mX6_chain 12 [.ref 0, .int k, .int i, .int w] I J (QX T V (cnW T A B k i w) I J) := by
  have out : cnW T A B k i w = -2 → EN 62 RF mX6_chain 12 20 [(0, .ref 0), (1, .int k), (2, .int i), (3, .int w)] [] I J (QX T V (cnW T A B k i w) I J) := by
    intro he
    refine blk s_X6_chain_20 (nm ?_)
    exact r_X6_chain_22 ⟨by rw [he], rfl, fun _ _ => rfl, hKp⟩
  have out2 : cnW T A B k i w = -2 → EN 62 RF mX6_chain 12 32 [(0, .ref 0), (1, .int k), (2, .int i), (3, .int w)] [] I J (QX T V (cnW T A B k i w) I J) := by
    intro he
    refine blk s_X6_chain_32 (nm ?_)
    exact r_X6_chain_34 ⟨by rw [he], rfl, fun _ _ => rfl, hKp⟩
  refine cn_of (by decide) rfl (Nat.le_of_ble_eq_true rfl) ?_
  refine blk s_X6_chain_0 (nm ?_)
  refine b_X6_chain_1 (fun h => ?_) (fun h => ?_)
  · refine out ?_
    have e : wiB k 0 8 = false := by unfold wiB; rw [decide_eq_true h]; rfl
    unfold cnW; rw [e]
  refine blk s_X6_chain_4 (nm ?_)
  refine b_X6_chain_7 (fun h2 => ?_) (fun h2 => ?_)
  · refine out ?_
    have e : wiB k 0 8 = false := by unfold wiB; rw [decide_eq_false h, decide_eq_true h2]; rfl
    unfold cnW; rw [e]
  have hk : wiB k 0 8 = true := by unfold wiB; rw [decide_eq_false h, decide_eq_false h2]; rfl
  refine blk s_X6_chain_10 (nm ?_)
  refine b_X6_chain_11 (fun h3 => ?_) (fun h3 => ?_)
  · refine out ?_
    have e : wiB i 0 8 = false := by unfold wiB; rw [decide_eq_true h3]; rfl
    unfold cnW; rw [hk, e]
  refine blk s_X6_chain_14 (nm ?_)
  refine b_X6_chain_17 (fun h4 => ?_) (fun h4 => ?_)
  · have hi : wiB i 0 8 = true := by unfold wiB; rw [decide_eq_false h3, decide_eq_false (Int32.not_lt.mpr h4)]; rfl
    refine blk s_X6_chain_23 (nm ?_)
    refine b_X6_chain_24 (fun h5 => ?_) (fun h5 => ?_)
    · refine out2 ?_
      have e : wiB w 0 1 = false := by unfold wiB; rw [decide_eq_true h5]; rfl
      unfold cnW; rw [hk, hi, e]
    refine blk s_X6_chain_27 (nm ?_)
    refine b_X6_chain_29 (fun h6 => ?_) (fun h6 => ?_)
    · have hw : wiB w 0 1 = true := by unfold wiB; rw [decide_eq_false h5, decide_eq_false (Int32.not_lt.mpr h6)]; rfl
      have hk2 := hk
      have hi2 := hi
      rw [wi_8] at hk2 hi2
      obtain ⟨q, hq, rfl⟩ := lt_ex (N := 9) (by decide) hk2
      obtain ⟨m, hm, rfl⟩ := lt_ex (N := 9) (by decide) hi2
      have e : cnW T A B (nI q) (nI m) w = chG T (fcO T (fun s => A s && !B s) (fun s => A s && B s) q) q m (decide (w = 0)) := by unfold cnW; rw [hk, hi, hw, cl q, cl m]
      rw [e]
      generalize hc : fcO T (fun s => A s && !B s) (fun s => A s && B s) q = c
      have no : ∀ (I' : IT) (L : LT), chG T c q m (decide (w = 0)) = -9 → (∀ o, ¬ (22 ≤ o ∧ o ≤ 28) → I' o = I o) → KpOk T I' V → EN 62 RF mX6_chain 12 65 L [] I' J (QX T V (chG T c q m (decide (w = 0))) I J) := by
        intro I' L he hf hK
        refine blk s_X6_chain_65 (nm ?_)
        exact r_X6_chain_67 ⟨by rw [he], rfl, hf, hK⟩
      refine blk s_X6_chain_35 (nm ?_)
      refine b_X6_chain_36 (fun h7 => ?_) (fun h7 => ?_)
      · rw [decide_eq_false h7] at no ⊢
        refine blk s_X6_chain_45 (nm ?_)
        refine blk s_X6_chain_46 (nm ?_)
        refine b_X6_chain_51 (fun h8 => ?_) (fun h8 => ?_)
        · exact no _ _ (chG_9 (z := false) ((nI_leI (by omega) (by omega)).mp h8)) (fun _ _ => rfl) hKp
        · have hmq : m < q := by
            rw [nI_leI (show q < 2 ^ 31 by omega) (show m < 2 ^ 31 by omega)] at h8; omega
          refine blk s_X6_chain_54 (nm ?_)
          refine c_X6_chain_59 (ct_X1_find (show q ≤ 8 by omega) hT hR hA hB hV hV2 hKp) rfl (by decide) rfl (Nat.le_of_ble_eq_true rfl) (by decide) rfl (fun rv I' J' hq' => ?_)
          obtain ⟨q1, q2, q3, q4, q5⟩ := hq'
          subst q1
          obtain rfl := q2.symm
          rw [hc] at q5 ⊢
          have fr : ∀ o, ¬ (22 ≤ o ∧ o ≤ 28) → I' o = I o := fun o ho => q3 o (by omega)
          cases c with
          | none =>
            refine b_X6_chain_62 (fun h => absurd rfl h) (fun h => ?_)
            exact no _ _ rfl fr q4
          | some c =>
            refine b_X6_chain_62 (fun h => ?_) (fun h => absurd h (show ¬ b2i true = 0 by decide))
            refine blk s_X6_chain_68 (nm ?_)
            refine b_X6_chain_69 (fun h => ?_) (fun h => absurd h h7)
            refine blk s_X6_chain_84 (And.intro (ib (show m < 8 by omega)) (nm ?_))
            rw [cl m, (q5 c rfl).2 m hmq]
            refine r_X6_chain_93 ⟨?_, rfl, fr, q4⟩
            show _ = some (Value.int (if m < q then _ else _))
            rw [if_pos hmq]
      · rw [decide_eq_true h7] at no ⊢
        refine blk s_X6_chain_39 (nm ?_)
        refine blk s_X6_chain_46 (nm ?_)
        rw [nI_s]
        refine b_X6_chain_51 (fun h8 => ?_) (fun h8 => ?_)
        · exact no _ _ (chG_9 (z := true) ((nI_leI (a := q + 1) (by omega) (by omega)).mp h8)) (fun _ _ => rfl) hKp
        · have hmq : m ≤ q := by
            rw [nI_leI (show q + 1 < 2 ^ 31 by omega) (show m < 2 ^ 31 by omega)] at h8; omega
          refine blk s_X6_chain_54 (nm ?_)
          refine c_X6_chain_59 (ct_X1_find (show q ≤ 8 by omega) hT hR hA hB hV hV2 hKp) rfl (by decide) rfl (Nat.le_of_ble_eq_true rfl) (by decide) rfl (fun rv I' J' hq' => ?_)
          obtain ⟨q1, q2, q3, q4, q5⟩ := hq'
          subst q1
          obtain rfl := q2.symm
          rw [hc] at q5 ⊢
          have fr : ∀ o, ¬ (22 ≤ o ∧ o ≤ 28) → I' o = I o := fun o ho => q3 o (by omega)
          cases c with
          | none =>
            refine b_X6_chain_62 (fun h => absurd rfl h) (fun h => ?_)
            exact no _ _ rfl fr q4
          | some c =>
            refine b_X6_chain_62 (fun h => ?_) (fun h => absurd h (show ¬ b2i true = 0 by decide))
            refine blk s_X6_chain_68 (nm ?_)
            refine b_X6_chain_69 (fun h => absurd h7 h) (fun h => ?_)
            refine blk s_X6_chain_72 (And.intro (ib (show m < 9 by omega)) (nm ?_))
            rw [cl m, (q5 c rfl).1 m hmq]
            refine r_X6_chain_93 ⟨?_, rfl, fr, q4⟩
            show _ = some (Value.int (if m ≤ q then _ else _))
            rw [if_pos hmq]
    · refine out2 ?_
      have e : wiB w 0 1 = false := by unfold wiB; rw [decide_eq_false h5, decide_eq_true (Int32.not_le.mp h6)]; rfl
      unfold cnW; rw [hk, hi, e]
  · refine out ?_
    have e : wiB i 0 8 = false := by unfold wiB; rw [decide_eq_false h3, decide_eq_true (Int32.not_le.mp h4)]; rfl
    unfold cnW; rw [hk, e]
theorem ct_X7_chain (hB : RB I g C nx os oc) (hA : RA I A) (k i w : Int32) : CN 62 RF mX7_chain 5 [.ref 39, .int k, .int i, .int w] I J (QM (cnW (Tx g nx) A (Bx g oc) k i w) I J) := by
  have out : cnW (Tx g nx) A (Bx g oc) k i w = -2 → EN 62 RF mX7_chain 5 29 [(0, .ref 39), (1, .int k), (2, .int i), (3, .int w)] [] I J (QM (cnW (Tx g nx) A (Bx g oc) k i w) I J) := by
    intro he
    refine blk s_X7_chain_29 (nm ?_)
    exact r_X7_chain_31 ⟨by rw [he], rfl, FM_r I⟩
  refine cn_of (by decide) rfl (Nat.le_of_ble_eq_true rfl) ?_
  refine blk s_X7_chain_0 (nm ?_)
  refine c_X7_chain_4 (ct_X7_within _ _ _) rfl (by decide) rfl (Nat.le_of_ble_eq_true rfl) (rx ?_)
  cases hk : wiB k 0 8 with
  | false => exact b_X7_chain_7 (fun h => out (by unfold cnW; rw [hk])) (fun h => absurd rfl h)
  | true =>
    refine b_X7_chain_7 (fun h => absurd h (by decide)) (fun h => ?_)
    refine blk s_X7_chain_10 (nm ?_)
    refine c_X7_chain_14 (ct_X7_within _ _ _) rfl (by decide) rfl (Nat.le_of_ble_eq_true rfl) (rx ?_)
    cases hi : wiB i 0 8 with
    | false => exact b_X7_chain_17 (fun h => out (by unfold cnW; rw [hk, hi])) (fun h => absurd rfl h)
    | true =>
      refine b_X7_chain_17 (fun h => absurd h (by decide)) (fun h => ?_)
      refine blk s_X7_chain_20 (nm ?_)
      refine c_X7_chain_23 (ct_X7_within _ _ _) rfl (by decide) rfl (Nat.le_of_ble_eq_true rfl) (rx ?_)
      cases hw : wiB w 0 1 with
      | false => exact b_X7_chain_26 (fun h => absurd rfl h) (fun h => out (by unfold cnW; rw [hk, hi, hw]))
      | true =>
        refine b_X7_chain_26 (fun h => ?_) (fun h => absurd h (by decide))
        have hk2 := hk
        have hi2 := hi
        have hw2 := hw
        rw [wi_8] at hk2 hi2
        rw [wi_1] at hw2
        obtain ⟨q, hq, rfl⟩ := lt_ex (N := 9) (by decide) hk2
        obtain ⟨m, hm, rfl⟩ := lt_ex (N := 9) (by decide) hi2
        obtain ⟨z, hz, rfl⟩ := lt_ex (N := 2) (by decide) hw2
        have e : cnW (Tx g nx) A (Bx g oc) (nI q) (nI m) (nI z) = chG (Tx g nx) (fcO (Tx g nx) (fun s => A s && !Bx g oc s) (fun s => A s && Bx g oc s) q) q m (decide (nI z = 0)) := by unfold cnW; rw [hk, hi, hw, cl q, cl m]
        rw [e]
        refine blk s_X7_chain_32 (nm ?_)
        refine c_X7_chain_34 (ct_X7_findChain hB hA (show q ≤ 8 by omega)) rfl (by decide) rfl (Nat.le_of_ble_eq_true rfl) (by decide) rfl (fun rv I' J' hq' => ?_)
        obtain ⟨q1, q2, q3, q4, q5⟩ := hq'
        subst q1
        obtain rfl := q2.symm
        have fr : FM I I' := ⟨fun o h39 _ _ _ h53 h54 h55 _ _ => q3 o h39 h53 h54 h55, fun m _ h22 h23 => q4 m h22 h23⟩
        generalize hc : fcO (Tx g nx) (fun s => A s && !Bx g oc s) (fun s => A s && Bx g oc s) q = c at q5 ⊢
        have no : chG (Tx g nx) c q m (decide (nI z = 0)) = -9 → EN 62 RF mX7_chain 5 55 [(0, .ref 39), (1, .int (nI q)), (2, .int (nI m)), (3, .int (nI z))] [] I' J (QM (chG (Tx g nx) c q m (decide (nI z = 0))) I J) := by
          intro he
          refine blk s_X7_chain_55 (nm ?_)
          exact r_X7_chain_57 ⟨by rw [he], rfl, fr⟩
        cases c with
        | none => exact b_X7_chain_37 (fun h => no rfl) (fun h => absurd rfl h)
        | some c =>
          obtain ⟨d1, d2⟩ := q5 c rfl
          refine b_X7_chain_37 (fun h => absurd h (show ¬ b2i true = 0 by decide)) (fun h => ?_)
          refine blk s_X7_chain_40 (nm ?_)
          have z2 : z = 0 ∨ z = 1 := by omega
          refine b_X7_chain_42 (fun h8 => ?_) (fun h8 => ?_)
          · have h9 : q < m := (nI_ltI (by omega) (by omega)).mp h8
            rcases z2 with rfl | rfl
            · exact no (chG_9 (z := true) h9)
            · exact no (chG_9 (z := false) (Nat.le_of_lt h9))
          · have h9 : m ≤ q := by rw [nI_ltI (show q < 2 ^ 31 by omega) (show m < 2 ^ 31 by omega)] at h8; omega
            refine blk s_X7_chain_45 (nm ?_)
            rcases z2 with rfl | rfl
            · refine b_X7_chain_47 (fun h => ?_) (fun h => absurd h (by decide))
              refine blk s_X7_chain_58 (nm ?_)
              refine b_X7_chain_59 (fun h => absurd rfl h) (fun h => ?_)
              refine blk s_X7_chain_62 (And.intro (ib (show m < 9 by omega)) (nm ?_))
              have d3 := d1 m h9
              rw [Nat.zero_add] at d3
              rw [cl m, d3]
              refine r_X7_chain_77 ⟨?_, rfl, fr⟩
              show _ = some (Value.int (if m ≤ q then _ else _))
              rw [if_pos h9]
            · refine b_X7_chain_47 (fun h => absurd rfl h) (fun h => ?_)
              refine blk s_X7_chain_50 (nm ?_)
              refine b_X7_chain_52 (fun h => ?_) (fun h => ?_)
              · have h10 : m < q := by
                  have : ¬ m = q := fun e => h (by rw [e])
                  omega
                refine blk s_X7_chain_58 (nm ?_)
                refine b_X7_chain_59 (fun h => ?_) (fun h => absurd h (by decide))
                refine blk s_X7_chain_71 (And.intro (ib (show m < 9 by omega)) (nm ?_))
                have d3 := d2 m h10
                rw [Nat.zero_add] at d3
                rw [cl m, d3]
                refine r_X7_chain_77 ⟨?_, rfl, fr⟩
                show _ = some (Value.int (if m < q then _ else _))
                rw [if_pos h10]
              · have h10 : m = q := (nI_eq (by omega) (by omega)).mp h
                exact no (chG_9 (z := false) (show q ≤ m by omega))
theorem p_chain (hV0 : V < 1000) (k i w : Int32) : PR sc V mX6_chain mX7_chain 12 5 [.int k, .int i, .int w] := pr_q fun I J C nx os oc K V' bx fa hV hb hC hR =>
  ⟨_, ct_X6_chain (cT hC) (c14 hC) (cA hC) (cB hC) (cV hC) (by omega) (cKp hC) k i w, fun I1 h1 => ct_X7_chain h1.1 (rA h1) k i w⟩
end PAIR5
