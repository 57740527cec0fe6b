/-! PUBLIC METHODS: way; fails -/
section PUB4
variable {I : IT} {J : JT} {g : JT} {C : Nat} {nx : Nat → Option Nat} {os oc : Option Nat}
theorem ct_X7_fails (w : Int32) : CN 62 RF mX7_fails 0 [.ref 39, .int w] I J (RX (some (.int (-10 - w))) (up2 I 39 0 w) J) := by
  refine cn_of (by decide) rfl (Nat.le_of_ble_eq_true rfl) ?_
  refine blk s_X7_fails_0 (nm ?_)
  exact r_X7_fails_9 rxq
def waV (T : Nat → Nat → Nat) (S B : Nat → Bool) (ow : Option Nat) (k w : Int32) : Int32 := match wiB k 0 15, wiB w 0 1, ow with
  | true, true, none => -9
  | true, true, some n => if w = 0 then (if k.toNatClampNeg ≤ n then nI (wyS T (rc T) S B n k.toNatClampNeg) else -9) else (if k.toNatClampNeg < n then nI (wyR T (rc T) S B n k.toNatClampNeg) else -9)
  | _, _, _ => -2
theorem wi_1 (t : Int32) : wiB t 0 1 = ltB t 2 := wi_lt (N := 2) (by decide) (by decide) t
theorem ct_X6_way {T : Nat → Nat → Nat} {S B : Nat → Bool} {ow : Option Nat} (hw15 : ∀ n, ow = some n → n ≤ 15) (h11 : I 11 11 = o2i ow) (hs : ∀ n, ow = some n → (∀ k, k ≤ n → I 16 k = nI (wyS T (rc T) S B n k)) ∧ ∀ k, k < n → I 17 k = nI (wyR T (rc T) S B n k)) (k w : Int32) : CN 62 RF mX6_way 0 [.ref 0, .int k, .int w] I J (RX (some (.int (waV T S B ow k w))) I J) := by
  have out : ∀ {Q : IQ}, Q (some (.int (-2))) I J → EN 62 RF mX6_way 0 19 [(0, .ref 0), (1, .int k), (2, .int w)] [] I J Q := by
    intro Q hQ
    refine blk s_X6_way_19 (nm ?_)
    exact r_X6_way_21 hQ
  refine cn_of (by decide) rfl (Nat.le_of_ble_eq_true rfl) ?_
  refine blk s_X6_way_0 (nm ?_)
  refine b_X6_way_1 (fun h => ?_) (fun h => ?_)
  · refine out (rxe ?_ rfl rfl)
    unfold waV wiB; rw [decide_eq_true h]; rfl
  · refine blk s_X6_way_4 (nm ?_)
    refine b_X6_way_7 (fun h2 => ?_) (fun h2 => ?_)
    · refine out (rxe ?_ rfl rfl)
      unfold waV wiB; rw [decide_eq_true (show (15 : Int32) < k from h2), decide_eq_false h]; rfl
    · have hk : wiB k 0 15 = true := by unfold wiB; rw [decide_eq_false h, decide_eq_false (show ¬ (15 : Int32) < k from h2)]; rfl
      refine blk s_X6_way_10 (nm ?_)
      refine b_X6_way_11 (fun h3 => ?_) (fun h3 => ?_)
      · refine out (rxe ?_ rfl rfl)
        unfold waV; rw [hk]; unfold wiB; rw [decide_eq_true h3]; rfl
      · refine blk s_X6_way_14 (nm ?_)
        refine b_X6_way_16 (fun h4 => ?_) (fun h4 => ?_)
        · have hw : wiB w 0 1 = true := by unfold wiB; rw [decide_eq_false h3, decide_eq_false (Int32.not_lt.mpr h4)]; rfl
          unfold waV
          rw [hk, hw]
          rw [wi_15] at hk
          obtain ⟨q, hq, rfl⟩ := lt_ex (N := 16) (by decide) hk
          refine blk s_X6_way_22 (nm ?_)
          refine b_X6_way_23 (fun h5 => ?_) (fun h5 => ?_)
          · refine blk s_X6_way_52 (nm ?_)
            rw [h11]
            cases ho : ow with
            | none =>
              refine b_X6_way_60 (fun h6 => ?_) (fun h6 => absurd (Int32.le_trans (show (-9 : Int32) ≤ 0 by decide) (Int32.not_lt.mp h)) h6)
              refine blk s_X6_way_75 (nm ?_)
              exact r_X6_way_77 rxq
            | some n =>
              have hn := hw15 n ho
              refine b_X6_way_60 (fun h6 => ?_) (fun h6 => ?_)
              · refine blk s_X6_way_75 (nm ?_)
                refine r_X6_way_77 (rxe ?_ rfl rfl)
                have := (nI_leI (a := n) (b := q) (by omega) (by omega)).mp h6
                show some (Value.int (-9)) = some (Value.int (if w = 0 then _ else _))
                rw [if_neg h5, cl q, if_neg (by omega)]
              · have hqn : q < n := by
                  rcases Nat.lt_or_ge q n with h7 | h7
                  · exact h7
                  · exact absurd ((nI_leI (a := n) (b := q) (by omega) (by omega)).mpr h7) h6
                refine blk s_X6_way_63 (And.intro (ib (show q < 15 by omega)) (nm ?_))
                refine r_X6_way_77 (rxe ?_ rfl rfl)
                show _ = some (Value.int (if w = 0 then _ else _))
                rw [if_neg h5, cl q, if_pos hqn, (hs n ho).2 q hqn]
          · refine blk s_X6_way_26 (nm ?_)
            rw [h11]
            cases ho : ow with
            | none =>
              refine b_X6_way_34 (fun h6 => ?_) (fun h6 => absurd (Int32.lt_of_lt_of_le (show (-9 : Int32) < 0 by decide) (Int32.not_lt.mp h)) h6)
              refine blk s_X6_way_49 (nm ?_)
              exact r_X6_way_51 rxq
            | some n =>
              have hn := hw15 n ho
              refine b_X6_way_34 (fun h6 => ?_) (fun h6 => ?_)
              · refine blk s_X6_way_49 (nm ?_)
                refine r_X6_way_51 (rxe ?_ rfl rfl)
                have := (nI_ltI (a := n) (b := q) (by omega) (by omega)).mp h6
                show some (Value.int (-9)) = some (Value.int (if w = 0 then _ else _))
                rw [if_pos h5, cl q, if_neg (by omega)]
              · have hqn : q ≤ n := by
                  rcases Nat.lt_or_ge n q with h7 | h7
                  · exact absurd ((nI_ltI (a := n) (b := q) (by omega) (by omega)).mpr h7) h6
                  · exact h7
                refine blk s_X6_way_37 (And.intro (ib (show q < 16 by omega)) (nm ?_))
                refine r_X6_way_51 (rxe ?_ rfl rfl)
                show _ = some (Value.int (if w = 0 then _ else _))
                rw [if_pos h5, cl q, if_pos hqn, (hs n ho).1 q hqn]
        · refine out (rxe ?_ rfl rfl)
          unfold waV; rw [hk]; unfold wiB; rw [decide_eq_false h3, decide_eq_true (Int32.not_le.mp h4)]; rfl
end PUB4
