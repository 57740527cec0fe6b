/-! PUBLIC METHODS: the reference's way; alike -/
section PUB5
variable {I : IT} {J : JT} {g : JT} {C : Nat} {nx : Nat → Option Nat} {os oc : Option Nat}
theorem ct_X7_way (hB : RB I g C nx os oc) (k w : Int32) : CN 62 RF mX7_way 5 [.ref 39, .int k, .int w] I J (QM (waV (Tx g nx) (Sx g os) (Bx g oc) (lwX (rc (Tx g nx)) (Sx g os) (Bx g oc)) k w) I J) := by
  have hl15 : ∀ n, lwX (rc (Tx g nx)) (Sx g os) (Bx g oc) = some n → n ≤ 15 := fun n h => lwX_lt h
  generalize how : lwX (rc (Tx g nx)) (Sx g os) (Bx g oc) = ow at *
  unfold waV
  refine cn_of (by decide) rfl (Nat.le_of_ble_eq_true rfl) ?_
  refine blk s_X7_way_0 (nm ?_)
  refine c_X7_way_4 (ct_X7_within _ _ _) rfl (by decide) rfl (Nat.le_of_ble_eq_true rfl) (rx ?_)
  cases hk : wiB k 0 15 with
  | false =>
    refine b_X7_way_7 (fun h => ?_) (fun h => absurd rfl h)
    refine blk s_X7_way_19 (nm ?_)
    exact r_X7_way_21 ⟨rfl, rfl, FM_r I⟩
  | true =>
    refine b_X7_way_7 (fun h => absurd h (by decide)) (fun h => ?_)
    refine blk s_X7_way_10 (nm ?_)
    refine c_X7_way_13 (ct_X7_within _ _ _) rfl (by decide) rfl (Nat.le_of_ble_eq_true rfl) (rx ?_)
    cases hw : wiB w 0 1 with
    | false =>
      refine b_X7_way_16 (fun h => absurd rfl h) (fun h => ?_)
      refine blk s_X7_way_19 (nm ?_)
      exact r_X7_way_21 ⟨rfl, rfl, FM_r I⟩
    | true =>
      rw [wi_15] at hk
      rw [wi_1] at hw
      obtain ⟨q, hq, rfl⟩ := lt_ex (N := 16) (by decide) hk
      obtain ⟨v, hv, rfl⟩ := lt_ex (N := 2) (by decide) hw
      refine b_X7_way_16 (fun h => ?_) (fun h => absurd h (by decide))
      refine blk s_X7_way_22 (nm ?_)
      refine c_X7_way_23 (ct_X7_findWay hB) rfl (by decide) rfl (Nat.le_of_ble_eq_true rfl) (by decide) rfl (rx ?_)
      rw [how]
      refine blk s_X7_way_26 (nm ?_)
      rw [fwI_13]
      have none9 : ∀ {x : Int32}, x = -9 → EN 62 RF mX7_way 5 56 [(0, .ref 39), (1, .int (nI q)), (2, .int (nI v))] [] (fwI I (Tx g nx) (Sx g os) (Bx g oc) ow) J (QM x I J) := by
        intro x hx
        refine blk s_X7_way_56 (nm ?_)
        exact r_X7_way_58 ⟨by rw [hx], rfl, FM_fw I _ _ _ _⟩
      cases ho : ow with
      | none =>
        rw [ho] at none9
        refine b_X7_way_32 (fun h => ?_) (fun h => absurd rfl h)
        exact none9 rfl
      | some n =>
        rw [ho] at none9
        have hn := hl15 n ho
        refine b_X7_way_32 (fun h => absurd h (o2i_ne (by omega))) (fun h => ?_)
        refine blk s_X7_way_35 (nm ?_)
        rw [fwI_13, show o2i (some n) = nI n from rfl]
        show Ends _ _ _ _ _ _ _ _ _ _ (QN 62 RF (QM (if nI v = 0 then (if (nI q).toNatClampNeg ≤ n then nI (wyS (Tx g nx) (rc (Tx g nx)) (Sx g os) (Bx g oc) n (nI q).toNatClampNeg) else -9) else (if (nI q).toNatClampNeg < n then nI (wyR (Tx g nx) (rc (Tx g nx)) (Sx g os) (Bx g oc) n (nI q).toNatClampNeg) else -9)) I J))
        rw [cl q]
        refine b_X7_way_40 (fun h2 => ?_) (fun h2 => ?_)
        · have := (nI_ltI (a := n) (b := q) (by omega) (by omega)).mp h2
          refine none9 ?_
          rw [if_neg (c := q ≤ n) (by omega), if_neg (c := q < n) (by omega)]
          split <;> rfl
        · have hqn : q ≤ n := by
            rcases Nat.lt_or_ge n q with h7 | h7
            · exact absurd ((nI_ltI (a := n) (b := q) (by omega) (by omega)).mpr h7) h2
            · exact h7
          refine blk s_X7_way_43 (nm ?_)
          rcases (show v = 0 ∨ v = 1 by omega) with rfl | rfl
          · rw [if_pos (show nI 0 = 0 from rfl), if_pos hqn]
            refine b_X7_way_45 (fun h3 => ?_) (fun h3 => absurd h3 (by decide))
            refine blk s_X7_way_59 (nm ?_)
            refine b_X7_way_60 (fun h4 => absurd rfl h4) (fun h4 => ?_)
            refine blk s_X7_way_63 (And.intro (ib (show q < 17 by omega)) (nm ?_))
            rw [cl q, fwI_49 hqn]
            exact r_X7_way_78 ⟨rfl, rfl, FM_fw I _ _ _ _⟩
          · rw [if_neg (show ¬ nI 1 = 0 by decide)]
            refine b_X7_way_45 (fun h3 => absurd rfl h3) (fun h3 => ?_)
            refine blk s_X7_way_48 (nm ?_)
            rw [fwI_13, show o2i (some n) = nI n from rfl]
            refine b_X7_way_53 (fun h4 => ?_) (fun h4 => ?_)
            · have hqn2 : q < n := by
                rcases Nat.lt_or_ge q n with h7 | h7
                · exact h7
                · exact absurd (by rw [show q = n by omega]) h4
              rw [if_pos hqn2]
              refine blk s_X7_way_59 (nm ?_)
              refine b_X7_way_60 (fun h5 => ?_) (fun h5 => absurd h5 (by decide))
              refine blk s_X7_way_72 (And.intro (ib (show q < 16 by omega)) (nm ?_))
              rw [cl q, fwI_50 hqn2]
              exact r_X7_way_78 ⟨rfl, rfl, FM_fw I _ _ _ _⟩
            · have := (nI_eq (a := q) (b := n) (by omega) (by omega)).mp h4
              exact none9 (if_neg (by omega))
end PUB5
