/-! PUBLIC METHODS: mean of the class -/
section PUB7
variable {I : IT} {J : JT}
def meV (D : Nat → Option Nat) : Int64 := if cnN (fun s => (D s).isSome) 16 = 0 then -9223372036854775808 else nbV (suD D) (cnN (fun s => (D s).isSome) 16) 53 1023
theorem ct_X6_mean {D : Nat → Option Nat} (hD : ∀ s, s < 16 → I 15 s = o2i (D s)) (hm : I 11 10 = bs (fun s => (D s).isSome)) (hl : ∀ s d, D s = some d → d < 16) : CN 62 RF mX6_mean 2 [.ref 0] I J (RX (some (.long (meV D))) I J) := by
  have hsu : suD D ≤ 16 * 15 := su_le fun s _ => by
    show (D s).getD 0 ≤ 15
    cases hd : D s with
    | none => show 0 ≤ 15; omega
    | some d => have := hl s d hd; show d ≤ 15; omega
  have hc16 := cnN_le (fun s => (D s).isSome) 16
  have hsm : smF (mb (I 11 10)) (I 15) 16 = nI (suD D) := by
    rw [smF_cg (p' := fun s => (D s).isSome) (D' := fun s => o2i (D s)) (fun s hs => ⟨by rw [hm, mb_bs1 _ hs], hD s hs⟩), smF_su (fun _ => rfl)]
    rfl
  unfold meV
  refine cn_of (by decide) rfl (Nat.le_of_ble_eq_true rfl) ?_
  refine blk s_X6_mean_0 (nm ?_)
  rw [hm]
  refine c_X6_mean_7 (ct_J6_bitCountS _) rfl (by decide) rfl (Nat.le_of_ble_eq_true rfl) (rx ?_)
  generalize cnN (fun s => (D s).isSome) 16 = c at *
  refine blk s_X6_mean_10 (nm ?_)
  refine b_X6_mean_12 (fun h => ?_) (fun h => ?_)
  · have hc0 : c ≠ 0 := fun e => h (by rw [e]; rfl)
    rw [if_neg hc0]
    refine blk s_X6_mean_19 (nm ?_)
    refine c_X6_mean_23 ct_X3_sumOfDistances rfl (by decide) rfl (Nat.le_of_ble_eq_true rfl) (by decide) rfl (rx ?_)
    rw [hsm]
    refine blk s_X6_mean_26 (nm ?_)
    rw [nI_l (by omega), nI_l (by omega)]
    refine c_X6_mean_34 (ct_X6_nearestBits (F := 53) (bias := 1023) (by omega) (by omega) (by omega) (by decide) (by decide) (Nat.le_trans (Nat.mul_le_mul_right _ hc16) (by decide)) (by decide) (by decide)) rfl (by decide) rfl (Nat.le_of_ble_eq_true rfl) (rx ?_)
    exact r_X6_mean_37 rxq
  · have hc0 : c = 0 := (nI_eq (a := c) (b := 0) (by omega) (by decide)).mp h
    rw [if_pos hc0]
    refine blk s_X6_mean_15 (nm ?_)
    exact r_X6_mean_18 rxq
end PUB7
