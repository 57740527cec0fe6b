/-! PUBLIC METHODS: chance of the class -/
section PUB8
variable {I : IT} {J : JT} {T : Nat → Nat → Nat} {S B : Nat → Bool}
theorem shl_4 : ∀ c, c < 17 → ∀ k, k < 9 → nI c <<< ((2 * nI k) &&& 31) = nI (c * 4 ^ k) := by decide +kernel
def chV (T : Nat → Nat → Nat) (S B : Nat → Bool) (k : Nat) : Int32 := if cnN S 16 = 0 then -3 else (nbV (goW T S B k) (cnN S 16 * 4 ^ k) 24 127).toInt32
def CxQ (v : Int32) (I : IT) (J : JT) : IQ := fun r I' J' => r = some (.int v) ∧ J' = J ∧ ∀ o, o ≠ 27 → o ≠ 28 → I' o = I o
theorem ct_X6_chance_in (hT : TOk I T) (hS : I 11 4 = bs S) (hB : I 11 5 = bs B) {k : Nat} (hk : k ≤ 8) : CN 62 RF mX6_chance 3 [.ref 0, .int (nI k)] I J (CxQ (chV T S B k) I J) := by
  have hc16 := cnN_le S 16
  have hsp := su_split (p := S) (sf_wr T B k) 16
  unfold chV
  refine cn_of (by decide) rfl (Nat.le_of_ble_eq_true rfl) ?_
  refine blk s_X6_chance_0 (nm ?_)
  refine b_X6_chance_1 (fun h => absurd h (nI_pos (by omega))) (fun _ => ?_)
  refine blk s_X6_chance_4 (nm ?_)
  refine b_X6_chance_7 (fun _ => ?_) (fun h => absurd ((nI_leI (a := k) (b := 8) (by omega) (by decide)).mpr hk) h)
  refine blk s_X6_chance_13 (nm ?_)
  rw [hS]
  refine c_X6_chance_20 (ct_J6_bitCountS _) rfl (by decide) rfl (Nat.le_of_ble_eq_true rfl) (rx ?_)
  generalize cnN S 16 = c at *
  refine blk s_X6_chance_23 (nm ?_)
  refine b_X6_chance_25 (fun h => ?_) (fun h => ?_)
  · have hc0 : c ≠ 0 := fun e => h (by rw [e]; rfl)
    rw [if_neg hc0]
    refine blk s_X6_chance_31 (nm ?_)
    rw [shl_4 c (by omega) k (by omega)]
    refine c_X6_chance_43 (ct_X5_countSafe hT hB hS hk) rfl (by decide) rfl (Nat.le_of_ble_eq_true rfl) (by decide) rfl (fun rv I' J' hq => ?_)
    obtain ⟨q1, q2, q3⟩ := hq
    subst q1 q2
    refine blk s_X6_chance_46 (nm ?_)
    have hgo : su (fun s => if S s = true then wr T B k s else 0) 16 = goW T S B k := rfl
    rw [hgo] at hsp
    have h4 := pow4_le hk
    have h40 : 0 < 4 ^ k := Nat.pow_pos (by decide)
    have hd1 : 0 < c * 4 ^ k := Nat.mul_pos (by omega) h40
    have hd2 : c * 4 ^ k ≤ 16 * 65536 := Nat.mul_le_mul hc16 h4
    generalize c * 4 ^ k = d at *
    generalize su (fun s => if S s = true then sf T B k s else 0) 16 = y at *
    rw [pk_sub (show y ≤ d by omega), show d - y = goW T S B k by omega, nI_l (by omega), nI_l (by omega)]
    refine c_X6_chance_54 (ct_X6_nearestBits (F := 24) (bias := 127) (by omega) hd1 (by omega) (by decide) (by decide) (Nat.le_trans (Nat.mul_le_mul_right _ hd2) (by decide)) (by decide) (by decide)) rfl (by decide) rfl (Nat.le_of_ble_eq_true rfl) (rx ?_)
    refine blk s_X6_chance_57 (nm ?_)
    exact r_X6_chance_58 ⟨rfl, rfl, q3⟩
  · have hc0 : c = 0 := (nI_eq (a := c) (b := 0) (by omega) (by decide)).mp h
    rw [if_pos hc0]
    refine blk s_X6_chance_28 (nm ?_)
    exact r_X6_chance_30 ⟨rfl, rfl, fun _ _ _ => rfl⟩
end PUB8
