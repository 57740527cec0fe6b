/-! PUBLIC METHODS: back -/
section PUB11
variable {I : IT} {J : JT}
theorem ct_X6_back_no (hK : I 19 3 = nI 0) : CN 62 RF mX6_back 1 [.ref 0] I J (RX (some (.int (-3))) I J) := by
  refine cn_of (by decide) rfl (Nat.le_of_ble_eq_true rfl) ?_
  refine blk s_X6_back_0 (nm ?_)
  rw [hK]
  refine b_X6_back_7 (fun h => absurd rfl h) (fun h => ?_)
  refine blk s_X6_back_10 (nm ?_)
  exact r_X6_back_22 rxq
theorem ct_X6_back_yes {K : Nat} (hK : I 19 3 = nI (K + 1)) (hK8 : K < 8) : CN 62 RF mX6_back 1 [.ref 0] I J (RX (some (.int (nI K))) (up2 (up2 I 19 3 (nI K)) 19 4 (bs (inA I K))) J) := by
  refine cn_of (by decide) rfl (Nat.le_of_ble_eq_true rfl) ?_
  refine blk s_X6_back_0 (nm ?_)
  rw [hK]
  refine b_X6_back_7 (fun h => ?_) (fun h => absurd ((nI_eq (a := K + 1) (b := 0) (by omega) (by decide)).mp h) (by omega))
  refine blk s_X6_back_15 (nm ?_)
  refine c_X6_back_19 (ct_X2_removeLast hK hK8) rfl (by decide) rfl (Nat.le_of_ble_eq_true rfl) (by decide) rfl (rx ?_)
  exact r_X6_back_22 rxq
theorem ct_X7_back_no (hK : I 39 16 = nI 0) : CN 62 RF mX7_back 0 [.ref 39] I J (RX (some (.int (-3))) I J) := by
  refine cn_of (by decide) rfl (Nat.le_of_ble_eq_true rfl) ?_
  refine blk s_X7_back_0 (nm ?_)
  rw [hK]
  refine b_X7_back_4 (fun h => absurd rfl h) (fun h => ?_)
  refine blk s_X7_back_7 (nm ?_)
  exact r_X7_back_9 rxq
theorem ct_X7_back_yes {K : Nat} (hK : I 39 16 = nI (K + 1)) (hK8 : K < 8) : CN 62 RF mX7_back 0 [.ref 39] I J (RX (some (.int (nI K))) (up2 I 39 16 (nI K)) J) := by
  refine cn_of (by decide) rfl (Nat.le_of_ble_eq_true rfl) ?_
  refine blk s_X7_back_0 (nm ?_)
  rw [hK]
  refine b_X7_back_4 (fun h => ?_) (fun h => absurd ((nI_eq (a := K + 1) (b := 0) (by omega) (by decide)).mp h) (by omega))
  refine blk s_X7_back_10 (And.intro rfl (nm ?_))
  rw [hK, nI_pred, up2_s]
  exact r_X7_back_24 rxq
end PUB11
