/-! PUBLIC METHODS: cone -/
section PUB9
variable {I : IT} {J : JT} {g : JT} {C : Nat} {nx : Nat → Option Nat} {os oc : Option Nat}
def cvV (f gi : Nat → Option Int32) (c0 w : Int32) : Int32 := match wiB w 0 1, decide (w = 0) with
  | false, _ => -2
  | true, true => cnI f c0 4
  | true, false => inF gi (cnI f c0 4) 4
theorem ct_X6_cone (hN : NXok I C nx) (hoc : I 11 2 = o2i oc) (hoc2 : ∀ t, oc = some t → t < C) (w : Int32) : CN 62 RF mX6_cone 2 [.ref 0, .int w] I J (RX (some (.int (cvV (fun v => (nx v).map (I 6)) (fun v => (nx v).map (I 7)) ((oc.map (I 6)).getD 0) w))) I J) := by
  unfold cvV wiB
  refine cn_of (by decide) rfl (Nat.le_of_ble_eq_true rfl) ?_
  refine blk s_X6_cone_0 (nm ?_)
  refine b_X6_cone_1 (fun h => ?_) (fun h => ?_)
  · rw [decide_eq_true h]
    refine blk s_X6_cone_9 (nm ?_)
    exact r_X6_cone_11 rxq
  · rw [decide_eq_false h]
    refine blk s_X6_cone_4 (nm ?_)
    refine b_X6_cone_6 (fun h2 => ?_) (fun h2 => ?_)
    · rw [decide_eq_false (show ¬ (1 : Int32) < w from Int32.not_lt.mpr h2)]
      refine blk s_X6_cone_12 (nm ?_)
      refine c_X6_cone_16 (ct_X3_coneVariables hN oc hoc hoc2) rfl (by decide) rfl (Nat.le_of_ble_eq_true rfl) (by decide) rfl (rx ?_)
      refine blk s_X6_cone_19 (nm ?_)
      refine b_X6_cone_21 (fun h3 => ?_) (fun h3 => ?_)
      · rw [decide_eq_false h3]
        refine blk s_X6_cone_28 (nm ?_)
        refine c_X6_cone_33 (ct_X3_inputsOf hN _) rfl (by decide) rfl (Nat.le_of_ble_eq_true rfl) (by decide) rfl (rx ?_)
        exact r_X6_cone_36 rxq
      · rw [decide_eq_true h3]
        refine blk s_X6_cone_24 (nm ?_)
        exact r_X6_cone_36 rxq
    · rw [decide_eq_true (show (1 : Int32) < w from Int32.not_le.mp h2)]
      refine blk s_X6_cone_9 (nm ?_)
      exact r_X6_cone_11 rxq
end PUB9
