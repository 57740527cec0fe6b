/-! PUBLIC METHODS: shut. QX: what the class's questions leave as it was -/
def QX (T : Nat → Nat → Nat) (V : Nat) (v : Int32) (I : IT) (J : JT) : IQ := fun r I' J' => r = some (.int v) ∧ J' = J ∧ (∀ o, ¬ (22 ≤ o ∧ o ≤ 28) → I' o = I o) ∧ KpOk T I' V
section PUB6
variable {I : IT} {J : JT} {g : JT} {C : Nat} {nx : Nat → Option Nat} {os oc : Option Nat} {A : Nat → Bool}
def shV (T : Nat → Nat → Nat) (A B : Nat → Bool) (k : Int32) : Int32 := match wiB k 0 8 with
  | false => -2
  | true => b2i (!(fcO T (fun s => A s && !B s) (fun s => A s && B s) k.toNatClampNeg).isSome)
theorem wi_8 (t : Int32) : wiB t 0 8 = ltB t 9 := wi_lt (N := 9) (by decide) (by decide) t
theorem ct_X6_shut {T : Nat → Nat → Nat} {B : Nat → Bool} {V : Nat} (hT : TOk I T) (hR : ∀ s, s < 16 → I 14 s = bs (rc T s)) (hA : I 19 4 = bs A) (hB : I 11 5 = bs B) (hV : I 11 8 = nI V) (hV2 : V < 2 ^ 31) (hKp : KpOk T I V) (k : Int32) : CN 62 RF mX6_shut 12 [.ref 0, .int k] I J (QX T V (shV T A B k) I J) := by
  have out : shV T A B k = -2 → EN 62 RF mX6_shut 12 10 [(0, .ref 0), (1, .int k)] [] I J (QX T V (shV T A B k) I J) := by
    intro he
    refine blk s_X6_shut_10 (nm ?_)
    exact r_X6_shut_12 ⟨by rw [he], rfl, fun _ _ => rfl, hKp⟩
  refine cn_of (by decide) rfl (Nat.le_of_ble_eq_true rfl) ?_
  refine blk s_X6_shut_0 (nm ?_)
  refine b_X6_shut_1 (fun h => ?_) (fun h => ?_)
  · refine out ?_
    unfold shV wiB; rw [decide_eq_true h]; rfl
  · refine blk s_X6_shut_4 (nm ?_)
    refine b_X6_shut_7 (fun h2 => ?_) (fun h2 => ?_)
    · have hk : wiB k 0 8 = true := by unfold wiB; rw [decide_eq_false h, decide_eq_false (Int32.not_lt.mpr h2)]; rfl
      have hk2 := hk
      rw [wi_8] at hk2
      obtain ⟨q, hq, rfl⟩ := lt_ex (N := 9) (by decide) hk2
      have e : shV T A B (nI q) = b2i (!(fcO T (fun s => A s && !B s) (fun s => A s && B s) q).isSome) := by unfold shV; rw [hk, cl q]
      rw [e]
      refine blk s_X6_shut_13 (nm ?_)
      refine c_X6_shut_18 (ct_X1_find (show q ≤ 8 by omega) hT hR hA hB hV hV2 hKp) rfl (by decide) rfl (Nat.le_of_ble_eq_true rfl) (by decide) rfl (fun rv I' J' hq' => ?_)
      obtain ⟨q1, q2, q3, q4, -⟩ := hq'
      subst q1 q2
      have fr : ∀ o, ¬ (22 ≤ o ∧ o ≤ 28) → I' o = I o := fun o ho => q3 o (by omega)
      generalize (fcO T (fun s => A s && !B s) (fun s => A s && B s) q).isSome = b
      refine b_X6_shut_21 (fun h3 => ?_) (fun h3 => ?_)
      · refine blk s_X6_shut_28 (nm ?_)
        refine c_X6_shut_29 (ct_X6_bit false) rfl (by decide) rfl (Nat.le_of_ble_eq_true rfl) (rx ?_)
        exact r_X6_shut_32 ⟨by rw [b2t h3]; rfl, rfl, fr, q4⟩
      · refine blk s_X6_shut_24 (nm ?_)
        refine c_X6_shut_29 (ct_X6_bit true) rfl (by decide) rfl (Nat.le_of_ble_eq_true rfl) (rx ?_)
        exact r_X6_shut_32 ⟨by rw [(b2i_0 _).mp h3]; rfl, rfl, fr, q4⟩
    · refine out ?_
      unfold shV wiB; rw [decide_eq_false h, decide_eq_true (Int32.not_le.mp h2)]; rfl
theorem ct_X7_shut (hB : RB I g C nx os oc) (hA : RA I A) (k : Int32) : CN 62 RF mX7_shut 5 [.ref 39, .int k] I J (QM (shV (Tx g nx) A (Bx g oc) k) I J) := by
  unfold shV
  refine cn_of (by decide) rfl (Nat.le_of_ble_eq_true rfl) ?_
  refine blk s_X7_shut_0 (nm ?_)
  refine c_X7_shut_4 (ct_X7_within _ _ _) rfl (by decide) rfl (Nat.le_of_ble_eq_true rfl) (rx ?_)
  cases hk : wiB k 0 8 with
  | false =>
    refine b_X7_shut_7 (fun h => absurd rfl h) (fun h => ?_)
    refine blk s_X7_shut_10 (nm ?_)
    exact r_X7_shut_12 ⟨rfl, rfl, FM_r I⟩
  | true =>
    rw [wi_8] at hk
    obtain ⟨q, hq, rfl⟩ := lt_ex (N := 9) (by decide) hk
    refine b_X7_shut_7 (fun h => ?_) (fun h => absurd h (by decide))
    refine blk s_X7_shut_13 (nm ?_)
    refine c_X7_shut_15 (ct_X7_findChain hB hA (show q ≤ 8 by omega)) rfl (by decide) rfl (Nat.le_of_ble_eq_true rfl) (by decide) rfl (fun rv I' J' hq' => ?_)
    obtain ⟨q1, q2, q3, q4, -⟩ := hq'
    subst q1 q2
    have fr : FM I I' := ⟨fun o h39 _ _ _ h53 h54 h55 _ _ => q3 o h39 h53 h54 h55, fun m _ h22 h23 => q4 m h22 h23⟩
    rw [cl q]
    generalize (fcO (Tx g nx) (fun s => A s && !Bx g oc s) (fun s => A s && Bx g oc s) q).isSome = b
    refine b_X7_shut_18 (fun h3 => ?_) (fun h3 => ?_)
    · refine blk s_X7_shut_25 (nm ?_)
      exact r_X7_shut_26 ⟨by rw [(b2i_0 _).mp h3]; rfl, rfl, fr⟩
    · refine blk s_X7_shut_21 (nm ?_)
      exact r_X7_shut_26 ⟨by rw [b2t h3]; rfl, rfl, fr⟩
end PUB6
