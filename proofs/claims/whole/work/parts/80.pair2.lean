/-! PAIRS: the questions of parts 67 to 76 -/
section PAIR2
variable {sc : Nat → Nat → Int32} {V : Nat}
theorem p_holds (t r : Int32) : PR sc V mX6_holds mX7_holds 1 2 [.int t, .int r] := pr_q fun I J C nx os oc K V' bx fa hV hb hC hR =>
  ⟨_, qx_id (cKp hC) (ct_X6_holds (cC hC) (c40 hC) t r), fun I1 h1 => qm_id (ct_X7_holds h1.1 t r)⟩
theorem p_leaves (t : Int32) : PRL sc V mX6_leaves mX7_leaves 1 2 [.int t] := pr_ql fun I J C nx os oc K V' bx fa hV hb hC hR =>
  ⟨_, qx_id (cKp hC) (ct_X6_leaves (cC hC) (c40 hC) t), fun I1 h1 => qm_id (ct_X7_leaves h1.1.1.1 (c40 hC) h1.2.1 t)⟩
theorem p_step (s r : Int32) : PR sc V mX6_step mX7_step 1 2 [.int s, .int r] := pr_q fun I J C nx os oc K V' bx fa hV hb hC hR =>
  ⟨_, qx_id (cKp hC) (ct_X6_step (cT hC) s r), fun I1 h1 => qm_id (ct_X7_step h1.1 s r)⟩
theorem p_value (t s r : Int32) : PR sc V mX6_value mX7_value 1 2 [.int t, .int s, .int r] := pr_q fun I J C nx os oc K V' bx fa hV hb hC hR =>
  ⟨_, qx_id (cKp hC) (ct_X6_value (cC hC) (c40 hC) t s r), fun I1 h1 => qm_id (ct_X7_value h1.1 t s r)⟩
theorem p_before (s : Int32) : PR sc V mX6_before mX7_before 1 3 [.int s] := pr_q fun I J C nx os oc K V' bx fa hV hb hC hR =>
  ⟨_, qx_id (cKp hC) (ct_X6_before (c14 hC) s), fun I1 h1 => qm_id (ct_X7_before h1.1 s)⟩
theorem p_distance (s : Int32) : PR sc V mX6_distance mX7_distance 1 4 [.int s] := pr_q fun I J C nx os oc K V' bx fa hV hb hC hR =>
  ⟨_, qx_id (cKp hC) (ct_X6_distance (c15 hC) s), fun I1 h1 => ct_X7_distance h1.1 s⟩
theorem p_fault : PR sc V mX6_fault mX7_fault 0 0 [] := pr_q fun I J C nx os oc K V' bx fa hV hb hC hR =>
  ⟨fa, qx_id (cKp hC) (by have h := ct_X6_fault (I := I) (J := J); rw [hC.2.2.2.2] at h; exact h), fun I1 h1 => qm_id (by have h := ct_X7_fault (I := I1) (J := J); rw [h1.2.2.2.2] at h; exact h)⟩
theorem p_weak (w : Int32) : PR sc V mX6_weak mX7_weak 2 5 [.int w] := pr_q fun I J C nx os oc K V' bx fa hV hb hC hR =>
  ⟨_, qx_id (cKp hC) (ct_X6_weak (cA hC) (cB hC) (c14 hC) w), fun I1 h1 => qm_id (ct_X7_weak h1.1 (rA h1) w)⟩
theorem p_closed : PR sc V mX6_closed mX7_closed 2 5 [] := pr_q fun I J C nx os oc K V' bx fa hV hb hC hR =>
  ⟨_, qx_id (cKp hC) (ct_X6_closed (cS hC) (cA hC) (cB hC) (c14 hC)), fun I1 h1 => qm_id (ct_X7_closed h1.1 (rA h1))⟩
theorem p_clear (k : Int32) : PR sc V mX6_clear mX7_clear 3 5 [.int k] := pr_q fun I J C nx os oc K V' bx fa hV hb hC hR =>
  ⟨_, qx_id (cKp hC) (ct_X6_clear (clb hC) k), fun I1 h1 => ct_X7_clear h1.1 k⟩
theorem p_way (k w : Int32) : PR sc V mX6_way mX7_way 0 5 [.int k, .int w] := pr_q fun I J C nx os oc K V' bx fa hV hb hC hR =>
  ⟨_, qx_id (cKp hC) (ct_X6_way (fun n hn => lwX_lt hn) (cW hC).1 (cW hC).2 k w), fun I1 h1 => ct_X7_way h1.1 k w⟩
theorem p_shut (hV0 : V < 1000) (k : Int32) : PR sc V mX6_shut mX7_shut 12 5 [.int k] := pr_q fun I J C nx os oc K V' bx fa hV hb hC hR =>
  ⟨_, ct_X6_shut (cT hC) (c14 hC) (cA hC) (cB hC) (cV hC) (by omega) (cKp hC) k, fun I1 h1 => ct_X7_shut h1.1 (rA h1) k⟩
theorem p_mean : PRL sc V mX6_mean mX7_mean 2 4 [] := pr_ql fun I J C nx os oc K V' bx fa hV hb hC hR =>
  ⟨_, qx_id (cKp hC) (ct_X6_mean (c15 hC) ((cm hC).trans (bsN_cg fun s _ => met_iff 16 s)) (fun s d h => dsO_lt h)), fun I1 h1 => qm_fa (ct_X7_mean h1.1 rfl)⟩
theorem p_ofTerm (t w : Int32) : PR sc V mX6_ofTerm mX7_ofTerm 1 2 [.int t, .int w] := pr_q fun I J C nx os oc K V' bx fa hV hb hC hR =>
  ⟨_, qx_id (cKp hC) (ct_X6_ofTerm (cC hC) (c40 hC) t w), fun I1 h1 => qm_id (ct_X7_ofTerm h1.1.1.1 (c40 hC) h1.2.1 t w)⟩
theorem wi_8f {k : Int32} (h : wiB k 0 8 = false) : k < 0 ∨ ¬ k ≤ 8 := by
  unfold wiB at h
  by_cases h1 : k < 0
  · exact Or.inl h1
  · rw [decide_eq_false h1] at h
    by_cases h2 : (8 : Int32) < k
    · exact Or.inr fun h3 => Int32.lt_irrefl (Int32.lt_of_lt_of_le h2 h3)
    · rw [decide_eq_false h2] at h; cases h
theorem ct_X6_chance_out {I : IT} {J : JT} {k : Int32} (h : wiB k 0 8 = false) : CN 62 RF mX6_chance 3 [.ref 0, .int k] I J (RX (some (.int (-2))) I J) := by
  refine cn_of (by decide) rfl (Nat.le_of_ble_eq_true rfl) ?_
  refine blk s_X6_chance_0 (nm ?_)
  refine b_X6_chance_1 (fun h1 => ?_) (fun h1 => ?_)
  · refine blk s_X6_chance_10 (nm ?_)
    exact r_X6_chance_12 rxq
  · refine blk s_X6_chance_4 (nm ?_)
    refine b_X6_chance_7 (fun h2 => ?_) (fun h2 => ?_)
    · rcases wi_8f h with h3 | h3
      · exact absurd h3 h1
      · exact absurd h2 h3
    · refine blk s_X6_chance_10 (nm ?_)
      exact r_X6_chance_12 rxq
theorem ct_X7_chance_out {I : IT} {J : JT} {k : Int32} (h : wiB k 0 8 = false) : CN 62 RF mX7_chance 3 [.ref 39, .int k] I J (RX (some (.int (-2))) I J) := by
  refine cn_of (by decide) rfl (Nat.le_of_ble_eq_true rfl) ?_
  refine blk s_X7_chance_0 (nm ?_)
  refine c_X7_chance_4 (ct_X7_within _ _ _) rfl (by decide) rfl (Nat.le_of_ble_eq_true rfl) (rx ?_)
  rw [h]
  refine b_X7_chance_7 (fun h => absurd rfl h) (fun h => ?_)
  refine blk s_X7_chance_10 (nm ?_)
  exact r_X7_chance_12 rxq
theorem p_chance (k : Int32) : PR sc V mX6_chance mX7_chance 3 3 [.int k] := pr_q fun I J C nx os oc K V' bx fa hV hb hC hR => by
  cases hk : wiB k 0 8 with
  | false => exact ⟨_, qx_id (cKp hC) (ct_X6_chance_out hk), fun I1 h1 => qm_id (ct_X7_chance_out hk)⟩
  | true =>
    rw [wi_8] at hk
    obtain ⟨q, hq, rfl⟩ := lt_ex (N := 9) (by decide) hk
    refine ⟨chV (Tx J nx) (Sx J os) (Bx J oc) q, cn_mono (ct_X6_chance_in (cT hC) (cS hC) (cB hC) (show q ≤ 8 by omega)) ?_, fun I1 h1 => cn_mono (ct_X7_chance_in h1.1 (show q ≤ 8 by omega)) ?_⟩
    · rintro r I' J' ⟨e1, e2, e3⟩
      exact ⟨e1, e2, fun o ho => e3 o (by omega) (by omega), KpOk_cg (cKp hC) (e3 22 (by decide) (by decide)) (e3 23 (by decide) (by decide)) (e3 24 (by decide) (by decide))⟩
    · rintro r I' J' ⟨e1, e2, e3⟩
      exact ⟨e1, e2, fun o _ _ _ _ _ _ _ h56 h57 => e3 o h56 h57, fun m _ _ _ => by rw [e3 39 (by decide) (by decide)]⟩
theorem ct_X7_cone_out {I : IT} {J : JT} {k : Int32} (h : wiB k 0 1 = false) : CN 62 RF mX7_cone 1 [.ref 39, .int k] I J (RX (some (.int (-2))) I J) := by
  refine cn_of (by decide) rfl (Nat.le_of_ble_eq_true rfl) ?_
  refine blk s_X7_cone_0 (nm ?_)
  refine c_X7_cone_3 (ct_X7_within _ _ _) rfl (by decide) rfl (Nat.le_of_ble_eq_true rfl) (rx ?_)
  rw [h]
  refine b_X7_cone_6 (fun h => absurd rfl h) (fun h => ?_)
  refine blk s_X7_cone_9 (nm ?_)
  exact r_X7_cone_11 rxq
theorem p_cone (w : Int32) : PR sc V mX6_cone mX7_cone 2 1 [.int w] := pr_q fun I J C nx os oc K V' bx fa hV hb hC hR => by
  have hN : NXok I C (fun v => if v < 4 then nx v else none) := by
    obtain ⟨n1, n2, n3, n4⟩ := hC.1.1.1
    refine ⟨n1, n2, fun v hv => ?_, fun v t hv h => ?_⟩
    · show _ = o2i (if v < 4 then nx v else none)
      rw [if_pos hv]; exact n3 v hv
    · change (if v < 4 then nx v else none) = some t at h
      rw [if_pos hv] at h; exact n4 v t hv h
  have hnC : ∀ v t, (if v < 4 then nx v else none) = some t → t < C := by
    intro v t h
    by_cases hv : v < 4
    · rw [if_pos hv] at h; exact hC.1.1.1.2.2.2 v t hv h
    · rw [if_neg hv] at h; cases h
  have hoc := hC.1.1.2.2.2.2.1
  have hx := ct_X6_cone (J := J) hN hC.1.1.2.2.2.1 hoc w
  refine ⟨_, qx_id (cKp hC) hx, fun I1 h1 => qm_id ?_⟩
  cases hw : wiB w 0 1 with
  | false =>
    unfold cvV; rw [hw]
    exact ct_X7_cone_out hw
  | true =>
    have hw2 := hw
    rw [wi_1] at hw2
    obtain ⟨q, hq, rfl⟩ := lt_ex (N := 2) (by decide) hw2
    have hB1 : RB I1 J C (fun v => if v < 4 then nx v else none) os oc := by
      obtain ⟨b1, b2, b3, b4, b5⟩ := h1.1
      refine ⟨b1, b2, b3, fun v hv => ?_, fun v t hv h => hnC v t h⟩
      show _ = o2i (if v < 4 then nx v else none)
      rw [if_pos hv]; exact b4 v hv
    have hmap : ∀ (o : Option Nat), (∀ t, o = some t → t < C) → o.map (I 6) = o.map (I1 42) ∧ o.map (I 7) = o.map (I1 43) := by
      intro o ho
      cases o with
      | none => exact ⟨rfl, rfl⟩
      | some t =>
        have h2 := h1.2.1 t (ho t rfl)
        refine ⟨?_, ?_⟩
        · show some (I 6 t) = some (I1 42 t)
          rw [h2.2.2.2.2.1]
        · show some (I 7 t) = some (I1 43 t)
          rw [h2.2.2.2.2.2.1]
    have hm := ct_X7_cone (J := J) hB1 hq (f := fun v => (if v < 4 then nx v else none).map (I 6)) (gi := fun v => (if v < 4 then nx v else none).map (I 7)) (fun v => (hmap _ (hnC v)).1) (fun v => (hmap _ (hnC v)).2) (c0 := (oc.map (I 6)).getD 0) (by rw [(hmap oc hoc).1])
    unfold cvV
    rw [hw]
    have h2 : q = 0 ∨ q = 1 := by omega
    rcases h2 with rfl | rfl
    · exact hm
    · exact hm
end PAIR2
