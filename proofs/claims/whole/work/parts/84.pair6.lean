/-! PAIRS: leaf, gate, choice -/
def PRs (sc : Nat → Nat → Int32) (V : Nat) (mX mM : MI) (dX dM : Nat) (ax : List Value) (I : IT) (J : JT) : Prop := ∃ v : Int32,
  CN 62 RF mX dX (.ref 0 :: ax) I J (fun r I1 J1 => r = some (.int v) ∧ (∀ o, 62 ≤ o → I1 o = sc o) ∧ CN 62 RF mM dM (.ref 39 :: ax) I1 J1 (fun r2 I2 J2 => r2 = some (.int v) ∧ INV sc (V + 1) I2 J2))
theorem pr_s {sc : Nat → Nat → Int32} {V dX dM : Nat} {mX mM : MI} {ax : List Value} (h : ∀ (I : IT) (J : JT) (C : Nat) (nx : Nat → Option Nat) (os oc : Option Nat) (K V' : Nat) (bx : BXT) (fa : Int32), V' ≤ V → BOK C bx → CL C nx os oc K V' bx fa I J → RE I J C nx os oc K bx fa I J → (∀ o, 62 ≤ o → I o = sc o) → PRs sc V mX mM dX dM ax I J) : PR sc V mX mM dX dM ax := by
  rintro I J ⟨C, nx, os, oc, K, V', bx, fa, hV, hb, hC, hR, hs⟩
  exact h I J C nx os oc K V' bx fa hV hb hC hR hs
/-- where nothing changes -/
theorem st_id {sc : Nat → Nat → Int32} {V dX dM : Nat} {mX mM : MI} {ax : List Value} {I : IT} {J : JT} {C : Nat} {nx : Nat → Option Nat} {os oc : Option Nat} {K V' : Nat} {bx : BXT} {fa : Int32} {v : Int32} (hV : V' ≤ V) (hb : BOK C bx) (hC : CL C nx os oc K V' bx fa I J) (hR : RE I J C nx os oc K bx fa I J) (hs : ∀ o, 62 ≤ o → I o = sc o) (h1 : CN 62 RF mX dX (.ref 0 :: ax) I J (RX (some (.int v)) I J)) (h2 : CN 62 RF mM dM (.ref 39 :: ax) I J (RX (some (.int v)) I J)) : PRs sc V mX mM dX dM ax I J := by
  refine ⟨v, cn_mono h1 ?_⟩
  rintro r I1 J1 ⟨rfl, rfl, rfl⟩
  refine ⟨rfl, hs, cn_mono h2 ?_⟩
  rintro r I1 J1 ⟨rfl, rfl, rfl⟩
  exact ⟨rfl, C, nx, os, oc, K, V', bx, fa, Nat.le_succ_of_le hV, hb, hC, hR, hs⟩
theorem st_term {sc : Nat → Nat → Int32} {V dX dM : Nat} {mX mM : MI} {ax : List Value} {I : IT} {J : JT} {C : Nat} {nx : Nat → Option Nat} {os oc : Option Nat} {K V' : Nat} {bx : BXT} {fa kk a b c : Int32} (hV : V' ≤ V) (hb : BOK C bx) (hC : CL C nx os oc K V' bx fa I J) (hR : RE I J C nx os oc K bx fa I J) (hs : ∀ o, 62 ≤ o → I o = sc o) (hT : TP I J C kk a b c)
    (hX : ∀ v f' g', CN 62 RF mX4_elderOrNew 3 [.ref 1, .int kk, .int a, .int b, .int c] I J (RX (some (.int v)) f' g') → CN 62 RF mX dX (.ref 0 :: ax) I J (RX (some (.int v)) f' g'))
    (hM : ∀ I1 J1 v I' J', RE I J C nx os oc K bx fa I1 J1 → CN 62 RF mX7_comes 2 [.ref 39, .int kk, .int a, .int b, .int c] I1 J1 (RX (some (.int v)) I' J') → CN 62 RF mM dM (.ref 39 :: ax) I1 J1 (RX (some (.int v)) I' J')) : PRs sc V mX mM dX dM ax I J := by
  obtain ⟨v, f', g', C', t1, ⟨t2, t3, t4⟩, t5, t6, t7, t8⟩ := hT
  refine ⟨v, cn_mono (hX v f' g' t1) ?_⟩
  rintro r I1 J1 ⟨rfl, rfl, rfl⟩
  have R1 : RE I J C nx os oc K bx fa I1 J1 := RE_fr hR (fun o a _ => t5 o (by omega)) (t6 45 (by decide) (by decide))
  obtain ⟨I2, J2, u1, u2, u3, u4, u5, u6⟩ := t8 I1 J1 nx os oc R1.1 R1.2.1
  refine ⟨rfl, fun o ho => (t5 o (by omega)).trans (hs o ho), cn_mono (hM I1 J1 v I2 J2 R1 u1) ?_⟩
  rintro r I' J' ⟨rfl, rfl, rfl⟩
  have lo : ∀ o, o = 0 ∨ (9 ≤ o ∧ o < 39) → I' o = I o := fun o ho => (u4 o (by omega)).trans (t5 o (by omega))
  have hi : ∀ o, 46 < o → I' o = I o := fun o ho => (u4 o (by omega)).trans (t5 o (by omega))
  have g10 : J' 10 = J1 10 := u6 10 (by decide)
  have hv : ∀ t s r, t < C → vl J' t s r = vl J t s r := fun t s r ht => (vl_J g10 t s r).trans (t7 t s r ht)
  have h39 : ∀ m, m ≠ 1 → I' 39 m = I 39 m := fun m hm => (u5 m hm).trans (by rw [t5 39 (by decide)])
  obtain ⟨c1, c2, c3, c4, c5⟩ := hC
  obtain ⟨r1, r2, r3, r4, r5⟩ := hR
  refine ⟨rfl, C', nx, os, oc, K, V', bx, fa, Nat.le_succ_of_le hV, fun q so l p h4 hq => ?_, ⟨?_, ?_, ⟨?_, ?_⟩, ?_, ?_⟩, ⟨?_, ?_, ?_, ?_, ?_⟩, fun o ho => (hi o (by omega)).trans (hs o ho)⟩
  · obtain ⟨e1, e2, e3⟩ := hb q so l p h4 hq
    exact ⟨e1, e2, fun i t hi ht => Nat.lt_of_lt_of_le (e3 i t hi ht) t3⟩
  · refine MX_C (MX_J c1 hv) ?_ t3 t4 (fun o ho => lo o (by omega))
    rw [u4 1 (by decide)]; exact t2
  · exact LM_cg c2 (lo 19 (by decide)) (lo 20 (by decide))
  · rw [lo 11 (by decide)]; exact c3.1
  · rw [Tx_J hv c1.1.1.2.2.2]
    exact KpOk_cg c3.2 (lo 22 (by decide)) (lo 23 (by decide)) (lo 24 (by decide))
  · exact CBX_cg c4 fun o a b => lo o (by omega)
  · rw [lo 0 (by decide)]; exact c5
  · exact RB_gh u2 fun t s r _ => vl_J g10 t s r
  · exact RTm_gh u3 (fun o a b => u4 o (by omega)) (u6 9 (by decide))
  · rw [h39 16 (by decide), hi 51 (by decide), hi 52 (by decide), lo 20 (by decide), lo 21 (by decide)]; exact r3
  · exact RBX_cg r4 (hi 58 (by decide)) (hi 59 (by decide)) (hi 60 (by decide))
  · rw [h39 0 (by decide)]; exact r5
section PAIR6
variable {sc : Nat → Nat → Int32} {V : Nat} {I : IT} {J : JT} {g : JT} {C : Nat} {nx : Nat → Option Nat} {os oc : Option Nat}
def lfB (k n : Int32) : Bool := wiB k 0 2 && wiB n 0 (if k = 1 then 3 else 1)
theorem ct_X7_leaf_no {k n : Int32} (h : lfB k n = false) : CN 62 RF mX7_leaf 3 [.ref 39, .int k, .int n] I J (RX (some (.int (-2))) I J) := by
  have out : EN 62 RF mX7_leaf 3 27 [(0, .ref 39), (1, .int k), (2, .int n)] [] I J (RX (some (.int (-2))) I J) := by
    refine blk s_X7_leaf_27 (nm ?_)
    exact r_X7_leaf_29 rxq
  unfold lfB at h
  refine cn_of (by decide) rfl (Nat.le_of_ble_eq_true rfl) ?_
  refine blk s_X7_leaf_0 (nm ?_)
  refine c_X7_leaf_3 (ct_X7_within _ _ _) rfl (by decide) rfl (Nat.le_of_ble_eq_true rfl) (rx ?_)
  cases hk : wiB k 0 2 with
  | false => exact b_X7_leaf_6 (fun _ => out) (fun h => absurd rfl h)
  | true =>
    rw [hk] at h
    refine b_X7_leaf_6 (fun h => absurd h (by decide)) (fun _ => ?_)
    refine blk s_X7_leaf_9 (nm ?_)
    refine b_X7_leaf_13 (fun h1 => ?_) (fun h1 => ?_)
    · rw [if_neg h1] at h
      have h' : wiB n 0 1 = false := h
      refine blk s_X7_leaf_20 (nm ?_)
      refine c_X7_leaf_21 (ct_X7_within _ _ _) rfl (by decide) rfl (Nat.le_of_ble_eq_true rfl) (rx ?_)
      rw [h']
      exact b_X7_leaf_24 (fun h => absurd rfl h) (fun _ => out)
    · rw [if_pos h1] at h
      have h' : wiB n 0 3 = false := h
      refine blk s_X7_leaf_16 (nm ?_)
      refine c_X7_leaf_21 (ct_X7_within _ _ _) rfl (by decide) rfl (Nat.le_of_ble_eq_true rfl) (rx ?_)
      rw [h']
      exact b_X7_leaf_24 (fun h => absurd rfl h) (fun _ => out)
theorem ct_X7_leaf_yes {k n : Int32} (h : lfB k n = true) {v : Int32} {I' : IT} {J' : JT} (hc : CN 62 RF mX7_comes 2 [.ref 39, .int k, .int n, .int (-9), .int (-9)] I J (RX (some (.int v)) I' J')) : CN 62 RF mX7_leaf 3 [.ref 39, .int k, .int n] I J (RX (some (.int v)) I' J') := by
  have go : EN 62 RF mX7_leaf 3 30 [(0, .ref 39), (1, .int k), (2, .int n)] [] I J (RX (some (.int v)) I' J') := by
    refine blk s_X7_leaf_30 (nm ?_)
    refine c_X7_leaf_37 hc rfl (by decide) rfl (Nat.le_of_ble_eq_true rfl) (by decide) rfl (rx ?_)
    exact r_X7_leaf_40 rxq
  unfold lfB at h
  obtain ⟨hk, hn⟩ := Bool.and_eq_true_iff.mp h
  refine cn_of (by decide) rfl (Nat.le_of_ble_eq_true rfl) ?_
  refine blk s_X7_leaf_0 (nm ?_)
  refine c_X7_leaf_3 (ct_X7_within _ _ _) rfl (by decide) rfl (Nat.le_of_ble_eq_true rfl) (rx ?_)
  rw [hk]
  refine b_X7_leaf_6 (fun h => absurd h (by decide)) (fun _ => ?_)
  refine blk s_X7_leaf_9 (nm ?_)
  refine b_X7_leaf_13 (fun h1 => ?_) (fun h1 => ?_)
  · rw [if_neg h1] at hn
    refine blk s_X7_leaf_20 (nm ?_)
    refine c_X7_leaf_21 (ct_X7_within _ _ _) rfl (by decide) rfl (Nat.le_of_ble_eq_true rfl) (rx ?_)
    rw [hn]
    exact b_X7_leaf_24 (fun _ => go) (fun h => absurd h (by decide))
  · rw [if_pos h1] at hn
    refine blk s_X7_leaf_16 (nm ?_)
    refine c_X7_leaf_21 (ct_X7_within _ _ _) rfl (by decide) rfl (Nat.le_of_ble_eq_true rfl) (rx ?_)
    rw [hn]
    exact b_X7_leaf_24 (fun _ => go) (fun h => absurd h (by decide))
theorem wi_2 (t : Int32) : wiB t 0 2 = ltB t 3 := wi_lt (N := 3) (by decide) (by decide) t
theorem lf_num {k n : Int32} (h : lfB k n = true) : ∃ q m, q < 3 ∧ m < stLen (q + 1) ∧ k = nI q ∧ n = nI m := by
  unfold lfB at h
  obtain ⟨hk, hn⟩ := Bool.and_eq_true_iff.mp h
  rw [wi_2] at hk
  obtain ⟨q, hq, rfl⟩ := lt_ex (N := 3) (by decide) hk
  have h3 : q = 0 ∨ q = 1 ∨ q = 2 := by omega
  rcases h3 with rfl | rfl | rfl
  · have hn2 : wiB n 0 1 = true := hn
    rw [wi_1] at hn2
    obtain ⟨m, hm, rfl⟩ := lt_ex (N := 2) (by decide) hn2
    exact ⟨0, m, by decide, hm, rfl, rfl⟩
  · have hn2 : wiB n 0 3 = true := hn
    rw [wi_3] at hn2
    obtain ⟨m, hm, rfl⟩ := lt_ex (N := 4) (by decide) hn2
    exact ⟨1, m, by decide, hm, rfl, rfl⟩
  · have hn2 : wiB n 0 1 = true := hn
    rw [wi_1] at hn2
    obtain ⟨m, hm, rfl⟩ := lt_ex (N := 2) (by decide) hn2
    exact ⟨2, m, by decide, hm, rfl, rfl⟩
theorem ct_X6_leaf_no {k n : Int32} (h : lfB k n = false) : CN 62 RF mX6_leaf 4 [.ref 0, .int k, .int n] I J (RX (some (.int (-2))) I J) := by
  refine cn_of (by decide) rfl (Nat.le_of_ble_eq_true rfl) ?_
  refine blk s_X6_leaf_0 (nm ?_)
  refine b_X6_leaf_1 (fun h1 => ?_) (fun h1 => ?_)
  · refine blk s_X6_leaf_9 (nm ?_)
    exact r_X6_leaf_11 rxq
  · refine blk s_X6_leaf_4 (nm ?_)
    refine b_X6_leaf_6 (fun h2 => ?_) (fun h2 => ?_)
    · have hk : wiB k 0 2 = true := by unfold wiB; rw [decide_eq_false h1, decide_eq_false (Int32.not_lt.mpr h2)]; rfl
      have hk2 := hk
      rw [wi_2] at hk2
      obtain ⟨q, hq, rfl⟩ := lt_ex (N := 3) (by decide) hk2
      refine blk s_X6_leaf_12 (nm ?_)
      refine b_X6_leaf_13 (fun h3 => ?_) (fun h3 => ?_)
      · refine blk s_X6_leaf_25 (nm ?_)
        exact r_X6_leaf_27 rxq
      · unfold lfB at h
        rw [hk] at h
        have hq3 : q = 0 ∨ q = 1 ∨ q = 2 := by omega
        rcases hq3 with rfl | rfl | rfl
        · have h' : wiB n 0 1 = false := h
          refine blk s_X6_leaf_16 (And.intro (ib (show 0 < 3 by decide)) (nm ?_))
          refine b_X6_leaf_22 (fun h4 => ?_) (fun h4 => ?_)
          · have h5 : n < 2 := h4
            rw [wi_1] at h'; unfold ltB at h'
            rw [decide_eq_false h3, decide_eq_false (Int32.not_le.mpr h5)] at h'; cases h'
          · refine blk s_X6_leaf_25 (nm ?_)
            exact r_X6_leaf_27 rxq
        · have h' : wiB n 0 3 = false := h
          refine blk s_X6_leaf_16 (And.intro (ib (show 1 < 3 by decide)) (nm ?_))
          refine b_X6_leaf_22 (fun h4 => ?_) (fun h4 => ?_)
          · have h5 : n < 4 := h4
            rw [wi_3] at h'; unfold ltB at h'
            rw [decide_eq_false h3, decide_eq_false (Int32.not_le.mpr h5)] at h'; cases h'
          · refine blk s_X6_leaf_25 (nm ?_)
            exact r_X6_leaf_27 rxq
        · have h' : wiB n 0 1 = false := h
          refine blk s_X6_leaf_16 (And.intro (ib (show 2 < 3 by decide)) (nm ?_))
          refine b_X6_leaf_22 (fun h4 => ?_) (fun h4 => ?_)
          · have h5 : n < 2 := h4
            rw [wi_1] at h'; unfold ltB at h'
            rw [decide_eq_false h3, decide_eq_false (Int32.not_le.mpr h5)] at h'; cases h'
          · refine blk s_X6_leaf_25 (nm ?_)
            exact r_X6_leaf_27 rxq
    · refine blk s_X6_leaf_9 (nm ?_)
      exact r_X6_leaf_11 rxq
theorem ct_X6_leaf_yes {q m : Nat} (hq : q < 3) (hm : m < stLen (q + 1)) {v : Int32} {I' : IT} {J' : JT} (hc : CN 62 RF mX4_elderOrNew 3 [.ref 1, .int (nI q), .int (nI m), .int (-9), .int (-9)] I J (RX (some (.int v)) I' J')) : CN 62 RF mX6_leaf 4 [.ref 0, .int (nI q), .int (nI m)] I J (RX (some (.int v)) I' J') := by
  have go : EN 62 RF mX6_leaf 4 28 [(0, .ref 0), (1, .int (nI q)), (2, .int (nI m))] [] I J (RX (some (.int v)) I' J') := by
    refine blk s_X6_leaf_28 (nm ?_)
    refine c_X6_leaf_38 hc rfl (by decide) rfl (Nat.le_of_ble_eq_true rfl) (by decide) rfl (rx ?_)
    exact r_X6_leaf_41 rxq
  have hq3 : q = 0 ∨ q = 1 ∨ q = 2 := by omega
  have hm4 : m < 4 := by
    rcases hq3 with rfl | rfl | rfl
    · have : m < 2 := hm
      omega
    · exact hm
    · have : m < 2 := hm
      omega
  refine cn_of (by decide) rfl (Nat.le_of_ble_eq_true rfl) ?_
  refine blk s_X6_leaf_0 (nm ?_)
  refine b_X6_leaf_1 (fun h1 => absurd h1 (nI_pos (by omega))) (fun h1 => ?_)
  refine blk s_X6_leaf_4 (nm ?_)
  refine b_X6_leaf_6 (fun h2 => ?_) (fun h2 => absurd ((nI_leI (a := q) (b := 2) (by omega) (by decide)).mpr (by omega)) h2)
  refine blk s_X6_leaf_12 (nm ?_)
  refine b_X6_leaf_13 (fun h1 => absurd h1 (nI_pos (by omega))) (fun h1 => ?_)
  rcases hq3 with rfl | rfl | rfl
  · refine blk s_X6_leaf_16 (And.intro (ib (show 0 < 3 by decide)) (nm ?_))
    exact b_X6_leaf_22 (fun h4 => go) (fun h4 => absurd ((nI_ltI (a := m) (b := 2) (by omega) (by decide)).mpr hm) h4)
  · refine blk s_X6_leaf_16 (And.intro (ib (show 1 < 3 by decide)) (nm ?_))
    exact b_X6_leaf_22 (fun h4 => go) (fun h4 => absurd ((nI_ltI (a := m) (b := 4) (by omega) (by decide)).mpr hm) h4)
  · refine blk s_X6_leaf_16 (And.intro (ib (show 2 < 3 by decide)) (nm ?_))
    exact b_X6_leaf_22 (fun h4 => go) (fun h4 => absurd ((nI_ltI (a := m) (b := 2) (by omega) (by decide)).mpr hm) h4)
theorem p_leaf (k n : Int32) : PR sc V mX6_leaf mX7_leaf 4 3 [.int k, .int n] := pr_s fun I J C nx os oc K V' bx fa hV hb hC hR hs => by
  cases h : lfB k n with
  | false => exact st_id hV hb hC hR hs (ct_X6_leaf_no h) (ct_X7_leaf_no h)
  | true =>
    obtain ⟨q, m, hq, hm, rfl, rfl⟩ := lf_num h
    exact st_term hV hb hC hR hs (tp_leaf (cC hC) (c40 hC) hq hm) (fun v f' g' hc => ct_X6_leaf_yes hq hm hc) (fun I1 J1 v I' J' _ hc => ct_X7_leaf_yes h hc)
theorem ct_X6_gate (hC : I 1 9 = nI C) {k a b v : Int32} {I' : IT} {J' : JT} (h0 : wiB k 3 6 = false → v = -2 ∧ I' = I ∧ J' = J) (h1 : wiB k 3 6 = true → hsB C a = false → v = -1 ∧ I' = I ∧ J' = J) (h2 : wiB k 3 6 = true → hsB C a = true → k = 3 → CN 62 RF mX4_elderOrNew 3 [.ref 1, .int 3, .int a, .int (-9), .int (-9)] I J (RX (some (.int v)) I' J')) (h3 : wiB k 3 6 = true → hsB C a = true → ¬ k = 3 → hsB C b = false → v = -1 ∧ I' = I ∧ J' = J) (h4 : wiB k 3 6 = true → hsB C a = true → ¬ k = 3 → hsB C b = true → CN 62 RF mX4_elderOrNew 3 [.ref 1, .int k, .int a, .int b, .int (-9)] I J (RX (some (.int v)) I' J')) : CN 62 RF mX6_gate 4 [.ref 0, .int k, .int a, .int b] I J (RX (some (.int v)) I' J') := by
  have out : wiB k 3 6 = false → EN 62 RF mX6_gate 4 11 [(0, .ref 0), (1, .int k), (2, .int a), (3, .int b)] [] I J (RX (some (.int v)) I' J') := by
    intro h
    obtain ⟨e1, e2, e3⟩ := h0 h
    refine blk s_X6_gate_11 (nm ?_)
    exact r_X6_gate_13 (rxe (by rw [e1]) e2.symm e3.symm)
  refine cn_of (by decide) rfl (Nat.le_of_ble_eq_true rfl) ?_
  refine blk s_X6_gate_0 (nm ?_)
  refine b_X6_gate_2 (fun h => out (by unfold wiB; rw [decide_eq_true h]; rfl)) (fun h => ?_)
  refine blk s_X6_gate_5 (nm ?_)
  refine b_X6_gate_8 (fun h' => ?_) (fun h' => out (by unfold wiB; rw [decide_eq_false h, decide_eq_true (Int32.not_le.mp h')]; rfl))
  have hk : wiB k 3 6 = true := by unfold wiB; rw [decide_eq_false h, decide_eq_false (Int32.not_lt.mpr h')]; rfl
  refine blk s_X6_gate_14 (nm ?_)
  refine c_X6_gate_19 (ct_X4_hasC hC a) rfl (by decide) rfl (Nat.le_of_ble_eq_true rfl) (by decide) rfl (rx ?_)
  cases ha : hsB C a with
  | false =>
    obtain ⟨e1, e2, e3⟩ := h1 hk ha
    refine b_X6_gate_22 (fun h => absurd rfl h) (fun h => ?_)
    refine blk s_X6_gate_25 (nm ?_)
    exact r_X6_gate_26 (rxe (by rw [e1]) e2.symm e3.symm)
  | true =>
    refine b_X6_gate_22 (fun h => ?_) (fun h => absurd h (by decide))
    refine blk s_X6_gate_27 (nm ?_)
    refine b_X6_gate_29 (fun h => ?_) (fun h => ?_)
    · refine blk s_X6_gate_46 (nm ?_)
      refine c_X6_gate_51 (ct_X4_hasC hC b) rfl (by decide) rfl (Nat.le_of_ble_eq_true rfl) (by decide) rfl (rx ?_)
      cases hb : hsB C b with
      | false =>
        obtain ⟨e1, e2, e3⟩ := h3 hk ha h hb
        refine b_X6_gate_54 (fun h => absurd rfl h) (fun h => ?_)
        refine blk s_X6_gate_57 (nm ?_)
        exact r_X6_gate_58 (rxe (by rw [e1]) e2.symm e3.symm)
      | true =>
        refine b_X6_gate_54 (fun h => ?_) (fun h => absurd h (by decide))
        refine blk s_X6_gate_59 (nm ?_)
        refine c_X6_gate_68 (h4 hk ha (by assumption) hb) rfl (by decide) rfl (Nat.le_of_ble_eq_true rfl) (by decide) rfl (rx ?_)
        exact r_X6_gate_71 rxq
    · refine blk s_X6_gate_32 (nm ?_)
      refine c_X6_gate_42 (h2 hk ha h) rfl (by decide) rfl (Nat.le_of_ble_eq_true rfl) (by decide) rfl (rx ?_)
      exact r_X6_gate_45 rxq
theorem ct_X7_gate (hC : I 39 1 = nI C) (h40 : C ≤ 40) {k a b v : Int32} {I' : IT} {J' : JT} (h0 : wiB k 3 6 = false → v = -2 ∧ I' = I ∧ J' = J) (h1 : wiB k 3 6 = true → hsB C a = false → v = -1 ∧ I' = I ∧ J' = J) (h2 : wiB k 3 6 = true → hsB C a = true → k = 3 → CN 62 RF mX7_comes 2 [.ref 39, .int 3, .int a, .int (-9), .int (-9)] I J (RX (some (.int v)) I' J')) (h3 : wiB k 3 6 = true → hsB C a = true → ¬ k = 3 → hsB C b = false → v = -1 ∧ I' = I ∧ J' = J) (h4 : wiB k 3 6 = true → hsB C a = true → ¬ k = 3 → hsB C b = true → CN 62 RF mX7_comes 2 [.ref 39, .int k, .int a, .int b, .int (-9)] I J (RX (some (.int v)) I' J')) : CN 62 RF mX7_gate 3 [.ref 39, .int k, .int a, .int b] I J (RX (some (.int v)) I' J') := by
  have out : (v = -1 ∧ I' = I ∧ J' = J) → EN 62 RF mX7_gate 3 34 [(0, .ref 39), (1, .int k), (2, .int a), (3, .int b)] [] I J (RX (some (.int v)) I' J') := by
    rintro ⟨e1, e2, e3⟩
    refine blk s_X7_gate_34 (nm ?_)
    exact r_X7_gate_35 (rxe (by rw [e1]) e2.symm e3.symm)
  refine cn_of (by decide) rfl (Nat.le_of_ble_eq_true rfl) ?_
  refine blk s_X7_gate_0 (nm ?_)
  refine c_X7_gate_4 (ct_X7_within _ _ _) rfl (by decide) rfl (Nat.le_of_ble_eq_true rfl) (rx ?_)
  cases hk : wiB k 3 6 with
  | false =>
    obtain ⟨e1, e2, e3⟩ := h0 hk
    refine b_X7_gate_7 (fun h => absurd rfl h) (fun h => ?_)
    refine blk s_X7_gate_10 (nm ?_)
    exact r_X7_gate_12 (rxe (by rw [e1]) e2.symm e3.symm)
  | true =>
    refine b_X7_gate_7 (fun h => ?_) (fun h => absurd h (by decide))
    refine blk s_X7_gate_13 (nm ?_)
    refine c_X7_gate_15 (ct_X7_isTermC hC h40 a) rfl (by decide) rfl (Nat.le_of_ble_eq_true rfl) (by decide) rfl (rx ?_)
    cases ha : hsB C a with
    | false => exact b_X7_gate_18 (fun h => out (h1 hk ha)) (fun h => absurd rfl h)
    | true =>
      refine b_X7_gate_18 (fun h => absurd h (by decide)) (fun h => ?_)
      refine blk s_X7_gate_21 (nm ?_)
      refine b_X7_gate_23 (fun h => ?_) (fun h => ?_)
      · subst h
        refine blk s_X7_gate_36 (nm ?_)
        refine b_X7_gate_41 (fun h => absurd rfl h) (fun h => ?_)
        refine blk s_X7_gate_44 (nm ?_)
        refine blk s_X7_gate_50 (nm ?_)
        refine c_X7_gate_52 (h2 hk ha rfl) rfl (by decide) rfl (Nat.le_of_ble_eq_true rfl) (by decide) rfl (rx ?_)
        exact r_X7_gate_55 rxq
      · refine blk s_X7_gate_26 (nm ?_)
        refine c_X7_gate_28 (ct_X7_isTermC hC h40 b) rfl (by decide) rfl (Nat.le_of_ble_eq_true rfl) (by decide) rfl (rx ?_)
        cases hb : hsB C b with
        | false => exact b_X7_gate_31 (fun h => absurd rfl h) (fun _ => out (h3 hk ha h hb))
        | true =>
          refine b_X7_gate_31 (fun _ => ?_) (fun h => absurd h (by decide))
          refine blk s_X7_gate_36 (nm ?_)
          refine b_X7_gate_41 (fun _ => ?_) (fun h' => absurd h' h)
          refine blk s_X7_gate_49 (nm ?_)
          refine blk s_X7_gate_50 (nm ?_)
          refine c_X7_gate_52 (h4 hk ha h hb) rfl (by decide) rfl (Nat.le_of_ble_eq_true rfl) (by decide) rfl (rx ?_)
          exact r_X7_gate_55 rxq
theorem wi_36 {k : Int32} (h : wiB k 3 6 = true) : ∃ q, 3 ≤ q ∧ q ≤ 6 ∧ k = nI q := by
  unfold wiB at h
  obtain ⟨a1, a2⟩ := Bool.and_eq_true_iff.mp h
  have h3 : ¬ k < 3 := fun h4 => by rw [decide_eq_true h4] at a1; cases a1
  have h6 : ¬ (6 : Int32) < k := fun h4 => by rw [decide_eq_true h4] at a2; cases a2
  have h0 : ¬ k < 0 := fun h4 => h3 (Int32.lt_trans h4 (by decide))
  obtain ⟨q, hq, rfl⟩ := nI_of h0
  refine ⟨q, ?_, ?_, rfl⟩
  · exact Nat.not_lt.mp fun h4 : q < 3 => h3 ((nI_ltI (b := 3) hq (by decide)).mpr h4)
  · exact Nat.not_lt.mp fun h4 : 6 < q => h6 ((nI_ltI (a := 6) (by decide) hq).mpr h4)
theorem tf {b : Bool} {P : Prop} (h : b = true) (h2 : b = false) : P := by rw [h] at h2; cases h2
theorem p_gate (k a b : Int32) : PR sc V mX6_gate mX7_gate 4 3 [.int k, .int a, .int b] := pr_s fun I J C nx os oc K V' bx fa hV hb hC hR hs => by
  have hN := hR.1.1.1
  have h40 := c40 hC
  cases hk : wiB k 3 6 with
  | false => exact st_id (v := -2) hV hb hC hR hs (ct_X6_gate (cC hC) (fun _ => ⟨rfl, rfl, rfl⟩) (fun h => tf h hk) (fun h => tf h hk) (fun h => tf h hk) (fun h => tf h hk)) (ct_X7_gate hN h40 (fun _ => ⟨rfl, rfl, rfl⟩) (fun h => tf h hk) (fun h => tf h hk) (fun h => tf h hk) (fun h => tf h hk))
  | true =>
    obtain ⟨q, q3, q6, rfl⟩ := wi_36 hk
    cases ha : hsB C a with
    | false => exact st_id (v := -1) hV hb hC hR hs (ct_X6_gate (cC hC) (fun h => tf hk h) (fun _ _ => ⟨rfl, rfl, rfl⟩) (fun _ h => tf h ha) (fun _ h => tf h ha) (fun _ h => tf h ha)) (ct_X7_gate hN h40 (fun h => tf hk h) (fun _ _ => ⟨rfl, rfl, rfl⟩) (fun _ h => tf h ha) (fun _ h => tf h ha) (fun _ h => tf h ha))
    | true =>
      obtain ⟨x, hx, rfl⟩ := hs_ex (by omega) ha
      by_cases h3 : nI q = 3
      · have hq3 : q = 3 := (nI_eq (b := 3) (by omega) (by decide)).mp h3
        subst hq3
        exact st_term hV hb hC hR hs (tp_gate (cC hC) (c40 hC) (k := 3) (ob := none) (oc := none) (by decide) (by decide) hx (fun p h => by cases h) (fun p h => by cases h) (fun h => absurd h (by decide)) (fun h => absurd h (by decide))) (fun v f' g' hc => ct_X6_gate (cC hC) (fun h => tf hk h) (fun _ h => tf ha h) (fun _ _ _ => hc) (fun _ _ h => absurd rfl h) (fun _ _ h => absurd rfl h)) (fun I1 J1 v I' J' h1 hc => ct_X7_gate h1.1.1.1 h40 (fun h => tf hk h) (fun _ h => tf ha h) (fun _ _ _ => hc) (fun _ _ h => absurd rfl h) (fun _ _ h => absurd rfl h))
      · cases hb2 : hsB C b with
        | false => exact st_id (v := -1) hV hb hC hR hs (ct_X6_gate (cC hC) (fun h => tf hk h) (fun _ h => tf ha h) (fun _ _ h => absurd h h3) (fun _ _ _ _ => ⟨rfl, rfl, rfl⟩) (fun _ _ _ h => tf h hb2)) (ct_X7_gate hN h40 (fun h => tf hk h) (fun _ h => tf ha h) (fun _ _ h => absurd h h3) (fun _ _ _ _ => ⟨rfl, rfl, rfl⟩) (fun _ _ _ h => tf h hb2))
        | true =>
          obtain ⟨y, hy, rfl⟩ := hs_ex (by omega) hb2
          have hq7 : ¬ q = 7 := by omega
          exact st_term hV hb hC hR hs (tp_gate (cC hC) (c40 hC) (k := q) (ob := some y) (oc := none) q3 (by omega) hx (fun p h => by cases h; exact hy) (fun p h => by cases h) (fun _ => ⟨y, rfl⟩) (fun h => absurd h hq7)) (fun v f' g' hc => ct_X6_gate (cC hC) (fun h => tf hk h) (fun _ h => tf ha h) (fun _ _ h => absurd h h3) (fun _ _ _ h => tf hb2 h) (fun _ _ _ _ => hc)) (fun I1 J1 v I' J' h1 hc => ct_X7_gate h1.1.1.1 h40 (fun h => tf hk h) (fun _ h => tf ha h) (fun _ _ h => absurd h h3) (fun _ _ _ h => tf hb2 h) (fun _ _ _ _ => hc))
theorem ct_X6_choice (hC : I 1 9 = nI C) {a b c v : Int32} {I' : IT} {J' : JT} (h0 : (hsB C a && hsB C b && hsB C c) = false → v = -1 ∧ I' = I ∧ J' = J) (h1 : (hsB C a && hsB C b && hsB C c) = true → CN 62 RF mX4_elderOrNew 3 [.ref 1, .int 7, .int a, .int b, .int c] I J (RX (some (.int v)) I' J')) : CN 62 RF mX6_choice 4 [.ref 0, .int a, .int b, .int c] I J (RX (some (.int v)) I' J') := by
  have out : (hsB C a && hsB C b && hsB C c) = false → EN 62 RF mX6_choice 4 33 [(0, .ref 0), (1, .int a), (2, .int b), (3, .int c)] [] I J (RX (some (.int v)) I' J') := by
    intro h
    obtain ⟨e1, e2, e3⟩ := h0 h
    refine blk s_X6_choice_33 (nm ?_)
    exact r_X6_choice_34 (rxe (by rw [e1]) e2.symm e3.symm)
  refine cn_of (by decide) rfl (Nat.le_of_ble_eq_true rfl) ?_
  refine blk s_X6_choice_0 (nm ?_)
  refine c_X6_choice_5 (ct_X4_hasC hC a) rfl (by decide) rfl (Nat.le_of_ble_eq_true rfl) (by decide) rfl (rx ?_)
  cases ha : hsB C a with
  | false => exact b_X6_choice_8 (fun _ => out (by rw [ha]; rfl)) (fun h => absurd rfl h)
  | true =>
    refine b_X6_choice_8 (fun h => absurd h (by decide)) (fun _ => ?_)
    refine blk s_X6_choice_11 (nm ?_)
    refine c_X6_choice_16 (ct_X4_hasC hC b) rfl (by decide) rfl (Nat.le_of_ble_eq_true rfl) (by decide) rfl (rx ?_)
    cases hb : hsB C b with
    | false => exact b_X6_choice_19 (fun _ => out (by rw [ha, hb]; rfl)) (fun h => absurd rfl h)
    | true =>
      refine b_X6_choice_19 (fun h => absurd h (by decide)) (fun _ => ?_)
      refine blk s_X6_choice_22 (nm ?_)
      refine c_X6_choice_27 (ct_X4_hasC hC c) rfl (by decide) rfl (Nat.le_of_ble_eq_true rfl) (by decide) rfl (rx ?_)
      cases hc : hsB C c with
      | false => exact b_X6_choice_30 (fun h => absurd rfl h) (fun _ => out (by rw [ha, hb, hc]; rfl))
      | true =>
        refine b_X6_choice_30 (fun _ => ?_) (fun h => absurd h (by decide))
        refine blk s_X6_choice_35 (nm ?_)
        refine c_X6_choice_44 (h1 (by rw [ha, hb, hc]; rfl)) rfl (by decide) rfl (Nat.le_of_ble_eq_true rfl) (by decide) rfl (rx ?_)
        exact r_X6_choice_47 rxq
theorem ct_X7_choice (hC : I 39 1 = nI C) (h40 : C ≤ 40) {a b c v : Int32} {I' : IT} {J' : JT} (h0 : (hsB C a && hsB C b && hsB C c) = false → v = -1 ∧ I' = I ∧ J' = J) (h1 : (hsB C a && hsB C b && hsB C c) = true → CN 62 RF mX7_comes 2 [.ref 39, .int 7, .int a, .int b, .int c] I J (RX (some (.int v)) I' J')) : CN 62 RF mX7_choice 3 [.ref 39, .int a, .int b, .int c] I J (RX (some (.int v)) I' J') := by
  have out : (hsB C a && hsB C b && hsB C c) = false → EN 62 RF mX7_choice 3 24 [(0, .ref 39), (1, .int a), (2, .int b), (3, .int c)] [] I J (RX (some (.int v)) I' J') := by
    intro h
    obtain ⟨e1, e2, e3⟩ := h0 h
    refine blk s_X7_choice_24 (nm ?_)
    exact r_X7_choice_25 (rxe (by rw [e1]) e2.symm e3.symm)
  refine cn_of (by decide) rfl (Nat.le_of_ble_eq_true rfl) ?_
  refine blk s_X7_choice_0 (nm ?_)
  refine c_X7_choice_2 (ct_X7_isTermC hC h40 a) rfl (by decide) rfl (Nat.le_of_ble_eq_true rfl) (by decide) rfl (rx ?_)
  cases ha : hsB C a with
  | false => exact b_X7_choice_5 (fun _ => out (by rw [ha]; rfl)) (fun h => absurd rfl h)
  | true =>
    refine b_X7_choice_5 (fun h => absurd h (by decide)) (fun _ => ?_)
    refine blk s_X7_choice_8 (nm ?_)
    refine c_X7_choice_10 (ct_X7_isTermC hC h40 b) rfl (by decide) rfl (Nat.le_of_ble_eq_true rfl) (by decide) rfl (rx ?_)
    cases hb : hsB C b with
    | false => exact b_X7_choice_13 (fun _ => out (by rw [ha, hb]; rfl)) (fun h => absurd rfl h)
    | true =>
      refine b_X7_choice_13 (fun h => absurd h (by decide)) (fun _ => ?_)
      refine blk s_X7_choice_16 (nm ?_)
      refine c_X7_choice_18 (ct_X7_isTermC hC h40 c) rfl (by decide) rfl (Nat.le_of_ble_eq_true rfl) (by decide) rfl (rx ?_)
      cases hc : hsB C c with
      | false => exact b_X7_choice_21 (fun h => absurd rfl h) (fun _ => out (by rw [ha, hb, hc]; rfl))
      | true =>
        refine b_X7_choice_21 (fun _ => ?_) (fun h => absurd h (by decide))
        refine blk s_X7_choice_26 (nm ?_)
        refine c_X7_choice_32 (h1 (by rw [ha, hb, hc]; rfl)) rfl (by decide) rfl (Nat.le_of_ble_eq_true rfl) (by decide) rfl (rx ?_)
        exact r_X7_choice_35 rxq
theorem p_choice (a b c : Int32) : PR sc V mX6_choice mX7_choice 4 3 [.int a, .int b, .int c] := pr_s fun I J C nx os oc K V' bx fa hV hb hC hR hs => by
  have hN := hR.1.1.1
  have h40 := c40 hC
  cases h : (hsB C a && hsB C b && hsB C c) with
  | false => exact st_id (v := -1) hV hb hC hR hs (ct_X6_choice (cC hC) (fun _ => ⟨rfl, rfl, rfl⟩) (fun h' => tf h' h)) (ct_X7_choice hN h40 (fun _ => ⟨rfl, rfl, rfl⟩) (fun h' => tf h' h))
  | true =>
    obtain ⟨h2, hc⟩ := Bool.and_eq_true_iff.mp h
    obtain ⟨ha, hb'⟩ := Bool.and_eq_true_iff.mp h2
    obtain ⟨x, hx, rfl⟩ := hs_ex (by omega) ha
    obtain ⟨y, hy, rfl⟩ := hs_ex (by omega) hb'
    obtain ⟨z, hz, rfl⟩ := hs_ex (by omega) hc
    exact st_term hV hb hC hR hs (tp_gate (cC hC) (c40 hC) (k := 7) (ob := some y) (oc := some z) (by decide) (by decide) hx (fun p h => by cases h; exact hy) (fun p h => by cases h; exact hz) (fun _ => ⟨y, rfl⟩) (fun _ => ⟨z, rfl⟩)) (fun v f' g' hc => ct_X6_choice (cC hC) (fun h' => tf h h') (fun _ => hc)) (fun I1 J1 v I' J' h1 hc => ct_X7_choice h1.1.1.1 h40 (fun h' => tf h h') (fun _ => hc))
end PAIR6
