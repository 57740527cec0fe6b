/-! THE REFERENCE: noting lemmas -/
section MOD10
variable {I : IT} {J : JT} {g : JT} {C : Nat} {nx : Nat → Option Nat} {os oc : Option Nat} {A : Nat → Bool}
def noI (I : IT) (K : Nat) (x c : Int32) : IT := up2 (up2 (up2 I 51 K x) 52 K c) 39 16 (nI (K + 1))
theorem ct_X7_notes {K : Nat} (hK : I 39 16 = nI K) (hK8 : K < 8) (x c : Int32) : CN 62 RF mX7_notes 0 [.ref 39, .int x, .int c] I J (RX (some (.int (nI K))) (noI I K x c) J) := by
  refine cn_of (by decide) rfl (Nat.le_of_ble_eq_true rfl) ?_
  have e1 : up2 I 51 K x 39 = I 39 := up2_o (by decide)
  have e2 : up2 (up2 I 51 K x) 52 K c 39 = I 39 := by rw [up2_o (by decide), e1]
  refine blk s_X7_notes_0 (And.intro ?_ (And.intro ?_ (And.intro rfl (nm ?_))))
  · show vp_in (I 39 16) 8
    rw [hK]; exact ib hK8
  · show vp_in (up2 I 51 (I 39 16).toNatClampNeg x 39 16) 8
    rw [hK, cl K, e1, hK]; exact ib hK8
  · rw [hK, cl K, e1, hK, cl K, e2, hK, nI_s, up2_s, nI_pred]
    exact r_X7_notes_36 rxq
theorem ct_X7_firstWeak (hB : RB I g C nx os oc) (hA : RA I A) (W : Nat → Bool) : CN 62 RF mX7_firstWeak 5 [.ref 39, .int (bs W)] I J (RX (some (.int (o2i (lsN (goP (rc (Tx g nx)) (Sx g os) (fun s => A s && !Bx g oc s) W) 16)))) I J) := by
  generalize hp : goP (rc (Tx g nx)) (Sx g os) (fun s => A s && !Bx g oc s) W = p
  have hp' : ∀ s, p s = (W s && ftB (rc (Tx g nx)) (Sx g os) (fun s => A s && !Bx g oc s) (fun k => !decide (k = s))) := fun s => by rw [← hp]; rfl
  generalize hQ : RX (some (.int (o2i (lsN p 16)))) I J = Q
  have hQ' : Q (some (.int (o2i (lsN p 16)))) I J := by rw [← hQ]; exact rxq
  clear hQ
  refine cn_of (by decide) rfl (Nat.le_of_ble_eq_true rfl) ?_
  refine blk s_X7_firstWeak_0 (nm ?_)
  have key : ∀ k, k ≤ 16 → lsN p k = none → EN 62 RF mX7_firstWeak 5 2 [(0, .ref 39), (1, .int (bs W)), (2, .int (nI k))] [] I J Q := by
    intro k hk
    refine dn (P := fun k => lsN p k = none → EN 62 RF mX7_firstWeak 5 2 [(0, .ref 39), (1, .int (bs W)), (2, .int (nI k))] [] I J Q) (N := 16) ?_ ?_ hk
    · intro h0
      refine blk s_X7_firstWeak_2 (nm ?_)
      refine b_X7_firstWeak_5 (fun h => ?_) (fun h => absurd (Int32.le_refl _) h)
      refine blk s_X7_firstWeak_40 (nm ?_)
      rw [h0] at hQ'
      exact r_X7_firstWeak_42 hQ'
    · intro k hk ih h0
      refine blk s_X7_firstWeak_2 (nm ?_)
      refine b_X7_firstWeak_5 (fun h => absurd h (nI_ge hk (by decide))) (fun h => ?_)
      refine blk s_X7_firstWeak_8 (nm ?_)
      refine c_X7_firstWeak_10 (ct_X7_isIn _ (by omega)) rfl (by decide) rfl (Nat.le_of_ble_eq_true rfl) (rx ?_)
      refine blk s_X7_firstWeak_13 (nm ?_)
      rw [mb_bs1 _ hk]
      have back : p k = false → EN 62 RF mX7_firstWeak 5 34 [(0, .ref 39), (1, .int (bs W)), (2, .int (nI k))] [] I J Q := by
        intro hpk
        refine blk s_X7_firstWeak_34 (nm ?_)
        refine en_L (by rw [nI_s]) (ih ?_)
        show (match lsN p k with | some i => some i | none => if p k then some k else none) = none
        rw [h0, hpk]; rfl
      refine b_X7_firstWeak_14 (fun h => ?_) (fun h => ?_)
      · exact back (by rw [hp' k, bf h, Bool.false_and])
      · refine blk s_X7_firstWeak_17 (nm ?_)
        rw [all_bs, bs_one hk, bs_diff]
        refine c_X7_firstWeak_26 (ct_X7_isFit hB hA _) rfl (by decide) rfl (Nat.le_of_ble_eq_true rfl) (by decide) rfl (rx ?_)
        rw [ftB_cg (q := fun j => !decide (j = k)) (fun s hs => by rw [mb_bs1 _ hs, Bool.true_and])]
        refine b_X7_firstWeak_29 (fun h2 => ?_) (fun h2 => ?_)
        · exact back (by rw [hp' k, (b2i_0 _).mp h2, Bool.and_false])
        · refine blk s_X7_firstWeak_32 (nm ?_)
          rw [lsN_first hk (by rw [hp' k, bt h, b2t h2]; rfl) (lsN_none.mp h0)] at hQ'
          exact r_X7_firstWeak_33 hQ'
  exact key 0 (by omega) rfl
theorem ct_X7_lemmaBy_no (hB : RB I g C nx os oc) (hA : RA I A) {x : Int32} (hf : ftB (rc (Tx g nx)) (Sx g os) (fun s => A s && !Bx g oc s) (mb x) = false) : CN 62 RF mX7_lemmaBy 5 [.ref 39, .int x] I J (RX (some (.int (-3))) I J) := by
  refine cn_of (by decide) rfl (Nat.le_of_ble_eq_true rfl) ?_
  refine blk s_X7_lemmaBy_0 (nm ?_)
  refine c_X7_lemmaBy_2 (ct_X7_isFit hB hA x) rfl (by decide) rfl (Nat.le_of_ble_eq_true rfl) (by decide) rfl (rx ?_)
  rw [hf]
  refine b_X7_lemmaBy_5 (fun h => absurd rfl h) (fun h => ?_)
  refine blk s_X7_lemmaBy_8 (nm ?_)
  exact r_X7_lemmaBy_10 rxq
theorem ct_X7_lemmaBy_full (hB : RB I g C nx os oc) (hA : RA I A) {x : Int32} (hf : ftB (rc (Tx g nx)) (Sx g os) (fun s => A s && !Bx g oc s) (mb x) = true) (hK : I 39 16 = nI 8) : CN 62 RF mX7_lemmaBy 5 [.ref 39, .int x] I J (RX (some (.int (-4))) I J) := by
  refine cn_of (by decide) rfl (Nat.le_of_ble_eq_true rfl) ?_
  refine blk s_X7_lemmaBy_0 (nm ?_)
  refine c_X7_lemmaBy_2 (ct_X7_isFit hB hA x) rfl (by decide) rfl (Nat.le_of_ble_eq_true rfl) (by decide) rfl (rx ?_)
  rw [hf]
  refine b_X7_lemmaBy_5 (fun h => ?_) (fun h => absurd h (by decide))
  refine blk s_X7_lemmaBy_11 (nm ?_)
  rw [hK]
  refine b_X7_lemmaBy_17 (fun h => absurd rfl h) (fun h => ?_)
  refine blk s_X7_lemmaBy_20 (nm ?_)
  exact r_X7_lemmaBy_32 rxq
theorem ct_X7_lemmaBy_yes (hB : RB I g C nx os oc) (hA : RA I A) {x : Int32} (hf : ftB (rc (Tx g nx)) (Sx g os) (fun s => A s && !Bx g oc s) (mb x) = true) {K : Nat} (hK : I 39 16 = nI K) (hK8 : K < 8) : CN 62 RF mX7_lemmaBy 5 [.ref 39, .int x] I J (RX (some (.int (nI K))) (noI I K x (-9)) J) := by
  refine cn_of (by decide) rfl (Nat.le_of_ble_eq_true rfl) ?_
  refine blk s_X7_lemmaBy_0 (nm ?_)
  refine c_X7_lemmaBy_2 (ct_X7_isFit hB hA x) rfl (by decide) rfl (Nat.le_of_ble_eq_true rfl) (by decide) rfl (rx ?_)
  rw [hf]
  refine b_X7_lemmaBy_5 (fun h => ?_) (fun h => absurd h (by decide))
  refine blk s_X7_lemmaBy_11 (nm ?_)
  rw [hK]
  refine b_X7_lemmaBy_17 (fun h => ?_) (fun h => absurd ((nI_eq (a := K) (b := 8) (by omega) (by decide)).mp h) (by omega))
  refine blk s_X7_lemmaBy_25 (nm ?_)
  refine c_X7_lemmaBy_29 (ct_X7_notes hK hK8 _ _) rfl (by decide) rfl (Nat.le_of_ble_eq_true rfl) (by decide) rfl (rx ?_)
  exact r_X7_lemmaBy_32 rxq
theorem ct_X7_str_none (hB : RB I g C nx os oc) (hA : RA I A) (hw : ∀ s, s < 16 → wkP (rc (Tx g nx)) A (Bx g oc) s = false) : CN 62 RF mX7_strengthen 6 [.ref 39] I J (RX (some (.int (-9))) I J) := by
  refine cn_of (by decide) rfl (Nat.le_of_ble_eq_true rfl) ?_
  refine blk s_X7_strengthen_0 (nm ?_)
  refine c_X7_strengthen_1 (ct_X7_weakSet hB hA) rfl (by decide) rfl (Nat.le_of_ble_eq_true rfl) (by decide) rfl (rx ?_)
  refine blk s_X7_strengthen_4 (nm ?_)
  rw [(bs_0 _).mpr hw]
  refine b_X7_strengthen_6 (fun h => absurd rfl h) (fun h => ?_)
  refine blk s_X7_strengthen_9 (nm ?_)
  exact r_X7_strengthen_11 rxq
theorem str_go7 (hB : RB I g C nx os oc) (hA : RA I A) {s1 : Nat} (hs1 : s1 < 16) (hw : wkP (rc (Tx g nx)) A (Bx g oc) s1 = true) {Q : IQ} (h : EN 62 RF mX7_strengthen 6 17 [(0, .ref 39), (1, .int (bs (wkP (rc (Tx g nx)) A (Bx g oc))))] [.int (o2i (lsN (goP (rc (Tx g nx)) (Sx g os) (fun s => A s && !Bx g oc s) (wkP (rc (Tx g nx)) A (Bx g oc))) 16))] I J Q) : CN 62 RF mX7_strengthen 6 [.ref 39] I J Q := by
  refine cn_of (by decide) rfl (Nat.le_of_ble_eq_true rfl) ?_
  refine blk s_X7_strengthen_0 (nm ?_)
  refine c_X7_strengthen_1 (ct_X7_weakSet hB hA) rfl (by decide) rfl (Nat.le_of_ble_eq_true rfl) (by decide) rfl (rx ?_)
  refine blk s_X7_strengthen_4 (nm ?_)
  refine b_X7_strengthen_6 (fun h0 => ?_) (fun h0 => ?_)
  · refine blk s_X7_strengthen_12 (nm ?_)
    refine c_X7_strengthen_14 (ct_X7_firstWeak hB hA _) rfl (by decide) rfl (Nat.le_of_ble_eq_true rfl) (by decide) rfl (rx ?_)
    exact h
  · have := (bs_0 _).mp h0 s1 hs1
    rw [hw] at this; cases this
theorem ct_X7_str_state (hB : RB I g C nx os oc) (hA : RA I A) {s1 : Nat} (hs1 : s1 < 16) (hw : wkP (rc (Tx g nx)) A (Bx g oc) s1 = true) (hl : lsN (goP (rc (Tx g nx)) (Sx g os) (fun s => A s && !Bx g oc s) (wkP (rc (Tx g nx)) A (Bx g oc))) 16 = none) : CN 62 RF mX7_strengthen 6 [.ref 39] I J (RX (some (.int (-3))) I J) := by
  refine str_go7 hB hA hs1 hw ?_
  rw [hl]
  refine blk s_X7_strengthen_17 (nm ?_)
  refine b_X7_strengthen_21 (fun h => absurd rfl h) (fun h => ?_)
  refine blk s_X7_strengthen_24 (nm ?_)
  exact r_X7_strengthen_26 rxq
theorem ct_X7_str_full (hB : RB I g C nx os oc) (hA : RA I A) {s1 s0 : Nat} (hs1 : s1 < 16) (hw : wkP (rc (Tx g nx)) A (Bx g oc) s1 = true) (hl : lsN (goP (rc (Tx g nx)) (Sx g os) (fun s => A s && !Bx g oc s) (wkP (rc (Tx g nx)) A (Bx g oc))) 16 = some s0) (hK : I 39 16 = nI 8) : CN 62 RF mX7_strengthen 6 [.ref 39] I J (RX (some (.int (-4))) I J) := by
  refine str_go7 hB hA hs1 hw ?_
  rw [hl]
  have hs0 := (lsN_some hl).1
  refine blk s_X7_strengthen_17 (nm ?_)
  refine b_X7_strengthen_21 (fun h => ?_) (fun h => absurd h (o2i_ne (by omega)))
  refine blk s_X7_strengthen_27 (nm ?_)
  rw [hK]
  refine b_X7_strengthen_33 (fun h => absurd rfl h) (fun h => ?_)
  refine blk s_X7_strengthen_36 (nm ?_)
  exact r_X7_strengthen_38 rxq
theorem ct_X7_str_yes (hB : RB I g C nx os oc) (hA : RA I A) {s1 s0 : Nat} (hs1 : s1 < 16) (hw : wkP (rc (Tx g nx)) A (Bx g oc) s1 = true) (hl : lsN (goP (rc (Tx g nx)) (Sx g os) (fun s => A s && !Bx g oc s) (wkP (rc (Tx g nx)) A (Bx g oc))) 16 = some s0) {K : Nat} (hK : I 39 16 = nI K) (hK8 : K < 8) {a : Nat} (ha : wdN (rc (Tx g nx)) (Sx g os) (fun s => A s && !Bx g oc s) s0 4 = a) : CN 62 RF mX7_strengthen 6 [.ref 39] I J (RX (some (.int (cbV a s0))) (noI I K (bs (ouP a s0)) (cbV a s0)) J) := by
  have hs0 := (lsN_some hl).1
  refine str_go7 hB hA hs1 hw ?_
  rw [hl]
  generalize bs (wkP (rc (Tx g nx)) A (Bx g oc)) = W
  have hwl := wdN_lt (rc (Tx g nx)) (Sx g os) (fun s => A s && !Bx g oc s) s0
  generalize hwe : wdN (rc (Tx g nx)) (Sx g os) (fun s => A s && !Bx g oc s) s0 = wd at *
  have hws : ∀ v, wd (v + 1) = (match ftB (rc (Tx g nx)) (Sx g os) (fun s => A s && !Bx g oc s) (ouP (fw (wd v) v) s0) with | true => fw (wd v) v | false => wd v) := fun v => by rw [← hwe]; rfl
  have hw0 : wd 0 = 15 := by rw [← hwe]; rfl
  refine blk s_X7_strengthen_17 (nm ?_)
  refine b_X7_strengthen_21 (fun h => ?_) (fun h => absurd h (o2i_ne (by omega)))
  rw [show o2i (some s0) = nI s0 from rfl]
  refine blk s_X7_strengthen_27 (nm ?_)
  rw [hK]
  refine b_X7_strengthen_33 (fun h => ?_) (fun h => absurd ((nI_eq (a := K) (b := 8) (by omega) (by decide)).mp h) (by omega))
  refine blk s_X7_strengthen_39 (nm ?_)
  refine en_L (show _ = [(0, .ref 39), (1, .int W), (2, .int (nI s0)), (3, .int (nI (wd 0))), (4, .int (nI 0))] from by rw [hw0]; rfl) ?_
  refine dn (P := fun v => EN 62 RF mX7_strengthen 6 45 [(0, .ref 39), (1, .int W), (2, .int (nI s0)), (3, .int (nI (wd v))), (4, .int (nI v))] [] I J (RX (some (.int (cbV a s0))) (noI I K (bs (ouP a s0)) (cbV a s0)) J)) (N := 4) (a := 0) ?_ ?_ (Nat.zero_le _)
  · have ha16 : a < 16 := by rw [← ha]; exact hwl 4 (by omega)
    rw [ha]
    refine blk s_X7_strengthen_45 (nm ?_)
    refine b_X7_strengthen_48 (fun h => ?_) (fun h => absurd (Int32.le_refl _) h)
    refine blk s_X7_strengthen_90 (nm ?_)
    rw [(cb_eq a ha16 s0 hs0).1, nI_and16 s0 hs0 a ha16]
    refine c_X7_strengthen_105 (ct_X7_outside ha16 hs0) rfl (by decide) rfl (Nat.le_of_ble_eq_true rfl) (rx ?_)
    refine blk s_X7_strengthen_108 (nm ?_)
    refine c_X7_strengthen_110 (ct_X7_notes hK hK8 _ _) rfl (by decide) rfl (Nat.le_of_ble_eq_true rfl) (by decide) rfl (rx ?_)
    refine blk s_X7_strengthen_113 (nm ?_)
    exact r_X7_strengthen_116 rxq
  · intro v hv ih
    refine blk s_X7_strengthen_45 (nm ?_)
    refine b_X7_strengthen_48 (fun h => absurd h (nI_ge hv (by decide))) (fun h => ?_)
    refine blk s_X7_strengthen_51 (nm ?_)
    have ha16 := hwl v (by omega)
    have hfw := fw_bit (wd v) ha16 v hv
    rw [hfw.1, nI_and16 s0 hs0 _ hfw.2]
    refine c_X7_strengthen_68 (ct_X7_outside hfw.2 hs0) rfl (by decide) rfl (Nat.le_of_ble_eq_true rfl) (rx ?_)
    refine c_X7_strengthen_71 (ct_X7_isFit hB hA _) rfl (by decide) rfl (Nat.le_of_ble_eq_true rfl) (by decide) rfl (rx ?_)
    rw [ftB_cg (q := ouP (fw (wd v) v) s0) (fun s hs => by rw [mb_bs1 _ hs])]
    have back : ∀ y : Int32, y = nI (wd (v + 1)) → EN 62 RF mX7_strengthen 6 83 [(0, .ref 39), (1, .int W), (2, .int (nI s0)), (3, .int (nI (wd v))), (4, .int (nI v)), (5, .int (nI (fw (wd v) v)))] [.int y] I J (RX (some (.int (cbV a s0))) (noI I K (bs (ouP a s0)) (cbV a s0)) J) := by
      intro y hy
      subst hy
      refine blk s_X7_strengthen_83 (nm ?_)
      exact wkt 5 (en_L (by rw [nI_s]; rfl) ih)
    refine b_X7_strengthen_74 (fun h => ?_) (fun h => ?_)
    · refine blk s_X7_strengthen_82 (nm ?_)
      exact back _ (by rw [hws v, (b2i_0 _).mp h])
    · refine blk s_X7_strengthen_77 (nm ?_)
      exact back _ (by rw [hws v, b2t h])
end MOD10
