/-! THE REFERENCE: chance, mean -/
def wr (T : Nat → Nat → Nat) (B : Nat → Bool) : Nat → Nat → Nat
  | 0, s => if B s = true then 1 else 0
  | n + 1, s => if B s = true then 4 ^ (n + 1) else su (fun r => wr T B n (T s r)) 4
theorem su_le {f : Nat → Nat} {b : Nat} : ∀ {k : Nat}, (∀ j, j < k → f j ≤ b) → su f k ≤ k * b
  | 0, _ => by show 0 ≤ _; omega
  | k + 1, h => by
    have h1 := su_le (k := k) fun j hj => h j (by omega)
    have h2 := h k (by omega)
    show su f k + f k ≤ (k + 1) * b
    rw [Nat.add_mul, Nat.one_mul]; omega
theorem wr_le (T : Nat → Nat → Nat) (B : Nat → Bool) : ∀ n s, wr T B n s ≤ 4 ^ n
  | 0, s => by show (if B s = true then 1 else 0) ≤ 1; split <;> omega
  | n + 1, s => by
    show (if B s = true then 4 ^ (n + 1) else su (fun r => wr T B n (T s r)) 4) ≤ 4 ^ (n + 1)
    split
    · exact Nat.le_refl _
    · have := su_le (k := 4) (f := fun r => wr T B n (T s r)) (b := 4 ^ n) fun j _ => wr_le T B n (T s j)
      rw [Nat.pow_succ]; omega
theorem cnN_le (p : Nat → Bool) : ∀ n, cnN p n ≤ n
  | 0 => Nat.le_refl _
  | n + 1 => by have := cnN_le p n; show cnN p n + (if p n = true then 1 else 0) ≤ n + 1; split <;> omega
theorem wiB_N {k m : Nat} (hk : k < 2 ^ 31) (hm : m < 2 ^ 31) : wiB (nI k) 0 (nI m) = decide (k ≤ m) := by
  unfold wiB
  rw [decide_eq_false (nI_pos hk), Bool.not_false, Bool.true_and]
  by_cases h : k ≤ m
  · rw [decide_eq_true h, decide_eq_false (fun h2 => absurd ((nI_ltI hm hk).mp h2) (by omega))]; rfl
  · rw [decide_eq_false h, decide_eq_true ((nI_ltI hm hk).mpr (by omega))]; rfl
section MOD9
variable {I : IT} {J : JT} {g : JT} {C : Nat} {nx : Nat → Option Nat} {os oc : Option Nat}
def goW (T : Nat → Nat → Nat) (S B : Nat → Bool) (k : Nat) : Nat := su (fun s => if S s = true then wr T B k s else 0) 16
def ChQ (I : IT) (J : JT) (v : Int32) : IQ := fun r I' J' => r = some (.int v) ∧ J' = J ∧ ∀ o, o ≠ 56 → o ≠ 57 → I' o = I o
theorem pow4_le {k : Nat} (h : k ≤ 8) : 4 ^ k ≤ 65536 := Nat.pow_le_pow_right (by decide) h
theorem ct_X7_chance_in (hB : RB I g C nx os oc) {k : Nat} (hk : k ≤ 8) : CN 62 RF mX7_chance 3 [.ref 39, .int (nI k)] I J (ChQ I J (if cnN (Sx g os) 16 = 0 then -3 else (nbV (goW (Tx g nx) (Sx g os) (Bx g oc) k) (cnN (Sx g os) 16 * 4 ^ k) 24 127).toInt32)) := by
  generalize hc : cnN (Sx g os) 16 = c
  have hc16 : c ≤ 16 := by rw [← hc]; exact cnN_le _ _
  have hT := Tx_lt' g nx
  generalize hTe : Tx g nx = T at *
  generalize hSe : Sx g os = S at *
  generalize hBe : Bx g oc = B at *
  generalize hQ : ChQ I J (if c = 0 then -3 else (nbV (goW T S B k) (c * 4 ^ k) 24 127).toInt32) = Q
  have hw : wiB (nI k) 0 8 = true := by
    rw [show (8 : Int32) = nI 8 from rfl, wiB_N (by omega) (by decide), decide_eq_true hk]
  refine cn_of (by decide) rfl (Nat.le_of_ble_eq_true rfl) ?_
  refine blk s_X7_chance_0 (nm ?_)
  refine c_X7_chance_4 (ct_X7_within _ _ _) rfl (by decide) rfl (Nat.le_of_ble_eq_true rfl) (rx ?_)
  rw [hw]
  refine b_X7_chance_7 (fun h => ?_) (fun h => absurd h (by decide))
  refine blk s_X7_chance_13 (nm ?_)
  refine c_X7_chance_14 (ct_X7_startSet hB) rfl (by decide) rfl (Nat.le_of_ble_eq_true rfl) (by decide) rfl (rx ?_)
  refine c_X7_chance_17 (ct_X7_sizeOf _) rfl (by decide) rfl (Nat.le_of_ble_eq_true rfl) (rx ?_)
  rw [cnN_cg (q := S) (fun s hs => by rw [mb_bs1 _ hs, hSe]), hc]
  refine blk s_X7_chance_20 (nm ?_)
  refine b_X7_chance_22 (fun h => ?_) (fun h => ?_)
  · have hc0 : c ≠ 0 := fun e => h (by rw [e]; rfl)
    refine blk s_X7_chance_28 (nm ?_)
    refine en_I (fl_0 (I := I) (o := 56) (g := fun s => nI (wr T B 0 s))).symm ?_
    refine dn (P := fun s => EN 62 RF mX7_chance 3 30 [(0, .ref 39), (1, .int (nI k)), (2, .int (nI c)), (3, .int (nI s))] [] (fl I 56 (fun s => nI (wr T B 0 s)) s) J Q) (N := 16) (a := 0) ?_ ?_ (Nat.zero_le _)
    · refine blk s_X7_chance_30 (nm ?_)
      refine b_X7_chance_33 (fun h => ?_) (fun h => absurd (Int32.le_refl _) h)
      refine blk s_X7_chance_56 (nm ?_)
      have key : ∀ n, n ≤ k → ∀ I1, (∀ o, o ≠ 56 → o ≠ 57 → I1 o = I o) → (∀ s, s < 16 → I1 56 s = nI (wr T B n s)) → EN 62 RF mX7_chance 3 61 [(0, .ref 39), (1, .int (nI k)), (2, .int (nI c)), (3, .int (nI (4 ^ n))), (4, .int (nI n))] [] I1 J Q := by
        intro n hn
        refine dn (P := fun n => ∀ I1, (∀ o, o ≠ 56 → o ≠ 57 → I1 o = I o) → (∀ s, s < 16 → I1 56 s = nI (wr T B n s)) → EN 62 RF mX7_chance 3 61 [(0, .ref 39), (1, .int (nI k)), (2, .int (nI c)), (3, .int (nI (4 ^ n))), (4, .int (nI n))] [] I1 J Q) (N := k) ?_ ?_ hn
        · intro I1 f1 w1
          have hB1 : RB I1 g C nx os oc := RB_cg hB (by rw [f1 39 (by decide) (by decide)]; exact ⟨rfl, rfl, rfl⟩) (f1 46 (by decide) (by decide)) (f1 47 (by decide) (by decide))
          refine blk s_X7_chance_61 (nm ?_)
          refine b_X7_chance_64 (fun h => ?_) (fun h => absurd (Int32.le_refl _) h)
          refine blk s_X7_chance_185 (nm ?_)
          refine wkt 6 ?_
          refine dn (P := fun s => EN 62 RF mX7_chance 3 191 [(0, .ref 39), (1, .int (nI k)), (2, .int (nI c)), (3, .int (nI (4 ^ k))), (4, .int (nI (su (fun s => if S s = true then wr T B k s else 0) s))), (5, .int (nI s))] [] I1 J Q) (N := 16) (a := 0) ?_ ?_ (Nat.zero_le _)
          · refine blk s_X7_chance_191 (nm ?_)
            refine b_X7_chance_195 (fun h => ?_) (fun h => absurd (Int32.le_refl _) h)
            refine blk s_X7_chance_226 (nm ?_)
            rw [nI_mul, show su (fun s => if S s = true then wr T B k s else 0) 16 = goW T S B k from rfl]
            have h4 := pow4_le hk
            have h40 : 0 < 4 ^ k := Nat.pow_pos (by decide)
            have hgo : goW T S B k ≤ 16 * 65536 := Nat.le_trans (su_le (b := 4 ^ k) fun s _ => by
              show (if S s = true then wr T B k s else 0) ≤ 4 ^ k
              split
              · exact wr_le T B k s
              · omega) (Nat.mul_le_mul_left 16 h4)
            have hd1 : 0 < c * 4 ^ k := Nat.mul_pos (by omega) h40
            have hd2 : c * 4 ^ k ≤ 16 * 65536 := Nat.mul_le_mul hc16 h4
            refine c_X7_chance_235 (ct_X7_nearestBits (F := 24) (bias := 127) (by omega) hd1 (by omega) (by decide) (by decide) (Nat.le_trans (Nat.mul_le_mul_right _ hd2) (by decide)) (by decide) ng24) rfl (by decide) rfl (Nat.le_of_ble_eq_true rfl) (rx ?_)
            refine blk s_X7_chance_238 (nm ?_)
            refine r_X7_chance_239 ?_
            rw [← hQ]
            exact ⟨by rw [if_neg hc0], rfl, f1⟩
          · intro s hs ih
            refine blk s_X7_chance_191 (nm ?_)
            refine b_X7_chance_195 (fun h => absurd h (nI_ge hs (by decide))) (fun h => ?_)
            refine blk s_X7_chance_198 (nm ?_)
            refine c_X7_chance_201 (ct_X7_startSet hB1) rfl (by decide) rfl (Nat.le_of_ble_eq_true rfl) (by decide) rfl (rx ?_)
            refine blk s_X7_chance_204 (nm ?_)
            refine c_X7_chance_206 (ct_X7_isIn _ (by omega)) rfl (by decide) rfl (Nat.le_of_ble_eq_true rfl) (rx ?_)
            refine blk s_X7_chance_209 (And.intro (ib hs) (nm ?_))
            rw [cl s, w1 s hs, mb_bs1 _ hs, hSe, b2i_n, nI_mul, nI_add]
            refine en_L ?_ ih
            rw [nI_s]
            have : (if S s = true then 1 else 0) * wr T B k s = (if S s = true then wr T B k s else 0) := by split <;> omega
            rw [this]; rfl
        · intro n hn ih I1 f1 w1
          refine blk s_X7_chance_61 (nm ?_)
          refine b_X7_chance_64 (fun h => absurd h (nI_ge hn (by omega))) (fun h => ?_)
          refine blk s_X7_chance_67 (nm ?_)
          rw [show nI (4 ^ n) * 4 = nI (4 ^ (n + 1)) from by rw [show (4 : Int32) = nI 4 from rfl, nI_mul, Nat.pow_succ]]
          refine wkt 6 ?_
          refine en_I (fl_0 (I := I1) (o := 57) (g := fun s => nI (wr T B (n + 1) s))).symm ?_
          refine dn (P := fun s => EN 62 RF mX7_chance 3 74 [(0, .ref 39), (1, .int (nI k)), (2, .int (nI c)), (3, .int (nI (4 ^ (n + 1)))), (4, .int (nI n)), (5, .int (nI s))] [] (fl I1 57 (fun s => nI (wr T B (n + 1) s)) s) J Q) (N := 16) (a := 0) ?_ ?_ (Nat.zero_le _)
          · refine blk s_X7_chance_74 (nm ?_)
            refine b_X7_chance_78 (fun h => ?_) (fun h => absurd (Int32.le_refl _) h)
            refine blk s_X7_chance_149 (nm ?_)
            generalize hI2 : fl I1 57 (fun s => nI (wr T B (n + 1) s)) 16 = I2
            have f2 : ∀ o, o ≠ 56 → o ≠ 57 → I2 o = I o := fun o h1 h2 => by rw [← hI2, fl_o h2, f1 o h1 h2]
            have w2 : ∀ s, s < 16 → I2 57 s = nI (wr T B (n + 1) s) := fun s hs => by rw [← hI2, fl_in hs]
            clear hI2
            refine en_I (fl_0 (I := I2) (o := 56) (g := fun s => nI (wr T B (n + 1) s))).symm ?_
            refine dn (P := fun s => EN 62 RF mX7_chance 3 152 [(0, .ref 39), (1, .int (nI k)), (2, .int (nI c)), (3, .int (nI (4 ^ (n + 1)))), (4, .int (nI n)), (5, .int (nI s))] [] (fl I2 56 (fun s => nI (wr T B (n + 1) s)) s) J Q) (N := 16) (a := 0) ?_ ?_ (Nat.zero_le _)
            · refine blk s_X7_chance_152 (nm ?_)
              refine b_X7_chance_156 (fun h => ?_) (fun h => absurd (Int32.le_refl _) h)
              refine blk s_X7_chance_179 (nm ?_)
              refine wkt 5 (en_L (by rw [nI_s]; rfl) (ih _ (fun o h1 h2 => ?_) (fun s hs => ?_)))
              · rw [fl_o h1, f2 o h1 h2]
              · rw [fl_in hs]
            · intro s hs ih2
              refine blk s_X7_chance_152 (nm ?_)
              refine b_X7_chance_156 (fun h => absurd h (nI_ge hs (by decide))) (fun h => ?_)
              refine blk s_X7_chance_159 (And.intro (ib hs) (And.intro (ib hs) (nm ?_)))
              rw [cl s, fl_s (by rw [fl_o (by decide), w2 s hs])]
              exact en_L (by rw [nI_s]) ih2
          · intro s hs ih2
            have f2 : ∀ o, o ≠ 56 → o ≠ 57 → fl I1 57 (fun s => nI (wr T B (n + 1) s)) s o = I o := fun o h1 h2 => by rw [fl_o h2, f1 o h1 h2]
            have hB2 : RB (fl I1 57 (fun s => nI (wr T B (n + 1) s)) s) g C nx os oc := RB_cg hB (by rw [f2 39 (by decide) (by decide)]; exact ⟨rfl, rfl, rfl⟩) (f2 46 (by decide) (by decide)) (f2 47 (by decide) (by decide))
            refine blk s_X7_chance_74 (nm ?_)
            refine b_X7_chance_78 (fun h => absurd h (nI_ge hs (by decide))) (fun h => ?_)
            refine blk s_X7_chance_81 (nm ?_)
            refine dn (P := fun r => EN 62 RF mX7_chance 3 87 [(0, .ref 39), (1, .int (nI k)), (2, .int (nI c)), (3, .int (nI (4 ^ (n + 1)))), (4, .int (nI n)), (5, .int (nI s)), (6, .int (nI (su (fun r => wr T B n (T s r)) r))), (7, .int (nI r))] [] (fl I1 57 (fun s => nI (wr T B (n + 1) s)) s) J Q) (N := 4) (a := 0) ?_ ?_ (Nat.zero_le _)
            · refine blk s_X7_chance_87 (nm ?_)
              refine b_X7_chance_90 (fun h => ?_) (fun h => absurd (Int32.le_refl _) h)
              refine blk s_X7_chance_117 (nm ?_)
              refine c_X7_chance_124 (ct_X7_brokenSet hB2) rfl (by decide) rfl (Nat.le_of_ble_eq_true rfl) (by decide) rfl (rx ?_)
              refine blk s_X7_chance_127 (nm ?_)
              refine c_X7_chance_129 (ct_X7_isIn _ (by omega)) rfl (by decide) rfl (Nat.le_of_ble_eq_true rfl) (rx ?_)
              refine blk s_X7_chance_132 (nm ?_)
              rw [mb_bs1 _ hs, hBe]
              have back : ∀ y : Int32, y = nI (wr T B (n + 1) s) → EN 62 RF mX7_chance 3 142 [(0, .ref 39), (1, .int (nI k)), (2, .int (nI c)), (3, .int (nI (4 ^ (n + 1)))), (4, .int (nI n)), (5, .int (nI s)), (6, .int (nI (su (fun r => wr T B n (T s r)) 4))), (7, .int (nI 4))] [.int y, .int (nI s), .ref 57] (fl I1 57 (fun s => nI (wr T B (n + 1) s)) s) J Q := by
                intro y hy
                refine blk s_X7_chance_142 (And.intro (ib hs) (nm ?_))
                rw [cl s, fl_s (g := fun s => nI (wr T B (n + 1) s)) hy]
                exact wkt 6 (en_L (by rw [nI_s]; rfl) ih2)
              have ew : wr T B (n + 1) s = (if B s = true then 4 ^ (n + 1) else su (fun r => wr T B n (T s r)) 4) := rfl
              refine b_X7_chance_133 (fun h => ?_) (fun h => ?_)
              · refine blk s_X7_chance_140 (nm ?_)
                refine back _ ?_
                rw [ew, if_neg (by rw [bf h]; decide)]
              · refine blk s_X7_chance_136 (nm ?_)
                refine back _ ?_
                rw [ew, if_pos (bt h)]
            · intro r hr ih3
              refine blk s_X7_chance_87 (nm ?_)
              refine b_X7_chance_90 (fun h => absurd h (nI_ge hr (by decide))) (fun h => ?_)
              refine blk s_X7_chance_93 (nm ?_)
              refine c_X7_chance_104 (ct_X7_stepOf hB2 hs hr) rfl (by decide) rfl (Nat.le_of_ble_eq_true rfl) (by decide) rfl (rx ?_)
              rw [hTe]
              have hTr := hT s r hs hr
              refine blk s_X7_chance_107 (And.intro (ib hTr) (nm ?_))
              rw [cl (T s r), fl_o (by decide), w1 _ hTr, nI_add]
              exact en_L (by rw [nI_s]; rfl) ih3
      refine wkt 5 (key 0 (by omega) _ (fun o h1 h2 => by rw [fl_o h1]) (fun s hs => by rw [fl_in hs]))
    · intro s hs ih
      have hB2 : RB (fl I 56 (fun s => nI (wr T B 0 s)) s) g C nx os oc := RB_cg hB (by rw [fl_o (by decide)]; exact ⟨rfl, rfl, rfl⟩) (fl_o (by decide)) (fl_o (by decide))
      refine blk s_X7_chance_30 (nm ?_)
      refine b_X7_chance_33 (fun h => absurd h (nI_ge hs (by decide))) (fun h => ?_)
      refine blk s_X7_chance_36 (nm ?_)
      refine c_X7_chance_42 (ct_X7_brokenSet hB2) rfl (by decide) rfl (Nat.le_of_ble_eq_true rfl) (by decide) rfl (rx ?_)
      refine blk s_X7_chance_45 (nm ?_)
      refine c_X7_chance_46 (ct_X7_isIn _ (by omega)) rfl (by decide) rfl (Nat.le_of_ble_eq_true rfl) (rx ?_)
      refine blk s_X7_chance_49 (And.intro (ib hs) (nm ?_))
      rw [cl s, mb_bs1 _ hs, hBe, fl_s (by rw [b2i_n]; rfl)]
      exact en_L (by rw [nI_s]) ih
  · have hc0 : c = 0 := (nI_eq (a := c) (b := 0) (by omega) (by decide)).mp h
    refine blk s_X7_chance_25 (nm ?_)
    refine r_X7_chance_27 ?_
    rw [← hQ]
    exact ⟨by rw [if_pos hc0], rfl, fun _ _ _ => rfl⟩
def suD (D : Nat → Option Nat) : Nat := su (fun s => (D s).getD 0) 16
theorem ct_X7_mean (hB : RB I g C nx os oc) {D : Nat → Option Nat} (hD : dsO (rc (Tx g nx)) (Sx g os) 16 = D) : CN 62 RF mX7_mean 4 [.ref 39] I J (RX (some (.long (if cnN (fun s => (D s).isSome) 16 = 0 then -9223372036854775808 else nbV (suD D) (cnN (fun s => (D s).isSome) 16) 53 1023))) (faI I D) J) := by
  have hl : ∀ s d, D s = some d → d < 16 := fun s d h => by rw [← hD] at h; exact dsO_lt h
  have hc16 := cnN_le (fun s => (D s).isSome) 16
  have hsu : suD D ≤ 16 * 15 := su_le fun s _ => by
    show (D s).getD 0 ≤ 15
    cases hd : D s with
    | none => show 0 ≤ 15; omega
    | some d => have := hl s d hd; show d ≤ 15; omega
  generalize hQ : RX (some (.long (if cnN (fun s => (D s).isSome) 16 = 0 then -9223372036854775808 else nbV (suD D) (cnN (fun s => (D s).isSome) 16) 53 1023))) (faI I D) J = Q
  have hQ' : Q (some (.long (if cnN (fun s => (D s).isSome) 16 = 0 then -9223372036854775808 else nbV (suD D) (cnN (fun s => (D s).isSome) 16) 53 1023))) (faI I D) J := by rw [← hQ]; exact rxq
  clear hQ
  refine cn_of (by decide) rfl (Nat.le_of_ble_eq_true rfl) ?_
  refine blk s_X7_mean_0 (nm ?_)
  refine c_X7_mean_1 (ct_X7_findFar hB) rfl (by decide) rfl (Nat.le_of_ble_eq_true rfl) (by decide) rfl (rx ?_)
  rw [hD]
  refine blk s_X7_mean_4 (nm ?_)
  refine dn (P := fun s => EN 62 RF mX7_mean 4 10 [(0, .ref 39), (1, .int (nI (su (fun s => (D s).getD 0) s))), (2, .int (nI (cnN (fun s => (D s).isSome) s))), (3, .int (nI s))] [] (faI I D) J Q) (N := 16) (a := 0) ?_ ?_ (Nat.zero_le _)
  · refine blk s_X7_mean_10 (nm ?_)
    refine b_X7_mean_13 (fun h => ?_) (fun h => absurd (Int32.le_refl _) h)
    refine blk s_X7_mean_65 (nm ?_)
    rw [show su (fun s => (D s).getD 0) 16 = suD D from rfl]
    generalize cnN (fun s => (D s).isSome) 16 = c at *
    refine b_X7_mean_66 (fun h => ?_) (fun h => ?_)
    · have hc0 : c ≠ 0 := fun e => h (by rw [e]; rfl)
      rw [if_neg hc0] at hQ'
      refine blk s_X7_mean_75 (nm ?_)
      refine c_X7_mean_82 (ct_X7_nearestBits (F := 53) (bias := 1023) (by omega) (by omega) (by omega) (by decide) (by decide) (Nat.le_trans (Nat.mul_le_mul_right _ hc16) (by decide)) (by decide) ng53) rfl (by decide) rfl (Nat.le_of_ble_eq_true rfl) (rx ?_)
      exact r_X7_mean_85 hQ'
    · have hc0 : c = 0 := (nI_eq (a := c) (b := 0) (by omega) (by decide)).mp h
      rw [if_pos hc0] at hQ'
      refine blk s_X7_mean_69 (nm ?_)
      exact r_X7_mean_85 hQ'
  · intro s hs ih
    refine blk s_X7_mean_10 (nm ?_)
    refine b_X7_mean_13 (fun h => absurd h (nI_ge hs (by decide))) (fun h => ?_)
    refine blk s_X7_mean_16 (And.intro (ib hs) (nm ?_))
    rw [cl s, faI_48 hs]
    cases hd : D s with
    | none =>
      refine b_X7_mean_25 (fun h => absurd rfl h) (fun h => ?_)
      refine blk s_X7_mean_28 (nm ?_)
      refine blk s_X7_mean_38 (And.intro (ib hs) (nm ?_))
      rw [cl s, faI_48 hs, hd]
      refine b_X7_mean_49 (fun h => absurd rfl h) (fun h => ?_)
      refine blk s_X7_mean_52 (nm ?_)
      refine blk s_X7_mean_57 (nm ?_)
      refine en_L ?_ ih
      rw [nI_s, show (0 : Int32) = nI 0 from rfl, nI_add, nI_add]
      show _ = [(0, Value.ref 39), (1, .int (nI (su (fun s => (D s).getD 0) s + (D s).getD 0))), (2, .int (nI (cnN (fun s => (D s).isSome) s + (if (D s).isSome = true then 1 else 0)))), (3, .int (nI (s + 1)))]
      rw [hd]; rfl
    | some d =>
      have hd16 := hl s d hd
      refine b_X7_mean_25 (fun h => ?_) (fun h => absurd h (o2i_ne (by omega)))
      refine blk s_X7_mean_32 (And.intro (ib hs) (nm ?_))
      rw [cl s, faI_48 hs, hd]
      refine blk s_X7_mean_38 (And.intro (ib hs) (nm ?_))
      rw [cl s, faI_48 hs, hd]
      refine b_X7_mean_49 (fun h => ?_) (fun h => absurd h (o2i_ne (by omega)))
      refine blk s_X7_mean_56 (nm ?_)
      refine blk s_X7_mean_57 (nm ?_)
      refine en_L ?_ ih
      rw [nI_s, show o2i (some d) = nI d from rfl, nI_add, show (1 : Int32) = nI 1 from rfl, nI_add]
      show _ = [(0, Value.ref 39), (1, .int (nI (su (fun s => (D s).getD 0) s + (D s).getD 0))), (2, .int (nI (cnN (fun s => (D s).isSome) s + (if (D s).isSome = true then 1 else 0)))), (3, .int (nI (s + 1)))]
      rw [hd]; rfl
end MOD9
