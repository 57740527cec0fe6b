/-! THE REFERENCE: lemmas' sets, the weak states, fitting -/
section MOD4
variable {I : IT} {J : JT} {g : JT} {C : Nat} {nx : Nat → Option Nat} {os oc : Option Nat} {A : Nat → Bool}
/-- A: the states that are in all lemmas -/
def RA (I : IT) (A : Nat → Bool) : Prop := ∃ K : Nat, K ≤ 8 ∧ I 39 16 = nI K ∧ bs A = bs (fun s => alN (fun k => mb (I 51 k) s) K)
theorem RA_cg {I I' : IT} {A : Nat → Bool} (h : RA I A) (h1 : I' 39 16 = I 39 16) (h2 : I' 51 = I 51) : RA I' A := by
  unfold RA; rw [h1, h2]; exact h
theorem ct_X7_inAll (hA : RA I A) : CN 62 RF mX7_inAll 0 [.ref 39] I J (RX (some (.int (bs A))) I J) := by
  obtain ⟨K, hK8, hK, hAe⟩ := hA
  rw [hAe]
  generalize hQ : RX (some (.int (bs (fun s => alN (fun k => mb (I 51 k) s) K)))) I J = Q
  have hQ' : Q (some (.int (bs (fun s => alN (fun k => mb (I 51 k) s) K)))) I J := by rw [← hQ]; exact rxq
  clear hQ
  refine cn_of (by decide) rfl (Nat.le_of_ble_eq_true rfl) ?_
  refine blk s_X7_inAll_0 (nm ?_)
  have e0 : (65535 : Int32) = bs (fun s => alN (fun k => mb (I 51 k) s) 0) := all_bs
  refine en_L (show _ = [(0, .ref 39), (1, .int (bs (fun s => alN (fun k => mb (I 51 k) s) 0))), (2, .int (nI 0))] from by rw [← e0]; rfl) ?_
  refine dn (P := fun m => EN 62 RF mX7_inAll 0 5 [(0, .ref 39), (1, .int (bs (fun s => alN (fun k => mb (I 51 k) s) m))), (2, .int (nI m))] [] I J Q) (N := K) (a := 0) ?_ ?_ (Nat.zero_le _)
  · refine blk s_X7_inAll_5 (nm ?_)
    rw [hK]
    refine b_X7_inAll_10 (fun h => ?_) (fun h => absurd (Int32.le_refl _) h)
    refine blk s_X7_inAll_28 (nm ?_)
    exact r_X7_inAll_29 hQ'
  · intro k hk ih
    refine blk s_X7_inAll_5 (nm ?_)
    rw [hK]
    refine b_X7_inAll_10 (fun h => absurd h (nI_ge hk (by omega))) (fun h => ?_)
    refine blk s_X7_inAll_13 (And.intro (ib (show k < 8 by omega)) (nm ?_))
    rw [cl k, bs_alN_s (I 51) k]
    exact en_L (by rw [nI_s]) ih
theorem ct_X7_goodSet (hB : RB I g C nx os oc) (hA : RA I A) : CN 62 RF mX7_goodSet 3 [.ref 39] I J (RX (some (.int (bs (fun s => A s && !Bx g oc s)))) I J) := by
  refine cn_of (by decide) rfl (Nat.le_of_ble_eq_true rfl) ?_
  refine blk s_X7_goodSet_0 (nm ?_)
  refine c_X7_goodSet_1 (ct_X7_inAll hA) rfl (by decide) rfl (Nat.le_of_ble_eq_true rfl) (by decide) rfl (rx ?_)
  refine blk s_X7_goodSet_4 (nm ?_)
  refine c_X7_goodSet_5 (ct_X7_brokenSet hB) rfl (by decide) rfl (Nat.le_of_ble_eq_true rfl) (by decide) rfl (rx ?_)
  refine blk s_X7_goodSet_8 (nm ?_)
  rw [bs_diff]
  exact r_X7_goodSet_11 rxq
theorem ct_X7_lastSet (hB : RB I g C nx os oc) (hA : RA I A) : CN 62 RF mX7_lastSet 3 [.ref 39] I J (RX (some (.int (bs (fun s => A s && Bx g oc s)))) I J) := by
  refine cn_of (by decide) rfl (Nat.le_of_ble_eq_true rfl) ?_
  refine blk s_X7_lastSet_0 (nm ?_)
  refine c_X7_lastSet_1 (ct_X7_inAll hA) rfl (by decide) rfl (Nat.le_of_ble_eq_true rfl) (by decide) rfl (rx ?_)
  refine blk s_X7_lastSet_4 (nm ?_)
  refine c_X7_lastSet_5 (ct_X7_brokenSet hB) rfl (by decide) rfl (Nat.le_of_ble_eq_true rfl) (by decide) rfl (rx ?_)
  refine blk s_X7_lastSet_8 (nm ?_)
  rw [bs_and]
  exact r_X7_lastSet_9 rxq
theorem so_rc {T : Nat → Nat → Nat} (hT : ∀ s r, s < 16 → r < 4 → T s r < 16) (p : Nat → Bool) {s : Nat} (hs : s < 16) : so (rc T) p s = anN (fun r => p (T s r)) 4 := by
  refine beq_of_iff ⟨fun h => ?_, fun h => ?_⟩
  · obtain ⟨t, ht, h2⟩ := anN_iff.mp h
    have h3 := Bool.and_eq_true_iff.mp h2
    obtain ⟨r, hr, h4⟩ := anN_iff.mp h3.1
    exact anN_iff.mpr ⟨r, hr, by rw [of_decide_eq_true h4]; exact h3.2⟩
  · obtain ⟨r, hr, h2⟩ := anN_iff.mp h
    exact anN_iff.mpr ⟨T s r, hT s r hs hr, Bool.and_eq_true_iff.mpr ⟨anN_iff.mpr ⟨r, hr, decide_eq_true rfl⟩, h2⟩⟩
theorem anN_and (b : Bool) (p : Nat → Bool) : ∀ n, anN (fun r => b && p r) n = (b && anN p n)
  | 0 => (Bool.and_false b).symm
  | n + 1 => by show (anN (fun r => b && p r) n || (b && p n)) = (b && (anN p n || p n)); rw [anN_and b p n]; cases b <;> simp
theorem bt {b : Bool} (h : b2i b = 1) : b = true := (b2i_1 b).mp h
theorem bf {b : Bool} (h : ¬ b2i b = 1) : b = false := by cases b; rfl; exact absurd rfl h
theorem ct_X7_weakSet (hB : RB I g C nx os oc) (hA : RA I A) : CN 62 RF mX7_weakSet 4 [.ref 39] I J (RX (some (.int (bs (wkP (rc (Tx g nx)) A (Bx g oc))))) I J) := by
  generalize hBx : Bx g oc = B
  generalize hp : wkP (rc (Tx g nx)) A B = p
  have hp' : ∀ s, s < 16 → anN (fun r => (A s && !B s) && (A (Tx g nx s r) && B (Tx g nx s r))) 4 = p s := fun s hs => by
    rw [← hp, anN_and]; unfold wkP; rw [so_rc (Tx_lt' g nx) _ hs]
  generalize hQ : RX (some (.int (bs p))) I J = Q
  have hQ' : Q (some (.int (bs p))) I J := by rw [← hQ]; exact rxq
  clear hQ
  refine cn_of (by decide) rfl (Nat.le_of_ble_eq_true rfl) ?_
  refine blk s_X7_weakSet_0 (nm ?_)
  refine dn (P := fun k => EN 62 RF mX7_weakSet 4 4 [(0, .ref 39), (1, .int (bsN p k)), (2, .int (nI k))] [] I J Q) (N := 16) ?_ ?_ (Nat.zero_le _)
  · refine blk s_X7_weakSet_4 (nm ?_)
    refine b_X7_weakSet_7 (fun h => ?_) (fun h => absurd (Int32.le_refl _) h)
    refine blk s_X7_weakSet_80 (nm ?_)
    exact r_X7_weakSet_81 hQ'
  · intro k hk ih
    refine blk s_X7_weakSet_4 (nm ?_)
    refine b_X7_weakSet_7 (fun h => absurd h (nI_ge hk (by decide))) (fun h => ?_)
    refine blk s_X7_weakSet_10 (nm ?_)
    generalize hq : (fun r => (A k && !B k) && (A (Tx g nx k r) && B (Tx g nx k r))) = q
    have hq' : ∀ r, ((A k && !B k) && (A (Tx g nx k r) && B (Tx g nx k r))) = q r := fun r => by rw [← hq]
    have hpk : anN q 4 = p k := by rw [← hq]; exact hp' k hk
    refine en_L (show _ = [(0, .ref 39), (1, .int (bsN p k ||| bv (anN q 0) k)), (2, .int (nI k)), (3, .int (nI 0))] from by rw [show bv (anN q 0) k = 0 from rfl, i32_or0]; rfl) ?_
    refine dn (P := fun r => EN 62 RF mX7_weakSet 4 12 [(0, .ref 39), (1, .int (bsN p k ||| bv (anN q r) k)), (2, .int (nI k)), (3, .int (nI r))] [] I J Q) (N := 4) (a := 0) ?_ ?_ (Nat.zero_le _)
    · refine blk s_X7_weakSet_12 (nm ?_)
      refine b_X7_weakSet_14 (fun h => ?_) (fun h => absurd (Int32.le_refl _) h)
      refine blk s_X7_weakSet_74 (nm ?_)
      refine wkt 3 (en_L ?_ ih)
      rw [nI_s, hpk, bsN_v]; rfl
    · intro r hr ih2
      refine blk s_X7_weakSet_12 (nm ?_)
      refine b_X7_weakSet_14 (fun h => absurd h (nI_ge hr (by decide))) (fun h => ?_)
      refine blk s_X7_weakSet_17 (nm ?_)
      refine c_X7_weakSet_18 (ct_X7_goodSet hB hA) rfl (by decide) rfl (Nat.le_of_ble_eq_true rfl) (by decide) rfl (rx ?_)
      refine blk s_X7_weakSet_21 (nm ?_)
      refine c_X7_weakSet_22 (ct_X7_isIn _ (by omega)) rfl (by decide) rfl (Nat.le_of_ble_eq_true rfl) (rx ?_)
      refine blk s_X7_weakSet_25 (nm ?_)
      rw [mb_bs1 _ hk, hBx]
      have hT := Tx_lt g nx k r
      have back : ∀ b : Bool, b = q r → EN 62 RF mX7_weakSet 4 51 [(0, .ref 39), (1, .int (bsN p k ||| bv (anN q r) k)), (2, .int (nI k)), (3, .int (nI r))] [.int (b2i b)] I J Q := by
        intro b hb
        subst hb
        refine blk s_X7_weakSet_51 (nm ?_)
        have back2 : ∀ y : Int32, y = bv (q r) k → EN 62 RF mX7_weakSet 4 66 [(0, .ref 39), (1, .int (bsN p k ||| bv (anN q r) k)), (2, .int (nI k)), (3, .int (nI r)), (4, .int (b2i (q r)))] [.int y, .int (bsN p k ||| bv (anN q r) k)] I J Q := by
          intro y hy
          subst hy
          refine blk s_X7_weakSet_66 (nm ?_)
          exact wkt 4 (en_L (by rw [nI_s, i32_oras, bv_or]; rfl) ih2)
        refine b_X7_weakSet_56 (fun h => ?_) (fun h => ?_)
        · refine blk s_X7_weakSet_65 (nm ?_)
          exact back2 _ (by rw [(b2i_0 _).mp h]; rfl)
        · refine blk s_X7_weakSet_59 (nm ?_)
          exact back2 _ (by rw [b2t h]; rfl)
      refine b_X7_weakSet_26 (fun h => ?_) (fun h => ?_)
      · refine blk s_X7_weakSet_50 (nm ?_)
        refine back false ?_
        rw [← hq' r, bf h, Bool.false_and]
      · refine blk s_X7_weakSet_29 (nm ?_)
        refine c_X7_weakSet_30 (ct_X7_lastSet hB hA) rfl (by decide) rfl (Nat.le_of_ble_eq_true rfl) (by decide) rfl (rx ?_)
        refine blk s_X7_weakSet_33 (nm ?_)
        refine c_X7_weakSet_36 (ct_X7_stepOf hB hk hr) rfl (by decide) rfl (Nat.le_of_ble_eq_true rfl) (by decide) rfl (rx ?_)
        refine c_X7_weakSet_39 (ct_X7_isIn _ (show Tx g nx k r < 32 by omega)) rfl (by decide) rfl (Nat.le_of_ble_eq_true rfl) (rx ?_)
        refine blk s_X7_weakSet_42 (nm ?_)
        rw [mb_bs1 _ hT, hBx]
        refine b_X7_weakSet_43 (fun h2 => ?_) (fun h2 => ?_)
        · refine blk s_X7_weakSet_50 (nm ?_)
          refine back false ?_
          rw [← hq' r, bf h2, Bool.and_false]
        · refine blk s_X7_weakSet_46 (nm ?_)
          refine back true ?_
          rw [← hq' r, bt h, bt h2]; rfl
theorem ft_alt {T : Nat → Nat → Nat} (hT : ∀ s r, s < 16 → r < 4 → T s r < 16) (G p : Nat → Bool) : alN (fun t => !(im (rc T) (fun s => G s && p s) t) || p t) 16 = alN (fun s => !(G s && p s) || alN (fun r => p (T s r)) 4) 16 := by
  refine beq_of_iff ⟨fun h => alN_iff.mpr fun s hs => ?_, fun h => alN_iff.mpr fun t ht => ?_⟩
  · have h1 := alN_iff.mp h
    cases hg : (G s && p s)
    · rfl
    · show alN (fun r => p (T s r)) 4 = true
      refine alN_iff.mpr fun r hr => ?_
      have h2 := h1 (T s r) (hT s r hs hr)
      have h3 : im (rc T) (fun s => G s && p s) (T s r) = true := anN_iff.mpr ⟨s, hs, by
        show ((G s && p s) && rc T s (T s r)) = true
        rw [hg, Bool.true_and]
        exact anN_iff.mpr ⟨r, hr, decide_eq_true rfl⟩⟩
      rw [h3] at h2
      exact h2
  · have h1 := alN_iff.mp h
    cases hi : im (rc T) (fun s => G s && p s) t
    · rfl
    · show p t = true
      obtain ⟨s, hs, h2⟩ := anN_iff.mp hi
      have h3 := Bool.and_eq_true_iff.mp h2
      obtain ⟨r, hr, h4⟩ := anN_iff.mp h3.2
      have h5 := h1 s hs
      have h6 : (!(G s && p s) || alN (fun r => p (T s r)) 4) = true := h5
      rw [show (G s && p s) = true from h3.1] at h6
      have h7 := alN_iff.mp (show alN (fun r => p (T s r)) 4 = true from h6) r hr
      rw [← of_decide_eq_true h4]; exact h7
theorem alN_false {p : Nat → Bool} : ∀ {m n : Nat}, m ≤ n → alN p m = false → alN p n = false := by
  intro m n hmn h
  cases hn : alN p n
  · rfl
  · have := alN_iff.mp hn
    have h2 : alN p m = true := alN_iff.mpr fun k hk => this k (by omega)
    rw [h2] at h; cases h
theorem ct_X7_isFit (hB : RB I g C nx os oc) (hA : RA I A) (x : Int32) : CN 62 RF mX7_isFit 4 [.ref 39, .int x] I J (RX (some (.int (b2i (ftB (rc (Tx g nx)) (Sx g os) (fun s => A s && !Bx g oc s) (mb x))))) I J) := by
  generalize hfs : (fun s => !((A s && !Bx g oc s) && mb x s) || alN (fun r => mb x (Tx g nx s r)) 4) = fs
  have hfs' : ∀ s, (!((A s && !Bx g oc s) && mb x s) || alN (fun r => mb x (Tx g nx s r)) 4) = fs s := fun s => by rw [← hfs]
  have hft : ftB (rc (Tx g nx)) (Sx g os) (fun s => A s && !Bx g oc s) (mb x) = (alN (fun s => !Sx g os s || mb x s) 16 && alN fs 16) := by
    unfold ftB; rw [ft_alt (Tx_lt' g nx), hfs]
  rw [hft]
  generalize hok : alN (fun s => !Sx g os s || mb x s) 16 = ok
  generalize hQ : RX (some (.int (b2i (ok && alN fs 16)))) I J = Q
  have hQ' : Q (some (.int (b2i (ok && alN fs 16)))) I J := by rw [← hQ]; exact rxq
  clear hQ hft
  refine cn_of (by decide) rfl (Nat.le_of_ble_eq_true rfl) ?_
  refine blk s_X7_isFit_0 (nm ?_)
  refine c_X7_isFit_1 (ct_X7_startSet hB) rfl (by decide) rfl (Nat.le_of_ble_eq_true rfl) (by decide) rfl (rx ?_)
  refine blk s_X7_isFit_4 (nm ?_)
  have main : ∀ s, s ≤ 16 → EN 62 RF mX7_isFit 4 19 [(0, .ref 39), (1, .int x), (2, .int (b2i (ok && alN fs s))), (3, .int (nI s))] [] I J Q := by
    intro s hs
    refine dn (P := fun s => EN 62 RF mX7_isFit 4 19 [(0, .ref 39), (1, .int x), (2, .int (b2i (ok && alN fs s))), (3, .int (nI s))] [] I J Q) (N := 16) ?_ ?_ hs
    · refine blk s_X7_isFit_19 (nm ?_)
      refine b_X7_isFit_22 (fun h => ?_) (fun h => absurd (Int32.le_refl _) h)
      refine blk s_X7_isFit_89 (nm ?_)
      exact r_X7_isFit_90 (b2i_z _) hQ'
    · intro s hs ih
      refine blk s_X7_isFit_19 (nm ?_)
      refine b_X7_isFit_22 (fun h => absurd h (nI_ge hs (by decide))) (fun h => ?_)
      refine blk s_X7_isFit_25 (nm ?_)
      refine b_X7_isFit_26 (fun h => ?_) (fun h => ?_)
      · refine blk s_X7_isFit_89 (nm ?_)
        have h0 := (b2i_0 _).mp h
        have h1 : (ok && alN fs 16) = false := by
          cases hk : ok
          · rfl
          · rw [hk, Bool.true_and] at h0
            rw [Bool.true_and]; exact alN_false (by omega) h0
        rw [h1] at hQ'
        rw [h0]
        exact r_X7_isFit_90 (b2i_z _) hQ'
      · have hoks := b2t h
        rw [hoks]
        refine blk s_X7_isFit_29 (nm ?_)
        have out : ∀ (b : Bool) (r : Nat), b = fs s → EN 62 RF mX7_isFit 4 83 [(0, .ref 39), (1, .int x), (2, .int (b2i b)), (3, .int (nI s)), (4, .int (nI r))] [] I J Q := by
          intro b r hb
          refine blk s_X7_isFit_83 (nm ?_)
          refine wkt 4 (en_L ?_ ih)
          rw [nI_s, hb]
          show _ = [(0, Value.ref 39), (1, .int x), (2, .int (b2i (ok && (alN fs s && fs s)))), (3, .int (nI (s + 1)))]
          rw [← Bool.and_assoc, hoks, Bool.true_and]; rfl
        have cond : ∀ (b : Bool) (r : Nat), r < 4 → EN 62 RF mX7_isFit 4 49 [(0, .ref 39), (1, .int x), (2, .int (b2i b)), (3, .int (nI s)), (4, .int (nI r))] [.int 1, .int (b2i ((A s && !Bx g oc s) && mb x s))] I J Q → EN 62 RF mX7_isFit 4 32 [(0, .ref 39), (1, .int x), (2, .int (b2i b)), (3, .int (nI s)), (4, .int (nI r))] [] I J Q := by
          intro b r hr hk
          refine blk s_X7_isFit_32 (nm ?_)
          refine b_X7_isFit_35 (fun h => absurd h (nI_ge hr (by decide))) (fun h => ?_)
          refine blk s_X7_isFit_38 (nm ?_)
          refine c_X7_isFit_39 (ct_X7_goodSet hB hA) rfl (by decide) rfl (Nat.le_of_ble_eq_true rfl) (by decide) rfl (rx ?_)
          refine blk s_X7_isFit_42 (nm ?_)
          rw [bs_andx]
          refine c_X7_isFit_45 (ct_X7_isIn _ (by omega)) rfl (by decide) rfl (Nat.le_of_ble_eq_true rfl) (rx ?_)
          refine blk s_X7_isFit_48 (nm ?_)
          rw [mb_bs1 _ hs]
          exact hk
        cases hg : ((A s && !Bx g oc s) && mb x s)
        · refine cond true 0 (by decide) ?_
          rw [hg]
          refine b_X7_isFit_49 (fun h => ?_) (fun h => absurd h (by decide))
          refine out true 0 ?_
          rw [← hfs' s, hg]; rfl
        · refine dn (P := fun r => EN 62 RF mX7_isFit 4 32 [(0, .ref 39), (1, .int x), (2, .int (b2i (alN (fun r => mb x (Tx g nx s r)) r))), (3, .int (nI s)), (4, .int (nI r))] [] I J Q) (N := 4) (a := 0) ?_ ?_ (Nat.zero_le _)
          · refine blk s_X7_isFit_32 (nm ?_)
            refine b_X7_isFit_35 (fun h => ?_) (fun h => absurd (Int32.le_refl _) h)
            refine out _ 4 ?_
            rw [← hfs' s, hg]; rfl
          · intro r hr ih2
            refine cond _ r hr ?_
            rw [hg]
            refine b_X7_isFit_49 (fun h => absurd rfl h) (fun h => ?_)
            refine blk s_X7_isFit_52 (nm ?_)
            have hT := Tx_lt g nx s r
            have back : ∀ b : Bool, b = alN (fun r => mb x (Tx g nx s r)) (r + 1) → EN 62 RF mX7_isFit 4 76 [(0, .ref 39), (1, .int x), (2, .int (b2i (alN (fun r => mb x (Tx g nx s r)) r))), (3, .int (nI s)), (4, .int (nI r))] [.int (b2i b)] I J Q := by
              intro b hb
              subst hb
              refine blk s_X7_isFit_76 (nm ?_)
              exact en_L (by rw [nI_s]) ih2
            refine b_X7_isFit_53 (fun h => ?_) (fun h => ?_)
            · refine blk s_X7_isFit_75 (nm ?_)
              refine back false ?_
              show false = (alN (fun r => mb x (Tx g nx s r)) r && mb x (Tx g nx s r))
              rw [(b2i_0 _).mp h]; rfl
            · refine blk s_X7_isFit_56 (nm ?_)
              refine c_X7_isFit_61 (ct_X7_stepOf hB hs hr) rfl (by decide) rfl (Nat.le_of_ble_eq_true rfl) (by decide) rfl (rx ?_)
              refine c_X7_isFit_64 (ct_X7_isIn _ (show Tx g nx s r < 32 by omega)) rfl (by decide) rfl (Nat.le_of_ble_eq_true rfl) (rx ?_)
              refine blk s_X7_isFit_67 (nm ?_)
              refine b_X7_isFit_68 (fun h2 => ?_) (fun h2 => ?_)
              · refine blk s_X7_isFit_75 (nm ?_)
                refine back false ?_
                show false = (alN (fun r => mb x (Tx g nx s r)) r && mb x (Tx g nx s r))
                rw [bf h2, Bool.and_false]
              · refine blk s_X7_isFit_71 (nm ?_)
                refine back true ?_
                show true = (alN (fun r => mb x (Tx g nx s r)) r && mb x (Tx g nx s r))
                rw [bt h2, b2t h]; rfl
  refine b_X7_isFit_8 (fun h => ?_) (fun h => ?_)
  · refine blk s_X7_isFit_15 (nm ?_)
    refine blk s_X7_isFit_16 (nm ?_)
    have : ok = false := by
      cases hk : ok
      · rfl
      · exact absurd ((diff0 _ _).mpr (by rw [hok, hk])) h
    refine en_L ?_ (main 0 (by omega))
    rw [this]; rfl
  · refine blk s_X7_isFit_11 (nm ?_)
    refine blk s_X7_isFit_16 (nm ?_)
    have : ok = true := by rw [← hok]; exact (diff0 _ _).mp h
    refine en_L ?_ (main 0 (by omega))
    rw [this]; rfl
theorem ou_alt : ∀ s, s < 16 → ∀ a, a < 16 → ∀ s0, s0 < 16 → decide (¬ (s &&& a) = (s0 &&& a)) = ouP a s0 s := by decide +kernel
theorem ct_X7_outside {a s0 : Nat} (ha : a < 16) (hs0 : s0 < 16) : CN 62 RF mX7_outside 0 [.int (nI a), .int (nI (s0 &&& a))] I J (RX (some (.int (bs (ouP a s0)))) I J) := by
  generalize hp : ouP a s0 = p
  have hp' : ∀ s, s < 16 → decide (¬ (s &&& a) = (s0 &&& a)) = p s := fun s hs => by rw [← hp]; exact ou_alt s hs a ha s0 hs0
  generalize hQ : RX (some (.int (bs p))) I J = Q
  have hQ' : Q (some (.int (bs p))) I J := by rw [← hQ]; exact rxq
  clear hQ
  have hv := and_lt16 s0 hs0 a ha
  refine cn_of (by decide) rfl (Nat.le_of_ble_eq_true rfl) ?_
  refine blk s_X7_outside_0 (nm ?_)
  refine dn (P := fun k => EN 62 RF mX7_outside 0 4 [(0, .int (nI a)), (1, .int (nI (s0 &&& a))), (2, .int (bsN p k)), (3, .int (nI k))] [] I J Q) (N := 16) ?_ ?_ (Nat.zero_le _)
  · refine blk s_X7_outside_4 (nm ?_)
    refine b_X7_outside_7 (fun h => ?_) (fun h => absurd (Int32.le_refl _) h)
    refine blk s_X7_outside_33 (nm ?_)
    exact r_X7_outside_34 hQ'
  · intro k hk ih
    refine blk s_X7_outside_4 (nm ?_)
    refine b_X7_outside_7 (fun h => absurd h (nI_ge hk (by decide))) (fun h => ?_)
    refine blk s_X7_outside_10 (nm ?_)
    rw [nI_and16 k hk a ha]
    have hka := and_lt16 k hk a ha
    have back : ∀ y : Int32, y = bv (p k) k → EN 62 RF mX7_outside 0 25 [(0, .int (nI a)), (1, .int (nI (s0 &&& a))), (2, .int (bsN p k)), (3, .int (nI k))] [.int y, .int (bsN p k)] I J Q := by
      intro y hy
      subst hy
      refine blk s_X7_outside_25 (nm ?_)
      exact en_L (by rw [nI_s, bsN_v]) ih
    refine b_X7_outside_15 (fun h => ?_) (fun h => ?_)
    · refine blk s_X7_outside_24 (nm ?_)
      refine back _ ?_
      rw [← hp' k hk, decide_eq_false (fun hn => hn ((nI_eq (by omega) (by omega)).mp h))]; rfl
    · refine blk s_X7_outside_18 (nm ?_)
      refine back _ ?_
      rw [← hp' k hk, decide_eq_true (show ¬ (k &&& a) = (s0 &&& a) from fun e => h (by rw [e]))]; rfl
theorem ct_X7_isClear (hB : RB I g C nx os oc) (k : Int32) : CN 62 RF mX7_isClear 4 [.ref 39, .int k] I J (RX (some (.int (b2i (clB (o2i (lwX (rc (Tx g nx)) (Sx g os) (Bx g oc))) k)))) (faI I (dsO (rc (Tx g nx)) (Sx g os) 16)) J) := by
  refine cn_of (by decide) rfl (Nat.le_of_ble_eq_true rfl) ?_
  refine blk s_X7_isClear_0 (nm ?_)
  refine c_X7_isClear_1 (ct_X7_findFar hB) rfl (by decide) rfl (Nat.le_of_ble_eq_true rfl) (by decide) rfl (rx ?_)
  refine blk s_X7_isClear_4 (nm ?_)
  refine c_X7_isClear_5 (ct_X7_wayLong (faI_B hB _) (D := dsO (rc (Tx g nx)) (Sx g os) 16) (fun s hs => faI_48 hs) (fun s d h => dsO_lt h)) rfl (by decide) rfl (Nat.le_of_ble_eq_true rfl) (by decide) rfl (rx ?_)
  refine blk s_X7_isClear_8 (nm ?_)
  unfold lwX clB
  refine b_X7_isClear_12 (fun h => ?_) (fun h => ?_)
  · refine blk s_X7_isClear_20 (nm ?_)
    exact r_X7_isClear_25 (Or.inr rfl) (rz1 (by rw [decide_eq_true h]; rfl))
  · refine blk s_X7_isClear_15 (nm ?_)
    refine b_X7_isClear_17 (fun h2 => ?_) (fun h2 => ?_)
    · refine blk s_X7_isClear_24 (nm ?_)
      exact r_X7_isClear_25 (Or.inl rfl) (rz0 (by rw [decide_eq_false h, decide_eq_true h2]; rfl))
    · refine blk s_X7_isClear_20 (nm ?_)
      exact r_X7_isClear_25 (Or.inr rfl) (rz1 (by rw [decide_eq_false h, decide_eq_false h2]; rfl))
end MOD4
