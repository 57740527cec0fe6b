/-! THE REFERENCE: findChain -/
section MOD8
variable {I : IT} {J : JT} {g : JT} {C : Nat} {nx : Nat → Option Nat} {os oc : Option Nat} {A : Nat → Bool}
def FcQ (T : Nat → Nat → Nat) (I : IT) (J : JT) (k : Nat) (res : Option (Nat × List Nat)) : IQ := fun r I' J' =>
  r = some (.int (b2i res.isSome)) ∧ J' = J ∧ (∀ o, o ≠ 39 → o ≠ 53 → o ≠ 54 → o ≠ 55 → I' o = I o) ∧ (∀ m, m ≠ 22 → m ≠ 23 → I' 39 m = I 39 m) ∧ ∀ c, res = some c → DS T I' 0 k c.1 c.2
theorem ct_X7_findChain (hB : RB I g C nx os oc) (hA : RA I A) {k : Nat} (hk : k ≤ 8) : CN 62 RF mX7_findChain 4 [.ref 39, .int (nI k)] I J (FcQ (Tx g nx) I J k (fcO (Tx g nx) (fun s => A s && !Bx g oc s) (fun s => A s && Bx g oc s) k)) := by
  have hT := Tx_lt' g nx
  generalize hres : fcO (Tx g nx) (fun s => A s && !Bx g oc s) (fun s => A s && Bx g oc s) k = res
  have hres' : fsN (fcC (Tx g nx) (fun s => A s && !Bx g oc s) (fun s => A s && Bx g oc s) k) 16 = res := hres
  generalize hTe : Tx g nx = T at *
  generalize hGe : (fun s => A s && !Bx g oc s) = G at *
  generalize hLe : (fun s => A s && Bx g oc s) = L at *
  generalize hQ : FcQ T I J k res = Q
  refine cn_of (by decide) rfl (Nat.le_of_ble_eq_true rfl) ?_
  refine blk s_X7_findChain_0 (nm ?_)
  refine en_I (fl_0 (I := I) (o := 55) (g := fun m => nI (T (m / 4) (m % 4)))).symm ?_
  refine dn (P := fun s => EN 62 RF mX7_findChain 4 2 [(0, .ref 39), (1, .int (nI k)), (2, .int (nI s))] [] (fl I 55 (fun m => nI (T (m / 4) (m % 4))) (4 * s)) J Q) (N := 16) (a := 0) ?_ ?_ (Nat.zero_le _)
  · refine blk s_X7_findChain_2 (nm ?_)
    refine b_X7_findChain_5 (fun h => ?_) (fun h => absurd (Int32.le_refl _) h)
    refine blk s_X7_findChain_43 (nm ?_)
    rw [show 4 * 16 = 64 from rfl]
    generalize hI1 : fl I 55 (fun m => nI (T (m / 4) (m % 4))) 64 = I1
    have o1 : ∀ o, o ≠ 55 → I1 o = I o := fun o h => by rw [← hI1, fl_o h]
    have s1 : ∀ s r, s < 16 → r < 4 → I1 55 (4 * s + r) = nI (T s r) := fun s r hs hr => by
      rw [← hI1, fl_in (by omega), show (4 * s + r) / 4 = s by omega, show (4 * s + r) % 4 = r by omega]
    clear hI1
    have hB1 : RB I1 g C nx os oc := RB_cg hB (by rw [o1 39 (by decide)]; exact ⟨rfl, rfl, rfl⟩) (o1 46 (by decide)) (o1 47 (by decide))
    have hA1 : RA I1 A := RA_cg hA (by rw [o1 39 (by decide)]) (o1 51 (by decide))
    refine c_X7_findChain_45 (ct_X7_goodSet hB1 hA1) rfl (by decide) rfl (Nat.le_of_ble_eq_true rfl) (by decide) rfl (rx ?_)
    rw [hGe]
    refine blk s_X7_findChain_48 (nm ?_)
    have hB2 : RB (up2 I1 39 22 (bs G)) g C nx os oc := RB_cg hB1 ⟨up2_k (by decide), up2_k (by decide), up2_k (by decide)⟩ (up2_o (by decide)) (up2_o (by decide))
    have hA2 : RA (up2 I1 39 22 (bs G)) A := RA_cg hA1 (up2_k (by decide)) (up2_o (by decide))
    refine c_X7_findChain_53 (ct_X7_lastSet hB2 hA2) rfl (by decide) rfl (Nat.le_of_ble_eq_true rfl) (by decide) rfl (rx ?_)
    rw [hLe]
    refine blk s_X7_findChain_56 (nm ?_)
    generalize hI2 : up2 (up2 I1 39 22 (bs G)) 39 23 (bs L) = I2
    have o2 : ∀ o, o ≠ 39 → o ≠ 55 → I2 o = I o := fun o h h5 => by rw [← hI2, up2_o h, up2_o h, o1 o h5]
    have k2 : ∀ m, m ≠ 22 → m ≠ 23 → I2 39 m = I 39 m := fun m h2 h3 => by rw [← hI2, up2_k h3, up2_k h2, o1 39 (by decide)]
    have d2 : DI I2 T G L := by
      unfold DI
      rw [← hI2]
      refine ⟨by rw [up2_k (by decide), up2_s], up2_s, fun s r hs hr => ?_⟩
      rw [up2_o (by decide), up2_o (by decide)]; exact s1 s r hs hr
    clear hI2
    have key : ∀ s, s ≤ 16 → ∀ I3, (∀ o, o ≠ 53 → o ≠ 54 → I3 o = I2 o) → (∀ s', s' < s → fcC T G L k s' = none) → EN 62 RF mX7_findChain 4 61 [(0, .ref 39), (1, .int (nI k)), (2, .int (nI s))] [] I3 J Q := by
      intro s hs
      refine dn (P := fun s => ∀ I3, (∀ o, o ≠ 53 → o ≠ 54 → I3 o = I2 o) → (∀ s', s' < s → fcC T G L k s' = none) → EN 62 RF mX7_findChain 4 61 [(0, .ref 39), (1, .int (nI k)), (2, .int (nI s))] [] I3 J Q) (N := 16) ?_ ?_ hs
      · intro I3 f3 hn
        refine blk s_X7_findChain_61 (nm ?_)
        refine b_X7_findChain_64 (fun h => ?_) (fun h => absurd (Int32.le_refl _) h)
        refine blk s_X7_findChain_113 (nm ?_)
        have : res = none := by rw [← hres']; exact fsN_none hn
        refine r_X7_findChain_114 (Or.inl rfl) ?_
        rw [← hQ, this]
        exact ⟨rfl, rfl, fun o h1 h2 h3 h4 => by rw [f3 o h2 h3, o2 o h1 h4], fun m h1 h2 => by rw [f3 39 (by decide) (by decide), k2 m h1 h2], fun c h => by cases h⟩
      · intro s hs ih I3 f3 hn
        refine blk s_X7_findChain_61 (nm ?_)
        refine b_X7_findChain_64 (fun h => absurd h (nI_ge hs (by decide))) (fun h => ?_)
        refine blk s_X7_findChain_67 (And.intro (by unfold vp_in; decide) (nm ?_))
        rw [show Int32.toNatClampNeg 0 = 0 from rfl]
        generalize hI4 : up2 I3 53 0 (nI s) = I4
        have f4 : ∀ o, o ≠ 53 → o ≠ 54 → I4 o = I2 o := fun o h1 h2 => by rw [← hI4, up2_o h1, f3 o h1 h2]
        have h53 : I4 53 0 = nI s := by rw [← hI4, up2_s]
        clear hI4
        have d4 : DI I4 T G L := by unfold DI; rw [f4 39 (by decide) (by decide), f4 55 (by decide) (by decide)]; exact d2
        have next : fcC T G L k s = none → ∀ I5, (∀ o, o ≠ 53 → o ≠ 54 → I5 o = I2 o) → EN 62 RF mX7_findChain 4 107 [(0, .ref 39), (1, .int (nI k)), (2, .int (nI s))] [] I5 J Q := by
          intro hc I5 f5
          refine blk s_X7_findChain_107 (nm ?_)
          refine en_L (by rw [nI_s]) (ih I5 f5 fun s' hs' => ?_)
          by_cases e : s' = s
          · rw [e]; exact hc
          · exact hn s' (by omega)
        have set : ∀ x : Int32, x = bs (okS G L k) → EN 62 RF mX7_findChain 4 89 [(0, .ref 39), (1, .int (nI k)), (2, .int (nI s))] [.int x] I4 J Q := by
          intro x hx
          subst hx
          refine blk s_X7_findChain_89 (nm ?_)
          refine c_X7_findChain_90 (ct_X7_isIn _ (by omega)) rfl (by decide) rfl (Nat.le_of_ble_eq_true rfl) (rx ?_)
          refine blk s_X7_findChain_93 (nm ?_)
          rw [mb_bs1 _ hs]
          refine b_X7_findChain_94 (fun h => ?_) (fun h => ?_)
          · refine next ?_ I4 f4
            unfold fcC; rw [bf h]
          · refine blk s_X7_findChain_97 (nm ?_)
            refine c_X7_findChain_99 (ct_X7_extend hT hk d4 hs h53) rfl (by decide) rfl (Nat.le_of_ble_eq_true rfl) (by decide) rfl (fun rv I' J' hq => ?_)
            obtain ⟨q1, q2, q3, q4⟩ := hq
            subst q1 q2
            have f5 : ∀ o, o ≠ 53 → o ≠ 54 → I' o = I2 o := fun o h1 h2 => by rw [q3 o h1 h2, f4 o h1 h2]
            cases hch : chO T G L k (fun x => decide (x = s)) s with
            | none =>
              refine b_X7_findChain_102 (fun h2 => ?_) (fun h2 => absurd rfl h2)
              refine next ?_ I' f5
              unfold fcC; rw [bt h, hch]; rfl
            | some rows =>
              refine b_X7_findChain_102 (fun h2 => absurd h2 (show ¬ (1 : Int32) = 0 by decide)) (fun h2 => ?_)
              refine blk s_X7_findChain_105 (nm ?_)
              have hf : fcC T G L k s = some (s, rows) := by unfold fcC; rw [bt h, hch]; rfl
              have : res = some (s, rows) := by rw [← hres']; exact fsN_first hn hf hs
              refine r_X7_findChain_106 (Or.inr rfl) ?_
              rw [← hQ, this]
              refine ⟨rfl, rfl, fun o h1 h2 h3 h4 => by rw [f5 o h2 h3, o2 o h1 h4], fun m h1 h2 => by rw [f5 39 (by decide) (by decide), k2 m h1 h2], fun c h => ?_⟩
              cases h
              exact q4 rows hch
        rcases Nat.eq_zero_or_pos k with hk0 | hk0
        · subst hk0
          refine b_X7_findChain_75 (fun h => absurd rfl h) (fun h => ?_)
          refine blk s_X7_findChain_78 (nm ?_)
          rw [d4.2.1]
          exact set _ rfl
        · obtain ⟨k', rfl⟩ : ∃ k', k = k' + 1 := ⟨k - 1, by omega⟩
          refine b_X7_findChain_75 (fun h => ?_) (fun h => absurd ((nI_eq (a := k' + 1) (b := 0) (by omega) (by decide)).mp h) (by omega))
          refine blk s_X7_findChain_85 (nm ?_)
          rw [d4.1]
          exact set _ rfl
    exact key 0 (by omega) I2 (fun _ _ _ => rfl) (fun s' h => absurd h (by omega))
  · intro s hs ih
    refine blk s_X7_findChain_2 (nm ?_)
    refine b_X7_findChain_5 (fun h => absurd h (nI_ge hs (by decide))) (fun h => ?_)
    refine blk s_X7_findChain_8 (nm ?_)
    refine dn (P := fun r => EN 62 RF mX7_findChain 4 10 [(0, .ref 39), (1, .int (nI k)), (2, .int (nI s)), (3, .int (nI r))] [] (fl I 55 (fun m => nI (T (m / 4) (m % 4))) (4 * s + r)) J Q) (N := 4) (a := 0) ?_ ?_ (Nat.zero_le _)
    · refine blk s_X7_findChain_10 (nm ?_)
      refine b_X7_findChain_12 (fun h => ?_) (fun h => absurd (Int32.le_refl _) h)
      refine blk s_X7_findChain_37 (nm ?_)
      exact wkt 3 (en_L (by rw [nI_s]; rfl) ih)
    · intro r hr ih2
      refine blk s_X7_findChain_10 (nm ?_)
      refine b_X7_findChain_12 (fun h => absurd h (nI_ge hr (by decide))) (fun h => ?_)
      refine blk s_X7_findChain_15 (nm ?_)
      have e4 : (4 : Int32) * nI s + nI r = nI (4 * s + r) := by rw [show (4 : Int32) = nI 4 from rfl, nI_mul, nI_add]
      rw [e4]
      have hB1 : RB (fl I 55 (fun m => nI (T (m / 4) (m % 4))) (4 * s + r)) g C nx os oc := RB_cg hB (by rw [fl_o (by decide)]; exact ⟨rfl, rfl, rfl⟩) (fl_o (by decide)) (fl_o (by decide))
      refine c_X7_findChain_27 (ct_X7_stepOf hB1 hs hr) rfl (by decide) rfl (Nat.le_of_ble_eq_true rfl) (by decide) rfl (rx ?_)
      rw [hTe]
      refine blk s_X7_findChain_30 (And.intro (ib (show 4 * s + r < 64 by omega)) (nm ?_))
      rw [cl (4 * s + r), fl_s (by rw [show (4 * s + r) / 4 = s by omega, show (4 * s + r) % 4 = r by omega])]
      exact en_L (by rw [nI_s]) ih2
end MOD8
