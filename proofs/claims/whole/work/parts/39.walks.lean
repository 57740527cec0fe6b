/-! WALKS, and the numbers nearest to a share (the first four rows: out of the kit's laws, BITS) -/
theorem wb_tb (n : Nat) : (lN n).toBitVec = BitVec.ofNat 64 n := rfl
theorem wb_inj {a b : Int64} (h : a.toBitVec = b.toBitVec) : a = b := Int64.toBitVec_inj.mp h
theorem wb_c : ∀ k, k < 64 → ((nI k).toInt64 &&& 63) = lN k := by decide +kernel
theorem wb_sm : ∀ k, k < 64 → (BitVec.ofNat 64 k).smod 64 = BitVec.ofNat 64 k := by decide +kernel
theorem wb_shl (n : Nat) {k : Nat} (hk : k < 64) : lN n <<< ((nI k).toInt64 &&& 63) = lN (n * 2 ^ k) := by
  rw [wb_c k hk]
  apply wb_inj
  rw [Int64.toBitVec_shiftLeft, wb_tb, wb_tb, wb_tb, wb_sm k hk]
  apply BitVec.eq_of_toNat_eq
  rw [BitVec.shiftLeft_eq', BitVec.toNat_shiftLeft, BitVec.toNat_ofNat, BitVec.toNat_ofNat, BitVec.toNat_ofNat, Nat.mod_eq_of_lt (show k < 2 ^ 64 by omega), Nat.shiftLeft_eq, Nat.mul_mod, Nat.mod_mod, ← Nat.mul_mod]
/-- the walks of m steps from s that meet no broken state -/
def sf (T : Nat → Nat → Nat) (B : Nat → Bool) : Nat → Nat → Nat
  | 0, s => if B s = true then 0 else 1
  | m + 1, s => if B s = true then 0 else sf T B m (T s 0) + sf T B m (T s 1) + sf T B m (T s 2) + sf T B m (T s 3)
def su (f : Nat → Nat) : Nat → Nat
  | 0 => 0
  | k + 1 => su f k + f k
theorem su_cg {f g : Nat → Nat} : ∀ {k : Nat}, (∀ j, j < k → f j = g j) → su f k = su g k
  | 0, _ => rfl
  | k + 1, h => by show su f k + f k = su g k + g k; rw [su_cg (fun j hj => h j (by omega)), h k (by omega)]
theorem fl_fl {I : IT} {o : Nat} {g h : Nat → Int32} {k m : Nat} (hk : k ≤ m) : fl (fl I o g k) o h m = fl I o h m := by
  funext a b; unfold fl
  by_cases ha : a = o
  · subst ha
    by_cases hb : b < m
    · simp [hb]
    · simp [hb]; intro h; omega
  · simp [ha]
section WLK
variable {T : Nat → Nat → Nat} {B : Nat → Bool} {I : IT} {J : JT}
theorem ct_X5_lengthen {f : Nat → Nat} (hT : TOk I T) (hB : I 11 5 = bs B) (hf : ∀ s, s < 16 → I 28 s = nI (f s)) :
    CN 62 RF mX5_lengthen 1 [.ref 26] I J (RX none (fl (fl I 27 (fun s => nI (f s)) 16) 28 (fun s => nI (if B s = true then 0 else f (T s 0) + f (T s 1) + f (T s 2) + f (T s 3))) 16) J) := by
  let g27 : Nat → Int32 := fun s => nI (f s)
  let g28 : Nat → Int32 := fun s => nI (if B s = true then 0 else f (T s 0) + f (T s 1) + f (T s 2) + f (T s 3))
  generalize hQ : RX none (fl (fl I 27 g27 16) 28 g28 16) J = Q
  have hQ' : Q none (fl (fl I 27 g27 16) 28 g28 16) J := by rw [← hQ]; exact rxq
  refine cn_of (by decide) rfl (Nat.le_of_ble_eq_true rfl) ?_
  refine blk s_X5_lengthen_0 (nm ?_)
  refine en_I (fl_0 (I := I) (o := 27) (g := g27)).symm ?_
  clear hQ
  refine dn (P := fun k => EN 62 RF mX5_lengthen 1 2 [(0, .ref 26), (1, .int (nI k))] [] (fl I 27 g27 k) J Q) (N := 16) ?_ ?_ (Nat.zero_le _)
  · refine blk s_X5_lengthen_2 (nm ?_)
    refine b_X5_lengthen_5 (fun h => ?_) (fun h => absurd (Int32.le_refl _) h)
    refine blk s_X5_lengthen_26 (nm ?_)
    generalize hX : fl I 27 g27 16 = X at *
    have x1 : ∀ o, o ≠ 27 → X o = I o := fun o h => by rw [← hX]; exact fl_o h
    have x27 : ∀ s, s < 16 → X 27 s = nI (f s) := fun s hs => by rw [← hX]; exact fl_in hs
    refine en_I (fl_0 (I := X) (o := 28) (g := g28)).symm ?_
    refine dn (P := fun k => EN 62 RF mX5_lengthen 1 28 [(0, .ref 26), (1, .int (nI k))] [] (fl X 28 g28 k) J Q) (N := 16) ?_ ?_ (Nat.zero_le _)
    · refine blk s_X5_lengthen_28 (nm ?_)
      refine b_X5_lengthen_31 (fun h => ?_) (fun h => absurd (Int32.le_refl _) h)
      exact r_X5_lengthen_100 hQ'
    · intro s hs ih
      generalize hY : fl X 28 g28 s = Y at *
      have y1 : ∀ o, o ≠ 28 → Y o = X o := fun o h => by rw [← hY]; exact fl_o h
      have fin : ∀ v, v = g28 s → EN 62 RF mX5_lengthen 1 94 [(0, .ref 26), (1, .int (nI s))] [] (up2 Y 28 s v) J Q := by
        intro v hv
        refine blk s_X5_lengthen_94 (nm ?_)
        exact en_L (by rw [nI_s]) (en_I (by rw [← hY]; exact fl_s hv) ih)
      refine blk s_X5_lengthen_28 (nm ?_)
      refine b_X5_lengthen_31 (fun h => absurd h (nI_ge hs (by decide))) (fun h => ?_)
      refine blk s_X5_lengthen_34 (And.intro (ib hs) (nm ?_))
      rw [cl s, show (up2 Y 28 s 0) 11 5 = bs B from by rw [up2_o (by decide), y1 11 (by decide), x1 11 (by decide)]; exact hB]
      refine c_X5_lengthen_49 (ct_X6_isInN (by omega) _) rfl (by decide) rfl (Nat.le_of_ble_eq_true rfl) (rx ?_)
      rw [mb_bs1 _ hs]
      refine b_X5_lengthen_52 (fun h => ?_) (fun h => ?_)
      · have hb := (b2i_0 _).mp h
        refine blk s_X5_lengthen_58 (nm ?_)
        let acc : Nat → Nat := su (fun r => f (T s r))
        refine dn (P := fun r => EN 62 RF mX5_lengthen 1 60 [(0, .ref 26), (1, .int (nI s)), (2, .int (nI r))] [] (up2 Y 28 s (nI (acc r))) J Q) (N := 4) ?_ ?_ (Nat.zero_le _)
        · refine blk s_X5_lengthen_60 (nm ?_)
          refine b_X5_lengthen_62 (fun h => ?_) (fun h => absurd (Int32.le_refl _) h)
          refine wkt 2 (fin _ ?_)
          show nI (acc 4) = nI (if B s = true then 0 else f (T s 0) + f (T s 1) + f (T s 2) + f (T s 3))
          rw [hb, if_neg (by decide)]
          congr 1
          show 0 + f (T s 0) + f (T s 1) + f (T s 2) + f (T s 3) = _
          omega
        · intro r hr ih2
          refine blk s_X5_lengthen_60 (nm ?_)
          refine b_X5_lengthen_62 (fun h => absurd h (nI_ge hr (by decide))) (fun h => ?_)
          refine blk s_X5_lengthen_65 (And.intro (ib hs) (nm ?_))
          rw [cl s, up2_s]
          refine c_X5_lengthen_82 (ct_X3_target hs hr) rfl (by decide) rfl (Nat.le_of_ble_eq_true rfl) (by decide) rfl (rx ?_)
          have ht := hT.2 s r hs hr
          rw [show (up2 Y 28 s (nI (acc r))) 13 (16 * r + s) = nI (T s r) from by rw [up2_o (by decide), y1 13 (by decide), x1 13 (by decide)]; exact hT.1 s r hs hr]
          refine blk s_X5_lengthen_85 (And.intro (ib ht) (And.intro (ib hs) (nm ?_)))
          rw [cl s, cl (T s r), show (up2 Y 28 s (nI (acc r))) 27 (T s r) = nI (f (T s r)) from by rw [up2_o (by decide), y1 27 (by decide)]; exact x27 _ ht, up2_2, nI_add]
          exact en_L (by rw [nI_s]) ih2
      · refine blk s_X5_lengthen_55 (nm ?_)
        refine fin _ ?_
        show (0 : Int32) = nI (if B s = true then 0 else _)
        rw [if_pos (b2t h)]; rfl
  · intro k hk ih
    refine blk s_X5_lengthen_2 (nm ?_)
    refine b_X5_lengthen_5 (fun h => absurd h (nI_ge hk (by decide))) (fun h => ?_)
    refine blk s_X5_lengthen_8 (And.intro (ib hk) (And.intro (ib hk) (nm ?_)))
    rw [cl k, show (fl I 27 g27 k) 28 k = nI (f k) from by rw [fl_o (by decide)]; exact hf k hk]
    exact en_L (by rw [nI_s]) (en_I (fl_s rfl) ih)
def CsQ (I : IT) (J : JT) (v : Nat) : IQ := fun r I' J' => r = some (.int (nI v)) ∧ J' = J ∧ ∀ o, o ≠ 27 → o ≠ 28 → I' o = I o
theorem ct_X5_countSafe {S : Nat → Bool} (hT : TOk I T) (hB : I 11 5 = bs B) (hS : I 11 4 = bs S) {k : Nat} (hk : k ≤ 8) :
    CN 62 RF mX5_countSafe 2 [.ref 26, .int (nI k)] I J (CsQ I J (su (fun s => if S s = true then sf T B k s else 0) 16)) := by
  generalize hQ : CsQ I J (su (fun s => if S s = true then sf T B k s else 0) 16) = Q
  refine cn_of (by decide) rfl (Nat.le_of_ble_eq_true rfl) ?_
  refine blk s_X5_countSafe_0 (nm ?_)
  let g : Nat → Int32 := fun s => nI (sf T B 0 s)
  refine en_I (fl_0 (I := I) (o := 28) (g := g)).symm ?_
  refine dn (P := fun m => EN 62 RF mX5_countSafe 2 2 [(0, .ref 26), (1, .int (nI k)), (2, .int (nI m))] [] (fl I 28 g m) J Q) (N := 16) ?_ ?_ (Nat.zero_le _)
  · refine blk s_X5_countSafe_2 (nm ?_)
    refine b_X5_countSafe_5 (fun h => ?_) (fun h => absurd (Int32.le_refl _) h)
    refine blk s_X5_countSafe_42 (nm ?_)
    have loop : ∀ m, m ≤ k → ∀ I1 : IT, (∀ o, o ≠ 27 → o ≠ 28 → I1 o = I o) → (∀ s, s < 16 → I1 28 s = nI (sf T B m s)) → EN 62 RF mX5_countSafe 2 44 [(0, .ref 26), (1, .int (nI k)), (2, .int (nI m))] [] I1 J Q := by
      intro m hm
      refine dn (P := fun m => ∀ I1 : IT, (∀ o, o ≠ 27 → o ≠ 28 → I1 o = I o) → (∀ s, s < 16 → I1 28 s = nI (sf T B m s)) → EN 62 RF mX5_countSafe 2 44 [(0, .ref 26), (1, .int (nI k)), (2, .int (nI m))] [] I1 J Q) (N := k) ?_ ?_ hm
      · intro I1 f1 f2
        refine blk s_X5_countSafe_44 (nm ?_)
        refine b_X5_countSafe_46 (fun h => ?_) (fun h => absurd (Int32.le_refl _) h)
        refine blk s_X5_countSafe_59 (nm ?_)
        let p : Nat → Nat := su (fun s => if S s = true then sf T B k s else 0)
        refine dn (P := fun s => EN 62 RF mX5_countSafe 2 63 [(0, .ref 26), (1, .int (nI k)), (2, .int (nI (p s))), (3, .int (nI s))] [] I1 J Q) (N := 16) ?_ ?_ (Nat.zero_le _)
        · refine blk s_X5_countSafe_63 (nm ?_)
          refine b_X5_countSafe_66 (fun h => ?_) (fun h => absurd (Int32.le_refl _) h)
          refine blk s_X5_countSafe_98 (nm ?_)
          refine r_X5_countSafe_99 ?_
          rw [← hQ]
          exact ⟨rfl, rfl, f1⟩
        · intro s hs ih
          have back : ∀ y, y = p (s + 1) → EN 62 RF mX5_countSafe 2 92 [(0, .ref 26), (1, .int (nI k)), (2, .int (nI y)), (3, .int (nI s))] [] I1 J Q := by
            intro y hy
            subst hy
            refine blk s_X5_countSafe_92 (nm ?_)
            exact en_L (by rw [nI_s]) ih
          refine blk s_X5_countSafe_63 (nm ?_)
          refine b_X5_countSafe_66 (fun h => absurd h (nI_ge hs (by decide))) (fun h => ?_)
          refine blk s_X5_countSafe_69 (nm ?_)
          rw [show I1 11 4 = bs S from by rw [f1 11 (by decide) (by decide)]; exact hS]
          refine c_X5_countSafe_77 (ct_X6_isInN (by omega) _) rfl (by decide) rfl (Nat.le_of_ble_eq_true rfl) (rx ?_)
          rw [mb_bs1 _ hs]
          refine b_X5_countSafe_80 (fun h => ?_) (fun h => ?_)
          · refine back _ ?_
            show _ = p s + (if S s = true then sf T B k s else 0)
            rw [(b2i_0 _).mp h]; simp
          · refine blk s_X5_countSafe_83 (And.intro (ib hs) (nm ?_))
            rw [cl s, f2 s hs, nI_add]
            refine back _ ?_
            show _ = p s + (if S s = true then sf T B k s else 0)
            rw [if_pos (b2t h)]
      · intro m hm ih I1 f1 f2
        refine blk s_X5_countSafe_44 (nm ?_)
        refine b_X5_countSafe_46 (fun h => absurd h (nI_ge hm (by omega))) (fun h => ?_)
        refine blk s_X5_countSafe_49 (nm ?_)
        refine c_X5_countSafe_50 (ct_X5_lengthen (T := T) (B := B) (f := sf T B m) ⟨fun a b h1 h2 => by rw [f1 13 (by decide) (by decide)]; exact hT.1 a b h1 h2, hT.2⟩ (by rw [f1 11 (by decide) (by decide)]; exact hB) f2) rfl (by decide) rfl (Nat.le_of_ble_eq_true rfl) (by decide) rfl (rx ?_)
        refine blk s_X5_countSafe_53 (nm ?_)
        refine en_L (by rw [nI_s]) (ih _ (fun o h1 h2 => by rw [fl_o h2, fl_o h1]; exact f1 o h1 h2) (fun s hs => ?_))
        rw [fl_in hs]; rfl
    exact loop 0 (by omega) _ (fun o _ h2 => fl_o h2) (fun s hs => fl_in hs)
  · intro s hs ih
    have go : ∀ b : Bool, B s = !b → EN 62 RF mX5_countSafe 2 32 [(0, .ref 26), (1, .int (nI k)), (2, .int (nI s))] [.int (b2i b), .int (nI s), .ref 28] (fl I 28 g s) J Q := by
      intro b hb
      refine c_X5_countSafe_32 (ct_X6_bit b) rfl (by decide) rfl (Nat.le_of_ble_eq_true rfl) (rx ?_)
      refine blk s_X5_countSafe_35 (And.intro (ib hs) (nm ?_))
      rw [cl s]
      refine en_L (by rw [nI_s]) (en_I (fl_s ?_) ih)
      show b2i b = nI (if B s = true then 0 else 1)
      rw [hb]
      cases b <;> rfl
    refine blk s_X5_countSafe_2 (nm ?_)
    refine b_X5_countSafe_5 (fun h => absurd h (nI_ge hs (by decide))) (fun h => ?_)
    refine blk s_X5_countSafe_8 (nm ?_)
    rw [show (fl I 28 g s) 11 5 = bs B from by rw [fl_o (by decide)]; exact hB]
    refine c_X5_countSafe_21 (ct_X6_isInN (by omega) _) rfl (by decide) rfl (Nat.le_of_ble_eq_true rfl) (rx ?_)
    rw [mb_bs1 _ hs]
    refine b_X5_countSafe_24 (fun h => ?_) (fun h => ?_)
    · refine blk s_X5_countSafe_31 (nm ?_)
      exact go false (b2t h)
    · refine blk s_X5_countSafe_27 (nm ?_)
      exact go true ((b2i_0 _).mp h)
end WLK
/-! the floating number nearest to u by d: of F digits -/
def shF (u D : Nat) : Nat := (lsN (fun i => decide (D ≤ u * 2 ^ i)) 61).getD 0
theorem shF_spec {u D : Nat} (hu : 0 < u) (hD : D ≤ 2 ^ 60) : D ≤ u * 2 ^ shF u D ∧ (∀ i, i < shF u D → u * 2 ^ i < D) ∧ shF u D ≤ 60 := by
  unfold shF
  cases h : lsN (fun i => decide (D ≤ u * 2 ^ i)) 61 with
  | none =>
    have := lsN_none.mp h 60 (by decide)
    simp only [decide_eq_false_iff_not] at this
    have h2 : 1 * 2 ^ 60 ≤ u * 2 ^ 60 := Nat.mul_le_mul_right _ hu
    omega
  | some j =>
    obtain ⟨h1, h2, h3⟩ := lsN_some h
    refine ⟨of_decide_eq_true h2, fun i hi => ?_, by show j ≤ 60; omega⟩
    have := h3 i hi
    simp only [decide_eq_false_iff_not] at this
    omega
def rdU (x d : Nat) : Nat := if d < 2 * (x % d) ∨ (2 * (x % d) = d ∧ x / d % 2 = 1) then x / d + 1 else x / d
def nbV (u d F bias : Nat) : Int64 := if u = 0 then 0 else lN (bias + F - 1 - shF u (d * 2 ^ (F - 1))) * lN (2 ^ (F - 1)) + (lN (rdU (u * 2 ^ shF u (d * 2 ^ (F - 1))) d) - lN (2 ^ (F - 1)))
theorem shF_x {u D : Nat} (hu : 0 < u) (hu2 : u < 2 ^ 60) (hD : D ≤ 2 ^ 60) : ∀ i, i ≤ shF u D → u * 2 ^ i < 2 ^ 61 := by
  intro i hi
  obtain ⟨h1, h2, h3⟩ := shF_spec hu hD
  cases i with
  | zero => rw [Nat.pow_zero, Nat.mul_one]; omega
  | succ i =>
    have := h2 i (by omega)
    rw [Nat.pow_succ, ← Nat.mul_assoc]
    omega
theorem mulI (a b : Nat) : lN a * lN b = lN (a * b) := lN_mul a b
theorem ct_X6_nearestBits {n : Nat} {R : RT} {I : IT} {J : JT} {u d F bias : Nat} (hu : u < 2 ^ 60) (hd : 0 < d) (hd2 : d < 2 ^ 30) (hF : 1 ≤ F) (hF2 : F ≤ 60) (hD : d * 2 ^ (F - 1) ≤ 2 ^ 60) (hb : bias < 2 ^ 20) (hbs : 61 ≤ bias) :
    CN n R mX6_nearestBits 0 [.long (lN u), .long (lN d), .int (nI F), .int (nI bias)] I J (RX (some (.long (nbV u d F bias))) I J) := by
  generalize hQ : RX (some (.long (nbV u d F bias))) I J = Q
  have hQ' : Q (some (.long (nbV u d F bias))) I J := by rw [← hQ]; exact rxq
  clear hQ
  refine cn_of (by decide) rfl (Nat.le_of_ble_eq_true rfl) ?_
  refine blk s_X6_nearestBits_0 (nm ?_)
  refine b_X6_nearestBits_3 (fun h => ?_) (fun h => ?_)
  · have h0 : u ≤ 0 := (pk_lLE (by omega) (by decide)).mp ((lg_cmp_le _ _).mp h)
    have : u = 0 := by omega
    subst this
    refine blk s_X6_nearestBits_12 (nm ?_)
    exact r_X6_nearestBits_13 hQ'
  · have hu0 : 0 < u := by
      rcases Nat.eq_zero_or_pos u with h1 | h1
      · subst h1; exact absurd ((lg_cmp_le _ _).mpr (Int64.le_refl _)) h
      · exact h1
    unfold nbV at hQ'
    rw [if_neg (by omega)] at hQ'
    refine blk s_X6_nearestBits_6 (nm ?_)
    refine b_X6_nearestBits_9 (fun h => ?_) (fun h => absurd ((lg_cmp_gt _ _).mpr ((pk_lLT (a := 0) (by decide) (by omega)).mpr hd)) h)
    refine blk s_X6_nearestBits_14 (nm ?_)
    have eF : nI F - 1 = nI (F - 1) := pk_sub (b := 1) hF
    rw [eF, show (1 : Int64) <<< ((nI (F - 1)).toInt64 &&& 63) = lN (2 ^ (F - 1)) from by rw [show (1 : Int64) = lN 1 from rfl, wb_shl 1 (by omega), Nat.one_mul]]
    generalize hsh : shF u (d * 2 ^ (F - 1)) = sh at hQ'
    obtain ⟨s1, s2, s3⟩ := shF_spec hu0 hD
    have s4 := shF_x hu0 hu hD
    rw [hsh] at s1 s2 s3 s4
    generalize hU : 2 ^ (F - 1) = U at *
    have hU63 : U < 2 ^ 63 := by
      have : 1 * U ≤ d * U := Nat.mul_le_mul_right _ hd
      omega
    have hU0 : 0 < U := by rw [← hU]; exact Nat.pow_pos (by decide)
    refine dn (P := fun i => EN n R mX6_nearestBits 0 25 [(0, .long (lN u)), (2, .long (lN d)), (4, .int (nI F)), (5, .int (nI bias)), (6, .long (lN U)), (8, .int (nI i))] [] I J Q) (N := sh) ?_ ?_ (Nat.zero_le _)
    · refine blk s_X6_nearestBits_25 (nm ?_)
      refine b_X6_nearestBits_29 (fun h => absurd ((nI_leI (a := 62) (by decide) (by omega)).mp h) (by omega)) (fun h => ?_)
      refine blk s_X6_nearestBits_32 (nm ?_)
      rw [wb_shl u (by omega), mulI]
      have sx := s4 sh (Nat.le_refl sh)
      refine b_X6_nearestBits_41 (fun h => ?_) (fun h => absurd ((lg_cmp_ge _ _).mpr ((pk_lLE (by omega) (by omega)).mpr s1)) h)
      have dne : ¬ lN d = 0 := fun e => by have := (pk_lEQ (b := 0) (by omega) (by decide)).mp e; omega
      refine blk s_X6_nearestBits_50 (And.intro dne (And.intro dne (nm ?_)))
      rw [wb_shl u (by omega), pk_lRem (by omega) hd (by omega), pk_lDiv (by omega) hd (by omega)]
      generalize hx : u * 2 ^ sh = x at *
      have hmod : x % d < d := Nat.mod_lt _ hd
      have hq63 : x / d < 2 ^ 62 := Nat.lt_of_le_of_lt (Nat.div_le_self x d) (by omega)
      rw [show lN (x % d) * 2 = lN (x % d * 2) from mulI _ 2]
      have fin : ∀ q, q = rdU x d → EN n R mX6_nearestBits 0 101 [(0, .long (lN u)), (2, .long (lN d)), (4, .int (nI F)), (5, .int (nI bias)), (6, .long (lN U)), (8, .int (nI sh)), (9, .long (lN q)), (11, .long (lN (x % d * 2)))] [] I J Q := by
        intro q hq
        subst hq
        refine blk s_X6_nearestBits_101 (nm ?_)
        refine r_X6_nearestBits_121 ?_
        rw [nI_add, show nI (bias + F) - 1 = nI (bias + F - 1) from pk_sub (b := 1) (by omega), pk_sub (by omega), nI_l (by omega)]
        exact hQ'
      have rdT : (d < 2 * (x % d) ∨ (2 * (x % d) = d ∧ x / d % 2 = 1)) → x / d + 1 = rdU x d := fun h => by unfold rdU; rw [if_pos h]
      have rdF : ¬ (d < 2 * (x % d) ∨ (2 * (x % d) = d ∧ x / d % 2 = 1)) → x / d = rdU x d := fun h => by unfold rdU; rw [if_neg h]
      have inc : (d < 2 * (x % d) ∨ (2 * (x % d) = d ∧ x / d % 2 = 1)) → EN n R mX6_nearestBits 0 95 [(0, .long (lN u)), (2, .long (lN d)), (4, .int (nI F)), (5, .int (nI bias)), (6, .long (lN U)), (8, .int (nI sh)), (9, .long (lN (x / d))), (11, .long (lN (x % d * 2)))] [] I J Q := by
        intro h
        refine blk s_X6_nearestBits_95 (nm ?_)
        rw [lN_1]
        exact fin _ (rdT h)
      refine b_X6_nearestBits_74 (fun h => ?_) (fun h => ?_)
      · exact inc (Or.inl (by have := (pk_lLT (by omega) (by omega)).mp ((lg_cmp_gt _ _).mp h); omega))
      · have h1 : ¬ d < 2 * (x % d) := fun h2 => h ((lg_cmp_gt _ _).mpr ((pk_lLT (by omega) (by omega)).mpr (by omega)))
        refine blk s_X6_nearestBits_77 (nm ?_)
        refine b_X6_nearestBits_81 (fun h => ?_) (fun h => ?_)
        · refine fin _ (rdF (fun h2 => h2.elim h1 (fun h3 => h ((lg_cmp_eq _ _).mpr (congrArg lN (show x % d * 2 = d by have := h3.1; omega)))))) 
        · have h2 : x % d * 2 = d := (pk_lEQ (by omega) (by omega)).mp ((lg_cmp_eq _ _).mp h)
          refine blk s_X6_nearestBits_84 (And.intro (by decide) (nm ?_))
          rw [show lN (x / d) - lN (x / d) / 2 * 2 = lN (x / d % 2) from pk_lRem (b := 2) (by omega) (by decide) (by decide)]
          have hm2 : x / d % 2 < 2 := Nat.mod_lt _ (by decide)
          refine b_X6_nearestBits_92 (fun h => ?_) (fun h => ?_)
          · refine fin _ (rdF (fun h4 => h4.elim h1 (fun h3 => h ((lg_cmp_eq _ _).mpr (by rw [h3.2]; rfl)))))
          · exact inc (Or.inr ⟨by omega, (pk_lEQ (b := 1) (by omega) (by decide)).mp ((lg_cmp_eq _ _).mp h)⟩)
    · intro i hi ih
      refine blk s_X6_nearestBits_25 (nm ?_)
      refine b_X6_nearestBits_29 (fun h => absurd ((nI_leI (a := 62) (by decide) (by omega)).mp h) (by omega)) (fun h => ?_)
      refine blk s_X6_nearestBits_32 (nm ?_)
      rw [wb_shl u (by omega), mulI]
      have sx := s4 i (by omega)
      have sl := s2 i hi
      refine b_X6_nearestBits_41 (fun h => absurd ((pk_lLE (by omega) (by omega)).mp ((lg_cmp_ge _ _).mp h)) (by omega)) (fun h => ?_)
      refine blk s_X6_nearestBits_44 (nm ?_)
      exact en_L (by rw [nI_s]) ih
