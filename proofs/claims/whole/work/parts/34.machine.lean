/-! CONTRACTS of Machine that also the constructor needs: of any world in which Terms (1) and Machine (11) stand -/
def RM (R' : RT) : RT := fun o k => match Nat.beq o 1 || Nat.beq o 11 with
  | true => RF o k
  | false => R' o k
theorem RM_RF : RM RF = RF := by
  funext o k; unfold RM
  split <;> rfl
theorem wkt {M : MI} {d cap pc : Nat} {L : LT} (k : Nat) {st : List Value} {n : Nat} {R : RT} {I : IT} {J : JT} {Q : QT} (h : Ends M d cap pc (L.take k) st n R I J Q) : Ends M d cap pc L st n R I J Q :=
  wk _ (fun _ hq => List.mem_of_mem_take hq) h
section MACH
variable {m : Nat} {R' : RT} {I : IT} {J : JT}
theorem ctG_X4_has (t : Int32) : CN (m + 19) (RM R') mX4_has 0 [.ref 1, .int t] I J (RX (some (.int (b2i (hasT I t)))) I J) := by
  refine cn_of (by decide) rfl (Nat.le_of_ble_eq_true rfl) ?_
  refine blk s_X4_has_0 ?_
  refine b_X4_has_1 (fun h => ?_) (fun h => ?_)
  · refine blk s_X4_has_16 ?_
    exact r_X4_has_17 (Or.inl rfl) (rz0 (by simp [hasT, h]))
  · refine blk s_X4_has_4 (nm ?_)
    refine b_X4_has_9 (fun h2 => ?_) (fun h2 => ?_)
    · refine blk s_X4_has_16 ?_
      exact r_X4_has_17 (Or.inl rfl) (rz0 (by simp only [hasT, h2, decide_true, Bool.not_true, Bool.and_false]))
    · refine blk s_X4_has_12 ?_
      exact r_X4_has_17 (Or.inr rfl) (rz1 (by simp only [hasT, h, h2, decide_false, Bool.not_false, Bool.and_true]))
theorem ctG_X3_target {s r : Nat} (hs : s < 16) (hr : r < 4) : CN (m + 19) (RM R') mX3_target 0 [.ref 11, .int (nI s), .int (nI r)] I J (RX (some (.int (I 13 (16 * r + s)))) I J) := by
  have e : (16 : Int32) * nI r + nI s = nI (16 * r + s) := by rw [show (16 : Int32) * nI r = nI (16 * r) from nI_mul 16 r, nI_add]
  refine cn_of (by decide) rfl (Nat.le_of_ble_eq_true rfl) ?_
  refine blk s_X3_target_0 (And.intro (by rw [e]; exact ib (by omega)) (nm ?_))
  refine r_X3_target_11 (rxe ?_ rfl rfl)
  rw [e, cl (16 * r + s)]
/-- the table that a variable goes on by -/
def ntX (I : IT) (J : JT) (v : Nat) : Int64 := if hasT I (I 12 v) = true then J 10 (I 12 v).toNatClampNeg else stJ 2 v
theorem ctG_X3_nextTable {v C : Nat} (hv : v < 4) (hC : I 1 9 = nI C) (hC40 : C ≤ 40) : CN (m + 19) (RM R') mX3_nextTable 1 [.ref 11, .int (nI v)] I J (RX (some (.long (ntX I J v))) I J) := by
  refine cn_of (by decide) rfl (Nat.le_of_ble_eq_true rfl) ?_
  refine blk s_X3_nextTable_0 (And.intro (ib hv) (nm ?_))
  rw [cl v]
  refine c_X3_nextTable_12 (ctG_X4_has _) rfl (by decide) rfl (Nat.le_of_ble_eq_true rfl) (by omega) rfl (rx ?_)
  refine b_X3_nextTable_15 (fun h => ?_) (fun h => ?_)
  · refine blk s_X3_nextTable_30 (And.intro (ib hv) (nm ?_))
    refine r_X3_nextTable_35 (rxe ?_ rfl rfl)
    rw [cl v]
    unfold ntX
    rw [if_neg (by rw [(b2i_0 _).mp h]; decide)]
  · have ht : hasT I (I 12 v) = true := by
      cases hh : hasT I (I 12 v)
      · exact absurd (by rw [hh]; rfl) h
      · rfl
    obtain ⟨k, hk, e⟩ := hasT_ex hC (by omega) ht
    refine blk s_X3_nextTable_18 (And.intro (by rw [e]; exact ib (by omega)) (nm ?_))
    refine r_X3_nextTable_35 (rxe ?_ rfl rfl)
    unfold ntX
    rw [if_pos ht]
def nbT (I : IT) (J : JT) (v pl : Nat) : Bool := (ntX I J v).toBitVec.getLsbD pl
/-- four bits as a number -/
def tN (p : Nat → Bool) : Nat := (if p 0 = true then 1 else 0) + (if p 1 = true then 2 else 0) + (if p 2 = true then 4 else 0) + (if p 3 = true then 8 else 0)
theorem tN_lt (p : Nat → Bool) : tN p < 16 := by unfold tN; split <;> split <;> split <;> split <;> omega
theorem bsN4 (p : Nat → Bool) : bsN p 4 = nI (tN p) := by
  simp only [bsN, tN]
  cases p 0 <;> cases p 1 <;> cases p 2 <;> cases p 3 <;> decide
def TT (I : IT) (J : JT) (s r : Nat) : Nat := tN (fun v => nbT I J v (16 * r + s))
theorem TT_lt (I : IT) (J : JT) (s r : Nat) : TT I J s r < 16 := tN_lt _
/-- which states a state leads to -/
def rc (T : Nat → Nat → Nat) (s t : Nat) : Bool := anN (fun r => decide (T s r = t)) 4
def rsI (I : IT) (J : JT) : IT := fl (fl (up2 I 11 8 (I 11 8 + 1)) 13 (fun pl => bsN (fun v => nbT I J v pl) 4) 64) 14 (fun s => bs (rc (TT I J) s)) 16
theorem l1_bit (x : Int64) {pl : Nat} (hp : pl < 64) : ((x.toUInt64 >>> ((nI pl).toInt64.toUInt64 &&& Int64.toUInt64 63)).toInt64 &&& 1).toInt32 = b2i (x.toBitVec.getLsbD pl) := by
  apply mb_ext
  intro k hk
  rw [l2i_bit _ hk, Int64.toBitVec_and, BitVec.getLsbD_and, lushr_bit _ hp, mb_b2i]
  by_cases h0 : k = 0
  · subst h0; rw [show ((1 : Int64).toBitVec.getLsbD 0) = true from by decide]; simp
  · rw [decide_eq_false h0, Bool.and_false]
    have : (1 : Int64).toBitVec.getLsbD k = false := by
      have : (1 : Int64).toBitVec = 1#64 := rfl
      rw [this, BitVec.getLsbD_one]; simp [h0]
    rw [this, Bool.and_false]
theorem b2i_shl (b : Bool) {v : Nat} (hv : v < 32) : b2i b <<< (nI v &&& 31) = (match b with | true => (1 : Int32) <<< (nI v &&& 31) | false => 0) := by
  cases b
  · apply mb_ext; intro k hk
    rw [mb_shl _ hv hk, show b2i false = 0 from rfl, mb_0, Bool.and_false, mb_0]
  · rfl
theorem ntX_same {I I' : IT} (h1 : I' 1 = I 1) (h12 : I' 12 = I 12) (J : JT) (v : Nat) : ntX I' J v = ntX I J v := by
  unfold ntX hasT; rw [h1, h12]
theorem ctG_X3_renewSteps {C : Nat} (hC : I 1 9 = nI C) (hC40 : C ≤ 40) : CN (m + 19) (RM R') mX3_renewSteps 2 [.ref 11] I J (RX none (rsI I J) J) := by
  generalize hQ : RX none (rsI I J) J = Q
  have hQ' : Q none (rsI I J) J := by rw [← hQ]; exact rxq
  clear hQ
  let I1 : IT := up2 I 11 8 (I 11 8 + 1)
  let g : Nat → Int32 := fun pl => bsN (fun v => nbT I J v pl) 4
  have hg : ∀ s r : Nat, g (16 * r + s) = nI (TT I J s r) := fun s r => bsN4 _
  have hI1 : ∀ k, (fl I1 13 g k) 1 = I 1 ∧ (fl I1 13 g k) 12 = I 12 := fun k => ⟨by rw [fl_o (by decide)]; exact up2_o (by decide), by rw [fl_o (by decide)]; exact up2_o (by decide)⟩
  refine cn_of (by decide) rfl (Nat.le_of_ble_eq_true rfl) ?_
  refine blk s_X3_renewSteps_0 (And.intro rfl (nm ?_))
  refine en_I (fl_0 (I := I1) (o := 13) (g := g)).symm ?_
  refine dn (P := fun k => EN (m + 19) (RM R') mX3_renewSteps 2 12 [(0, .ref 11), (1, .int (nI k))] [] (fl I1 13 g k) J Q) (N := 64) ?_ ?_ (Nat.zero_le _)
  · -- behind the first loop
    refine blk s_X3_renewSteps_12 (nm ?_)
    refine b_X3_renewSteps_15 (fun h => ?_) (fun h => absurd (Int32.le_refl _) h)
    refine blk s_X3_renewSteps_61 (nm ?_)
    refine en_I (fl_0 (I := fl I1 13 g 64) (o := 14) (g := fun s => bs (rc (TT I J) s))).symm ?_
    refine dn (P := fun k => EN (m + 19) (RM R') mX3_renewSteps 2 63 [(0, .ref 11), (1, .int (nI k))] [] (fl (fl I1 13 g 64) 14 (fun s => bs (rc (TT I J) s)) k) J Q) (N := 16) ?_ ?_ (Nat.zero_le _)
    · refine blk s_X3_renewSteps_63 (nm ?_)
      refine b_X3_renewSteps_66 (fun h => ?_) (fun h => absurd (Int32.le_refl _) h)
      exact r_X3_renewSteps_112 hQ'
    · intro s hs ih
      refine blk s_X3_renewSteps_63 (nm ?_)
      refine b_X3_renewSteps_66 (fun h => absurd h (nI_ge hs (by decide))) (fun h => ?_)
      refine blk s_X3_renewSteps_69 (And.intro (ib hs) (nm ?_))
      rw [cl s]
      generalize hI2 : fl (fl I1 13 g 64) 14 (fun s => bs (rc (TT I J) s)) s = I2 at *
      have h13 : ∀ r, r < 4 → ∀ v, up2 I2 14 s v 13 (16 * r + s) = nI (TT I J s r) := by
        intro r hr v
        rw [up2_o (by decide), ← hI2, fl_o (by decide), fl_in (by omega)]
        exact hg s r
      refine en_I (I' := up2 I2 14 s (bs (fun t => anN (fun r => decide (TT I J s r = t)) 0))) (congrArg (up2 I2 14 s) zero_bs) ?_
      refine dn (P := fun r => EN (m + 19) (RM R') mX3_renewSteps 2 78 [(0, .ref 11), (1, .int (nI s)), (2, .int (nI r))] [] (up2 I2 14 s (bs (fun t => anN (fun r => decide (TT I J s r = t)) r))) J Q) (N := 4) ?_ ?_ (Nat.zero_le _)
      · refine blk s_X3_renewSteps_78 (nm ?_)
        refine b_X3_renewSteps_80 (fun h => ?_) (fun h => absurd (Int32.le_refl _) h)
        refine blk s_X3_renewSteps_106 (nm ?_)
        refine wkt 2 (en_L (by rw [nI_s]; rfl) (en_I ?_ ih))
        rw [← hI2]
        exact fl_s rfl
      · intro r hr ih2
        refine blk s_X3_renewSteps_78 (nm ?_)
        refine b_X3_renewSteps_80 (fun h => absurd h (nI_ge hr (by decide))) (fun h => ?_)
        refine blk s_X3_renewSteps_83 (And.intro (ib hs) (nm ?_))
        rw [cl s, up2_s]
        refine c_X3_renewSteps_94 (ctG_X3_target hs hr) rfl (by decide) rfl (Nat.le_of_ble_eq_true rfl) (by omega) rfl (rx ?_)
        rw [h13 r hr]
        refine blk s_X3_renewSteps_97 (And.intro (ib hs) (nm ?_))
        rw [cl s, up2_2]
        refine en_L (by rw [nI_s]) (en_I ?_ ih2)
        congr 1
        rw [bs_one (TT_lt I J s r), bs_or]
        refine bsN_cg fun t _ => ?_
        show _ = (anN _ r || decide (TT I J s r = t))
        congr 1
        exact decide_eq_decide.mpr ⟨fun h => h.symm, fun h => h.symm⟩
  · intro k hk ih
    refine blk s_X3_renewSteps_12 (nm ?_)
    refine b_X3_renewSteps_15 (fun h => absurd h (nI_ge hk (by decide))) (fun h => ?_)
    refine blk s_X3_renewSteps_18 (nm ?_)
    refine dn (P := fun v => EN (m + 19) (RM R') mX3_renewSteps 2 22 [(0, .ref 11), (1, .int (nI k)), (2, .int (bsN (fun v => nbT I J v k) v)), (3, .int (nI v))] [] (fl I1 13 g k) J Q) (N := 4) ?_ ?_ (Nat.zero_le _)
    · refine blk s_X3_renewSteps_22 (nm ?_)
      refine b_X3_renewSteps_24 (fun h => ?_) (fun h => absurd (Int32.le_refl _) h)
      refine blk s_X3_renewSteps_48 (And.intro (ib hk) (nm ?_))
      rw [cl k]
      refine wkt 2 (en_L (by rw [nI_s]; rfl) (en_I ?_ ih))
      exact fl_s rfl
    · intro v hv ih2
      refine blk s_X3_renewSteps_22 (nm ?_)
      refine b_X3_renewSteps_24 (fun h => absurd h (nI_ge hv (by decide))) (fun h => ?_)
      refine blk s_X3_renewSteps_27 (nm ?_)
      refine c_X3_renewSteps_30 (ctG_X3_nextTable (C := C) hv (by rw [(hI1 k).1]; exact hC) hC40) rfl (by decide) rfl (Nat.le_of_ble_eq_true rfl) (by omega) rfl (rx ?_)
      refine blk s_X3_renewSteps_33 (nm ?_)
      refine en_L ?_ ih2
      rw [nI_s, l1_bit _ hk, b2i_shl _ (by omega), ntX_same (hI1 k).1 (hI1 k).2]
      rfl
/-- the states that a set leads to -/
def im (rr : Nat → Nat → Bool) (p : Nat → Bool) (t : Nat) : Bool := anN (fun s => p s && rr s t) 16
theorem ctG_X3_image {rr : Nat → Nat → Bool} (hR : ∀ s, s < 16 → I 14 s = bs (rr s)) (x : Int32) : CN (m + 19) (RM R') mX3_image 1 [.ref 11, .int x] I J (RX (some (.int (bs (im rr (mb x))))) I J) := by
  generalize hQ : RX (some (.int (bs (im rr (mb x))))) I J = Q
  have hQ' : Q (some (.int (bs (im rr (mb x))))) I J := by rw [← hQ]; exact rxq
  clear hQ
  refine cn_of (by decide) rfl (Nat.le_of_ble_eq_true rfl) ?_
  refine blk s_X3_image_0 (nm ?_)
  refine en_L (L' := [(0, .ref 11), (1, .int x), (2, .int (bs (fun t => anN (fun s => mb x s && rr s t) 0))), (3, .int (nI 0))]) (by rw [show bs (fun t => anN (fun s => mb x s && rr s t) 0) = 0 from zero_bs.symm]; rfl) ?_
  refine dn (P := fun k => EN (m + 19) (RM R') mX3_image 1 4 [(0, .ref 11), (1, .int x), (2, .int (bs (fun t => anN (fun s => mb x s && rr s t) k))), (3, .int (nI k))] [] I J Q) (N := 16) ?_ ?_ (Nat.zero_le _)
  · refine blk s_X3_image_4 (nm ?_)
    refine b_X3_image_7 (fun h => ?_) (fun h => absurd (Int32.le_refl _) h)
    refine blk s_X3_image_33 (nm ?_)
    exact r_X3_image_34 hQ'
  · intro k hk ih
    refine blk s_X3_image_4 (nm ?_)
    refine b_X3_image_7 (fun h => absurd h (nI_ge hk (by decide))) (fun h => ?_)
    refine blk s_X3_image_10 (nm ?_)
    refine c_X3_image_12 (ct_X6_isInN (by omega) x) rfl (by decide) rfl (Nat.le_of_ble_eq_true rfl) (rx ?_)
    have back : ∀ y : Int32, y = bs (fun t => anN (fun s => mb x s && rr s t) (k + 1)) → EN (m + 19) (RM R') mX3_image 1 27 [(0, .ref 11), (1, .int x), (2, .int y), (3, .int (nI k))] [] I J Q := by
      intro y hy
      subst hy
      refine blk s_X3_image_27 (nm ?_)
      exact en_L (by rw [nI_s]) ih
    refine b_X3_image_15 (fun h => ?_) (fun h => ?_)
    · have hb := (b2i_0 _).mp h
      refine back _ (bsN_cg fun t _ => ?_)
      show _ = (anN _ k || (mb x k && rr k t))
      rw [hb, Bool.false_and, Bool.or_false]
    · have hb : mb x k = true := by cases hm : mb x k; exact absurd (by rw [hm]; rfl) h; rfl
      refine blk s_X3_image_18 (And.intro (ib hk) (nm ?_))
      rw [cl k, hR k hk, bs_or]
      refine back _ (bsN_cg fun t _ => ?_)
      show _ = (anN _ k || (mb x k && rr k t))
      rw [hb, Bool.true_and]
/-! distances, level by level: (the last level's states, those of the levels ahead of it) -/
def lvl (rr : Nat → Nat → Bool) (S : Nat → Bool) : Nat → (Nat → Bool) × (Nat → Bool)
  | 0 => (S, fun _ => false)
  | k + 1 => (fun t => im rr (lvl rr S k).1 t && !((lvl rr S k).2 t || (lvl rr S k).1 t), fun t => (lvl rr S k).2 t || (lvl rr S k).1 t)
def dsO (rr : Nat → Nat → Bool) (S : Nat → Bool) : Nat → Nat → Option Nat
  | 0, _ => none
  | k + 1, s => if (lvl rr S k).1 s = true then some k else dsO rr S k s
theorem im_none {rr : Nat → Nat → Bool} {p : Nat → Bool} (h : ∀ s, s < 16 → p s = false) (t : Nat) : im rr p t = false := by
  cases hi : im rr p t
  · rfl
  · obtain ⟨s, h1, h2⟩ := anN_iff.mp hi
    rw [h s h1] at h2; cases h2
theorem im_cg {rr : Nat → Nat → Bool} {p q : Nat → Bool} (h : ∀ s, s < 16 → p s = q s) (t : Nat) : im rr p t = im rr q t := anN_cg fun s hs => by rw [h s hs]
theorem lvl_stop {rr : Nat → Nat → Bool} {S : Nat → Bool} {k : Nat} (h : ∀ s, s < 16 → (lvl rr S k).1 s = false) : ∀ j, k ≤ j → (∀ s, s < 16 → (lvl rr S j).1 s = false) ∧ (∀ s, s < 16 → (lvl rr S j).2 s = (lvl rr S k).2 s) ∧ ∀ s, s < 16 → dsO rr S j s = dsO rr S k s := by
  intro j hj
  obtain ⟨d, rfl⟩ : ∃ d, j = k + d := ⟨j - k, by omega⟩
  clear hj
  induction d with
  | zero => exact ⟨h, fun _ _ => rfl, fun _ _ => rfl⟩
  | succ d ih =>
    obtain ⟨h1, h2, h3⟩ := ih
    refine ⟨fun s hs => ?_, fun s hs => ?_, fun s hs => ?_⟩
    · show (im rr (lvl rr S (k + d)).1 s && _) = false
      rw [im_none h1, Bool.false_and]
    · show ((lvl rr S (k + d)).2 s || (lvl rr S (k + d)).1 s) = _
      rw [h1 s hs, Bool.or_false]; exact h2 s hs
    · show (if (lvl rr S (k + d)).1 s = true then some (k + d) else dsO rr S (k + d) s) = _
      rw [h1 s hs]; exact h3 s hs
/-- the world with distances D and met states x -/
def Sd (I : IT) (D : Nat → Int32) (x : Int32) : IT := up2 (fl I 15 D 16) 11 10 x
theorem Sd_cg {I : IT} {D D' : Nat → Int32} {x : Int32} (h : ∀ s, s < 16 → D s = D' s) : Sd I D x = Sd I D' x := by
  unfold Sd
  congr 1
  funext a b; unfold fl
  split
  · split
    · exact h b (by assumption)
    · rfl
  · rfl
theorem Sd_put {I : IT} {D : Nat → Int32} {x v : Int32} {s : Nat} (hs : s < 16) : up2 (Sd I D x) 15 s v = Sd I (fun k => if k = s then v else D k) x := by
  funext a b; unfold Sd up2 fl
  by_cases h15 : a = 15
  · subst h15
    by_cases hb : b = s
    · subst hb; simp [hs]
    · simp [hb]
  · by_cases h11 : a = 11
    · subst h11; simp
    · simp [h15, h11]
theorem Sd_o {I : IT} {D : Nat → Int32} {x : Int32} {o : Nat} (h15 : o ≠ 15) (h11 : o ≠ 11) : Sd I D x o = I o := by unfold Sd; rw [up2_o h11, fl_o h15]
theorem Sd_11 {I : IT} {D : Nat → Int32} {x : Int32} {k : Nat} (h : k ≠ 10) : Sd I D x 11 k = I 11 k := by unfold Sd; rw [up2_k h, fl_o (by decide)]
theorem Sd_10 {I : IT} {D : Nat → Int32} {x : Int32} : Sd I D x 11 10 = x := by unfold Sd; rw [up2_s]
theorem Sd_15 {I : IT} {D : Nat → Int32} {x : Int32} {s : Nat} (h : s < 16) : Sd I D x 15 s = D s := by unfold Sd; rw [up2_o (by decide), fl_in h]
theorem Sd_Sd {I : IT} {D D' : Nat → Int32} {x y : Int32} : Sd (Sd I D x) D' y = Sd I D' y := by
  funext a b; unfold Sd up2 fl
  by_cases h15 : a = 15
  · subst h15; by_cases hb : b < 16 <;> simp [hb]
  · by_cases h11 : a = 11
    · subst h11; by_cases hb : b = 10 <;> simp [hb]
    · simp [h15, h11]
def rdI (I : IT) (rr : Nat → Nat → Bool) (S : Nat → Bool) : IT := Sd I (fun s => o2i (dsO rr S 16 s)) (bs (lvl rr S 16).2)
theorem ctG_X3_renewDistances {rr : Nat → Nat → Bool} {S : Nat → Bool} (hR : ∀ s, s < 16 → I 14 s = bs (rr s)) (hS : I 11 4 = bs S) : CN (m + 19) (RM R') mX3_renewDistances 2 [.ref 11] I J (RX none (rdI I rr S) J) := by
  generalize hQ : RX none (rdI I rr S) J = Q
  have hQ' : Q none (rdI I rr S) J := by rw [← hQ]; exact rxq
  clear hQ
  refine cn_of (by decide) rfl (Nat.le_of_ble_eq_true rfl) ?_
  refine blk s_X3_renewDistances_0 (nm ?_)
  refine en_I (fl_0 (I := I) (o := 15) (g := fun _ => -9)).symm ?_
  refine dn (P := fun k => EN (m + 19) (RM R') mX3_renewDistances 2 2 [(0, .ref 11), (1, .int (nI k))] [] (fl I 15 (fun _ => -9) k) J Q) (N := 16) ?_ ?_ (Nat.zero_le _)
  · refine blk s_X3_renewDistances_2 (nm ?_)
    refine b_X3_renewDistances_5 (fun h => ?_) (fun h => absurd (Int32.le_refl _) h)
    refine blk s_X3_renewDistances_22 (nm ?_)
    rw [up2_k (by decide), fl_o (by decide), hS]
    have e0 : up2 (fl I 15 (fun _ => -9) 16) 11 10 0 = Sd I (fun s => o2i (dsO rr S 0 s)) (bs (lvl rr S 0).2) := by
      show _ = Sd I (fun _ => -9) (bs (fun _ => false))
      rw [← zero_bs]; rfl
    refine en_I e0 ?_
    show EN (m + 19) (RM R') mX3_renewDistances 2 34 [(0, .ref 11), (1, .int (bs (lvl rr S 0).1)), (2, .int (nI 0))] [] _ J Q
    refine dn (P := fun k => EN (m + 19) (RM R') mX3_renewDistances 2 34 [(0, .ref 11), (1, .int (bs (lvl rr S k).1)), (2, .int (nI k))] [] (Sd I (fun s => o2i (dsO rr S k s)) (bs (lvl rr S k).2)) J Q) (N := 16) ?_ ?_ (Nat.zero_le _)
    · refine blk s_X3_renewDistances_34 (nm ?_)
      refine b_X3_renewDistances_37 (fun h => ?_) (fun h => absurd (Int32.le_refl _) h)
      exact r_X3_renewDistances_102 hQ'
    · intro k hk ih
      refine blk s_X3_renewDistances_34 (nm ?_)
      refine b_X3_renewDistances_37 (fun h => absurd h (nI_ge hk (by decide))) (fun h => ?_)
      refine blk s_X3_renewDistances_40 (nm ?_)
      refine b_X3_renewDistances_41 (fun h => ?_) (fun h => ?_)
      · -- no state is left
        obtain ⟨h1, h2, h3⟩ := lvl_stop ((bs_0 _).mp h) 16 (by omega)
        refine r_X3_renewDistances_102 ?_
        have e1 : Sd I (fun s => o2i (dsO rr S k s)) (bs (lvl rr S k).2) = rdI I rr S := by
          unfold rdI
          have e3 : bs (lvl rr S k).2 = bs (lvl rr S 16).2 := bsN_cg (fun s hs => (h2 s hs).symm)
          rw [e3]
          exact Sd_cg fun s hs => by rw [h3 s hs]
        rw [e1]; exact hQ'
      · refine blk s_X3_renewDistances_44 (nm ?_)
        let DD : Nat → Nat → Int32 := fun j s => if s < j ∧ (lvl rr S k).1 s = true then nI k else o2i (dsO rr S k s)
        refine en_I (Sd_cg (D' := DD 0) (fun s _ => by show _ = if s < 0 ∧ _ then _ else _; rw [if_neg (by omega)])) ?_
        refine dn (P := fun j => EN (m + 19) (RM R') mX3_renewDistances 2 46 [(0, .ref 11), (1, .int (bs (lvl rr S k).1)), (2, .int (nI k)), (3, .int (nI j))] [] (Sd I (DD j) (bs (lvl rr S k).2)) J Q) (N := 16) ?_ ?_ (Nat.zero_le _)
        · refine blk s_X3_renewDistances_46 (nm ?_)
          refine b_X3_renewDistances_49 (fun h => ?_) (fun h => absurd (Int32.le_refl _) h)
          refine blk s_X3_renewDistances_73 (And.intro rfl (nm ?_))
          rw [Sd_10, bs_or]
          have e2 : up2 (Sd I (DD 16) (bs (lvl rr S k).2)) 11 10 (bs fun t => (lvl rr S k).2 t || (lvl rr S k).1 t) = Sd I (fun s => o2i (dsO rr S (k + 1) s)) (bs (lvl rr S (k + 1)).2) := by
            unfold Sd
            rw [up2_2]
            show Sd I (DD 16) (bs (lvl rr S (k + 1)).2) = _
            refine Sd_cg fun s hs => ?_
            show (if s < 16 ∧ (lvl rr S k).1 s = true then nI k else o2i (dsO rr S k s)) = o2i (if (lvl rr S k).1 s = true then some k else dsO rr S k s)
            by_cases hl : (lvl rr S k).1 s = true
            · rw [if_pos ⟨hs, hl⟩, if_pos hl]; rfl
            · rw [if_neg (fun h => hl h.2), if_neg hl]
          refine en_I e2 ?_
          refine c_X3_renewDistances_85 (ctG_X3_image (rr := rr) (fun s hs => by rw [Sd_o (by decide) (by decide)]; exact hR s hs) _) rfl (by decide) rfl (Nat.le_of_ble_eq_true rfl) (by omega) rfl (rx ?_)
          refine blk s_X3_renewDistances_88 (nm ?_)
          rw [Sd_10, bs_diff]
          refine wkt 3 (en_L ?_ ih)
          rw [nI_s]
          show [_, (1, Value.int _), _] = _
          congr 4
          refine bsN_cg fun t _ => ?_
          show (im rr (mb (bs (lvl rr S k).1)) t && !(lvl rr S (k + 1)).2 t) = (lvl rr S (k + 1)).1 t
          rw [im_cg (fun s hs => mb_bs1 _ hs)]
          rfl
        · intro j hj ih2
          refine blk s_X3_renewDistances_46 (nm ?_)
          refine b_X3_renewDistances_49 (fun h => absurd h (nI_ge hj (by decide))) (fun h => ?_)
          refine blk s_X3_renewDistances_52 (nm ?_)
          refine c_X3_renewDistances_54 (ct_X6_isInN (by omega) _) rfl (by decide) rfl (Nat.le_of_ble_eq_true rfl) (rx ?_)
          rw [mb_bs1 _ hj]
          refine b_X3_renewDistances_57 (fun h => ?_) (fun h => ?_)
          · have hb := (b2i_0 _).mp h
            refine blk s_X3_renewDistances_67 (nm ?_)
            refine en_L (by rw [nI_s]) (en_I ?_ ih2)
            refine Sd_cg fun s hs => ?_
            show (if s < j ∧ _ then _ else _) = if s < j + 1 ∧ _ then _ else _
            by_cases hsj : s = j
            · subst hsj; rw [if_neg (by omega), if_neg (fun h => by rw [hb] at h; cases h.2)]
            · by_cases h1 : s < j ∧ (lvl rr S k).1 s = true
              · rw [if_pos h1, if_pos ⟨by omega, h1.2⟩]
              · rw [if_neg h1, if_neg (fun h => h1 ⟨by omega, h.2⟩)]
          · have hb : (lvl rr S k).1 j = true := by cases hm : (lvl rr S k).1 j; exact absurd (by rw [hm]; rfl) h; rfl
            refine blk s_X3_renewDistances_60 (And.intro (ib hj) (nm ?_))
            rw [cl j, Sd_put hj]
            refine blk s_X3_renewDistances_67 (nm ?_)
            refine en_L (by rw [nI_s]) (en_I ?_ ih2)
            refine Sd_cg fun s hs => ?_
            show (if s = j then nI k else if s < j ∧ _ then _ else _) = if s < j + 1 ∧ _ then _ else _
            by_cases hsj : s = j
            · subst hsj; rw [if_pos rfl, if_pos ⟨by omega, hb⟩]
            · rw [if_neg hsj]
              by_cases h1 : s < j ∧ (lvl rr S k).1 s = true
              · rw [if_pos h1, if_pos ⟨by omega, h1.2⟩]
              · rw [if_neg h1, if_neg (fun h => h1 ⟨by omega, h.2⟩)]
  · intro k hk ih
    refine blk s_X3_renewDistances_2 (nm ?_)
    refine b_X3_renewDistances_5 (fun h => absurd h (nI_ge hk (by decide))) (fun h => ?_)
    refine blk s_X3_renewDistances_8 (And.intro (ib hk) (nm ?_))
    rw [cl k]
    exact en_L (by rw [nI_s]) (en_I (fl_s rfl) ih)
end MACH
