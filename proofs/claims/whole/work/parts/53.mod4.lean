/-! THE REFERENCE: the way -/
section MOD5
variable {I : IT} {J : JT} {g : JT} {C : Nat} {nx : Nat → Option Nat} {os oc : Option Nat}
theorem soN_so (rr : Nat → Nat → Bool) (p : Nat → Bool) : ∀ k, soN rr (so rr p) k = soN rr p (k + 1)
  | 0 => rfl
  | k + 1 => by show so rr (soN rr (so rr p) k) = so rr (soN rr p (k + 1)); rw [soN_so rr p k]
theorem lvl_path {rr : Nat → Nat → Bool} {S : Nat → Bool} : ∀ (k : Nat) (p : Nat → Bool) (t : Nat), t < 16 → (lvl rr S k).1 t = true → p t = true → ∃ s, s < 16 ∧ S s = true ∧ soN rr p k s = true
  | 0, p, t, ht, h1, h2 => ⟨t, ht, h1, h2⟩
  | k + 1, p, t, ht, h1, h2 => by
    have h3 : (im rr (lvl rr S k).1 t && !((lvl rr S k).2 t || (lvl rr S k).1 t)) = true := h1
    obtain ⟨s, hs, h4⟩ := anN_iff.mp (Bool.and_eq_true_iff.mp h3).1
    have h5 := Bool.and_eq_true_iff.mp h4
    have h6 : so rr p s = true := anN_iff.mpr ⟨t, ht, Bool.and_eq_true_iff.mpr ⟨h5.2, h2⟩⟩
    obtain ⟨a, ha, h7, h8⟩ := lvl_path k (so rr p) s hs h5.1 h6
    exact ⟨a, ha, h7, by rw [soN_so] at h8; exact h8⟩
theorem dsO_edge {rr : Nat → Nat → Bool} {S : Nat → Bool} : ∀ {k s d : Nat}, dsO rr S k s = some d → (lvl rr S d).1 s = true
  | 0, s, d, h => by cases h
  | k + 1, s, d, h => by
    change (if (lvl rr S k).1 s = true then some k else dsO rr S k s) = some d at h
    split at h
    · rename_i h2; cases h; exact h2
    · exact dsO_edge h
theorem lbO_ex {p : Nat → Bool} {d : Nat → Option Nat} : ∀ {k w : Nat}, lbO p d k = some w → ∃ s, s < k ∧ p s = true ∧ d s = some w
  | 0, w, h => by cases h
  | k + 1, w, h => by
    have ih : ∀ y, lbO p d k = some y → ∃ s, s < k + 1 ∧ p s = true ∧ d s = some y := fun y hy => by
      obtain ⟨s, h1, h2⟩ := lbO_ex hy; exact ⟨s, by omega, h2⟩
    change (match p k, d k, lbO p d k with | true, some x, none => some x | true, some x, some y => if x < y then some x else some y | _, _, o => o) = some w at h
    cases hp : p k <;> cases hdk : d k <;> cases hl : lbO p d k <;> rw [hp, hdk, hl] at h
    · cases h
    · cases h; exact ih _ hl
    · cases h
    · cases h; exact ih _ hl
    · cases h
    · cases h; exact ih _ hl
    · cases h; exact ⟨k, by omega, hp, hdk⟩
    · rename_i x y
      change (if x < y then some x else some y) = some w at h
      split at h
      · cases h; exact ⟨k, by omega, hp, hdk⟩
      · cases h; exact ih _ hl
theorem way_start {rr : Nat → Nat → Bool} {S B : Nat → Bool} {w : Nat} (h : lwX rr S B = some w) : lsN (fun s => S s && soN rr B w s) 16 = some (wyA rr S B w) ∧ S (wyA rr S B w) = true ∧ soN rr B w (wyA rr S B w) = true := by
  obtain ⟨t, ht, h1, h2⟩ := lbO_ex h
  obtain ⟨s, hs, h3, h4⟩ := lvl_path w B t ht (dsO_edge h2) h1
  have h5 : lsN (fun s => S s && soN rr B w s) 16 = some (wyA rr S B w) := by
    unfold wyA
    cases hl : lsN (fun s => S s && soN rr B w s) 16 with
    | none =>
      have := lsN_none.mp hl s hs
      change (S s && soN rr B w s) = false at this
      rw [h3, h4] at this; cases this
    | some a => rfl
  have h6 := Bool.and_eq_true_iff.mp (lsN_some h5).2.1
  exact ⟨h5, h6.1, h6.2⟩
theorem lrw_some {T : Nat → Nat → Nat} (hT : ∀ s r, s < 16 → r < 4 → T s r < 16) {p : Nat → Bool} {s : Nat} (hs : s < 16) (h : so (rc T) p s = true) : lsN (fun r => p (T s r)) 4 = some (lrw T p s) ∧ p (T s (lrw T p s)) = true := by
  rw [so_rc hT p hs] at h
  obtain ⟨r, hr, h2⟩ := anN_iff.mp h
  have h5 : lsN (fun r => p (T s r)) 4 = some (lrw T p s) := by
    unfold lrw
    cases hl : lsN (fun r => p (T s r)) 4 with
    | none =>
      have := lsN_none.mp hl r hr
      change p (T s r) = false at this
      rw [h2] at this; cases this
    | some a => rfl
  exact ⟨h5, (lsN_some h5).2.1⟩
theorem way_in {T : Nat → Nat → Nat} (hT : ∀ s r, s < 16 → r < 4 → T s r < 16) {S B : Nat → Bool} {w : Nat} (h : lwX (rc T) S B = some w) : ∀ k, k ≤ w → soN (rc T) B (w - k) (wyS T (rc T) S B w k) = true
  | 0, _ => (way_start h).2.2
  | k + 1, hk => by
    have ih := way_in hT h k (by omega)
    rw [show w - k = (w - 1 - k) + 1 by omega] at ih
    have := (lrw_some hT (wyS_lt hT (rc T) S B w k) (p := soN (rc T) B (w - 1 - k)) ih).2
    rw [show w - (k + 1) = w - 1 - k by omega]
    exact this
def fwI (I : IT) (T : Nat → Nat → Nat) (S B : Nat → Bool) : Option Nat → IT
  | none => up2 (faI I (dsO (rc T) S 16)) 39 13 (-9)
  | some w => fl (fl (up2 (faI I (dsO (rc T) S 16)) 39 13 (nI w)) 49 (fun k => nI (wyS T (rc T) S B w k)) (w + 1)) 50 (fun k => nI (wyR T (rc T) S B w k)) w
theorem fwI_o {I : IT} {T : Nat → Nat → Nat} {S B : Nat → Bool} {ow : Option Nat} {o : Nat} (h39 : o ≠ 39) (h48 : o ≠ 48) (h49 : o ≠ 49) (h50 : o ≠ 50) : fwI I T S B ow o = I o := by
  cases ow with
  | none => simp only [fwI]; rw [up2_o h39, faI_o h48]
  | some w => simp only [fwI]; rw [fl_o h50, fl_o h49, up2_o h39, faI_o h48]
theorem fwI_39 {I : IT} {T : Nat → Nat → Nat} {S B : Nat → Bool} {ow : Option Nat} {k : Nat} (h : k ≠ 13) : fwI I T S B ow 39 k = I 39 k := by
  cases ow with
  | none => simp only [fwI]; rw [up2_k h, faI_o (by decide)]
  | some w => simp only [fwI]; rw [fl_o (by decide), fl_o (by decide), up2_k h, faI_o (by decide)]
theorem fwI_13 {I : IT} {T : Nat → Nat → Nat} {S B : Nat → Bool} {ow : Option Nat} : fwI I T S B ow 39 13 = o2i ow := by
  cases ow with
  | none => simp only [fwI]; rw [up2_s]; rfl
  | some w => simp only [fwI]; rw [fl_o (by decide), fl_o (by decide), up2_s]; rfl
theorem fwI_49 {I : IT} {T : Nat → Nat → Nat} {S B : Nat → Bool} {w k : Nat} (h : k ≤ w) : fwI I T S B (some w) 49 k = nI (wyS T (rc T) S B w k) := by
  simp only [fwI]; rw [fl_o (by decide), fl_in (by omega)]
theorem fwI_50 {I : IT} {T : Nat → Nat → Nat} {S B : Nat → Bool} {w k : Nat} (h : k < w) : fwI I T S B (some w) 50 k = nI (wyR T (rc T) S B w k) := by
  simp only [fwI]; rw [fl_in h]
theorem fwI_B (hB : RB I g C nx os oc) (T : Nat → Nat → Nat) (S B : Nat → Bool) (ow : Option Nat) : RB (fwI I T S B ow) g C nx os oc := RB_cg hB ⟨fwI_39 (by decide), fwI_39 (by decide), fwI_39 (by decide)⟩ (fwI_o (by decide) (by decide) (by decide) (by decide)) (fwI_o (by decide) (by decide) (by decide) (by decide))
theorem ct_X7_findWay (hB : RB I g C nx os oc) : CN 62 RF mX7_findWay 4 [.ref 39] I J (RX none (fwI I (Tx g nx) (Sx g os) (Bx g oc) (lwX (rc (Tx g nx)) (Sx g os) (Bx g oc))) J) := by
  have hT : ∀ s r, s < 16 → r < 4 → Tx g nx s r < 16 := Tx_lt' g nx
  generalize hQ : RX none (fwI I (Tx g nx) (Sx g os) (Bx g oc) (lwX (rc (Tx g nx)) (Sx g os) (Bx g oc))) J = Q
  have hQ' : Q none (fwI I (Tx g nx) (Sx g os) (Bx g oc) (lwX (rc (Tx g nx)) (Sx g os) (Bx g oc))) J := by rw [← hQ]; exact rxq
  clear hQ
  refine cn_of (by decide) rfl (Nat.le_of_ble_eq_true rfl) ?_
  refine blk s_X7_findWay_0 (nm ?_)
  refine c_X7_findWay_1 (ct_X7_findFar hB) rfl (by decide) rfl (Nat.le_of_ble_eq_true rfl) (by decide) rfl (rx ?_)
  refine blk s_X7_findWay_4 (nm ?_)
  refine c_X7_findWay_6 (ct_X7_wayLong (faI_B hB _) (D := dsO (rc (Tx g nx)) (Sx g os) 16) (fun s hs => faI_48 hs) (fun s d h => dsO_lt h)) rfl (by decide) rfl (Nat.le_of_ble_eq_true rfl) (by decide) rfl (rx ?_)
  refine blk s_X7_findWay_9 (nm ?_)
  rw [up2_s]
  rw [show lbO (Bx g oc) (dsO (rc (Tx g nx)) (Sx g os) 16) 16 = lwX (rc (Tx g nx)) (Sx g os) (Bx g oc) from rfl]
  cases hlw : lwX (rc (Tx g nx)) (Sx g os) (Bx g oc) with
  | none =>
    rw [hlw] at hQ'
    refine b_X7_findWay_18 (fun h => absurd rfl h) (fun h => ?_)
    exact r_X7_findWay_21 hQ'
  | some w =>
    rw [hlw] at hQ'
    have hw := lwX_lt hlw
    have hst := way_start hlw
    have hin := way_in hT hlw
    have hwl := wyS_lt hT (rc (Tx g nx)) (Sx g os) (Bx g oc) w
    have ha16 := wyA_lt (rc (Tx g nx)) (Sx g os) (Bx g oc) w
    refine b_X7_findWay_18 (fun h => ?_) (fun h => absurd h (o2i_ne (by omega)))
    rw [show o2i (some w) = nI w from rfl]
    generalize hI1 : up2 (faI I (dsO (rc (Tx g nx)) (Sx g os) 16)) 39 13 (nI w) = I1
    have hQ2 : Q none (fl (fl I1 49 (fun k => nI (wyS (Tx g nx) (rc (Tx g nx)) (Sx g os) (Bx g oc) w k)) (w + 1)) 50 (fun k => nI (wyR (Tx g nx) (rc (Tx g nx)) (Sx g os) (Bx g oc) w k)) w) J := by rw [← hI1]; exact hQ'
    have hB1 : RB I1 g C nx os oc := by
      rw [← hI1]
      exact RB_cg (faI_B hB _) ⟨up2_k (by decide), up2_k (by decide), up2_k (by decide)⟩ (up2_o (by decide)) (up2_o (by decide))
    have h13 : I1 39 13 = nI w := by rw [← hI1]; exact up2_s
    clear hQ' hI1 hB
    refine blk s_X7_findWay_22 (nm ?_)
    refine c_X7_findWay_23 (ct_X7_startSet hB1) rfl (by decide) rfl (Nat.le_of_ble_eq_true rfl) (by decide) rfl (rx ?_)
    refine blk s_X7_findWay_26 (nm ?_)
    rw [h13]
    refine c_X7_findWay_31 (ct_X7_cameFrom hB1 (by omega)) rfl (by decide) rfl (Nat.le_of_ble_eq_true rfl) (by decide) rfl (rx ?_)
    refine blk s_X7_findWay_34 (nm ?_)
    rw [bs_and]
    generalize hTe : Tx g nx = T at *
    generalize hSe : Sx g os = S at *
    generalize hBe : Bx g oc = B at *
    generalize hae : wyA (rc T) S B w = a at *
    refine dn (P := fun k => EN 62 RF mX7_findWay 4 38 [(0, .ref 39), (1, .int (bs (fun k => S k && soN (rc T) B w k))), (2, .int (nI k))] [] I1 J Q) (N := a) (a := 0) ?_ ?_ (Nat.zero_le _)
    · refine blk s_X7_findWay_38 (nm ?_)
      refine c_X7_findWay_40 (ct_X7_isIn _ (by omega)) rfl (by decide) rfl (Nat.le_of_ble_eq_true rfl) (rx ?_)
      rw [mb_bs1 _ ha16, hst.2.1, hst.2.2]
      refine b_X7_findWay_43 (fun h => ?_) (fun h => absurd h (by decide))
      refine blk s_X7_findWay_52 (And.intro (by unfold vp_in; decide) (nm ?_))
      have hws0 : wyS T (rc T) S B w 0 = a := hae
      refine en_I (show _ = fl (fl I1 49 (fun k => nI (wyS T (rc T) S B w k)) 1) 50 (fun k => nI (wyR T (rc T) S B w k)) 0 from by rw [fl_0]; exact fl_1 (by rw [hws0])) ?_
      refine wkt 4 ?_
      refine dn (P := fun k => EN 62 RF mX7_findWay 4 61 [(0, .ref 39), (1, .int (bs (fun k => S k && soN (rc T) B w k))), (2, .int (nI a)), (3, .int (nI k))] [] (fl (fl I1 49 (fun k => nI (wyS T (rc T) S B w k)) (k + 1)) 50 (fun k => nI (wyR T (rc T) S B w k)) k) J Q) (N := w) (a := 0) ?_ ?_ (Nat.zero_le _)
      · refine blk s_X7_findWay_61 (nm ?_)
        rw [fl_o (by decide), fl_o (by decide), h13]
        refine b_X7_findWay_66 (fun h => ?_) (fun h => absurd (Int32.le_refl _) h)
        exact r_X7_findWay_146 hQ2
      · intro k hk ih
        refine blk s_X7_findWay_61 (nm ?_)
        rw [fl_o (by decide), fl_o (by decide), h13]
        refine b_X7_findWay_66 (fun h => absurd h (nI_ge hk (by omega))) (fun h => ?_)
        refine blk s_X7_findWay_69 (nm ?_)
        rw [fl_o (by decide), fl_o (by decide), h13, show nI w - nI k - 1 = nI (w - 1 - k) from by rw [pk_sub (by omega), show (1 : Int32) = nI 1 from rfl, pk_sub (by omega), show w - k - 1 = w - 1 - k by omega]]
        have hB2 : RB (fl (fl I1 49 (fun k => nI (wyS T (rc T) S B w k)) (k + 1)) 50 (fun k => nI (wyR T (rc T) S B w k)) k) g C nx os oc := RB_cg hB1 (by rw [fl_o (by decide), fl_o (by decide)]; exact ⟨rfl, rfl, rfl⟩) (by rw [fl_o (by decide), fl_o (by decide)]) (by rw [fl_o (by decide), fl_o (by decide)])
        refine c_X7_findWay_78 (ct_X7_cameFrom hB2 (w := w - 1 - k) (by omega)) rfl (by decide) rfl (Nat.le_of_ble_eq_true rfl) (by decide) rfl (rx ?_)
        rw [hTe, hBe]
        refine blk s_X7_findWay_81 (nm ?_)
        have hs16 := hwl k
        have hik := hin k (by omega)
        rw [show w - k = (w - 1 - k) + 1 by omega] at hik
        have hlr := lrw_some hT hs16 (p := soN (rc T) B (w - 1 - k)) hik
        have hr4 := lrw_lt T (soN (rc T) B (w - 1 - k)) (wyS T (rc T) S B w k)
        have h49 : fl (fl I1 49 (fun k => nI (wyS T (rc T) S B w k)) (k + 1)) 50 (fun k => nI (wyR T (rc T) S B w k)) k 49 k = nI (wyS T (rc T) S B w k) := by rw [fl_o (by decide), fl_in (by omega)]
        have hRe : wyR T (rc T) S B w k = lrw T (soN (rc T) B (w - 1 - k)) (wyS T (rc T) S B w k) := rfl
        have hSs : wyS T (rc T) S B w (k + 1) = T (wyS T (rc T) S B w k) (lrw T (soN (rc T) B (w - 1 - k)) (wyS T (rc T) S B w k)) := rfl
        generalize hle : lrw T (soN (rc T) B (w - 1 - k)) (wyS T (rc T) S B w k) = r0 at *
        generalize hs0e : wyS T (rc T) S B w k = s0 at h49 hs16 hlr hSs
        have hTt := hT s0
        refine dn (P := fun r => EN 62 RF mX7_findWay 4 86 [(0, .ref 39), (1, .int (bs (fun k => S k && soN (rc T) B w k))), (2, .int (nI a)), (3, .int (nI k)), (4, .int (bs (soN (rc T) B (w - 1 - k)))), (5, .int (nI r))] [] (fl (fl I1 49 (fun k => nI (wyS T (rc T) S B w k)) (k + 1)) 50 (fun k => nI (wyR T (rc T) S B w k)) k) J Q) (N := r0) (a := 0) ?_ ?_ (Nat.zero_le _)
        · refine blk s_X7_findWay_86 (And.intro (ib (show k < 17 by omega)) (nm ?_))
          rw [cl k, h49]
          refine c_X7_findWay_97 (ct_X7_stepOf hB2 hs16 hr4) rfl (by decide) rfl (Nat.le_of_ble_eq_true rfl) (by decide) rfl (rx ?_)
          rw [hTe]
          refine c_X7_findWay_100 (ct_X7_isIn _ (show T s0 r0 < 32 from by have := hTt r0 hs16 hr4; omega)) rfl (by decide) rfl (Nat.le_of_ble_eq_true rfl) (rx ?_)
          rw [mb_bs1 _ (hTt r0 hs16 hr4), hlr.2]
          refine b_X7_findWay_103 (fun h => ?_) (fun h => absurd h (by decide))
          refine blk s_X7_findWay_112 (And.intro (ib (show k < 16 by omega)) (And.intro (ib (show k < 17 by omega)) (nm ?_)))
          rw [cl k, fl_s (by rw [hRe]), fl_o (by decide), fl_in (by omega), hs0e, nI_s]
          have hB3 : RB (fl (fl I1 49 (fun k => nI (wyS T (rc T) S B w k)) (k + 1)) 50 (fun k => nI (wyR T (rc T) S B w k)) (k + 1)) g C nx os oc := RB_cg hB1 (by rw [fl_o (by decide), fl_o (by decide)]; exact ⟨rfl, rfl, rfl⟩) (by rw [fl_o (by decide), fl_o (by decide)]) (by rw [fl_o (by decide), fl_o (by decide)])
          refine c_X7_findWay_136 (ct_X7_stepOf hB3 hs16 hr4) rfl (by decide) rfl (Nat.le_of_ble_eq_true rfl) (by decide) rfl (rx ?_)
          rw [hTe]
          refine blk s_X7_findWay_139 (And.intro (ib (show k + 1 < 17 by omega)) (nm ?_))
          rw [cl (k + 1), fl_up (by decide), fl_s (by rw [hSs])]
          exact wkt 4 (en_L (by rw [nI_s]; rfl) ih)
        · intro r hr ih2
          have hr4' : r < 4 := by omega
          refine blk s_X7_findWay_86 (And.intro (ib (show k < 17 by omega)) (nm ?_))
          rw [cl k, h49]
          refine c_X7_findWay_97 (ct_X7_stepOf hB2 hs16 hr4') rfl (by decide) rfl (Nat.le_of_ble_eq_true rfl) (by decide) rfl (rx ?_)
          rw [hTe]
          refine c_X7_findWay_100 (ct_X7_isIn _ (show T s0 r < 32 from by have := hTt r hs16 hr4'; omega)) rfl (by decide) rfl (Nat.le_of_ble_eq_true rfl) (rx ?_)
          have hno := (lsN_some hlr.1).2.2 r hr
          rw [mb_bs1 _ (hTt r hs16 hr4'), show soN (rc T) B (w - 1 - k) (T s0 r) = false from hno]
          refine b_X7_findWay_103 (fun h => absurd rfl h) (fun h => ?_)
          refine blk s_X7_findWay_106 (nm ?_)
          exact en_L (by rw [nI_s]) ih2
    · intro k hk ih
      refine blk s_X7_findWay_38 (nm ?_)
      refine c_X7_findWay_40 (ct_X7_isIn _ (by omega)) rfl (by decide) rfl (Nat.le_of_ble_eq_true rfl) (rx ?_)
      have hno := (lsN_some hst.1).2.2 k hk
      rw [mb_bs1 _ (by omega), show (S k && soN (rc T) B w k) = false from hno]
      refine b_X7_findWay_43 (fun h => absurd rfl h) (fun h => ?_)
      refine blk s_X7_findWay_46 (nm ?_)
      exact en_L (by rw [nI_s]) ih
theorem ct_X7_isStillBroken (hB : RB I g C nx os oc) {rw_ : Nat → Nat} {w : Nat} (hw : I 39 13 = nI w) (hw15 : w ≤ 15) (hrw : ∀ k, k < w → I 50 k = nI (rw_ k) ∧ rw_ k < 4) {s : Nat} (hs : s < 16) (ts : Int32) {ti : Nat} (hti : ti < 4) :
    CN 62 RF mX7_isStillBroken 3 [.ref 39, .int (nI s), .int ts, .int (nI ti)] I J (RX (some (.int (b2i (Bx g oc (rnS (Tx g nx) (fun k => if nI k = ts then ti else rw_ k) s w))))) I J) := by
  generalize hrows : (fun k => if nI k = ts then ti else rw_ k) = rows
  have hrows' : ∀ k, (if nI k = ts then ti else rw_ k) = rows k := fun k => by rw [← hrows]
  have hr4 : ∀ k, k < w → rows k < 4 := by
    intro k hk
    rw [← hrows' k]
    split
    · exact hti
    · exact (hrw k hk).2
  generalize hQ : RX (some (.int (b2i (Bx g oc (rnS (Tx g nx) rows s w))))) I J = Q
  have hQ' : Q (some (.int (b2i (Bx g oc (rnS (Tx g nx) rows s w))))) I J := by rw [← hQ]; exact rxq
  clear hQ
  have hlt := rnS_lt (Tx_lt' g nx) hr4 hs
  refine cn_of (by decide) rfl (Nat.le_of_ble_eq_true rfl) ?_
  refine blk s_X7_isStillBroken_0 (nm ?_)
  refine dn (P := fun k => EN 62 RF mX7_isStillBroken 3 6 [(0, .ref 39), (1, .int (nI s)), (2, .int ts), (3, .int (nI ti)), (4, .int (nI (rnS (Tx g nx) rows s k))), (5, .int (nI k))] [] I J Q) (N := w) (a := 0) ?_ ?_ (Nat.zero_le _)
  · refine blk s_X7_isStillBroken_6 (nm ?_)
    rw [hw]
    refine b_X7_isStillBroken_12 (fun h => ?_) (fun h => absurd (Int32.le_refl _) h)
    refine blk s_X7_isStillBroken_46 (nm ?_)
    refine c_X7_isStillBroken_47 (ct_X7_brokenSet hB) rfl (by decide) rfl (Nat.le_of_ble_eq_true rfl) (by decide) rfl (rx ?_)
    refine blk s_X7_isStillBroken_50 (nm ?_)
    have hl := hlt w (Nat.le_refl _)
    refine c_X7_isStillBroken_52 (ct_X7_isIn _ (show rnS (Tx g nx) rows s w < 32 by omega)) rfl (by decide) rfl (Nat.le_of_ble_eq_true rfl) (rx ?_)
    refine blk s_X7_isStillBroken_55 (nm ?_)
    rw [mb_bs1 _ hl]
    refine b_X7_isStillBroken_56 (fun h => ?_) (fun h => ?_)
    · refine blk s_X7_isStillBroken_63 (nm ?_)
      rw [bf h] at hQ'
      exact r_X7_isStillBroken_64 (Or.inl rfl) hQ'
    · refine blk s_X7_isStillBroken_59 (nm ?_)
      rw [bt h] at hQ'
      exact r_X7_isStillBroken_64 (Or.inr rfl) hQ'
  · intro k hk ih
    refine blk s_X7_isStillBroken_6 (nm ?_)
    rw [hw]
    refine b_X7_isStillBroken_12 (fun h => absurd h (nI_ge hk (by omega))) (fun h => ?_)
    refine blk s_X7_isStillBroken_15 (nm ?_)
    have back : ∀ y : Int32, y = nI (rows k) → EN 62 RF mX7_isStillBroken 3 35 [(0, .ref 39), (1, .int (nI s)), (2, .int ts), (3, .int (nI ti)), (4, .int (nI (rnS (Tx g nx) rows s k))), (5, .int (nI k))] [.int y, .int (nI (rnS (Tx g nx) rows s k)), .ref 39] I J Q := by
      intro y hy
      subst hy
      refine c_X7_isStillBroken_35 (ct_X7_stepOf hB (hlt k (by omega)) (hr4 k hk)) rfl (by decide) rfl (Nat.le_of_ble_eq_true rfl) (by decide) rfl (rx ?_)
      refine blk s_X7_isStillBroken_38 (nm ?_)
      exact en_L (by rw [nI_s]; rfl) ih
    refine b_X7_isStillBroken_21 (fun h => ?_) (fun h => ?_)
    · refine blk s_X7_isStillBroken_28 (And.intro (ib (show k < 16 by omega)) (nm ?_))
      rw [cl k, (hrw k hk).1]
      refine back _ ?_
      rw [← hrows' k, if_neg h]
    · refine blk s_X7_isStillBroken_24 (nm ?_)
      refine back _ ?_
      rw [← hrows' k, if_pos h]
theorem lo_A (hB : RB I g C nx os oc) {rw_ : Nat → Nat} {w a : Nat} (hw : I 39 13 = nI w) (hw15 : w ≤ 15) (hrw : ∀ k, k < w → I 50 k = nI (rw_ k) ∧ rw_ k < 4) (ha : I 49 0 = nI a) (ha16 : a < 16) {Q : IQ} (hQ' : Q (some (.int (bsN (fun v => Sx g os (a ^^^ 2 ^ v) && Bx g oc (rnS (Tx g nx) rw_ (a ^^^ 2 ^ v) w)) 4))) I J) : EN 62 RF mX7_loose 5 33 [(0, .ref 39), (1, .int (-1))] [] I J Q := by
  generalize hp : (fun v => Sx g os (a ^^^ 2 ^ v) && Bx g oc (rnS (Tx g nx) rw_ (a ^^^ 2 ^ v) w)) = p at hQ'
  have hp' : ∀ v, (Sx g os (a ^^^ 2 ^ v) && Bx g oc (rnS (Tx g nx) rw_ (a ^^^ 2 ^ v) w)) = p v := fun v => by rw [← hp]
  refine blk s_X7_loose_33 (nm ?_)
  refine dn (P := fun v => EN 62 RF mX7_loose 5 37 [(0, .ref 39), (1, .int (-1)), (2, .int (bsN p v)), (3, .int (nI v))] [] I J Q) (N := 4) (a := 0) ?_ ?_ (Nat.zero_le _)
  · refine blk s_X7_loose_37 (nm ?_)
    refine b_X7_loose_39 (fun h => absurd h (by decide)) (fun h => ?_)
    refine blk s_X7_loose_42 (nm ?_)
    refine b_X7_loose_47 (fun h => ?_) (fun h => absurd (Int32.le_refl _) h)
    refine blk s_X7_loose_148 (nm ?_)
    exact r_X7_loose_149 hQ'
  · intro v hv ih
    have hpv : (Sx g os (a ^^^ 2 ^ v) && Bx g oc (rnS (Tx g nx) rw_ (a ^^^ 2 ^ v) w)) = p v := hp' v
    refine blk s_X7_loose_37 (nm ?_)
    refine b_X7_loose_39 (fun h => absurd h (by decide)) (fun h => ?_)
    refine blk s_X7_loose_42 (nm ?_)
    refine b_X7_loose_47 (fun h => absurd h (nI_ge hv (by decide))) (fun h => ?_)
    refine blk s_X7_loose_50 (nm ?_)
    refine b_X7_loose_51 (fun h => absurd h (by decide)) (fun h => ?_)
    refine blk s_X7_loose_54 (And.intro (by unfold vp_in; decide) (nm ?_))
    rw [show Int32.toNatClampNeg 0 = 0 from rfl, ha, one_shl v hv, nI_xor a ha16 _ (two_lt hv)]
    refine blk s_X7_loose_73 (nm ?_)
    refine b_X7_loose_76 (fun h => absurd h (by decide)) (fun h => ?_)
    refine blk s_X7_loose_79 (nm ?_)
    have hst := xor_lt16 a ha16 _ (two_lt hv)
    have hot : 0 < 4 := by decide
    have hrr : rnS (Tx g nx) (fun k => if nI k = -1 then 0 else rw_ k) (a ^^^ 2 ^ v) w = rnS (Tx g nx) rw_ (a ^^^ 2 ^ v) w := rnS_cg fun k hk => if_neg (by
      intro e
      have := nI_pos (n := k) (by omega)
      rw [e] at this; exact this (by decide))
    refine blk s_X7_loose_93 (nm ?_)
    refine c_X7_loose_96 (ct_X7_startSet hB) rfl (by decide) rfl (Nat.le_of_ble_eq_true rfl) (by decide) rfl (rx ?_)
    refine blk s_X7_loose_99 (nm ?_)
    refine c_X7_loose_101 (ct_X7_isIn _ (show (a ^^^ 2 ^ v) < 32 from by omega)) rfl (by decide) rfl (Nat.le_of_ble_eq_true rfl) (rx ?_)
    refine blk s_X7_loose_104 (nm ?_)
    rw [mb_bs1 _ hst]
    have back : ∀ b : Bool, b = p v → EN 62 RF mX7_loose 5 125 [(0, .ref 39), (1, .int (-1)), (2, .int (bsN p v)), (3, .int (nI v)), (4, .int (nI (a ^^^ 2 ^ v))), (5, .int (nI 0))] [.int (b2i b)] I J Q := by
      intro b hb
      subst hb
      refine blk s_X7_loose_125 (nm ?_)
      have back2 : ∀ y : Int32, y = bv (p v) v → EN 62 RF mX7_loose 5 140 [(0, .ref 39), (1, .int (-1)), (2, .int (bsN p v)), (3, .int (nI v)), (4, .int (nI (a ^^^ 2 ^ v))), (5, .int (nI 0)), (6, .int (b2i (p v)))] [.int y, .int (bsN p v)] I J Q := by
        intro y hy
        subst hy
        refine blk s_X7_loose_140 (nm ?_)
        exact wkt 4 (en_L (by rw [nI_s, bsN_v]; rfl) ih)
      refine b_X7_loose_130 (fun h => ?_) (fun h => ?_)
      · refine blk s_X7_loose_139 (nm ?_)
        exact back2 _ (by rw [(b2i_0 _).mp h]; rfl)
      · refine blk s_X7_loose_133 (nm ?_)
        exact back2 _ (by rw [b2t h]; rfl)
    refine b_X7_loose_105 (fun h => ?_) (fun h => ?_)
    · refine blk s_X7_loose_124 (nm ?_)
      refine back false ?_
      rw [← hpv, bf h, Bool.false_and]
    · refine blk s_X7_loose_108 (nm ?_)
      refine c_X7_loose_114 (ct_X7_isStillBroken hB hw hw15 hrw hst (-1) hot) rfl (by decide) rfl (Nat.le_of_ble_eq_true rfl) (by decide) rfl (rx ?_)
      rw [hrr]
      refine b_X7_loose_117 (fun h2 => ?_) (fun h2 => ?_)
      · refine blk s_X7_loose_124 (nm ?_)
        refine back false ?_
        rw [← hpv, (b2i_0 _).mp h2, Bool.and_false]
      · refine blk s_X7_loose_120 (nm ?_)
        refine back true ?_
        rw [← hpv, bt h, b2t h2]; rfl
theorem lo_B (hB : RB I g C nx os oc) {rw_ : Nat → Nat} {w a k0 : Nat} (hw : I 39 13 = nI w) (hw15 : w ≤ 15) (hrw : ∀ k, k < w → I 50 k = nI (rw_ k) ∧ rw_ k < 4) (ha : I 49 0 = nI a) (ha16 : a < 16) (hk0 : k0 < w) (hSa : Sx g os a = true) {Q : IQ} (hQ' : Q (some (.int (bsN (fun v => Bx g oc (rnS (Tx g nx) (fun k => if k = k0 then rw_ k ^^^ 2 ^ v else rw_ k) a w)) 2))) I J) : EN 62 RF mX7_loose 5 33 [(0, .ref 39), (1, .int (nI k0))] [] I J Q := by
  generalize hp : (fun v => Bx g oc (rnS (Tx g nx) (fun k => if k = k0 then rw_ k ^^^ 2 ^ v else rw_ k) a w)) = p at hQ'
  have hp' : ∀ v, Bx g oc (rnS (Tx g nx) (fun k => if k = k0 then rw_ k ^^^ 2 ^ v else rw_ k) a w) = p v := fun v => by rw [← hp]
  have hk0n : ¬ nI k0 < 0 := nI_pos (by omega)
  refine blk s_X7_loose_33 (nm ?_)
  refine dn (P := fun v => EN 62 RF mX7_loose 5 37 [(0, .ref 39), (1, .int (nI k0)), (2, .int (bsN p v)), (3, .int (nI v))] [] I J Q) (N := 2) (a := 0) ?_ ?_ (Nat.zero_le _)
  · refine blk s_X7_loose_37 (nm ?_)
    refine b_X7_loose_39 (fun h => ?_) (fun h => absurd (Int32.not_lt.mp hk0n) h)
    refine blk s_X7_loose_46 (nm ?_)
    refine b_X7_loose_47 (fun h => ?_) (fun h => absurd (Int32.le_refl _) h)
    refine blk s_X7_loose_148 (nm ?_)
    exact r_X7_loose_149 hQ'
  · intro v hv ih
    have hpv : (Sx g os a && Bx g oc (rnS (Tx g nx) (fun k => if k = k0 then rw_ k ^^^ 2 ^ v else rw_ k) a w)) = p v := by rw [hSa, Bool.true_and]; exact hp' v
    refine blk s_X7_loose_37 (nm ?_)
    refine b_X7_loose_39 (fun h => ?_) (fun h => absurd (Int32.not_lt.mp hk0n) h)
    refine blk s_X7_loose_46 (nm ?_)
    refine b_X7_loose_47 (fun h => absurd h (nI_ge hv (by decide))) (fun h => ?_)
    refine blk s_X7_loose_50 (nm ?_)
    refine b_X7_loose_51 (fun h => ?_) (fun h => absurd (Int32.not_lt.mp hk0n) h)
    refine blk s_X7_loose_67 (And.intro (by unfold vp_in; decide) (nm ?_))
    rw [show Int32.toNatClampNeg 0 = 0 from rfl, ha]
    refine blk s_X7_loose_73 (nm ?_)
    refine b_X7_loose_76 (fun h => ?_) (fun h => absurd (Int32.not_lt.mp hk0n) h)
    refine blk s_X7_loose_83 (And.intro (ib (show k0 < 16 by omega)) (nm ?_))
    rw [cl k0, (hrw k0 hk0).1, one_shl v (by omega), nI_xor _ (Nat.lt_trans (hrw k0 hk0).2 (by decide)) _ (two_lt (by omega))]
    have hst := ha16
    have hot := xor_lt4 _ (hrw k0 hk0).2 _ (two_lt2 hv)
    have hrr : rnS (Tx g nx) (fun k => if nI k = nI k0 then rw_ k0 ^^^ 2 ^ v else rw_ k) a w = rnS (Tx g nx) (fun k => if k = k0 then rw_ k ^^^ 2 ^ v else rw_ k) a w := rnS_cg fun k hk => by
      show (if nI k = nI k0 then rw_ k0 ^^^ 2 ^ v else rw_ k) = (if k = k0 then rw_ k ^^^ 2 ^ v else rw_ k)
      by_cases e : k = k0
      · rw [e, if_pos rfl, if_pos rfl]
      · rw [if_neg e, if_neg (fun e2 => e ((nI_eq (by omega) (by omega)).mp e2))]
    refine blk s_X7_loose_93 (nm ?_)
    refine c_X7_loose_96 (ct_X7_startSet hB) rfl (by decide) rfl (Nat.le_of_ble_eq_true rfl) (by decide) rfl (rx ?_)
    refine blk s_X7_loose_99 (nm ?_)
    refine c_X7_loose_101 (ct_X7_isIn _ (show a < 32 from by omega)) rfl (by decide) rfl (Nat.le_of_ble_eq_true rfl) (rx ?_)
    refine blk s_X7_loose_104 (nm ?_)
    rw [mb_bs1 _ hst]
    have back : ∀ b : Bool, b = p v → EN 62 RF mX7_loose 5 125 [(0, .ref 39), (1, .int (nI k0)), (2, .int (bsN p v)), (3, .int (nI v)), (4, .int (nI a)), (5, .int (nI (rw_ k0 ^^^ 2 ^ v)))] [.int (b2i b)] I J Q := by
      intro b hb
      subst hb
      refine blk s_X7_loose_125 (nm ?_)
      have back2 : ∀ y : Int32, y = bv (p v) v → EN 62 RF mX7_loose 5 140 [(0, .ref 39), (1, .int (nI k0)), (2, .int (bsN p v)), (3, .int (nI v)), (4, .int (nI a)), (5, .int (nI (rw_ k0 ^^^ 2 ^ v))), (6, .int (b2i (p v)))] [.int y, .int (bsN p v)] I J Q := by
        intro y hy
        subst hy
        refine blk s_X7_loose_140 (nm ?_)
        exact wkt 4 (en_L (by rw [nI_s, bsN_v]; rfl) ih)
      refine b_X7_loose_130 (fun h => ?_) (fun h => ?_)
      · refine blk s_X7_loose_139 (nm ?_)
        exact back2 _ (by rw [(b2i_0 _).mp h]; rfl)
      · refine blk s_X7_loose_133 (nm ?_)
        exact back2 _ (by rw [b2t h]; rfl)
    refine b_X7_loose_105 (fun h => ?_) (fun h => ?_)
    · refine blk s_X7_loose_124 (nm ?_)
      refine back false ?_
      rw [← hpv, bf h, Bool.false_and]
    · refine blk s_X7_loose_108 (nm ?_)
      refine c_X7_loose_114 (ct_X7_isStillBroken hB hw hw15 hrw hst (nI k0) hot) rfl (by decide) rfl (Nat.le_of_ble_eq_true rfl) (by decide) rfl (rx ?_)
      rw [hrr]
      refine b_X7_loose_117 (fun h2 => ?_) (fun h2 => ?_)
      · refine blk s_X7_loose_124 (nm ?_)
        refine back false ?_
        rw [← hpv, (b2i_0 _).mp h2, Bool.and_false]
      · refine blk s_X7_loose_120 (nm ?_)
        refine back true ?_
        rw [← hpv, bt h, b2t h2]; rfl
end MOD5
