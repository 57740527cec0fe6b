/-! THE REFERENCE: chains, row by row -/
section MOD6
variable {I : IT} {J : JT} {T : Nat → Nat → Nat} {G L : Nat → Bool}
theorem ct_X7_isNew {p : Nat → Nat} {x i : Nat} (hx : x < 16) (hi : i ≤ 8) (hp : ∀ m, m ≤ i → I 53 m = nI (p m) ∧ p m < 16) : CN 62 RF mX7_isNew 0 [.ref 39, .int (nI x), .int (nI i)] I J (RX (some (.int (b2i (!anN (fun m => decide (p m = x)) (i + 1))))) I J) := by
  generalize hQ : RX (some (.int (b2i (!anN (fun m => decide (p m = x)) (i + 1))))) I J = Q
  have hQ' : Q (some (.int (b2i (!anN (fun m => decide (p m = x)) (i + 1))))) I J := by rw [← hQ]; exact rxq
  clear hQ
  refine cn_of (by decide) rfl (Nat.le_of_ble_eq_true rfl) ?_
  refine blk s_X7_isNew_0 (nm ?_)
  have key : ∀ m, m ≤ i + 1 → anN (fun m => decide (p m = x)) m = false → EN 62 RF mX7_isNew 0 2 [(0, .ref 39), (1, .int (nI x)), (2, .int (nI i)), (3, .int (nI m))] [] I J Q := by
    intro m hm
    refine dn (P := fun m => anN (fun m => decide (p m = x)) m = false → EN 62 RF mX7_isNew 0 2 [(0, .ref 39), (1, .int (nI x)), (2, .int (nI i)), (3, .int (nI m))] [] I J Q) (N := i + 1) ?_ ?_ hm
    · intro h0
      refine blk s_X7_isNew_2 (nm ?_)
      refine b_X7_isNew_4 (fun h => ?_) (fun h => absurd ((nI_ltI (by omega) (by omega)).mpr (by omega)) h)
      refine blk s_X7_isNew_25 (nm ?_)
      rw [h0] at hQ'
      exact r_X7_isNew_26 (Or.inr rfl) hQ'
    · intro m hm ih h0
      refine blk s_X7_isNew_2 (nm ?_)
      refine b_X7_isNew_4 (fun h => absurd ((nI_ltI (by omega) (by omega)).mp h) (by omega)) (fun h => ?_)
      refine blk s_X7_isNew_7 (And.intro (ib (show m < 9 by omega)) (nm ?_))
      have hpm := hp m (by omega)
      rw [cl m, hpm.1]
      refine b_X7_isNew_14 (fun h => ?_) (fun h => ?_)
      · refine blk s_X7_isNew_19 (nm ?_)
        refine en_L (by rw [nI_s]) (ih ?_)
        show (anN (fun m => decide (p m = x)) m || decide (p m = x)) = false
        rw [h0, decide_eq_false (fun e => h (by rw [e]))]; rfl
      · refine blk s_X7_isNew_17 (nm ?_)
        have he := (nI_eq (a := p m) (b := x) (by omega) (by omega)).mp h
        have : anN (fun m => decide (p m = x)) (i + 1) = true := anN_iff.mpr ⟨m, by omega, decide_eq_true he⟩
        rw [this] at hQ'
        exact r_X7_isNew_18 (Or.inl rfl) hQ'
  exact key 0 (by omega) rfl
def DI (I : IT) (T : Nat → Nat → Nat) (G L : Nat → Bool) : Prop := I 39 22 = bs G ∧ I 39 23 = bs L ∧ ∀ s r, s < 16 → r < 4 → I 55 (4 * s + r) = nI (T s r)
def nrC (T : Nat → Nat → Nat) (G L u : Nat → Bool) (j s r : Nat) : Bool := okS G L j (T s r) && !u (T s r) && alN (fun l => !decide (T s l = T s r)) r
def nrP (T : Nat → Nat → Nat) (G L u : Nat → Bool) (j s r0 r : Nat) : Bool := decide (r0 ≤ r) && nrC T G L u j s r
theorem ct_X7_nextRow (hD : DI I T G L) (hT : ∀ s r, s < 16 → r < 4 → T s r < 16) {i k : Nat} (hik : i < k) (hk : k ≤ 8) {p : Nat → Nat} (hp : ∀ m, m ≤ i → I 53 m = nI (p m) ∧ p m < 16) {r0 : Nat} (hr0 : I 54 i + 1 = nI r0) (hr4 : r0 ≤ 4) {u : Nat → Bool} (hu : ∀ x, x < 16 → u x = anN (fun m => decide (p m = x)) (i + 1)) :
    CN 62 RF mX7_nextRow 1 [.ref 39, .int (nI i), .int (nI k)] I J (RX (some (.int (o2i (lsN (nrP T G L u (k - 1 - i) (p i) r0) 4)))) I J) := by
  generalize hQ : RX (some (.int (o2i (lsN (nrP T G L u (k - 1 - i) (p i) r0) 4)))) I J = Q
  have hQ' : Q (some (.int (o2i (lsN (nrP T G L u (k - 1 - i) (p i) r0) 4)))) I J := by rw [← hQ]; exact rxq
  clear hQ
  have hs16 := (hp i (Nat.le_refl _)).2
  have hpi := (hp i (Nat.le_refl _)).1
  generalize hse : p i = s at *
  generalize hje : k - 1 - i = j at *
  refine cn_of (by decide) rfl (Nat.le_of_ble_eq_true rfl) ?_
  refine blk s_X7_nextRow_0 (And.intro (ib (show i < 9 by omega)) (And.intro (ib (show i < 9 by omega)) (nm ?_)))
  rw [cl i, hr0, hpi]
  have e4 : ∀ r, r < 4 → (4 : Int32) * nI s + nI r = nI (4 * s + r) := fun r _ => by rw [show (4 : Int32) = nI 4 from rfl, nI_mul, nI_add]
  have key : ∀ r, r0 ≤ r → r ≤ 4 → lsN (nrP T G L u j s r0) r = none → EN 62 RF mX7_nextRow 1 17 [(0, .ref 39), (1, .int (nI i)), (2, .int (nI k)), (3, .int (nI s)), (4, .int (nI r))] [] I J Q := by
    intro r h0r hr
    refine dn1 (P := fun r => r0 ≤ r → lsN (nrP T G L u j s r0) r = none → EN 62 RF mX7_nextRow 1 17 [(0, .ref 39), (1, .int (nI i)), (2, .int (nI k)), (3, .int (nI s)), (4, .int (nI r))] [] I J Q) (N := 4) (a := r) ?_ ?_ hr h0r
    · intro _ h0
      refine blk s_X7_nextRow_17 (nm ?_)
      refine b_X7_nextRow_20 (fun h => ?_) (fun h => absurd (Int32.le_refl _) h)
      refine blk s_X7_nextRow_138 (nm ?_)
      rw [h0] at hQ'
      exact r_X7_nextRow_140 hQ'
    · intro r _ hr ih h0r h0
      have hTr := hT s r hs16 hr
      refine blk s_X7_nextRow_17 (nm ?_)
      refine b_X7_nextRow_20 (fun h => absurd h (nI_ge hr (by decide))) (fun h => ?_)
      refine blk s_X7_nextRow_23 (And.intro (show vp_in ((4 : Int32) * nI s + nI r) 64 from by rw [e4 r hr]; exact ib (by omega)) (nm ?_))
      rw [e4 r hr, cl (4 * s + r), hD.2.2 s r hs16 hr, nI_s]
      have c : ∀ b : Bool, b = nrC T G L u j s r → EN 62 RF mX7_nextRow 1 124 [(0, .ref 39), (1, .int (nI i)), (2, .int (nI k)), (3, .int (nI s)), (4, .int (nI r)), (5, .int (nI (T s r))), (6, .int (b2i b)), (7, .int (nI r))] [] I J Q := by
        intro b hb
        refine blk s_X7_nextRow_124 (nm ?_)
        refine b_X7_nextRow_126 (fun h => ?_) (fun h => ?_)
        · refine blk s_X7_nextRow_132 (nm ?_)
          refine wkt 5 (en_L (by rw [nI_s]; rfl) (ih (by omega) ?_))
          show (match lsN (nrP T G L u j s r0) r with | some i => some i | none => if nrP T G L u j s r0 r then some r else none) = none
          rw [h0]
          unfold nrP
          rw [← hb, (b2i_0 _).mp h, Bool.and_false]; rfl
        · refine blk s_X7_nextRow_129 (nm ?_)
          have : lsN (nrP T G L u j s r0) 4 = some r := lsN_first hr (by unfold nrP; rw [← hb, b2t h, decide_eq_true h0r]; rfl) (lsN_none.mp h0)
          rw [this] at hQ'
          exact r_X7_nextRow_131 hQ'
      have mid : ∀ b : Bool, b = (okS G L j (T s r) && !u (T s r)) → EN 62 RF mX7_nextRow 1 78 [(0, .ref 39), (1, .int (nI i)), (2, .int (nI k)), (3, .int (nI s)), (4, .int (nI r)), (5, .int (nI (T s r)))] [.int (b2i b)] I J Q := by
        intro b hb
        refine blk s_X7_nextRow_78 (nm ?_)
        refine en_L (show _ = [(0, .ref 39), (1, .int (nI i)), (2, .int (nI k)), (3, .int (nI s)), (4, .int (nI r)), (5, .int (nI (T s r))), (6, .int (b2i (b && alN (fun l => !decide (T s l = T s r)) 0))), (7, .int (nI 0))] from by rw [show (b && alN (fun l => !decide (T s l = T s r)) 0) = b from Bool.and_true b]; rfl) ?_
        refine dn (P := fun l => EN 62 RF mX7_nextRow 1 83 [(0, .ref 39), (1, .int (nI i)), (2, .int (nI k)), (3, .int (nI s)), (4, .int (nI r)), (5, .int (nI (T s r))), (6, .int (b2i (b && alN (fun l => !decide (T s l = T s r)) l))), (7, .int (nI l))] [] I J Q) (N := r) (a := 0) ?_ ?_ (Nat.zero_le _)
        · refine blk s_X7_nextRow_83 (nm ?_)
          refine b_X7_nextRow_87 (fun h => ?_) (fun h => absurd (Int32.le_refl _) h)
          refine c _ ?_
          rw [hb]; rfl
        · intro l hl ih2
          refine blk s_X7_nextRow_83 (nm ?_)
          refine b_X7_nextRow_87 (fun h => absurd h (nI_ge hl (by omega))) (fun h => ?_)
          refine blk s_X7_nextRow_90 (nm ?_)
          have hTl := hT s l hs16 (by omega)
          have back : ∀ b2 : Bool, b2 = (b && alN (fun l => !decide (T s l = T s r)) (l + 1)) → EN 62 RF mX7_nextRow 1 116 [(0, .ref 39), (1, .int (nI i)), (2, .int (nI k)), (3, .int (nI s)), (4, .int (nI r)), (5, .int (nI (T s r))), (6, .int (b2i (b && alN (fun l => !decide (T s l = T s r)) l))), (7, .int (nI l))] [.int (b2i b2)] I J Q := by
            intro b2 hb2
            subst hb2
            refine blk s_X7_nextRow_116 (nm ?_)
            exact en_L (by rw [nI_s]) ih2
          have ea : (b && alN (fun l => !decide (T s l = T s r)) (l + 1)) = ((b && alN (fun l => !decide (T s l = T s r)) l) && !decide (T s l = T s r)) := by
            show (b && (alN (fun l => !decide (T s l = T s r)) l && !decide (T s l = T s r))) = _
            rw [Bool.and_assoc]
          rw [ea] at back
          refine b_X7_nextRow_92 (fun h => ?_) (fun h => ?_)
          · refine blk s_X7_nextRow_115 (nm ?_)
            refine back false ?_
            rw [(b2i_0 _).mp h]; rfl
          · refine blk s_X7_nextRow_95 (And.intro (show vp_in ((4 : Int32) * nI s + nI l) 64 from by rw [e4 l (by omega)]; exact ib (by omega)) (nm ?_))
            rw [e4 l (by omega), cl (4 * s + l), hD.2.2 s l hs16 (by omega)]
            refine b_X7_nextRow_108 (fun h2 => ?_) (fun h2 => ?_)
            · refine blk s_X7_nextRow_115 (nm ?_)
              refine back false ?_
              rw [decide_eq_true ((nI_eq (a := T s l) (b := T s r) (by omega) (by omega)).mp h2)]
              exact (Bool.and_false _).symm
            · refine blk s_X7_nextRow_111 (nm ?_)
              refine back true ?_
              rw [b2t h, decide_eq_false (fun e => h2 (by rw [e]))]; rfl
      have set : ∀ x : Int32, x = bs (okS G L j) → EN 62 RF mX7_nextRow 1 54 [(0, .ref 39), (1, .int (nI i)), (2, .int (nI k)), (3, .int (nI s)), (4, .int (nI r)), (5, .int (nI (T s r)))] [.int x] I J Q := by
        intro x hx
        subst hx
        refine blk s_X7_nextRow_54 (nm ?_)
        refine c_X7_nextRow_56 (ct_X7_isIn _ (show T s r < 32 by omega)) rfl (by decide) rfl (Nat.le_of_ble_eq_true rfl) (rx ?_)
        refine blk s_X7_nextRow_59 (nm ?_)
        rw [mb_bs1 _ hTr]
        refine b_X7_nextRow_60 (fun h => ?_) (fun h => ?_)
        · refine blk s_X7_nextRow_77 (nm ?_)
          refine mid false ?_
          rw [bf h, Bool.false_and]
        · refine blk s_X7_nextRow_63 (nm ?_)
          refine c_X7_nextRow_67 (ct_X7_isNew hTr (by omega) hp) rfl (by decide) rfl (Nat.le_of_ble_eq_true rfl) (by decide) rfl (rx ?_)
          rw [← hu _ hTr]
          refine b_X7_nextRow_70 (fun h2 => ?_) (fun h2 => ?_)
          · refine blk s_X7_nextRow_77 (nm ?_)
            refine mid false ?_
            rw [(b2i_0 _).mp h2, Bool.and_false]
          · refine blk s_X7_nextRow_73 (nm ?_)
            refine mid true ?_
            rw [bt h, b2t h2]; rfl
      refine b_X7_nextRow_40 (fun h => ?_) (fun h => ?_)
      · refine blk s_X7_nextRow_50 (nm ?_)
        rw [hD.1]
        refine set _ ?_
        have hj : ∃ j', j = j' + 1 := by
          refine ⟨j - 1, ?_⟩
          have : ¬ i + 1 = k := fun e => h (by rw [e])
          omega
        obtain ⟨j', rfl⟩ := hj
        rfl
      · refine blk s_X7_nextRow_43 (nm ?_)
        rw [hD.2.1]
        refine set _ ?_
        have := (nI_eq (a := i + 1) (b := k) (by omega) (by omega)).mp h
        have hj : j = 0 := by omega
        subst hj
        rfl
  refine key r0 (Nat.le_refl _) hr4 (lsN_none.mpr fun r hr => ?_)
  unfold nrP
  rw [decide_eq_false (by omega), Bool.false_and]
end MOD6
