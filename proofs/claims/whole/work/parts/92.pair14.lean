/-! PAIRS: move -/
section PAIR14
variable {sc : Nat → Nat → Int32} {V V' : Nat} {I I0 I1 I2 : IT} {J : JT} {f : IT} {g : JT} {C : Nat} {nx : Nat → Option Nat} {os oc : Option Nat} {K : Nat} {bx : BXT} {fa : Int32}
def mvP (p1 p2 : Nat → Option Nat) (a c m : Nat) : Nat → Option Nat := fun j => if c ≤ j ∧ j < c + m then p1 (a + (j - c)) else p2 j
def mvX (kd : Nat → Int32) (so : Nat) (p1 : Nat → Option Nat) (a m : Nat) : Bool := match p1 (a + m) with
  | none => false
  | some t => !amB (nI so) (kd t)
def mvR (kd : Nat → Int32) (bx : BXT) (k so l : Nat) (p1 p2 : Nat → Option Nat) (a c w : Nat) : BR := match lsN (mvX kd so p1 a) w with
  | none => (nI w, 0, ubx bx k (some (so, l, mvP p1 p2 a c w)))
  | some m => (-12, 2, ubx bx k (some (so, l, mvP p1 p2 a c m)))
def mvS (kd : Nat → Int32) (bx : BXT) (b i c j n : Int32) : BR := match ltB b 4, ltB c 4 with
  | true, true => match bx b.toNatClampNeg, bx c.toNatClampNeg with
    | some q1, some q2 => match hgB i n (nI q1.2.1) && hgB j n (nI q2.2.1) with
      | false => (-13, 3, bx)
      | true => mvR kd bx c.toNatClampNeg q2.1 q2.2.1 q1.2.2 q2.2.2 i.toNatClampNeg j.toNatClampNeg n.toNatClampNeg
    | _, _ => (-11, 1, bx)
  | _, _ => (-1, 0, bx)
theorem hg_ex {i n : Int32} {l : Nat} (hl : l ≤ 8) (h : hgB i n (nI l) = true) : ∃ a w, i = nI a ∧ n = nI w ∧ a + w ≤ l := by
  unfold hgB at h
  simp only [Bool.and_eq_true, Bool.not_eq_true', decide_eq_false_iff_not] at h
  obtain ⟨⟨⟨h1, h2⟩, h3⟩, h4⟩ := h
  obtain ⟨a, ha, rfl⟩ := nI_of h1
  obtain ⟨w, hw, rfl⟩ := nI_of h2
  have h5 : a ≤ l := Nat.not_lt.mp fun h => h3 ((nI_ltI (by omega) ha).mpr h)
  rw [pk_sub h5] at h4
  have h6 : w ≤ l - a := Nat.not_lt.mp fun h => h4 ((nI_ltI (by omega) hw).mpr h)
  exact ⟨a, w, rfl, rfl, by omega⟩
theorem mvP_0 {p1 p2 : Nat → Option Nat} {a c : Nat} : mvP p1 p2 a c 0 = p2 := by
  funext j; unfold mvP; rw [if_neg (by omega)]
theorem mvP_s {p1 p2 : Nat → Option Nat} {a c m : Nat} (x : Nat) : mvP p1 p2 a c (m + 1) x = if x = c + m then p1 (a + m) else mvP p1 p2 a c m x := by
  unfold mvP
  by_cases e : x = c + m
  · subst e; rw [if_pos (by omega), if_pos rfl]; congr 1; omega
  · rw [if_neg e]
    by_cases h : c ≤ x ∧ x < c + m
    · rw [if_pos (by omega), if_pos h]
    · rw [if_neg (by omega), if_neg h]
theorem ubx_2 {k : Nat} {q q' : Option (Nat × Nat × (Nat → Option Nat))} : ubx (ubx bx k q) k q' = ubx bx k q' := by
  funext c; unfold ubx
  by_cases e : c = k
  · rw [if_pos e, if_pos e]
  · rw [if_neg e, if_neg e, if_neg e]
theorem ubx_id {k : Nat} {q : Option (Nat × Nat × (Nat → Option Nat))} (h : bx k = q) : ubx bx k q = bx := by
  funext c; unfold ubx
  by_cases e : c = k
  · rw [if_pos e, e, h]
  · rw [if_neg e]
theorem mv_C {k so l j : Nat} {P P' : Nat → Option Nat} {o : Option Nat} (hk : k < 4) (hx : CBX (ubx bx k (some (so, l, P))) I) (hP : ∀ x, P' x = if x = j then o else P x) : CBX (ubx bx k (some (so, l, P'))) (up2 I (bP k) j (o2i o)) := by
  obtain ⟨x1, x2, x3⟩ := (hx k hk).2 so l P ubx_s
  rw [← ubx_2 (q := some (so, l, P))]
  refine CBX_u hx (fun c hc hne => ⟨up2_o (bO_ne hne).2.2.1, up2_o (bO_ne hne).2.1⟩) ⟨fun h => by (cases h), fun so' l' p' h => ?_⟩
  cases h
  have hOP : bO k ≠ bP k := by show 30 + 2 * k ≠ 31 + 2 * k; omega
  refine ⟨by rw [up2_o hOP]; exact x1, by rw [up2_o hOP]; exact x2, fun i hi => ?_⟩
  rw [hP i]
  by_cases e : i = j
  · subst e; rw [up2_s, if_pos rfl]
  · rw [up2_k e, if_neg e]; exact x3 i hi
theorem mv_R {k so l j : Nat} {P P' : Nat → Option Nat} {o : Option Nat} (hk : k < 4) (hj : j < 8) (hx : RBX (ubx bx k (some (so, l, P))) I) (hP : ∀ x, P' x = if x = j then o else P x) : RBX (ubx bx k (some (so, l, P'))) (up2 I 60 (8 * k + j) (o2i o)) := by
  obtain ⟨x1, x2, x3⟩ := (hx k hk).2 so l P ubx_s
  rw [← ubx_2 (q := some (so, l, P))]
  refine RBX_u hx (fun c hc hne => ⟨by rw [up2_o (by decide)], by rw [up2_o (by decide)], fun i hi => up2_k (by omega)⟩) ⟨fun h => by (cases h), fun so' l' p' h => ?_⟩
  cases h
  refine ⟨by rw [up2_o (by decide)]; exact x1, by rw [up2_o (by decide)]; exact x2, fun i hi => ?_⟩
  rw [hP i]
  by_cases e : i = j
  · subst e; rw [up2_s, if_pos rfl]
  · rw [up2_k (by omega), if_neg e]; exact x3 i hi
theorem mv1_0 {b3 b4 : Int32} {o2 : Nat} {b1 : Int32} {l a w : Nat} {p1 : Nat → Option Nat} (hl : l ≤ 8) (haw : a + w ≤ l) (x3 : ∀ i, i < 8 → I (bP 0) i = o2i (p1 i)) {Q : IQ} (hk : EN 62 RF mX6_move 1 121 [(0, .ref 0), (1, .int b1), (2, .int (nI a)), (3, .int b3), (4, .int b4), (5, .int (nI w)), (6, .ref (bO 0)), (7, .ref o2), (8, .int (nI w))] [] (fl I 38 (fun m => o2i (p1 (a + m))) w) J Q) : EN 62 RF mX6_move 1 91 [(0, .ref 0), (1, .int b1), (2, .int (nI a)), (3, .int b3), (4, .int b4), (5, .int (nI w)), (6, .ref (bO 0)), (7, .ref o2), (8, .int 0)] [] I J Q := by
  refine en_I (fl_0 (I := I) (o := 38) (g := fun m => o2i (p1 (a + m)))).symm ?_
  refine dn (P := fun m => EN 62 RF mX6_move 1 91 [(0, .ref 0), (1, .int b1), (2, .int (nI a)), (3, .int b3), (4, .int b4), (5, .int (nI w)), (6, .ref (bO 0)), (7, .ref o2), (8, .int (nI m))] [] (fl I 38 (fun m => o2i (p1 (a + m))) m) J Q) (N := w) (a := 0) ?_ ?_ (Nat.zero_le _)
  · refine blk s_X6_move_91 (nm ?_)
    exact b_X6_move_95 (fun _ => hk) (fun h => absurd (Int32.le_refl _) h)
  · intro m hm ih
    refine blk s_X6_move_91 (nm ?_)
    refine b_X6_move_95 (fun h => absurd h (nI_ge hm (by omega))) (fun h => ?_)
    refine blk s_X6_move_98 (And.intro (show vp_in (nI a + nI m) 8 from by rw [nI_add]; exact ib (by omega)) (And.intro (ib (show m < 8 by omega)) (nm ?_)))
    rw [nI_add, cl (a + m), cl m, fl_o (by decide), show I _ (a + m) = o2i (p1 (a + m)) from x3 (a + m) (by omega)]
    exact en_L (by rw [nI_s]) (en_I (fl_s rfl) ih)
theorem mv1_1 {b3 b4 : Int32} {o2 : Nat} {b1 : Int32} {l a w : Nat} {p1 : Nat → Option Nat} (hl : l ≤ 8) (haw : a + w ≤ l) (x3 : ∀ i, i < 8 → I (bP 1) i = o2i (p1 i)) {Q : IQ} (hk : EN 62 RF mX6_move 1 121 [(0, .ref 0), (1, .int b1), (2, .int (nI a)), (3, .int b3), (4, .int b4), (5, .int (nI w)), (6, .ref (bO 1)), (7, .ref o2), (8, .int (nI w))] [] (fl I 38 (fun m => o2i (p1 (a + m))) w) J Q) : EN 62 RF mX6_move 1 91 [(0, .ref 0), (1, .int b1), (2, .int (nI a)), (3, .int b3), (4, .int b4), (5, .int (nI w)), (6, .ref (bO 1)), (7, .ref o2), (8, .int 0)] [] I J Q := by
  refine en_I (fl_0 (I := I) (o := 38) (g := fun m => o2i (p1 (a + m)))).symm ?_
  refine dn (P := fun m => EN 62 RF mX6_move 1 91 [(0, .ref 0), (1, .int b1), (2, .int (nI a)), (3, .int b3), (4, .int b4), (5, .int (nI w)), (6, .ref (bO 1)), (7, .ref o2), (8, .int (nI m))] [] (fl I 38 (fun m => o2i (p1 (a + m))) m) J Q) (N := w) (a := 0) ?_ ?_ (Nat.zero_le _)
  · refine blk s_X6_move_91 (nm ?_)
    exact b_X6_move_95 (fun _ => hk) (fun h => absurd (Int32.le_refl _) h)
  · intro m hm ih
    refine blk s_X6_move_91 (nm ?_)
    refine b_X6_move_95 (fun h => absurd h (nI_ge hm (by omega))) (fun h => ?_)
    refine blk s_X6_move_98 (And.intro (show vp_in (nI a + nI m) 8 from by rw [nI_add]; exact ib (by omega)) (And.intro (ib (show m < 8 by omega)) (nm ?_)))
    rw [nI_add, cl (a + m), cl m, fl_o (by decide), show I _ (a + m) = o2i (p1 (a + m)) from x3 (a + m) (by omega)]
    exact en_L (by rw [nI_s]) (en_I (fl_s rfl) ih)
theorem mv1_2 {b3 b4 : Int32} {o2 : Nat} {b1 : Int32} {l a w : Nat} {p1 : Nat → Option Nat} (hl : l ≤ 8) (haw : a + w ≤ l) (x3 : ∀ i, i < 8 → I (bP 2) i = o2i (p1 i)) {Q : IQ} (hk : EN 62 RF mX6_move 1 121 [(0, .ref 0), (1, .int b1), (2, .int (nI a)), (3, .int b3), (4, .int b4), (5, .int (nI w)), (6, .ref (bO 2)), (7, .ref o2), (8, .int (nI w))] [] (fl I 38 (fun m => o2i (p1 (a + m))) w) J Q) : EN 62 RF mX6_move 1 91 [(0, .ref 0), (1, .int b1), (2, .int (nI a)), (3, .int b3), (4, .int b4), (5, .int (nI w)), (6, .ref (bO 2)), (7, .ref o2), (8, .int 0)] [] I J Q := by
  refine en_I (fl_0 (I := I) (o := 38) (g := fun m => o2i (p1 (a + m)))).symm ?_
  refine dn (P := fun m => EN 62 RF mX6_move 1 91 [(0, .ref 0), (1, .int b1), (2, .int (nI a)), (3, .int b3), (4, .int b4), (5, .int (nI w)), (6, .ref (bO 2)), (7, .ref o2), (8, .int (nI m))] [] (fl I 38 (fun m => o2i (p1 (a + m))) m) J Q) (N := w) (a := 0) ?_ ?_ (Nat.zero_le _)
  · refine blk s_X6_move_91 (nm ?_)
    exact b_X6_move_95 (fun _ => hk) (fun h => absurd (Int32.le_refl _) h)
  · intro m hm ih
    refine blk s_X6_move_91 (nm ?_)
    refine b_X6_move_95 (fun h => absurd h (nI_ge hm (by omega))) (fun h => ?_)
    refine blk s_X6_move_98 (And.intro (show vp_in (nI a + nI m) 8 from by rw [nI_add]; exact ib (by omega)) (And.intro (ib (show m < 8 by omega)) (nm ?_)))
    rw [nI_add, cl (a + m), cl m, fl_o (by decide), show I _ (a + m) = o2i (p1 (a + m)) from x3 (a + m) (by omega)]
    exact en_L (by rw [nI_s]) (en_I (fl_s rfl) ih)
theorem mv1_3 {b3 b4 : Int32} {o2 : Nat} {b1 : Int32} {l a w : Nat} {p1 : Nat → Option Nat} (hl : l ≤ 8) (haw : a + w ≤ l) (x3 : ∀ i, i < 8 → I (bP 3) i = o2i (p1 i)) {Q : IQ} (hk : EN 62 RF mX6_move 1 121 [(0, .ref 0), (1, .int b1), (2, .int (nI a)), (3, .int b3), (4, .int b4), (5, .int (nI w)), (6, .ref (bO 3)), (7, .ref o2), (8, .int (nI w))] [] (fl I 38 (fun m => o2i (p1 (a + m))) w) J Q) : EN 62 RF mX6_move 1 91 [(0, .ref 0), (1, .int b1), (2, .int (nI a)), (3, .int b3), (4, .int b4), (5, .int (nI w)), (6, .ref (bO 3)), (7, .ref o2), (8, .int 0)] [] I J Q := by
  refine en_I (fl_0 (I := I) (o := 38) (g := fun m => o2i (p1 (a + m)))).symm ?_
  refine dn (P := fun m => EN 62 RF mX6_move 1 91 [(0, .ref 0), (1, .int b1), (2, .int (nI a)), (3, .int b3), (4, .int b4), (5, .int (nI w)), (6, .ref (bO 3)), (7, .ref o2), (8, .int (nI m))] [] (fl I 38 (fun m => o2i (p1 (a + m))) m) J Q) (N := w) (a := 0) ?_ ?_ (Nat.zero_le _)
  · refine blk s_X6_move_91 (nm ?_)
    exact b_X6_move_95 (fun _ => hk) (fun h => absurd (Int32.le_refl _) h)
  · intro m hm ih
    refine blk s_X6_move_91 (nm ?_)
    refine b_X6_move_95 (fun h => absurd h (nI_ge hm (by omega))) (fun h => ?_)
    refine blk s_X6_move_98 (And.intro (show vp_in (nI a + nI m) 8 from by rw [nI_add]; exact ib (by omega)) (And.intro (ib (show m < 8 by omega)) (nm ?_)))
    rw [nI_add, cl (a + m), cl m, fl_o (by decide), show I _ (a + m) = o2i (p1 (a + m)) from x3 (a + m) (by omega)]
    exact en_L (by rw [nI_s]) (en_I (fl_s rfl) ih)
theorem mv2_0 {b1 b2 b3 : Int32} {o1 : Nat} {so l c w a : Nat} {p1 p2 : Nat → Option Nat} (hC : I 1 9 = nI C) (h40 : C ≤ 40) (hl : l ≤ 8) (hcw : c + w ≤ l) (hp : ∀ m t, m < w → p1 (a + m) = some t → t < C) : ∀ (n m : Nat) (Im : IT), m + n = w → CFr I Im → CBX (ubx bx 0 (some (so, l, mvP p1 p2 a c m))) Im → Im 0 7 = 0 → (∀ x, x < w → Im 38 x = o2i (p1 (a + x))) → (∀ x, x < m → mvX (I 2) so p1 a x = false) → EN 62 RF mX6_move 1 124 [(0, .ref 0), (1, .int b1), (2, .int b2), (3, .int b3), (4, .int (nI c)), (5, .int (nI w)), (6, .ref o1), (7, .ref (bO 0)), (8, .int (nI m))] [] Im J (CBQ I J (mvR (I 2) bx 0 so l p1 p2 a c w)) := by
  have hkk : 0 < 4 := by decide
  intro n
  induction n with
  | zero =>
    intro m Im hn hf hx h7 h38 hno
    have hmw : m = w := by omega
    subst hmw
    refine blk s_X6_move_124 (nm ?_)
    refine b_X6_move_128 (fun h => ?_) (fun h => absurd (Int32.le_refl _) h)
    have e : lsN (mvX (I 2) so p1 a) m = none := lsN_none.mpr hno
    unfold mvR; rw [e]
    refine blk s_X6_move_195 (nm ?_)
    exact r_X6_move_197 ⟨rfl, rfl, hf, hx, h7⟩
  | succ n ih =>
    intro m Im hn hf hx h7 h38 hno
    have hmw : m < w := by omega
    have hpt : ∀ t, p1 (a + m) = some t → t < C := fun t ht => hp m t hmw ht
    have hC1 : Im 1 9 = nI C := by rw [hf 1 (by decide) (by decide)]; exact hC
    obtain ⟨x1, x2, x3⟩ := (hx _ hkk).2 so l _ ubx_s
    refine blk s_X6_move_124 (nm ?_)
    refine b_X6_move_128 (fun h => absurd h (nI_ge hmw (by omega))) (fun h => ?_)
    refine blk s_X6_move_131 (And.intro (ib (show m < 8 by omega)) (nm ?_))
    rw [cl m, show Im _ m = o2i (p1 (a + m)) from h38 m hmw]
    have on : mvX (I 2) so p1 a m = false → EN 62 RF mX6_move 1 176 [(0, .ref 0), (1, .int b1), (2, .int b2), (3, .int b3), (4, .int (nI c)), (5, .int (nI w)), (6, .ref o1), (7, .ref (bO 0)), (8, .int (nI m)), (9, .int (o2i (p1 (a + m))))] [] Im J (CBQ I J (mvR (I 2) bx 0 so l p1 p2 a c w)) := by
      intro hX
      refine blk s_X6_move_176 (And.intro (show vp_in (nI c + nI m) 8 from by rw [nI_add]; exact ib (by omega)) (nm ?_))
      rw [nI_add, cl (c + m)]
      refine wkt 9 (en_L (by rw [nI_s]; rfl) (ih (m + 1) _ (by omega) (CFr_t hf (CFr_u (by decide))) (mv_C hkk hx (fun x => mvP_s x)) ?_ (fun x hx' => ?_) (fun x hx' => ?_)))
      · rw [up2_o (by decide)]; exact h7
      · rw [up2_o (by decide)]; exact h38 x hx'
      · by_cases e : x = m
        · subst e; exact hX
        · exact hno x (by omega)
    refine c_X6_move_146 (ct_X4_hasC hC1 _) rfl (by decide) rfl (Nat.le_of_ble_eq_true rfl) (by decide) rfl (rx ?_)
    rw [hsB_o h40 hpt]
    cases hpi : p1 (a + m) with
    | none =>
      rw [hpi] at on
      exact b_X6_move_149 (fun _ => on (by unfold mvX; rw [hpi])) (fun h => absurd rfl h)
    | some t =>
      rw [hpi] at on
      have ht := hpt t hpi
      refine b_X6_move_149 (fun h => absurd h (show ¬ b2i true = 0 by decide)) (fun h => ?_)
      refine blk s_X6_move_152 (And.intro (ib (show t < 40 by omega)) (nm ?_))
      rw [show o2i (some t) = nI t from rfl, cl t, hf 2 (by decide) (by decide)]
      refine c_X6_move_164 (ct_X0_admits hkk (I 2 t)) rfl (by decide) rfl (Nat.le_of_ble_eq_true rfl) (by decide) rfl (rx ?_)
      rw [x1]
      cases ha : amB (nI so) (I 2 t) with
      | true => exact b_X6_move_167 (fun _ => on (by unfold mvX; rw [hpi]; dsimp only; rw [ha]; rfl)) (fun h => absurd h (by decide))
      | false =>
        have e : lsN (mvX (I 2) so p1 a) w = some m := lsN_first hmw (by unfold mvX; rw [hpi]; dsimp only; rw [ha]; rfl) hno
        refine b_X6_move_167 (fun h => absurd rfl h) (fun h => ?_)
        unfold mvR; rw [e]
        refine blk s_X6_move_170 (nm ?_)
        refine c_X6_move_172 (ct_X6_faulted 2) rfl (by decide) rfl (Nat.le_of_ble_eq_true rfl) (by decide) rfl (rx ?_)
        exact r_X6_move_175 ⟨rfl, rfl, CFr_t hf (CFr_0 2), CBX_f hx 2, up2_s⟩
theorem mv2_1 {b1 b2 b3 : Int32} {o1 : Nat} {so l c w a : Nat} {p1 p2 : Nat → Option Nat} (hC : I 1 9 = nI C) (h40 : C ≤ 40) (hl : l ≤ 8) (hcw : c + w ≤ l) (hp : ∀ m t, m < w → p1 (a + m) = some t → t < C) : ∀ (n m : Nat) (Im : IT), m + n = w → CFr I Im → CBX (ubx bx 1 (some (so, l, mvP p1 p2 a c m))) Im → Im 0 7 = 0 → (∀ x, x < w → Im 38 x = o2i (p1 (a + x))) → (∀ x, x < m → mvX (I 2) so p1 a x = false) → EN 62 RF mX6_move 1 124 [(0, .ref 0), (1, .int b1), (2, .int b2), (3, .int b3), (4, .int (nI c)), (5, .int (nI w)), (6, .ref o1), (7, .ref (bO 1)), (8, .int (nI m))] [] Im J (CBQ I J (mvR (I 2) bx 1 so l p1 p2 a c w)) := by
  have hkk : 1 < 4 := by decide
  intro n
  induction n with
  | zero =>
    intro m Im hn hf hx h7 h38 hno
    have hmw : m = w := by omega
    subst hmw
    refine blk s_X6_move_124 (nm ?_)
    refine b_X6_move_128 (fun h => ?_) (fun h => absurd (Int32.le_refl _) h)
    have e : lsN (mvX (I 2) so p1 a) m = none := lsN_none.mpr hno
    unfold mvR; rw [e]
    refine blk s_X6_move_195 (nm ?_)
    exact r_X6_move_197 ⟨rfl, rfl, hf, hx, h7⟩
  | succ n ih =>
    intro m Im hn hf hx h7 h38 hno
    have hmw : m < w := by omega
    have hpt : ∀ t, p1 (a + m) = some t → t < C := fun t ht => hp m t hmw ht
    have hC1 : Im 1 9 = nI C := by rw [hf 1 (by decide) (by decide)]; exact hC
    obtain ⟨x1, x2, x3⟩ := (hx _ hkk).2 so l _ ubx_s
    refine blk s_X6_move_124 (nm ?_)
    refine b_X6_move_128 (fun h => absurd h (nI_ge hmw (by omega))) (fun h => ?_)
    refine blk s_X6_move_131 (And.intro (ib (show m < 8 by omega)) (nm ?_))
    rw [cl m, show Im _ m = o2i (p1 (a + m)) from h38 m hmw]
    have on : mvX (I 2) so p1 a m = false → EN 62 RF mX6_move 1 176 [(0, .ref 0), (1, .int b1), (2, .int b2), (3, .int b3), (4, .int (nI c)), (5, .int (nI w)), (6, .ref o1), (7, .ref (bO 1)), (8, .int (nI m)), (9, .int (o2i (p1 (a + m))))] [] Im J (CBQ I J (mvR (I 2) bx 1 so l p1 p2 a c w)) := by
      intro hX
      refine blk s_X6_move_176 (And.intro (show vp_in (nI c + nI m) 8 from by rw [nI_add]; exact ib (by omega)) (nm ?_))
      rw [nI_add, cl (c + m)]
      refine wkt 9 (en_L (by rw [nI_s]; rfl) (ih (m + 1) _ (by omega) (CFr_t hf (CFr_u (by decide))) (mv_C hkk hx (fun x => mvP_s x)) ?_ (fun x hx' => ?_) (fun x hx' => ?_)))
      · rw [up2_o (by decide)]; exact h7
      · rw [up2_o (by decide)]; exact h38 x hx'
      · by_cases e : x = m
        · subst e; exact hX
        · exact hno x (by omega)
    refine c_X6_move_146 (ct_X4_hasC hC1 _) rfl (by decide) rfl (Nat.le_of_ble_eq_true rfl) (by decide) rfl (rx ?_)
    rw [hsB_o h40 hpt]
    cases hpi : p1 (a + m) with
    | none =>
      rw [hpi] at on
      exact b_X6_move_149 (fun _ => on (by unfold mvX; rw [hpi])) (fun h => absurd rfl h)
    | some t =>
      rw [hpi] at on
      have ht := hpt t hpi
      refine b_X6_move_149 (fun h => absurd h (show ¬ b2i true = 0 by decide)) (fun h => ?_)
      refine blk s_X6_move_152 (And.intro (ib (show t < 40 by omega)) (nm ?_))
      rw [show o2i (some t) = nI t from rfl, cl t, hf 2 (by decide) (by decide)]
      refine c_X6_move_164 (ct_X0_admits hkk (I 2 t)) rfl (by decide) rfl (Nat.le_of_ble_eq_true rfl) (by decide) rfl (rx ?_)
      rw [x1]
      cases ha : amB (nI so) (I 2 t) with
      | true => exact b_X6_move_167 (fun _ => on (by unfold mvX; rw [hpi]; dsimp only; rw [ha]; rfl)) (fun h => absurd h (by decide))
      | false =>
        have e : lsN (mvX (I 2) so p1 a) w = some m := lsN_first hmw (by unfold mvX; rw [hpi]; dsimp only; rw [ha]; rfl) hno
        refine b_X6_move_167 (fun h => absurd rfl h) (fun h => ?_)
        unfold mvR; rw [e]
        refine blk s_X6_move_170 (nm ?_)
        refine c_X6_move_172 (ct_X6_faulted 2) rfl (by decide) rfl (Nat.le_of_ble_eq_true rfl) (by decide) rfl (rx ?_)
        exact r_X6_move_175 ⟨rfl, rfl, CFr_t hf (CFr_0 2), CBX_f hx 2, up2_s⟩
theorem mv2_2 {b1 b2 b3 : Int32} {o1 : Nat} {so l c w a : Nat} {p1 p2 : Nat → Option Nat} (hC : I 1 9 = nI C) (h40 : C ≤ 40) (hl : l ≤ 8) (hcw : c + w ≤ l) (hp : ∀ m t, m < w → p1 (a + m) = some t → t < C) : ∀ (n m : Nat) (Im : IT), m + n = w → CFr I Im → CBX (ubx bx 2 (some (so, l, mvP p1 p2 a c m))) Im → Im 0 7 = 0 → (∀ x, x < w → Im 38 x = o2i (p1 (a + x))) → (∀ x, x < m → mvX (I 2) so p1 a x = false) → EN 62 RF mX6_move 1 124 [(0, .ref 0), (1, .int b1), (2, .int b2), (3, .int b3), (4, .int (nI c)), (5, .int (nI w)), (6, .ref o1), (7, .ref (bO 2)), (8, .int (nI m))] [] Im J (CBQ I J (mvR (I 2) bx 2 so l p1 p2 a c w)) := by
  have hkk : 2 < 4 := by decide
  intro n
  induction n with
  | zero =>
    intro m Im hn hf hx h7 h38 hno
    have hmw : m = w := by omega
    subst hmw
    refine blk s_X6_move_124 (nm ?_)
    refine b_X6_move_128 (fun h => ?_) (fun h => absurd (Int32.le_refl _) h)
    have e : lsN (mvX (I 2) so p1 a) m = none := lsN_none.mpr hno
    unfold mvR; rw [e]
    refine blk s_X6_move_195 (nm ?_)
    exact r_X6_move_197 ⟨rfl, rfl, hf, hx, h7⟩
  | succ n ih =>
    intro m Im hn hf hx h7 h38 hno
    have hmw : m < w := by omega
    have hpt : ∀ t, p1 (a + m) = some t → t < C := fun t ht => hp m t hmw ht
    have hC1 : Im 1 9 = nI C := by rw [hf 1 (by decide) (by decide)]; exact hC
    obtain ⟨x1, x2, x3⟩ := (hx _ hkk).2 so l _ ubx_s
    refine blk s_X6_move_124 (nm ?_)
    refine b_X6_move_128 (fun h => absurd h (nI_ge hmw (by omega))) (fun h => ?_)
    refine blk s_X6_move_131 (And.intro (ib (show m < 8 by omega)) (nm ?_))
    rw [cl m, show Im _ m = o2i (p1 (a + m)) from h38 m hmw]
    have on : mvX (I 2) so p1 a m = false → EN 62 RF mX6_move 1 176 [(0, .ref 0), (1, .int b1), (2, .int b2), (3, .int b3), (4, .int (nI c)), (5, .int (nI w)), (6, .ref o1), (7, .ref (bO 2)), (8, .int (nI m)), (9, .int (o2i (p1 (a + m))))] [] Im J (CBQ I J (mvR (I 2) bx 2 so l p1 p2 a c w)) := by
      intro hX
      refine blk s_X6_move_176 (And.intro (show vp_in (nI c + nI m) 8 from by rw [nI_add]; exact ib (by omega)) (nm ?_))
      rw [nI_add, cl (c + m)]
      refine wkt 9 (en_L (by rw [nI_s]; rfl) (ih (m + 1) _ (by omega) (CFr_t hf (CFr_u (by decide))) (mv_C hkk hx (fun x => mvP_s x)) ?_ (fun x hx' => ?_) (fun x hx' => ?_)))
      · rw [up2_o (by decide)]; exact h7
      · rw [up2_o (by decide)]; exact h38 x hx'
      · by_cases e : x = m
        · subst e; exact hX
        · exact hno x (by omega)
    refine c_X6_move_146 (ct_X4_hasC hC1 _) rfl (by decide) rfl (Nat.le_of_ble_eq_true rfl) (by decide) rfl (rx ?_)
    rw [hsB_o h40 hpt]
    cases hpi : p1 (a + m) with
    | none =>
      rw [hpi] at on
      exact b_X6_move_149 (fun _ => on (by unfold mvX; rw [hpi])) (fun h => absurd rfl h)
    | some t =>
      rw [hpi] at on
      have ht := hpt t hpi
      refine b_X6_move_149 (fun h => absurd h (show ¬ b2i true = 0 by decide)) (fun h => ?_)
      refine blk s_X6_move_152 (And.intro (ib (show t < 40 by omega)) (nm ?_))
      rw [show o2i (some t) = nI t from rfl, cl t, hf 2 (by decide) (by decide)]
      refine c_X6_move_164 (ct_X0_admits hkk (I 2 t)) rfl (by decide) rfl (Nat.le_of_ble_eq_true rfl) (by decide) rfl (rx ?_)
      rw [x1]
      cases ha : amB (nI so) (I 2 t) with
      | true => exact b_X6_move_167 (fun _ => on (by unfold mvX; rw [hpi]; dsimp only; rw [ha]; rfl)) (fun h => absurd h (by decide))
      | false =>
        have e : lsN (mvX (I 2) so p1 a) w = some m := lsN_first hmw (by unfold mvX; rw [hpi]; dsimp only; rw [ha]; rfl) hno
        refine b_X6_move_167 (fun h => absurd rfl h) (fun h => ?_)
        unfold mvR; rw [e]
        refine blk s_X6_move_170 (nm ?_)
        refine c_X6_move_172 (ct_X6_faulted 2) rfl (by decide) rfl (Nat.le_of_ble_eq_true rfl) (by decide) rfl (rx ?_)
        exact r_X6_move_175 ⟨rfl, rfl, CFr_t hf (CFr_0 2), CBX_f hx 2, up2_s⟩
theorem mv2_3 {b1 b2 b3 : Int32} {o1 : Nat} {so l c w a : Nat} {p1 p2 : Nat → Option Nat} (hC : I 1 9 = nI C) (h40 : C ≤ 40) (hl : l ≤ 8) (hcw : c + w ≤ l) (hp : ∀ m t, m < w → p1 (a + m) = some t → t < C) : ∀ (n m : Nat) (Im : IT), m + n = w → CFr I Im → CBX (ubx bx 3 (some (so, l, mvP p1 p2 a c m))) Im → Im 0 7 = 0 → (∀ x, x < w → Im 38 x = o2i (p1 (a + x))) → (∀ x, x < m → mvX (I 2) so p1 a x = false) → EN 62 RF mX6_move 1 124 [(0, .ref 0), (1, .int b1), (2, .int b2), (3, .int b3), (4, .int (nI c)), (5, .int (nI w)), (6, .ref o1), (7, .ref (bO 3)), (8, .int (nI m))] [] Im J (CBQ I J (mvR (I 2) bx 3 so l p1 p2 a c w)) := by
  have hkk : 3 < 4 := by decide
  intro n
  induction n with
  | zero =>
    intro m Im hn hf hx h7 h38 hno
    have hmw : m = w := by omega
    subst hmw
    refine blk s_X6_move_124 (nm ?_)
    refine b_X6_move_128 (fun h => ?_) (fun h => absurd (Int32.le_refl _) h)
    have e : lsN (mvX (I 2) so p1 a) m = none := lsN_none.mpr hno
    unfold mvR; rw [e]
    refine blk s_X6_move_195 (nm ?_)
    exact r_X6_move_197 ⟨rfl, rfl, hf, hx, h7⟩
  | succ n ih =>
    intro m Im hn hf hx h7 h38 hno
    have hmw : m < w := by omega
    have hpt : ∀ t, p1 (a + m) = some t → t < C := fun t ht => hp m t hmw ht
    have hC1 : Im 1 9 = nI C := by rw [hf 1 (by decide) (by decide)]; exact hC
    obtain ⟨x1, x2, x3⟩ := (hx _ hkk).2 so l _ ubx_s
    refine blk s_X6_move_124 (nm ?_)
    refine b_X6_move_128 (fun h => absurd h (nI_ge hmw (by omega))) (fun h => ?_)
    refine blk s_X6_move_131 (And.intro (ib (show m < 8 by omega)) (nm ?_))
    rw [cl m, show Im _ m = o2i (p1 (a + m)) from h38 m hmw]
    have on : mvX (I 2) so p1 a m = false → EN 62 RF mX6_move 1 176 [(0, .ref 0), (1, .int b1), (2, .int b2), (3, .int b3), (4, .int (nI c)), (5, .int (nI w)), (6, .ref o1), (7, .ref (bO 3)), (8, .int (nI m)), (9, .int (o2i (p1 (a + m))))] [] Im J (CBQ I J (mvR (I 2) bx 3 so l p1 p2 a c w)) := by
      intro hX
      refine blk s_X6_move_176 (And.intro (show vp_in (nI c + nI m) 8 from by rw [nI_add]; exact ib (by omega)) (nm ?_))
      rw [nI_add, cl (c + m)]
      refine wkt 9 (en_L (by rw [nI_s]; rfl) (ih (m + 1) _ (by omega) (CFr_t hf (CFr_u (by decide))) (mv_C hkk hx (fun x => mvP_s x)) ?_ (fun x hx' => ?_) (fun x hx' => ?_)))
      · rw [up2_o (by decide)]; exact h7
      · rw [up2_o (by decide)]; exact h38 x hx'
      · by_cases e : x = m
        · subst e; exact hX
        · exact hno x (by omega)
    refine c_X6_move_146 (ct_X4_hasC hC1 _) rfl (by decide) rfl (Nat.le_of_ble_eq_true rfl) (by decide) rfl (rx ?_)
    rw [hsB_o h40 hpt]
    cases hpi : p1 (a + m) with
    | none =>
      rw [hpi] at on
      exact b_X6_move_149 (fun _ => on (by unfold mvX; rw [hpi])) (fun h => absurd rfl h)
    | some t =>
      rw [hpi] at on
      have ht := hpt t hpi
      refine b_X6_move_149 (fun h => absurd h (show ¬ b2i true = 0 by decide)) (fun h => ?_)
      refine blk s_X6_move_152 (And.intro (ib (show t < 40 by omega)) (nm ?_))
      rw [show o2i (some t) = nI t from rfl, cl t, hf 2 (by decide) (by decide)]
      refine c_X6_move_164 (ct_X0_admits hkk (I 2 t)) rfl (by decide) rfl (Nat.le_of_ble_eq_true rfl) (by decide) rfl (rx ?_)
      rw [x1]
      cases ha : amB (nI so) (I 2 t) with
      | true => exact b_X6_move_167 (fun _ => on (by unfold mvX; rw [hpi]; dsimp only; rw [ha]; rfl)) (fun h => absurd h (by decide))
      | false =>
        have e : lsN (mvX (I 2) so p1 a) w = some m := lsN_first hmw (by unfold mvX; rw [hpi]; dsimp only; rw [ha]; rfl) hno
        refine b_X6_move_167 (fun h => absurd rfl h) (fun h => ?_)
        unfold mvR; rw [e]
        refine blk s_X6_move_170 (nm ?_)
        refine c_X6_move_172 (ct_X6_faulted 2) rfl (by decide) rfl (Nat.le_of_ble_eq_true rfl) (by decide) rfl (rx ?_)
        exact r_X6_move_175 ⟨rfl, rfl, CFr_t hf (CFr_0 2), CBX_f hx 2, up2_s⟩
theorem ct_X6_move (hC : I 1 9 = nI C) (h40 : C ≤ 40) (hb : BOK C bx) (hx : CBX bx I) (b i c j n : Int32) : CN 62 RF mX6_move 1 [.ref 0, .int b, .int i, .int c, .int j, .int n] I J (CBQ I J (mvS (I 2) bx b i c j n)) := by
  unfold mvS
  refine cn_of (by decide) rfl (Nat.le_of_ble_eq_true rfl) ?_
  refine blk s_X6_move_0 (nm ?_)
  have hx0 := CBX_f hx 0
  have hf0 : CFr I (up2 I 0 7 0) := CFr_0 0
  have h70 : up2 I 0 7 0 0 7 = 0 := up2_s
  generalize up2 I 0 7 0 = I0 at hx0 hf0 h70 ⊢
  refine c_X6_move_6 (ct_X6_isBox b) rfl (by decide) rfl (Nat.le_of_ble_eq_true rfl) (rx ?_)
  cases hB : ltB b 4 with
  | false =>
    refine b_X6_move_9 (fun h => ?_) (fun h => absurd rfl h)
    refine blk s_X6_move_19 (nm ?_)
    exact r_X6_move_20 ⟨rfl, rfl, hf0, hx0, h70⟩
  | true =>
    obtain ⟨k, hk, rfl⟩ := lt_ex (N := 4) (by decide) hB
    refine b_X6_move_9 (fun h => absurd h (by decide)) (fun h => ?_)
    refine blk s_X6_move_12 (nm ?_)
    refine c_X6_move_13 (ct_X6_isBox c) rfl (by decide) rfl (Nat.le_of_ble_eq_true rfl) (rx ?_)
    cases hC2 : ltB c 4 with
    | false =>
      refine b_X6_move_16 (fun h => absurd rfl h) (fun h => ?_)
      refine blk s_X6_move_19 (nm ?_)
      exact r_X6_move_20 ⟨rfl, rfl, hf0, hx0, h70⟩
    | true =>
      obtain ⟨q, hq, rfl⟩ := lt_ex (N := 4) (by decide) hC2
      refine b_X6_move_16 (fun h => ?_) (fun h => absurd h (by decide))
      rw [cl k, cl q]
      rcases b4 hk with rfl | rfl | rfl | rfl
      · rcases b4 hq with rfl | rfl | rfl | rfl
        · refine blk s_X6_move_21 (And.intro (ib hk) (And.intro (ib hq) (nm ?_)))
          refine c_X6_move_39 (ct_X0_hasRow hk) rfl (by decide) rfl (Nat.le_of_ble_eq_true rfl) (by decide) rfl (rx ?_)
          rw [hr_bx hb hx0 hk]
          have null : ∀ Q : BR, Q = (-11, 1, bx) → EN 62 RF mX6_move 1 53 [(0, .ref 0), (1, .int (nI 0)), (2, .int i), (3, .int (nI 0)), (4, .int j), (5, .int n), (6, .ref (bO 0)), (7, .ref (bO 0))] [] I0 J (CBQ I J Q) := by
            rintro _ rfl
            refine blk s_X6_move_53 (nm ?_)
            refine c_X6_move_55 (ct_X6_faulted 1) rfl (by decide) rfl (Nat.le_of_ble_eq_true rfl) (by decide) rfl (rx ?_)
            exact r_X6_move_58 ⟨rfl, rfl, CFr_t hf0 (CFr_0 1), CBX_f hx0 1, up2_s⟩
          cases e1 : bx 0 with
          | none => exact b_X6_move_42 (fun _ => null _ rfl) (fun h => absurd rfl h)
          | some q1 =>
            obtain ⟨so1, l1, p1⟩ := q1
            obtain ⟨x1, x2, x3⟩ := (hx0 _ hk).2 so1 l1 p1 e1
            obtain ⟨-, hl1, hp1⟩ := hb _ so1 l1 p1 hk e1
            refine b_X6_move_42 (fun h => absurd h (show ¬ b2i true = 0 by decide)) (fun h => ?_)
            refine blk s_X6_move_45 (nm ?_)
            refine c_X6_move_47 (ct_X0_hasRow hq) rfl (by decide) rfl (Nat.le_of_ble_eq_true rfl) (by decide) rfl (rx ?_)
            rw [hr_bx hb hx0 hq, e1]
            have e2 := e1
            obtain ⟨y1, y2, y3⟩ := (hx0 _ hq).2 so1 l1 p1 e2
            obtain ⟨-, hl2, -⟩ := hb _ so1 l1 p1 hq e2
            refine b_X6_move_50 (fun h => ?_) (fun h => absurd h (show ¬ b2i true = 0 by decide))
            have idx : ∀ Q : BR, Q = (-13, 3, bx) → EN 62 RF mX6_move 1 82 [(0, .ref 0), (1, .int (nI 0)), (2, .int i), (3, .int (nI 0)), (4, .int j), (5, .int n), (6, .ref (bO 0)), (7, .ref (bO 0))] [] I0 J (CBQ I J Q) := by
              rintro _ rfl
              refine blk s_X6_move_82 (nm ?_)
              refine c_X6_move_84 (ct_X6_faulted 3) rfl (by decide) rfl (Nat.le_of_ble_eq_true rfl) (by decide) rfl (rx ?_)
              exact r_X6_move_87 ⟨rfl, rfl, CFr_t hf0 (CFr_0 3), CBX_f hx0 3, up2_s⟩
            refine blk s_X6_move_59 (nm ?_)
            refine c_X6_move_64 (ct_X0_hasRange hk i n) rfl (by decide) rfl (Nat.le_of_ble_eq_true rfl) (by decide) rfl (rx ?_)
            rw [x2]
            dsimp only
            cases g1 : hgB i n (nI l1) with
            | false => exact b_X6_move_67 (fun _ => idx _ rfl) (fun h => absurd rfl h)
            | true =>
              refine b_X6_move_67 (fun h => absurd h (by decide)) (fun h => ?_)
              refine blk s_X6_move_70 (nm ?_)
              refine c_X6_move_76 (ct_X0_hasRange hq j n) rfl (by decide) rfl (Nat.le_of_ble_eq_true rfl) (by decide) rfl (rx ?_)
              rw [y2]
              cases g2 : hgB j n (nI l1) with
              | false => exact b_X6_move_79 (fun h => absurd rfl h) (fun _ => idx _ rfl)
              | true =>
                obtain ⟨a, w, rfl, rfl, haw⟩ := hg_ex hl1 g1
                obtain ⟨d, w', rfl, hw', hdw⟩ := hg_ex hl2 g2
                have ew : w = w' := (nI_eq (by omega) (by omega)).mp hw'
                subst ew
                refine b_X6_move_79 (fun _ => ?_) (fun h => absurd h (by decide))
                rw [cl a, cl d, cl w]
                refine blk s_X6_move_88 (nm ?_)
                refine mv1_0 hl1 haw x3 ?_
                refine blk s_X6_move_121 (nm ?_)
                refine mv2_0 hC h40 hl2 hdw (fun m t hm ht => hp1 (a + m) t (by omega) ht) w 0 _ (by omega) (CFr_t hf0 (CFr_l (by decide))) ?_ ?_ (fun x hx' => fl_in hx') (fun x hx' => absurd hx' (Nat.not_lt_zero x))
                · rw [mvP_0, ubx_id e2]
                  exact CBX_cg hx0 fun o _ _ => fl_o (by omega)
                · rw [fl_o (by decide)]; exact h70
        · refine blk s_X6_move_21 (And.intro (ib hk) (And.intro (ib hq) (nm ?_)))
          refine c_X6_move_39 (ct_X0_hasRow hk) rfl (by decide) rfl (Nat.le_of_ble_eq_true rfl) (by decide) rfl (rx ?_)
          rw [hr_bx hb hx0 hk]
          have null : ∀ Q : BR, Q = (-11, 1, bx) → EN 62 RF mX6_move 1 53 [(0, .ref 0), (1, .int (nI 0)), (2, .int i), (3, .int (nI 1)), (4, .int j), (5, .int n), (6, .ref (bO 0)), (7, .ref (bO 1))] [] I0 J (CBQ I J Q) := by
            rintro _ rfl
            refine blk s_X6_move_53 (nm ?_)
            refine c_X6_move_55 (ct_X6_faulted 1) rfl (by decide) rfl (Nat.le_of_ble_eq_true rfl) (by decide) rfl (rx ?_)
            exact r_X6_move_58 ⟨rfl, rfl, CFr_t hf0 (CFr_0 1), CBX_f hx0 1, up2_s⟩
          cases e1 : bx 0 with
          | none => exact b_X6_move_42 (fun _ => null _ rfl) (fun h => absurd rfl h)
          | some q1 =>
            obtain ⟨so1, l1, p1⟩ := q1
            obtain ⟨x1, x2, x3⟩ := (hx0 _ hk).2 so1 l1 p1 e1
            obtain ⟨-, hl1, hp1⟩ := hb _ so1 l1 p1 hk e1
            refine b_X6_move_42 (fun h => absurd h (show ¬ b2i true = 0 by decide)) (fun h => ?_)
            refine blk s_X6_move_45 (nm ?_)
            refine c_X6_move_47 (ct_X0_hasRow hq) rfl (by decide) rfl (Nat.le_of_ble_eq_true rfl) (by decide) rfl (rx ?_)
            rw [hr_bx hb hx0 hq]
            cases e2 : bx 1 with
            | none => exact b_X6_move_50 (fun h => absurd rfl h) (fun _ => null _ rfl)
            | some q2 =>
              obtain ⟨so2, l2, p2⟩ := q2
              obtain ⟨y1, y2, y3⟩ := (hx0 _ hq).2 so2 l2 p2 e2
              obtain ⟨-, hl2, -⟩ := hb _ so2 l2 p2 hq e2
              refine b_X6_move_50 (fun h => ?_) (fun h => absurd h (show ¬ b2i true = 0 by decide))
              have idx : ∀ Q : BR, Q = (-13, 3, bx) → EN 62 RF mX6_move 1 82 [(0, .ref 0), (1, .int (nI 0)), (2, .int i), (3, .int (nI 1)), (4, .int j), (5, .int n), (6, .ref (bO 0)), (7, .ref (bO 1))] [] I0 J (CBQ I J Q) := by
                rintro _ rfl
                refine blk s_X6_move_82 (nm ?_)
                refine c_X6_move_84 (ct_X6_faulted 3) rfl (by decide) rfl (Nat.le_of_ble_eq_true rfl) (by decide) rfl (rx ?_)
                exact r_X6_move_87 ⟨rfl, rfl, CFr_t hf0 (CFr_0 3), CBX_f hx0 3, up2_s⟩
              refine blk s_X6_move_59 (nm ?_)
              refine c_X6_move_64 (ct_X0_hasRange hk i n) rfl (by decide) rfl (Nat.le_of_ble_eq_true rfl) (by decide) rfl (rx ?_)
              rw [x2]
              dsimp only
              cases g1 : hgB i n (nI l1) with
              | false => exact b_X6_move_67 (fun _ => idx _ rfl) (fun h => absurd rfl h)
              | true =>
                refine b_X6_move_67 (fun h => absurd h (by decide)) (fun h => ?_)
                refine blk s_X6_move_70 (nm ?_)
                refine c_X6_move_76 (ct_X0_hasRange hq j n) rfl (by decide) rfl (Nat.le_of_ble_eq_true rfl) (by decide) rfl (rx ?_)
                rw [y2]
                cases g2 : hgB j n (nI l2) with
                | false => exact b_X6_move_79 (fun h => absurd rfl h) (fun _ => idx _ rfl)
                | true =>
                  obtain ⟨a, w, rfl, rfl, haw⟩ := hg_ex hl1 g1
                  obtain ⟨d, w', rfl, hw', hdw⟩ := hg_ex hl2 g2
                  have ew : w = w' := (nI_eq (by omega) (by omega)).mp hw'
                  subst ew
                  refine b_X6_move_79 (fun _ => ?_) (fun h => absurd h (by decide))
                  rw [cl a, cl d, cl w]
                  refine blk s_X6_move_88 (nm ?_)
                  refine mv1_0 hl1 haw x3 ?_
                  refine blk s_X6_move_121 (nm ?_)
                  refine mv2_1 hC h40 hl2 hdw (fun m t hm ht => hp1 (a + m) t (by omega) ht) w 0 _ (by omega) (CFr_t hf0 (CFr_l (by decide))) ?_ ?_ (fun x hx' => fl_in hx') (fun x hx' => absurd hx' (Nat.not_lt_zero x))
                  · rw [mvP_0, ubx_id e2]
                    exact CBX_cg hx0 fun o _ _ => fl_o (by omega)
                  · rw [fl_o (by decide)]; exact h70
        · refine blk s_X6_move_21 (And.intro (ib hk) (And.intro (ib hq) (nm ?_)))
          refine c_X6_move_39 (ct_X0_hasRow hk) rfl (by decide) rfl (Nat.le_of_ble_eq_true rfl) (by decide) rfl (rx ?_)
          rw [hr_bx hb hx0 hk]
          have null : ∀ Q : BR, Q = (-11, 1, bx) → EN 62 RF mX6_move 1 53 [(0, .ref 0), (1, .int (nI 0)), (2, .int i), (3, .int (nI 2)), (4, .int j), (5, .int n), (6, .ref (bO 0)), (7, .ref (bO 2))] [] I0 J (CBQ I J Q) := by
            rintro _ rfl
            refine blk s_X6_move_53 (nm ?_)
            refine c_X6_move_55 (ct_X6_faulted 1) rfl (by decide) rfl (Nat.le_of_ble_eq_true rfl) (by decide) rfl (rx ?_)
            exact r_X6_move_58 ⟨rfl, rfl, CFr_t hf0 (CFr_0 1), CBX_f hx0 1, up2_s⟩
          cases e1 : bx 0 with
          | none => exact b_X6_move_42 (fun _ => null _ rfl) (fun h => absurd rfl h)
          | some q1 =>
            obtain ⟨so1, l1, p1⟩ := q1
            obtain ⟨x1, x2, x3⟩ := (hx0 _ hk).2 so1 l1 p1 e1
            obtain ⟨-, hl1, hp1⟩ := hb _ so1 l1 p1 hk e1
            refine b_X6_move_42 (fun h => absurd h (show ¬ b2i true = 0 by decide)) (fun h => ?_)
            refine blk s_X6_move_45 (nm ?_)
            refine c_X6_move_47 (ct_X0_hasRow hq) rfl (by decide) rfl (Nat.le_of_ble_eq_true rfl) (by decide) rfl (rx ?_)
            rw [hr_bx hb hx0 hq]
            cases e2 : bx 2 with
            | none => exact b_X6_move_50 (fun h => absurd rfl h) (fun _ => null _ rfl)
            | some q2 =>
              obtain ⟨so2, l2, p2⟩ := q2
              obtain ⟨y1, y2, y3⟩ := (hx0 _ hq).2 so2 l2 p2 e2
              obtain ⟨-, hl2, -⟩ := hb _ so2 l2 p2 hq e2
              refine b_X6_move_50 (fun h => ?_) (fun h => absurd h (show ¬ b2i true = 0 by decide))
              have idx : ∀ Q : BR, Q = (-13, 3, bx) → EN 62 RF mX6_move 1 82 [(0, .ref 0), (1, .int (nI 0)), (2, .int i), (3, .int (nI 2)), (4, .int j), (5, .int n), (6, .ref (bO 0)), (7, .ref (bO 2))] [] I0 J (CBQ I J Q) := by
                rintro _ rfl
                refine blk s_X6_move_82 (nm ?_)
                refine c_X6_move_84 (ct_X6_faulted 3) rfl (by decide) rfl (Nat.le_of_ble_eq_true rfl) (by decide) rfl (rx ?_)
                exact r_X6_move_87 ⟨rfl, rfl, CFr_t hf0 (CFr_0 3), CBX_f hx0 3, up2_s⟩
              refine blk s_X6_move_59 (nm ?_)
              refine c_X6_move_64 (ct_X0_hasRange hk i n) rfl (by decide) rfl (Nat.le_of_ble_eq_true rfl) (by decide) rfl (rx ?_)
              rw [x2]
              dsimp only
              cases g1 : hgB i n (nI l1) with
              | false => exact b_X6_move_67 (fun _ => idx _ rfl) (fun h => absurd rfl h)
              | true =>
                refine b_X6_move_67 (fun h => absurd h (by decide)) (fun h => ?_)
                refine blk s_X6_move_70 (nm ?_)
                refine c_X6_move_76 (ct_X0_hasRange hq j n) rfl (by decide) rfl (Nat.le_of_ble_eq_true rfl) (by decide) rfl (rx ?_)
                rw [y2]
                cases g2 : hgB j n (nI l2) with
                | false => exact b_X6_move_79 (fun h => absurd rfl h) (fun _ => idx _ rfl)
                | true =>
                  obtain ⟨a, w, rfl, rfl, haw⟩ := hg_ex hl1 g1
                  obtain ⟨d, w', rfl, hw', hdw⟩ := hg_ex hl2 g2
                  have ew : w = w' := (nI_eq (by omega) (by omega)).mp hw'
                  subst ew
                  refine b_X6_move_79 (fun _ => ?_) (fun h => absurd h (by decide))
                  rw [cl a, cl d, cl w]
                  refine blk s_X6_move_88 (nm ?_)
                  refine mv1_0 hl1 haw x3 ?_
                  refine blk s_X6_move_121 (nm ?_)
                  refine mv2_2 hC h40 hl2 hdw (fun m t hm ht => hp1 (a + m) t (by omega) ht) w 0 _ (by omega) (CFr_t hf0 (CFr_l (by decide))) ?_ ?_ (fun x hx' => fl_in hx') (fun x hx' => absurd hx' (Nat.not_lt_zero x))
                  · rw [mvP_0, ubx_id e2]
                    exact CBX_cg hx0 fun o _ _ => fl_o (by omega)
                  · rw [fl_o (by decide)]; exact h70
        · refine blk s_X6_move_21 (And.intro (ib hk) (And.intro (ib hq) (nm ?_)))
          refine c_X6_move_39 (ct_X0_hasRow hk) rfl (by decide) rfl (Nat.le_of_ble_eq_true rfl) (by decide) rfl (rx ?_)
          rw [hr_bx hb hx0 hk]
          have null : ∀ Q : BR, Q = (-11, 1, bx) → EN 62 RF mX6_move 1 53 [(0, .ref 0), (1, .int (nI 0)), (2, .int i), (3, .int (nI 3)), (4, .int j), (5, .int n), (6, .ref (bO 0)), (7, .ref (bO 3))] [] I0 J (CBQ I J Q) := by
            rintro _ rfl
            refine blk s_X6_move_53 (nm ?_)
            refine c_X6_move_55 (ct_X6_faulted 1) rfl (by decide) rfl (Nat.le_of_ble_eq_true rfl) (by decide) rfl (rx ?_)
            exact r_X6_move_58 ⟨rfl, rfl, CFr_t hf0 (CFr_0 1), CBX_f hx0 1, up2_s⟩
          cases e1 : bx 0 with
          | none => exact b_X6_move_42 (fun _ => null _ rfl) (fun h => absurd rfl h)
          | some q1 =>
            obtain ⟨so1, l1, p1⟩ := q1
            obtain ⟨x1, x2, x3⟩ := (hx0 _ hk).2 so1 l1 p1 e1
            obtain ⟨-, hl1, hp1⟩ := hb _ so1 l1 p1 hk e1
            refine b_X6_move_42 (fun h => absurd h (show ¬ b2i true = 0 by decide)) (fun h => ?_)
            refine blk s_X6_move_45 (nm ?_)
            refine c_X6_move_47 (ct_X0_hasRow hq) rfl (by decide) rfl (Nat.le_of_ble_eq_true rfl) (by decide) rfl (rx ?_)
            rw [hr_bx hb hx0 hq]
            cases e2 : bx 3 with
            | none => exact b_X6_move_50 (fun h => absurd rfl h) (fun _ => null _ rfl)
            | some q2 =>
              obtain ⟨so2, l2, p2⟩ := q2
              obtain ⟨y1, y2, y3⟩ := (hx0 _ hq).2 so2 l2 p2 e2
              obtain ⟨-, hl2, -⟩ := hb _ so2 l2 p2 hq e2
              refine b_X6_move_50 (fun h => ?_) (fun h => absurd h (show ¬ b2i true = 0 by decide))
              have idx : ∀ Q : BR, Q = (-13, 3, bx) → EN 62 RF mX6_move 1 82 [(0, .ref 0), (1, .int (nI 0)), (2, .int i), (3, .int (nI 3)), (4, .int j), (5, .int n), (6, .ref (bO 0)), (7, .ref (bO 3))] [] I0 J (CBQ I J Q) := by
                rintro _ rfl
                refine blk s_X6_move_82 (nm ?_)
                refine c_X6_move_84 (ct_X6_faulted 3) rfl (by decide) rfl (Nat.le_of_ble_eq_true rfl) (by decide) rfl (rx ?_)
                exact r_X6_move_87 ⟨rfl, rfl, CFr_t hf0 (CFr_0 3), CBX_f hx0 3, up2_s⟩
              refine blk s_X6_move_59 (nm ?_)
              refine c_X6_move_64 (ct_X0_hasRange hk i n) rfl (by decide) rfl (Nat.le_of_ble_eq_true rfl) (by decide) rfl (rx ?_)
              rw [x2]
              dsimp only
              cases g1 : hgB i n (nI l1) with
              | false => exact b_X6_move_67 (fun _ => idx _ rfl) (fun h => absurd rfl h)
              | true =>
                refine b_X6_move_67 (fun h => absurd h (by decide)) (fun h => ?_)
                refine blk s_X6_move_70 (nm ?_)
                refine c_X6_move_76 (ct_X0_hasRange hq j n) rfl (by decide) rfl (Nat.le_of_ble_eq_true rfl) (by decide) rfl (rx ?_)
                rw [y2]
                cases g2 : hgB j n (nI l2) with
                | false => exact b_X6_move_79 (fun h => absurd rfl h) (fun _ => idx _ rfl)
                | true =>
                  obtain ⟨a, w, rfl, rfl, haw⟩ := hg_ex hl1 g1
                  obtain ⟨d, w', rfl, hw', hdw⟩ := hg_ex hl2 g2
                  have ew : w = w' := (nI_eq (by omega) (by omega)).mp hw'
                  subst ew
                  refine b_X6_move_79 (fun _ => ?_) (fun h => absurd h (by decide))
                  rw [cl a, cl d, cl w]
                  refine blk s_X6_move_88 (nm ?_)
                  refine mv1_0 hl1 haw x3 ?_
                  refine blk s_X6_move_121 (nm ?_)
                  refine mv2_3 hC h40 hl2 hdw (fun m t hm ht => hp1 (a + m) t (by omega) ht) w 0 _ (by omega) (CFr_t hf0 (CFr_l (by decide))) ?_ ?_ (fun x hx' => fl_in hx') (fun x hx' => absurd hx' (Nat.not_lt_zero x))
                  · rw [mvP_0, ubx_id e2]
                    exact CBX_cg hx0 fun o _ _ => fl_o (by omega)
                  · rw [fl_o (by decide)]; exact h70
      · rcases b4 hq with rfl | rfl | rfl | rfl
        · refine blk s_X6_move_21 (And.intro (ib hk) (And.intro (ib hq) (nm ?_)))
          refine c_X6_move_39 (ct_X0_hasRow hk) rfl (by decide) rfl (Nat.le_of_ble_eq_true rfl) (by decide) rfl (rx ?_)
          rw [hr_bx hb hx0 hk]
          have null : ∀ Q : BR, Q = (-11, 1, bx) → EN 62 RF mX6_move 1 53 [(0, .ref 0), (1, .int (nI 1)), (2, .int i), (3, .int (nI 0)), (4, .int j), (5, .int n), (6, .ref (bO 1)), (7, .ref (bO 0))] [] I0 J (CBQ I J Q) := by
            rintro _ rfl
            refine blk s_X6_move_53 (nm ?_)
            refine c_X6_move_55 (ct_X6_faulted 1) rfl (by decide) rfl (Nat.le_of_ble_eq_true rfl) (by decide) rfl (rx ?_)
            exact r_X6_move_58 ⟨rfl, rfl, CFr_t hf0 (CFr_0 1), CBX_f hx0 1, up2_s⟩
          cases e1 : bx 1 with
          | none => exact b_X6_move_42 (fun _ => null _ rfl) (fun h => absurd rfl h)
          | some q1 =>
            obtain ⟨so1, l1, p1⟩ := q1
            obtain ⟨x1, x2, x3⟩ := (hx0 _ hk).2 so1 l1 p1 e1
            obtain ⟨-, hl1, hp1⟩ := hb _ so1 l1 p1 hk e1
            refine b_X6_move_42 (fun h => absurd h (show ¬ b2i true = 0 by decide)) (fun h => ?_)
            refine blk s_X6_move_45 (nm ?_)
            refine c_X6_move_47 (ct_X0_hasRow hq) rfl (by decide) rfl (Nat.le_of_ble_eq_true rfl) (by decide) rfl (rx ?_)
            rw [hr_bx hb hx0 hq]
            cases e2 : bx 0 with
            | none => exact b_X6_move_50 (fun h => absurd rfl h) (fun _ => null _ rfl)
            | some q2 =>
              obtain ⟨so2, l2, p2⟩ := q2
              obtain ⟨y1, y2, y3⟩ := (hx0 _ hq).2 so2 l2 p2 e2
              obtain ⟨-, hl2, -⟩ := hb _ so2 l2 p2 hq e2
              refine b_X6_move_50 (fun h => ?_) (fun h => absurd h (show ¬ b2i true = 0 by decide))
              have idx : ∀ Q : BR, Q = (-13, 3, bx) → EN 62 RF mX6_move 1 82 [(0, .ref 0), (1, .int (nI 1)), (2, .int i), (3, .int (nI 0)), (4, .int j), (5, .int n), (6, .ref (bO 1)), (7, .ref (bO 0))] [] I0 J (CBQ I J Q) := by
                rintro _ rfl
                refine blk s_X6_move_82 (nm ?_)
                refine c_X6_move_84 (ct_X6_faulted 3) rfl (by decide) rfl (Nat.le_of_ble_eq_true rfl) (by decide) rfl (rx ?_)
                exact r_X6_move_87 ⟨rfl, rfl, CFr_t hf0 (CFr_0 3), CBX_f hx0 3, up2_s⟩
              refine blk s_X6_move_59 (nm ?_)
              refine c_X6_move_64 (ct_X0_hasRange hk i n) rfl (by decide) rfl (Nat.le_of_ble_eq_true rfl) (by decide) rfl (rx ?_)
              rw [x2]
              dsimp only
              cases g1 : hgB i n (nI l1) with
              | false => exact b_X6_move_67 (fun _ => idx _ rfl) (fun h => absurd rfl h)
              | true =>
                refine b_X6_move_67 (fun h => absurd h (by decide)) (fun h => ?_)
                refine blk s_X6_move_70 (nm ?_)
                refine c_X6_move_76 (ct_X0_hasRange hq j n) rfl (by decide) rfl (Nat.le_of_ble_eq_true rfl) (by decide) rfl (rx ?_)
                rw [y2]
                cases g2 : hgB j n (nI l2) with
                | false => exact b_X6_move_79 (fun h => absurd rfl h) (fun _ => idx _ rfl)
                | true =>
                  obtain ⟨a, w, rfl, rfl, haw⟩ := hg_ex hl1 g1
                  obtain ⟨d, w', rfl, hw', hdw⟩ := hg_ex hl2 g2
                  have ew : w = w' := (nI_eq (by omega) (by omega)).mp hw'
                  subst ew
                  refine b_X6_move_79 (fun _ => ?_) (fun h => absurd h (by decide))
                  rw [cl a, cl d, cl w]
                  refine blk s_X6_move_88 (nm ?_)
                  refine mv1_1 hl1 haw x3 ?_
                  refine blk s_X6_move_121 (nm ?_)
                  refine mv2_0 hC h40 hl2 hdw (fun m t hm ht => hp1 (a + m) t (by omega) ht) w 0 _ (by omega) (CFr_t hf0 (CFr_l (by decide))) ?_ ?_ (fun x hx' => fl_in hx') (fun x hx' => absurd hx' (Nat.not_lt_zero x))
                  · rw [mvP_0, ubx_id e2]
                    exact CBX_cg hx0 fun o _ _ => fl_o (by omega)
                  · rw [fl_o (by decide)]; exact h70
        · refine blk s_X6_move_21 (And.intro (ib hk) (And.intro (ib hq) (nm ?_)))
          refine c_X6_move_39 (ct_X0_hasRow hk) rfl (by decide) rfl (Nat.le_of_ble_eq_true rfl) (by decide) rfl (rx ?_)
          rw [hr_bx hb hx0 hk]
          have null : ∀ Q : BR, Q = (-11, 1, bx) → EN 62 RF mX6_move 1 53 [(0, .ref 0), (1, .int (nI 1)), (2, .int i), (3, .int (nI 1)), (4, .int j), (5, .int n), (6, .ref (bO 1)), (7, .ref (bO 1))] [] I0 J (CBQ I J Q) := by
            rintro _ rfl
            refine blk s_X6_move_53 (nm ?_)
            refine c_X6_move_55 (ct_X6_faulted 1) rfl (by decide) rfl (Nat.le_of_ble_eq_true rfl) (by decide) rfl (rx ?_)
            exact r_X6_move_58 ⟨rfl, rfl, CFr_t hf0 (CFr_0 1), CBX_f hx0 1, up2_s⟩
          cases e1 : bx 1 with
          | none => exact b_X6_move_42 (fun _ => null _ rfl) (fun h => absurd rfl h)
          | some q1 =>
            obtain ⟨so1, l1, p1⟩ := q1
            obtain ⟨x1, x2, x3⟩ := (hx0 _ hk).2 so1 l1 p1 e1
            obtain ⟨-, hl1, hp1⟩ := hb _ so1 l1 p1 hk e1
            refine b_X6_move_42 (fun h => absurd h (show ¬ b2i true = 0 by decide)) (fun h => ?_)
            refine blk s_X6_move_45 (nm ?_)
            refine c_X6_move_47 (ct_X0_hasRow hq) rfl (by decide) rfl (Nat.le_of_ble_eq_true rfl) (by decide) rfl (rx ?_)
            rw [hr_bx hb hx0 hq, e1]
            have e2 := e1
            obtain ⟨y1, y2, y3⟩ := (hx0 _ hq).2 so1 l1 p1 e2
            obtain ⟨-, hl2, -⟩ := hb _ so1 l1 p1 hq e2
            refine b_X6_move_50 (fun h => ?_) (fun h => absurd h (show ¬ b2i true = 0 by decide))
            have idx : ∀ Q : BR, Q = (-13, 3, bx) → EN 62 RF mX6_move 1 82 [(0, .ref 0), (1, .int (nI 1)), (2, .int i), (3, .int (nI 1)), (4, .int j), (5, .int n), (6, .ref (bO 1)), (7, .ref (bO 1))] [] I0 J (CBQ I J Q) := by
              rintro _ rfl
              refine blk s_X6_move_82 (nm ?_)
              refine c_X6_move_84 (ct_X6_faulted 3) rfl (by decide) rfl (Nat.le_of_ble_eq_true rfl) (by decide) rfl (rx ?_)
              exact r_X6_move_87 ⟨rfl, rfl, CFr_t hf0 (CFr_0 3), CBX_f hx0 3, up2_s⟩
            refine blk s_X6_move_59 (nm ?_)
            refine c_X6_move_64 (ct_X0_hasRange hk i n) rfl (by decide) rfl (Nat.le_of_ble_eq_true rfl) (by decide) rfl (rx ?_)
            rw [x2]
            dsimp only
            cases g1 : hgB i n (nI l1) with
            | false => exact b_X6_move_67 (fun _ => idx _ rfl) (fun h => absurd rfl h)
            | true =>
              refine b_X6_move_67 (fun h => absurd h (by decide)) (fun h => ?_)
              refine blk s_X6_move_70 (nm ?_)
              refine c_X6_move_76 (ct_X0_hasRange hq j n) rfl (by decide) rfl (Nat.le_of_ble_eq_true rfl) (by decide) rfl (rx ?_)
              rw [y2]
              cases g2 : hgB j n (nI l1) with
              | false => exact b_X6_move_79 (fun h => absurd rfl h) (fun _ => idx _ rfl)
              | true =>
                obtain ⟨a, w, rfl, rfl, haw⟩ := hg_ex hl1 g1
                obtain ⟨d, w', rfl, hw', hdw⟩ := hg_ex hl2 g2
                have ew : w = w' := (nI_eq (by omega) (by omega)).mp hw'
                subst ew
                refine b_X6_move_79 (fun _ => ?_) (fun h => absurd h (by decide))
                rw [cl a, cl d, cl w]
                refine blk s_X6_move_88 (nm ?_)
                refine mv1_1 hl1 haw x3 ?_
                refine blk s_X6_move_121 (nm ?_)
                refine mv2_1 hC h40 hl2 hdw (fun m t hm ht => hp1 (a + m) t (by omega) ht) w 0 _ (by omega) (CFr_t hf0 (CFr_l (by decide))) ?_ ?_ (fun x hx' => fl_in hx') (fun x hx' => absurd hx' (Nat.not_lt_zero x))
                · rw [mvP_0, ubx_id e2]
                  exact CBX_cg hx0 fun o _ _ => fl_o (by omega)
                · rw [fl_o (by decide)]; exact h70
        · refine blk s_X6_move_21 (And.intro (ib hk) (And.intro (ib hq) (nm ?_)))
          refine c_X6_move_39 (ct_X0_hasRow hk) rfl (by decide) rfl (Nat.le_of_ble_eq_true rfl) (by decide) rfl (rx ?_)
          rw [hr_bx hb hx0 hk]
          have null : ∀ Q : BR, Q = (-11, 1, bx) → EN 62 RF mX6_move 1 53 [(0, .ref 0), (1, .int (nI 1)), (2, .int i), (3, .int (nI 2)), (4, .int j), (5, .int n), (6, .ref (bO 1)), (7, .ref (bO 2))] [] I0 J (CBQ I J Q) := by
            rintro _ rfl
            refine blk s_X6_move_53 (nm ?_)
            refine c_X6_move_55 (ct_X6_faulted 1) rfl (by decide) rfl (Nat.le_of_ble_eq_true rfl) (by decide) rfl (rx ?_)
            exact r_X6_move_58 ⟨rfl, rfl, CFr_t hf0 (CFr_0 1), CBX_f hx0 1, up2_s⟩
          cases e1 : bx 1 with
          | none => exact b_X6_move_42 (fun _ => null _ rfl) (fun h => absurd rfl h)
          | some q1 =>
            obtain ⟨so1, l1, p1⟩ := q1
            obtain ⟨x1, x2, x3⟩ := (hx0 _ hk).2 so1 l1 p1 e1
            obtain ⟨-, hl1, hp1⟩ := hb _ so1 l1 p1 hk e1
            refine b_X6_move_42 (fun h => absurd h (show ¬ b2i true = 0 by decide)) (fun h => ?_)
            refine blk s_X6_move_45 (nm ?_)
            refine c_X6_move_47 (ct_X0_hasRow hq) rfl (by decide) rfl (Nat.le_of_ble_eq_true rfl) (by decide) rfl (rx ?_)
            rw [hr_bx hb hx0 hq]
            cases e2 : bx 2 with
            | none => exact b_X6_move_50 (fun h => absurd rfl h) (fun _ => null _ rfl)
            | some q2 =>
              obtain ⟨so2, l2, p2⟩ := q2
              obtain ⟨y1, y2, y3⟩ := (hx0 _ hq).2 so2 l2 p2 e2
              obtain ⟨-, hl2, -⟩ := hb _ so2 l2 p2 hq e2
              refine b_X6_move_50 (fun h => ?_) (fun h => absurd h (show ¬ b2i true = 0 by decide))
              have idx : ∀ Q : BR, Q = (-13, 3, bx) → EN 62 RF mX6_move 1 82 [(0, .ref 0), (1, .int (nI 1)), (2, .int i), (3, .int (nI 2)), (4, .int j), (5, .int n), (6, .ref (bO 1)), (7, .ref (bO 2))] [] I0 J (CBQ I J Q) := by
                rintro _ rfl
                refine blk s_X6_move_82 (nm ?_)
                refine c_X6_move_84 (ct_X6_faulted 3) rfl (by decide) rfl (Nat.le_of_ble_eq_true rfl) (by decide) rfl (rx ?_)
                exact r_X6_move_87 ⟨rfl, rfl, CFr_t hf0 (CFr_0 3), CBX_f hx0 3, up2_s⟩
              refine blk s_X6_move_59 (nm ?_)
              refine c_X6_move_64 (ct_X0_hasRange hk i n) rfl (by decide) rfl (Nat.le_of_ble_eq_true rfl) (by decide) rfl (rx ?_)
              rw [x2]
              dsimp only
              cases g1 : hgB i n (nI l1) with
              | false => exact b_X6_move_67 (fun _ => idx _ rfl) (fun h => absurd rfl h)
              | true =>
                refine b_X6_move_67 (fun h => absurd h (by decide)) (fun h => ?_)
                refine blk s_X6_move_70 (nm ?_)
                refine c_X6_move_76 (ct_X0_hasRange hq j n) rfl (by decide) rfl (Nat.le_of_ble_eq_true rfl) (by decide) rfl (rx ?_)
                rw [y2]
                cases g2 : hgB j n (nI l2) with
                | false => exact b_X6_move_79 (fun h => absurd rfl h) (fun _ => idx _ rfl)
                | true =>
                  obtain ⟨a, w, rfl, rfl, haw⟩ := hg_ex hl1 g1
                  obtain ⟨d, w', rfl, hw', hdw⟩ := hg_ex hl2 g2
                  have ew : w = w' := (nI_eq (by omega) (by omega)).mp hw'
                  subst ew
                  refine b_X6_move_79 (fun _ => ?_) (fun h => absurd h (by decide))
                  rw [cl a, cl d, cl w]
                  refine blk s_X6_move_88 (nm ?_)
                  refine mv1_1 hl1 haw x3 ?_
                  refine blk s_X6_move_121 (nm ?_)
                  refine mv2_2 hC h40 hl2 hdw (fun m t hm ht => hp1 (a + m) t (by omega) ht) w 0 _ (by omega) (CFr_t hf0 (CFr_l (by decide))) ?_ ?_ (fun x hx' => fl_in hx') (fun x hx' => absurd hx' (Nat.not_lt_zero x))
                  · rw [mvP_0, ubx_id e2]
                    exact CBX_cg hx0 fun o _ _ => fl_o (by omega)
                  · rw [fl_o (by decide)]; exact h70
        · refine blk s_X6_move_21 (And.intro (ib hk) (And.intro (ib hq) (nm ?_)))
          refine c_X6_move_39 (ct_X0_hasRow hk) rfl (by decide) rfl (Nat.le_of_ble_eq_true rfl) (by decide) rfl (rx ?_)
          rw [hr_bx hb hx0 hk]
          have null : ∀ Q : BR, Q = (-11, 1, bx) → EN 62 RF mX6_move 1 53 [(0, .ref 0), (1, .int (nI 1)), (2, .int i), (3, .int (nI 3)), (4, .int j), (5, .int n), (6, .ref (bO 1)), (7, .ref (bO 3))] [] I0 J (CBQ I J Q) := by
            rintro _ rfl
            refine blk s_X6_move_53 (nm ?_)
            refine c_X6_move_55 (ct_X6_faulted 1) rfl (by decide) rfl (Nat.le_of_ble_eq_true rfl) (by decide) rfl (rx ?_)
            exact r_X6_move_58 ⟨rfl, rfl, CFr_t hf0 (CFr_0 1), CBX_f hx0 1, up2_s⟩
          cases e1 : bx 1 with
          | none => exact b_X6_move_42 (fun _ => null _ rfl) (fun h => absurd rfl h)
          | some q1 =>
            obtain ⟨so1, l1, p1⟩ := q1
            obtain ⟨x1, x2, x3⟩ := (hx0 _ hk).2 so1 l1 p1 e1
            obtain ⟨-, hl1, hp1⟩ := hb _ so1 l1 p1 hk e1
            refine b_X6_move_42 (fun h => absurd h (show ¬ b2i true = 0 by decide)) (fun h => ?_)
            refine blk s_X6_move_45 (nm ?_)
            refine c_X6_move_47 (ct_X0_hasRow hq) rfl (by decide) rfl (Nat.le_of_ble_eq_true rfl) (by decide) rfl (rx ?_)
            rw [hr_bx hb hx0 hq]
            cases e2 : bx 3 with
            | none => exact b_X6_move_50 (fun h => absurd rfl h) (fun _ => null _ rfl)
            | some q2 =>
              obtain ⟨so2, l2, p2⟩ := q2
              obtain ⟨y1, y2, y3⟩ := (hx0 _ hq).2 so2 l2 p2 e2
              obtain ⟨-, hl2, -⟩ := hb _ so2 l2 p2 hq e2
              refine b_X6_move_50 (fun h => ?_) (fun h => absurd h (show ¬ b2i true = 0 by decide))
              have idx : ∀ Q : BR, Q = (-13, 3, bx) → EN 62 RF mX6_move 1 82 [(0, .ref 0), (1, .int (nI 1)), (2, .int i), (3, .int (nI 3)), (4, .int j), (5, .int n), (6, .ref (bO 1)), (7, .ref (bO 3))] [] I0 J (CBQ I J Q) := by
                rintro _ rfl
                refine blk s_X6_move_82 (nm ?_)
                refine c_X6_move_84 (ct_X6_faulted 3) rfl (by decide) rfl (Nat.le_of_ble_eq_true rfl) (by decide) rfl (rx ?_)
                exact r_X6_move_87 ⟨rfl, rfl, CFr_t hf0 (CFr_0 3), CBX_f hx0 3, up2_s⟩
              refine blk s_X6_move_59 (nm ?_)
              refine c_X6_move_64 (ct_X0_hasRange hk i n) rfl (by decide) rfl (Nat.le_of_ble_eq_true rfl) (by decide) rfl (rx ?_)
              rw [x2]
              dsimp only
              cases g1 : hgB i n (nI l1) with
              | false => exact b_X6_move_67 (fun _ => idx _ rfl) (fun h => absurd rfl h)
              | true =>
                refine b_X6_move_67 (fun h => absurd h (by decide)) (fun h => ?_)
                refine blk s_X6_move_70 (nm ?_)
                refine c_X6_move_76 (ct_X0_hasRange hq j n) rfl (by decide) rfl (Nat.le_of_ble_eq_true rfl) (by decide) rfl (rx ?_)
                rw [y2]
                cases g2 : hgB j n (nI l2) with
                | false => exact b_X6_move_79 (fun h => absurd rfl h) (fun _ => idx _ rfl)
                | true =>
                  obtain ⟨a, w, rfl, rfl, haw⟩ := hg_ex hl1 g1
                  obtain ⟨d, w', rfl, hw', hdw⟩ := hg_ex hl2 g2
                  have ew : w = w' := (nI_eq (by omega) (by omega)).mp hw'
                  subst ew
                  refine b_X6_move_79 (fun _ => ?_) (fun h => absurd h (by decide))
                  rw [cl a, cl d, cl w]
                  refine blk s_X6_move_88 (nm ?_)
                  refine mv1_1 hl1 haw x3 ?_
                  refine blk s_X6_move_121 (nm ?_)
                  refine mv2_3 hC h40 hl2 hdw (fun m t hm ht => hp1 (a + m) t (by omega) ht) w 0 _ (by omega) (CFr_t hf0 (CFr_l (by decide))) ?_ ?_ (fun x hx' => fl_in hx') (fun x hx' => absurd hx' (Nat.not_lt_zero x))
                  · rw [mvP_0, ubx_id e2]
                    exact CBX_cg hx0 fun o _ _ => fl_o (by omega)
                  · rw [fl_o (by decide)]; exact h70
      · rcases b4 hq with rfl | rfl | rfl | rfl
        · refine blk s_X6_move_21 (And.intro (ib hk) (And.intro (ib hq) (nm ?_)))
          refine c_X6_move_39 (ct_X0_hasRow hk) rfl (by decide) rfl (Nat.le_of_ble_eq_true rfl) (by decide) rfl (rx ?_)
          rw [hr_bx hb hx0 hk]
          have null : ∀ Q : BR, Q = (-11, 1, bx) → EN 62 RF mX6_move 1 53 [(0, .ref 0), (1, .int (nI 2)), (2, .int i), (3, .int (nI 0)), (4, .int j), (5, .int n), (6, .ref (bO 2)), (7, .ref (bO 0))] [] I0 J (CBQ I J Q) := by
            rintro _ rfl
            refine blk s_X6_move_53 (nm ?_)
            refine c_X6_move_55 (ct_X6_faulted 1) rfl (by decide) rfl (Nat.le_of_ble_eq_true rfl) (by decide) rfl (rx ?_)
            exact r_X6_move_58 ⟨rfl, rfl, CFr_t hf0 (CFr_0 1), CBX_f hx0 1, up2_s⟩
          cases e1 : bx 2 with
          | none => exact b_X6_move_42 (fun _ => null _ rfl) (fun h => absurd rfl h)
          | some q1 =>
            obtain ⟨so1, l1, p1⟩ := q1
            obtain ⟨x1, x2, x3⟩ := (hx0 _ hk).2 so1 l1 p1 e1
            obtain ⟨-, hl1, hp1⟩ := hb _ so1 l1 p1 hk e1
            refine b_X6_move_42 (fun h => absurd h (show ¬ b2i true = 0 by decide)) (fun h => ?_)
            refine blk s_X6_move_45 (nm ?_)
            refine c_X6_move_47 (ct_X0_hasRow hq) rfl (by decide) rfl (Nat.le_of_ble_eq_true rfl) (by decide) rfl (rx ?_)
            rw [hr_bx hb hx0 hq]
            cases e2 : bx 0 with
            | none => exact b_X6_move_50 (fun h => absurd rfl h) (fun _ => null _ rfl)
            | some q2 =>
              obtain ⟨so2, l2, p2⟩ := q2
              obtain ⟨y1, y2, y3⟩ := (hx0 _ hq).2 so2 l2 p2 e2
              obtain ⟨-, hl2, -⟩ := hb _ so2 l2 p2 hq e2
              refine b_X6_move_50 (fun h => ?_) (fun h => absurd h (show ¬ b2i true = 0 by decide))
              have idx : ∀ Q : BR, Q = (-13, 3, bx) → EN 62 RF mX6_move 1 82 [(0, .ref 0), (1, .int (nI 2)), (2, .int i), (3, .int (nI 0)), (4, .int j), (5, .int n), (6, .ref (bO 2)), (7, .ref (bO 0))] [] I0 J (CBQ I J Q) := by
                rintro _ rfl
                refine blk s_X6_move_82 (nm ?_)
                refine c_X6_move_84 (ct_X6_faulted 3) rfl (by decide) rfl (Nat.le_of_ble_eq_true rfl) (by decide) rfl (rx ?_)
                exact r_X6_move_87 ⟨rfl, rfl, CFr_t hf0 (CFr_0 3), CBX_f hx0 3, up2_s⟩
              refine blk s_X6_move_59 (nm ?_)
              refine c_X6_move_64 (ct_X0_hasRange hk i n) rfl (by decide) rfl (Nat.le_of_ble_eq_true rfl) (by decide) rfl (rx ?_)
              rw [x2]
              dsimp only
              cases g1 : hgB i n (nI l1) with
              | false => exact b_X6_move_67 (fun _ => idx _ rfl) (fun h => absurd rfl h)
              | true =>
                refine b_X6_move_67 (fun h => absurd h (by decide)) (fun h => ?_)
                refine blk s_X6_move_70 (nm ?_)
                refine c_X6_move_76 (ct_X0_hasRange hq j n) rfl (by decide) rfl (Nat.le_of_ble_eq_true rfl) (by decide) rfl (rx ?_)
                rw [y2]
                cases g2 : hgB j n (nI l2) with
                | false => exact b_X6_move_79 (fun h => absurd rfl h) (fun _ => idx _ rfl)
                | true =>
                  obtain ⟨a, w, rfl, rfl, haw⟩ := hg_ex hl1 g1
                  obtain ⟨d, w', rfl, hw', hdw⟩ := hg_ex hl2 g2
                  have ew : w = w' := (nI_eq (by omega) (by omega)).mp hw'
                  subst ew
                  refine b_X6_move_79 (fun _ => ?_) (fun h => absurd h (by decide))
                  rw [cl a, cl d, cl w]
                  refine blk s_X6_move_88 (nm ?_)
                  refine mv1_2 hl1 haw x3 ?_
                  refine blk s_X6_move_121 (nm ?_)
                  refine mv2_0 hC h40 hl2 hdw (fun m t hm ht => hp1 (a + m) t (by omega) ht) w 0 _ (by omega) (CFr_t hf0 (CFr_l (by decide))) ?_ ?_ (fun x hx' => fl_in hx') (fun x hx' => absurd hx' (Nat.not_lt_zero x))
                  · rw [mvP_0, ubx_id e2]
                    exact CBX_cg hx0 fun o _ _ => fl_o (by omega)
                  · rw [fl_o (by decide)]; exact h70
        · refine blk s_X6_move_21 (And.intro (ib hk) (And.intro (ib hq) (nm ?_)))
          refine c_X6_move_39 (ct_X0_hasRow hk) rfl (by decide) rfl (Nat.le_of_ble_eq_true rfl) (by decide) rfl (rx ?_)
          rw [hr_bx hb hx0 hk]
          have null : ∀ Q : BR, Q = (-11, 1, bx) → EN 62 RF mX6_move 1 53 [(0, .ref 0), (1, .int (nI 2)), (2, .int i), (3, .int (nI 1)), (4, .int j), (5, .int n), (6, .ref (bO 2)), (7, .ref (bO 1))] [] I0 J (CBQ I J Q) := by
            rintro _ rfl
            refine blk s_X6_move_53 (nm ?_)
            refine c_X6_move_55 (ct_X6_faulted 1) rfl (by decide) rfl (Nat.le_of_ble_eq_true rfl) (by decide) rfl (rx ?_)
            exact r_X6_move_58 ⟨rfl, rfl, CFr_t hf0 (CFr_0 1), CBX_f hx0 1, up2_s⟩
          cases e1 : bx 2 with
          | none => exact b_X6_move_42 (fun _ => null _ rfl) (fun h => absurd rfl h)
          | some q1 =>
            obtain ⟨so1, l1, p1⟩ := q1
            obtain ⟨x1, x2, x3⟩ := (hx0 _ hk).2 so1 l1 p1 e1
            obtain ⟨-, hl1, hp1⟩ := hb _ so1 l1 p1 hk e1
            refine b_X6_move_42 (fun h => absurd h (show ¬ b2i true = 0 by decide)) (fun h => ?_)
            refine blk s_X6_move_45 (nm ?_)
            refine c_X6_move_47 (ct_X0_hasRow hq) rfl (by decide) rfl (Nat.le_of_ble_eq_true rfl) (by decide) rfl (rx ?_)
            rw [hr_bx hb hx0 hq]
            cases e2 : bx 1 with
            | none => exact b_X6_move_50 (fun h => absurd rfl h) (fun _ => null _ rfl)
            | some q2 =>
              obtain ⟨so2, l2, p2⟩ := q2
              obtain ⟨y1, y2, y3⟩ := (hx0 _ hq).2 so2 l2 p2 e2
              obtain ⟨-, hl2, -⟩ := hb _ so2 l2 p2 hq e2
              refine b_X6_move_50 (fun h => ?_) (fun h => absurd h (show ¬ b2i true = 0 by decide))
              have idx : ∀ Q : BR, Q = (-13, 3, bx) → EN 62 RF mX6_move 1 82 [(0, .ref 0), (1, .int (nI 2)), (2, .int i), (3, .int (nI 1)), (4, .int j), (5, .int n), (6, .ref (bO 2)), (7, .ref (bO 1))] [] I0 J (CBQ I J Q) := by
                rintro _ rfl
                refine blk s_X6_move_82 (nm ?_)
                refine c_X6_move_84 (ct_X6_faulted 3) rfl (by decide) rfl (Nat.le_of_ble_eq_true rfl) (by decide) rfl (rx ?_)
                exact r_X6_move_87 ⟨rfl, rfl, CFr_t hf0 (CFr_0 3), CBX_f hx0 3, up2_s⟩
              refine blk s_X6_move_59 (nm ?_)
              refine c_X6_move_64 (ct_X0_hasRange hk i n) rfl (by decide) rfl (Nat.le_of_ble_eq_true rfl) (by decide) rfl (rx ?_)
              rw [x2]
              dsimp only
              cases g1 : hgB i n (nI l1) with
              | false => exact b_X6_move_67 (fun _ => idx _ rfl) (fun h => absurd rfl h)
              | true =>
                refine b_X6_move_67 (fun h => absurd h (by decide)) (fun h => ?_)
                refine blk s_X6_move_70 (nm ?_)
                refine c_X6_move_76 (ct_X0_hasRange hq j n) rfl (by decide) rfl (Nat.le_of_ble_eq_true rfl) (by decide) rfl (rx ?_)
                rw [y2]
                cases g2 : hgB j n (nI l2) with
                | false => exact b_X6_move_79 (fun h => absurd rfl h) (fun _ => idx _ rfl)
                | true =>
                  obtain ⟨a, w, rfl, rfl, haw⟩ := hg_ex hl1 g1
                  obtain ⟨d, w', rfl, hw', hdw⟩ := hg_ex hl2 g2
                  have ew : w = w' := (nI_eq (by omega) (by omega)).mp hw'
                  subst ew
                  refine b_X6_move_79 (fun _ => ?_) (fun h => absurd h (by decide))
                  rw [cl a, cl d, cl w]
                  refine blk s_X6_move_88 (nm ?_)
                  refine mv1_2 hl1 haw x3 ?_
                  refine blk s_X6_move_121 (nm ?_)
                  refine mv2_1 hC h40 hl2 hdw (fun m t hm ht => hp1 (a + m) t (by omega) ht) w 0 _ (by omega) (CFr_t hf0 (CFr_l (by decide))) ?_ ?_ (fun x hx' => fl_in hx') (fun x hx' => absurd hx' (Nat.not_lt_zero x))
                  · rw [mvP_0, ubx_id e2]
                    exact CBX_cg hx0 fun o _ _ => fl_o (by omega)
                  · rw [fl_o (by decide)]; exact h70
        · refine blk s_X6_move_21 (And.intro (ib hk) (And.intro (ib hq) (nm ?_)))
          refine c_X6_move_39 (ct_X0_hasRow hk) rfl (by decide) rfl (Nat.le_of_ble_eq_true rfl) (by decide) rfl (rx ?_)
          rw [hr_bx hb hx0 hk]
          have null : ∀ Q : BR, Q = (-11, 1, bx) → EN 62 RF mX6_move 1 53 [(0, .ref 0), (1, .int (nI 2)), (2, .int i), (3, .int (nI 2)), (4, .int j), (5, .int n), (6, .ref (bO 2)), (7, .ref (bO 2))] [] I0 J (CBQ I J Q) := by
            rintro _ rfl
            refine blk s_X6_move_53 (nm ?_)
            refine c_X6_move_55 (ct_X6_faulted 1) rfl (by decide) rfl (Nat.le_of_ble_eq_true rfl) (by decide) rfl (rx ?_)
            exact r_X6_move_58 ⟨rfl, rfl, CFr_t hf0 (CFr_0 1), CBX_f hx0 1, up2_s⟩
          cases e1 : bx 2 with
          | none => exact b_X6_move_42 (fun _ => null _ rfl) (fun h => absurd rfl h)
          | some q1 =>
            obtain ⟨so1, l1, p1⟩ := q1
            obtain ⟨x1, x2, x3⟩ := (hx0 _ hk).2 so1 l1 p1 e1
            obtain ⟨-, hl1, hp1⟩ := hb _ so1 l1 p1 hk e1
            refine b_X6_move_42 (fun h => absurd h (show ¬ b2i true = 0 by decide)) (fun h => ?_)
            refine blk s_X6_move_45 (nm ?_)
            refine c_X6_move_47 (ct_X0_hasRow hq) rfl (by decide) rfl (Nat.le_of_ble_eq_true rfl) (by decide) rfl (rx ?_)
            rw [hr_bx hb hx0 hq, e1]
            have e2 := e1
            obtain ⟨y1, y2, y3⟩ := (hx0 _ hq).2 so1 l1 p1 e2
            obtain ⟨-, hl2, -⟩ := hb _ so1 l1 p1 hq e2
            refine b_X6_move_50 (fun h => ?_) (fun h => absurd h (show ¬ b2i true = 0 by decide))
            have idx : ∀ Q : BR, Q = (-13, 3, bx) → EN 62 RF mX6_move 1 82 [(0, .ref 0), (1, .int (nI 2)), (2, .int i), (3, .int (nI 2)), (4, .int j), (5, .int n), (6, .ref (bO 2)), (7, .ref (bO 2))] [] I0 J (CBQ I J Q) := by
              rintro _ rfl
              refine blk s_X6_move_82 (nm ?_)
              refine c_X6_move_84 (ct_X6_faulted 3) rfl (by decide) rfl (Nat.le_of_ble_eq_true rfl) (by decide) rfl (rx ?_)
              exact r_X6_move_87 ⟨rfl, rfl, CFr_t hf0 (CFr_0 3), CBX_f hx0 3, up2_s⟩
            refine blk s_X6_move_59 (nm ?_)
            refine c_X6_move_64 (ct_X0_hasRange hk i n) rfl (by decide) rfl (Nat.le_of_ble_eq_true rfl) (by decide) rfl (rx ?_)
            rw [x2]
            dsimp only
            cases g1 : hgB i n (nI l1) with
            | false => exact b_X6_move_67 (fun _ => idx _ rfl) (fun h => absurd rfl h)
            | true =>
              refine b_X6_move_67 (fun h => absurd h (by decide)) (fun h => ?_)
              refine blk s_X6_move_70 (nm ?_)
              refine c_X6_move_76 (ct_X0_hasRange hq j n) rfl (by decide) rfl (Nat.le_of_ble_eq_true rfl) (by decide) rfl (rx ?_)
              rw [y2]
              cases g2 : hgB j n (nI l1) with
              | false => exact b_X6_move_79 (fun h => absurd rfl h) (fun _ => idx _ rfl)
              | true =>
                obtain ⟨a, w, rfl, rfl, haw⟩ := hg_ex hl1 g1
                obtain ⟨d, w', rfl, hw', hdw⟩ := hg_ex hl2 g2
                have ew : w = w' := (nI_eq (by omega) (by omega)).mp hw'
                subst ew
                refine b_X6_move_79 (fun _ => ?_) (fun h => absurd h (by decide))
                rw [cl a, cl d, cl w]
                refine blk s_X6_move_88 (nm ?_)
                refine mv1_2 hl1 haw x3 ?_
                refine blk s_X6_move_121 (nm ?_)
                refine mv2_2 hC h40 hl2 hdw (fun m t hm ht => hp1 (a + m) t (by omega) ht) w 0 _ (by omega) (CFr_t hf0 (CFr_l (by decide))) ?_ ?_ (fun x hx' => fl_in hx') (fun x hx' => absurd hx' (Nat.not_lt_zero x))
                · rw [mvP_0, ubx_id e2]
                  exact CBX_cg hx0 fun o _ _ => fl_o (by omega)
                · rw [fl_o (by decide)]; exact h70
        · refine blk s_X6_move_21 (And.intro (ib hk) (And.intro (ib hq) (nm ?_)))
          refine c_X6_move_39 (ct_X0_hasRow hk) rfl (by decide) rfl (Nat.le_of_ble_eq_true rfl) (by decide) rfl (rx ?_)
          rw [hr_bx hb hx0 hk]
          have null : ∀ Q : BR, Q = (-11, 1, bx) → EN 62 RF mX6_move 1 53 [(0, .ref 0), (1, .int (nI 2)), (2, .int i), (3, .int (nI 3)), (4, .int j), (5, .int n), (6, .ref (bO 2)), (7, .ref (bO 3))] [] I0 J (CBQ I J Q) := by
            rintro _ rfl
            refine blk s_X6_move_53 (nm ?_)
            refine c_X6_move_55 (ct_X6_faulted 1) rfl (by decide) rfl (Nat.le_of_ble_eq_true rfl) (by decide) rfl (rx ?_)
            exact r_X6_move_58 ⟨rfl, rfl, CFr_t hf0 (CFr_0 1), CBX_f hx0 1, up2_s⟩
          cases e1 : bx 2 with
          | none => exact b_X6_move_42 (fun _ => null _ rfl) (fun h => absurd rfl h)
          | some q1 =>
            obtain ⟨so1, l1, p1⟩ := q1
            obtain ⟨x1, x2, x3⟩ := (hx0 _ hk).2 so1 l1 p1 e1
            obtain ⟨-, hl1, hp1⟩ := hb _ so1 l1 p1 hk e1
            refine b_X6_move_42 (fun h => absurd h (show ¬ b2i true = 0 by decide)) (fun h => ?_)
            refine blk s_X6_move_45 (nm ?_)
            refine c_X6_move_47 (ct_X0_hasRow hq) rfl (by decide) rfl (Nat.le_of_ble_eq_true rfl) (by decide) rfl (rx ?_)
            rw [hr_bx hb hx0 hq]
            cases e2 : bx 3 with
            | none => exact b_X6_move_50 (fun h => absurd rfl h) (fun _ => null _ rfl)
            | some q2 =>
              obtain ⟨so2, l2, p2⟩ := q2
              obtain ⟨y1, y2, y3⟩ := (hx0 _ hq).2 so2 l2 p2 e2
              obtain ⟨-, hl2, -⟩ := hb _ so2 l2 p2 hq e2
              refine b_X6_move_50 (fun h => ?_) (fun h => absurd h (show ¬ b2i true = 0 by decide))
              have idx : ∀ Q : BR, Q = (-13, 3, bx) → EN 62 RF mX6_move 1 82 [(0, .ref 0), (1, .int (nI 2)), (2, .int i), (3, .int (nI 3)), (4, .int j), (5, .int n), (6, .ref (bO 2)), (7, .ref (bO 3))] [] I0 J (CBQ I J Q) := by
                rintro _ rfl
                refine blk s_X6_move_82 (nm ?_)
                refine c_X6_move_84 (ct_X6_faulted 3) rfl (by decide) rfl (Nat.le_of_ble_eq_true rfl) (by decide) rfl (rx ?_)
                exact r_X6_move_87 ⟨rfl, rfl, CFr_t hf0 (CFr_0 3), CBX_f hx0 3, up2_s⟩
              refine blk s_X6_move_59 (nm ?_)
              refine c_X6_move_64 (ct_X0_hasRange hk i n) rfl (by decide) rfl (Nat.le_of_ble_eq_true rfl) (by decide) rfl (rx ?_)
              rw [x2]
              dsimp only
              cases g1 : hgB i n (nI l1) with
              | false => exact b_X6_move_67 (fun _ => idx _ rfl) (fun h => absurd rfl h)
              | true =>
                refine b_X6_move_67 (fun h => absurd h (by decide)) (fun h => ?_)
                refine blk s_X6_move_70 (nm ?_)
                refine c_X6_move_76 (ct_X0_hasRange hq j n) rfl (by decide) rfl (Nat.le_of_ble_eq_true rfl) (by decide) rfl (rx ?_)
                rw [y2]
                cases g2 : hgB j n (nI l2) with
                | false => exact b_X6_move_79 (fun h => absurd rfl h) (fun _ => idx _ rfl)
                | true =>
                  obtain ⟨a, w, rfl, rfl, haw⟩ := hg_ex hl1 g1
                  obtain ⟨d, w', rfl, hw', hdw⟩ := hg_ex hl2 g2
                  have ew : w = w' := (nI_eq (by omega) (by omega)).mp hw'
                  subst ew
                  refine b_X6_move_79 (fun _ => ?_) (fun h => absurd h (by decide))
                  rw [cl a, cl d, cl w]
                  refine blk s_X6_move_88 (nm ?_)
                  refine mv1_2 hl1 haw x3 ?_
                  refine blk s_X6_move_121 (nm ?_)
                  refine mv2_3 hC h40 hl2 hdw (fun m t hm ht => hp1 (a + m) t (by omega) ht) w 0 _ (by omega) (CFr_t hf0 (CFr_l (by decide))) ?_ ?_ (fun x hx' => fl_in hx') (fun x hx' => absurd hx' (Nat.not_lt_zero x))
                  · rw [mvP_0, ubx_id e2]
                    exact CBX_cg hx0 fun o _ _ => fl_o (by omega)
                  · rw [fl_o (by decide)]; exact h70
      · rcases b4 hq with rfl | rfl | rfl | rfl
        · refine blk s_X6_move_21 (And.intro (ib hk) (And.intro (ib hq) (nm ?_)))
          refine c_X6_move_39 (ct_X0_hasRow hk) rfl (by decide) rfl (Nat.le_of_ble_eq_true rfl) (by decide) rfl (rx ?_)
          rw [hr_bx hb hx0 hk]
          have null : ∀ Q : BR, Q = (-11, 1, bx) → EN 62 RF mX6_move 1 53 [(0, .ref 0), (1, .int (nI 3)), (2, .int i), (3, .int (nI 0)), (4, .int j), (5, .int n), (6, .ref (bO 3)), (7, .ref (bO 0))] [] I0 J (CBQ I J Q) := by
            rintro _ rfl
            refine blk s_X6_move_53 (nm ?_)
            refine c_X6_move_55 (ct_X6_faulted 1) rfl (by decide) rfl (Nat.le_of_ble_eq_true rfl) (by decide) rfl (rx ?_)
            exact r_X6_move_58 ⟨rfl, rfl, CFr_t hf0 (CFr_0 1), CBX_f hx0 1, up2_s⟩
          cases e1 : bx 3 with
          | none => exact b_X6_move_42 (fun _ => null _ rfl) (fun h => absurd rfl h)
          | some q1 =>
            obtain ⟨so1, l1, p1⟩ := q1
            obtain ⟨x1, x2, x3⟩ := (hx0 _ hk).2 so1 l1 p1 e1
            obtain ⟨-, hl1, hp1⟩ := hb _ so1 l1 p1 hk e1
            refine b_X6_move_42 (fun h => absurd h (show ¬ b2i true = 0 by decide)) (fun h => ?_)
            refine blk s_X6_move_45 (nm ?_)
            refine c_X6_move_47 (ct_X0_hasRow hq) rfl (by decide) rfl (Nat.le_of_ble_eq_true rfl) (by decide) rfl (rx ?_)
            rw [hr_bx hb hx0 hq]
            cases e2 : bx 0 with
            | none => exact b_X6_move_50 (fun h => absurd rfl h) (fun _ => null _ rfl)
            | some q2 =>
              obtain ⟨so2, l2, p2⟩ := q2
              obtain ⟨y1, y2, y3⟩ := (hx0 _ hq).2 so2 l2 p2 e2
              obtain ⟨-, hl2, -⟩ := hb _ so2 l2 p2 hq e2
              refine b_X6_move_50 (fun h => ?_) (fun h => absurd h (show ¬ b2i true = 0 by decide))
              have idx : ∀ Q : BR, Q = (-13, 3, bx) → EN 62 RF mX6_move 1 82 [(0, .ref 0), (1, .int (nI 3)), (2, .int i), (3, .int (nI 0)), (4, .int j), (5, .int n), (6, .ref (bO 3)), (7, .ref (bO 0))] [] I0 J (CBQ I J Q) := by
                rintro _ rfl
                refine blk s_X6_move_82 (nm ?_)
                refine c_X6_move_84 (ct_X6_faulted 3) rfl (by decide) rfl (Nat.le_of_ble_eq_true rfl) (by decide) rfl (rx ?_)
                exact r_X6_move_87 ⟨rfl, rfl, CFr_t hf0 (CFr_0 3), CBX_f hx0 3, up2_s⟩
              refine blk s_X6_move_59 (nm ?_)
              refine c_X6_move_64 (ct_X0_hasRange hk i n) rfl (by decide) rfl (Nat.le_of_ble_eq_true rfl) (by decide) rfl (rx ?_)
              rw [x2]
              dsimp only
              cases g1 : hgB i n (nI l1) with
              | false => exact b_X6_move_67 (fun _ => idx _ rfl) (fun h => absurd rfl h)
              | true =>
                refine b_X6_move_67 (fun h => absurd h (by decide)) (fun h => ?_)
                refine blk s_X6_move_70 (nm ?_)
                refine c_X6_move_76 (ct_X0_hasRange hq j n) rfl (by decide) rfl (Nat.le_of_ble_eq_true rfl) (by decide) rfl (rx ?_)
                rw [y2]
                cases g2 : hgB j n (nI l2) with
                | false => exact b_X6_move_79 (fun h => absurd rfl h) (fun _ => idx _ rfl)
                | true =>
                  obtain ⟨a, w, rfl, rfl, haw⟩ := hg_ex hl1 g1
                  obtain ⟨d, w', rfl, hw', hdw⟩ := hg_ex hl2 g2
                  have ew : w = w' := (nI_eq (by omega) (by omega)).mp hw'
                  subst ew
                  refine b_X6_move_79 (fun _ => ?_) (fun h => absurd h (by decide))
                  rw [cl a, cl d, cl w]
                  refine blk s_X6_move_88 (nm ?_)
                  refine mv1_3 hl1 haw x3 ?_
                  refine blk s_X6_move_121 (nm ?_)
                  refine mv2_0 hC h40 hl2 hdw (fun m t hm ht => hp1 (a + m) t (by omega) ht) w 0 _ (by omega) (CFr_t hf0 (CFr_l (by decide))) ?_ ?_ (fun x hx' => fl_in hx') (fun x hx' => absurd hx' (Nat.not_lt_zero x))
                  · rw [mvP_0, ubx_id e2]
                    exact CBX_cg hx0 fun o _ _ => fl_o (by omega)
                  · rw [fl_o (by decide)]; exact h70
        · refine blk s_X6_move_21 (And.intro (ib hk) (And.intro (ib hq) (nm ?_)))
          refine c_X6_move_39 (ct_X0_hasRow hk) rfl (by decide) rfl (Nat.le_of_ble_eq_true rfl) (by decide) rfl (rx ?_)
          rw [hr_bx hb hx0 hk]
          have null : ∀ Q : BR, Q = (-11, 1, bx) → EN 62 RF mX6_move 1 53 [(0, .ref 0), (1, .int (nI 3)), (2, .int i), (3, .int (nI 1)), (4, .int j), (5, .int n), (6, .ref (bO 3)), (7, .ref (bO 1))] [] I0 J (CBQ I J Q) := by
            rintro _ rfl
            refine blk s_X6_move_53 (nm ?_)
            refine c_X6_move_55 (ct_X6_faulted 1) rfl (by decide) rfl (Nat.le_of_ble_eq_true rfl) (by decide) rfl (rx ?_)
            exact r_X6_move_58 ⟨rfl, rfl, CFr_t hf0 (CFr_0 1), CBX_f hx0 1, up2_s⟩
          cases e1 : bx 3 with
          | none => exact b_X6_move_42 (fun _ => null _ rfl) (fun h => absurd rfl h)
          | some q1 =>
            obtain ⟨so1, l1, p1⟩ := q1
            obtain ⟨x1, x2, x3⟩ := (hx0 _ hk).2 so1 l1 p1 e1
            obtain ⟨-, hl1, hp1⟩ := hb _ so1 l1 p1 hk e1
            refine b_X6_move_42 (fun h => absurd h (show ¬ b2i true = 0 by decide)) (fun h => ?_)
            refine blk s_X6_move_45 (nm ?_)
            refine c_X6_move_47 (ct_X0_hasRow hq) rfl (by decide) rfl (Nat.le_of_ble_eq_true rfl) (by decide) rfl (rx ?_)
            rw [hr_bx hb hx0 hq]
            cases e2 : bx 1 with
            | none => exact b_X6_move_50 (fun h => absurd rfl h) (fun _ => null _ rfl)
            | some q2 =>
              obtain ⟨so2, l2, p2⟩ := q2
              obtain ⟨y1, y2, y3⟩ := (hx0 _ hq).2 so2 l2 p2 e2
              obtain ⟨-, hl2, -⟩ := hb _ so2 l2 p2 hq e2
              refine b_X6_move_50 (fun h => ?_) (fun h => absurd h (show ¬ b2i true = 0 by decide))
              have idx : ∀ Q : BR, Q = (-13, 3, bx) → EN 62 RF mX6_move 1 82 [(0, .ref 0), (1, .int (nI 3)), (2, .int i), (3, .int (nI 1)), (4, .int j), (5, .int n), (6, .ref (bO 3)), (7, .ref (bO 1))] [] I0 J (CBQ I J Q) := by
                rintro _ rfl
                refine blk s_X6_move_82 (nm ?_)
                refine c_X6_move_84 (ct_X6_faulted 3) rfl (by decide) rfl (Nat.le_of_ble_eq_true rfl) (by decide) rfl (rx ?_)
                exact r_X6_move_87 ⟨rfl, rfl, CFr_t hf0 (CFr_0 3), CBX_f hx0 3, up2_s⟩
              refine blk s_X6_move_59 (nm ?_)
              refine c_X6_move_64 (ct_X0_hasRange hk i n) rfl (by decide) rfl (Nat.le_of_ble_eq_true rfl) (by decide) rfl (rx ?_)
              rw [x2]
              dsimp only
              cases g1 : hgB i n (nI l1) with
              | false => exact b_X6_move_67 (fun _ => idx _ rfl) (fun h => absurd rfl h)
              | true =>
                refine b_X6_move_67 (fun h => absurd h (by decide)) (fun h => ?_)
                refine blk s_X6_move_70 (nm ?_)
                refine c_X6_move_76 (ct_X0_hasRange hq j n) rfl (by decide) rfl (Nat.le_of_ble_eq_true rfl) (by decide) rfl (rx ?_)
                rw [y2]
                cases g2 : hgB j n (nI l2) with
                | false => exact b_X6_move_79 (fun h => absurd rfl h) (fun _ => idx _ rfl)
                | true =>
                  obtain ⟨a, w, rfl, rfl, haw⟩ := hg_ex hl1 g1
                  obtain ⟨d, w', rfl, hw', hdw⟩ := hg_ex hl2 g2
                  have ew : w = w' := (nI_eq (by omega) (by omega)).mp hw'
                  subst ew
                  refine b_X6_move_79 (fun _ => ?_) (fun h => absurd h (by decide))
                  rw [cl a, cl d, cl w]
                  refine blk s_X6_move_88 (nm ?_)
                  refine mv1_3 hl1 haw x3 ?_
                  refine blk s_X6_move_121 (nm ?_)
                  refine mv2_1 hC h40 hl2 hdw (fun m t hm ht => hp1 (a + m) t (by omega) ht) w 0 _ (by omega) (CFr_t hf0 (CFr_l (by decide))) ?_ ?_ (fun x hx' => fl_in hx') (fun x hx' => absurd hx' (Nat.not_lt_zero x))
                  · rw [mvP_0, ubx_id e2]
                    exact CBX_cg hx0 fun o _ _ => fl_o (by omega)
                  · rw [fl_o (by decide)]; exact h70
        · refine blk s_X6_move_21 (And.intro (ib hk) (And.intro (ib hq) (nm ?_)))
          refine c_X6_move_39 (ct_X0_hasRow hk) rfl (by decide) rfl (Nat.le_of_ble_eq_true rfl) (by decide) rfl (rx ?_)
          rw [hr_bx hb hx0 hk]
          have null : ∀ Q : BR, Q = (-11, 1, bx) → EN 62 RF mX6_move 1 53 [(0, .ref 0), (1, .int (nI 3)), (2, .int i), (3, .int (nI 2)), (4, .int j), (5, .int n), (6, .ref (bO 3)), (7, .ref (bO 2))] [] I0 J (CBQ I J Q) := by
            rintro _ rfl
            refine blk s_X6_move_53 (nm ?_)
            refine c_X6_move_55 (ct_X6_faulted 1) rfl (by decide) rfl (Nat.le_of_ble_eq_true rfl) (by decide) rfl (rx ?_)
            exact r_X6_move_58 ⟨rfl, rfl, CFr_t hf0 (CFr_0 1), CBX_f hx0 1, up2_s⟩
          cases e1 : bx 3 with
          | none => exact b_X6_move_42 (fun _ => null _ rfl) (fun h => absurd rfl h)
          | some q1 =>
            obtain ⟨so1, l1, p1⟩ := q1
            obtain ⟨x1, x2, x3⟩ := (hx0 _ hk).2 so1 l1 p1 e1
            obtain ⟨-, hl1, hp1⟩ := hb _ so1 l1 p1 hk e1
            refine b_X6_move_42 (fun h => absurd h (show ¬ b2i true = 0 by decide)) (fun h => ?_)
            refine blk s_X6_move_45 (nm ?_)
            refine c_X6_move_47 (ct_X0_hasRow hq) rfl (by decide) rfl (Nat.le_of_ble_eq_true rfl) (by decide) rfl (rx ?_)
            rw [hr_bx hb hx0 hq]
            cases e2 : bx 2 with
            | none => exact b_X6_move_50 (fun h => absurd rfl h) (fun _ => null _ rfl)
            | some q2 =>
              obtain ⟨so2, l2, p2⟩ := q2
              obtain ⟨y1, y2, y3⟩ := (hx0 _ hq).2 so2 l2 p2 e2
              obtain ⟨-, hl2, -⟩ := hb _ so2 l2 p2 hq e2
              refine b_X6_move_50 (fun h => ?_) (fun h => absurd h (show ¬ b2i true = 0 by decide))
              have idx : ∀ Q : BR, Q = (-13, 3, bx) → EN 62 RF mX6_move 1 82 [(0, .ref 0), (1, .int (nI 3)), (2, .int i), (3, .int (nI 2)), (4, .int j), (5, .int n), (6, .ref (bO 3)), (7, .ref (bO 2))] [] I0 J (CBQ I J Q) := by
                rintro _ rfl
                refine blk s_X6_move_82 (nm ?_)
                refine c_X6_move_84 (ct_X6_faulted 3) rfl (by decide) rfl (Nat.le_of_ble_eq_true rfl) (by decide) rfl (rx ?_)
                exact r_X6_move_87 ⟨rfl, rfl, CFr_t hf0 (CFr_0 3), CBX_f hx0 3, up2_s⟩
              refine blk s_X6_move_59 (nm ?_)
              refine c_X6_move_64 (ct_X0_hasRange hk i n) rfl (by decide) rfl (Nat.le_of_ble_eq_true rfl) (by decide) rfl (rx ?_)
              rw [x2]
              dsimp only
              cases g1 : hgB i n (nI l1) with
              | false => exact b_X6_move_67 (fun _ => idx _ rfl) (fun h => absurd rfl h)
              | true =>
                refine b_X6_move_67 (fun h => absurd h (by decide)) (fun h => ?_)
                refine blk s_X6_move_70 (nm ?_)
                refine c_X6_move_76 (ct_X0_hasRange hq j n) rfl (by decide) rfl (Nat.le_of_ble_eq_true rfl) (by decide) rfl (rx ?_)
                rw [y2]
                cases g2 : hgB j n (nI l2) with
                | false => exact b_X6_move_79 (fun h => absurd rfl h) (fun _ => idx _ rfl)
                | true =>
                  obtain ⟨a, w, rfl, rfl, haw⟩ := hg_ex hl1 g1
                  obtain ⟨d, w', rfl, hw', hdw⟩ := hg_ex hl2 g2
                  have ew : w = w' := (nI_eq (by omega) (by omega)).mp hw'
                  subst ew
                  refine b_X6_move_79 (fun _ => ?_) (fun h => absurd h (by decide))
                  rw [cl a, cl d, cl w]
                  refine blk s_X6_move_88 (nm ?_)
                  refine mv1_3 hl1 haw x3 ?_
                  refine blk s_X6_move_121 (nm ?_)
                  refine mv2_2 hC h40 hl2 hdw (fun m t hm ht => hp1 (a + m) t (by omega) ht) w 0 _ (by omega) (CFr_t hf0 (CFr_l (by decide))) ?_ ?_ (fun x hx' => fl_in hx') (fun x hx' => absurd hx' (Nat.not_lt_zero x))
                  · rw [mvP_0, ubx_id e2]
                    exact CBX_cg hx0 fun o _ _ => fl_o (by omega)
                  · rw [fl_o (by decide)]; exact h70
        · refine blk s_X6_move_21 (And.intro (ib hk) (And.intro (ib hq) (nm ?_)))
          refine c_X6_move_39 (ct_X0_hasRow hk) rfl (by decide) rfl (Nat.le_of_ble_eq_true rfl) (by decide) rfl (rx ?_)
          rw [hr_bx hb hx0 hk]
          have null : ∀ Q : BR, Q = (-11, 1, bx) → EN 62 RF mX6_move 1 53 [(0, .ref 0), (1, .int (nI 3)), (2, .int i), (3, .int (nI 3)), (4, .int j), (5, .int n), (6, .ref (bO 3)), (7, .ref (bO 3))] [] I0 J (CBQ I J Q) := by
            rintro _ rfl
            refine blk s_X6_move_53 (nm ?_)
            refine c_X6_move_55 (ct_X6_faulted 1) rfl (by decide) rfl (Nat.le_of_ble_eq_true rfl) (by decide) rfl (rx ?_)
            exact r_X6_move_58 ⟨rfl, rfl, CFr_t hf0 (CFr_0 1), CBX_f hx0 1, up2_s⟩
          cases e1 : bx 3 with
          | none => exact b_X6_move_42 (fun _ => null _ rfl) (fun h => absurd rfl h)
          | some q1 =>
            obtain ⟨so1, l1, p1⟩ := q1
            obtain ⟨x1, x2, x3⟩ := (hx0 _ hk).2 so1 l1 p1 e1
            obtain ⟨-, hl1, hp1⟩ := hb _ so1 l1 p1 hk e1
            refine b_X6_move_42 (fun h => absurd h (show ¬ b2i true = 0 by decide)) (fun h => ?_)
            refine blk s_X6_move_45 (nm ?_)
            refine c_X6_move_47 (ct_X0_hasRow hq) rfl (by decide) rfl (Nat.le_of_ble_eq_true rfl) (by decide) rfl (rx ?_)
            rw [hr_bx hb hx0 hq, e1]
            have e2 := e1
            obtain ⟨y1, y2, y3⟩ := (hx0 _ hq).2 so1 l1 p1 e2
            obtain ⟨-, hl2, -⟩ := hb _ so1 l1 p1 hq e2
            refine b_X6_move_50 (fun h => ?_) (fun h => absurd h (show ¬ b2i true = 0 by decide))
            have idx : ∀ Q : BR, Q = (-13, 3, bx) → EN 62 RF mX6_move 1 82 [(0, .ref 0), (1, .int (nI 3)), (2, .int i), (3, .int (nI 3)), (4, .int j), (5, .int n), (6, .ref (bO 3)), (7, .ref (bO 3))] [] I0 J (CBQ I J Q) := by
              rintro _ rfl
              refine blk s_X6_move_82 (nm ?_)
              refine c_X6_move_84 (ct_X6_faulted 3) rfl (by decide) rfl (Nat.le_of_ble_eq_true rfl) (by decide) rfl (rx ?_)
              exact r_X6_move_87 ⟨rfl, rfl, CFr_t hf0 (CFr_0 3), CBX_f hx0 3, up2_s⟩
            refine blk s_X6_move_59 (nm ?_)
            refine c_X6_move_64 (ct_X0_hasRange hk i n) rfl (by decide) rfl (Nat.le_of_ble_eq_true rfl) (by decide) rfl (rx ?_)
            rw [x2]
            dsimp only
            cases g1 : hgB i n (nI l1) with
            | false => exact b_X6_move_67 (fun _ => idx _ rfl) (fun h => absurd rfl h)
            | true =>
              refine b_X6_move_67 (fun h => absurd h (by decide)) (fun h => ?_)
              refine blk s_X6_move_70 (nm ?_)
              refine c_X6_move_76 (ct_X0_hasRange hq j n) rfl (by decide) rfl (Nat.le_of_ble_eq_true rfl) (by decide) rfl (rx ?_)
              rw [y2]
              cases g2 : hgB j n (nI l1) with
              | false => exact b_X6_move_79 (fun h => absurd rfl h) (fun _ => idx _ rfl)
              | true =>
                obtain ⟨a, w, rfl, rfl, haw⟩ := hg_ex hl1 g1
                obtain ⟨d, w', rfl, hw', hdw⟩ := hg_ex hl2 g2
                have ew : w = w' := (nI_eq (by omega) (by omega)).mp hw'
                subst ew
                refine b_X6_move_79 (fun _ => ?_) (fun h => absurd h (by decide))
                rw [cl a, cl d, cl w]
                refine blk s_X6_move_88 (nm ?_)
                refine mv1_3 hl1 haw x3 ?_
                refine blk s_X6_move_121 (nm ?_)
                refine mv2_3 hC h40 hl2 hdw (fun m t hm ht => hp1 (a + m) t (by omega) ht) w 0 _ (by omega) (CFr_t hf0 (CFr_l (by decide))) ?_ ?_ (fun x hx' => fl_in hx') (fun x hx' => absurd hx' (Nat.not_lt_zero x))
                · rw [mvP_0, ubx_id e2]
                  exact CBX_cg hx0 fun o _ _ => fl_o (by omega)
                · rw [fl_o (by decide)]; exact h70
end PAIR14
