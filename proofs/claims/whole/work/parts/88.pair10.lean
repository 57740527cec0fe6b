/-! PAIRS: box, lay, same -/
section PAIR10
variable {sc : Nat → Nat → Int32} {V V' : Nat} {I I1 I2 : IT} {J : JT} {f : IT} {g : JT} {C : Nat} {nx : Nat → Option Nat} {os oc : Option Nat} {K : Nat} {bx : BXT} {fa : Int32}
def plI (I : IT) (k : Nat) (v : Nat → Int32) (n : Nat) : IT := fun o b => if o = 60 ∧ 8 * k ≤ b ∧ b < 8 * k + n then v (b - 8 * k) else I o b
theorem plI_0 {k : Nat} {v : Nat → Int32} : plI I k v 0 = I := by
  funext o b; unfold plI; rw [if_neg (by omega)]
theorem plI_s {k n : Nat} {v : Nat → Int32} {x : Int32} (h : x = v n) : up2 (plI I k v n) 60 (8 * k + n) x = plI I k v (n + 1) := by
  funext o b
  by_cases ho : o = 60
  · subst ho
    by_cases hb : b = 8 * k + n
    · subst hb
      rw [up2_s]; unfold plI
      rw [if_pos (by omega), h]; congr 1; omega
    · rw [up2_k hb]; unfold plI
      by_cases h2 : 8 * k ≤ b ∧ b < 8 * k + n
      · rw [if_pos (by omega), if_pos (by omega)]
      · rw [if_neg (by omega), if_neg (by omega)]
  · rw [up2_o ho]; unfold plI; rw [if_neg (by omega), if_neg (by omega)]
theorem plI_o {k n o : Nat} {v : Nat → Int32} (h : o ≠ 60) : plI I k v n o = I o := by
  funext b; unfold plI; rw [if_neg (by omega)]
theorem plI_in {k n i : Nat} {v : Nat → Int32} (h : i < n) : plI I k v n 60 (8 * k + i) = v i := by
  unfold plI; rw [if_pos (by omega)]; congr 1; omega
theorem plI_out {k n c i : Nat} {v : Nat → Int32} (hn : n ≤ 8) (hc : c ≠ k) (hi : i < 8) : plI I k v n 60 (8 * c + i) = I 60 (8 * c + i) := by
  unfold plI; rw [if_neg (by omega)]
theorem MFr_p {k n : Nat} {v : Nat → Int32} : MFr I (plI I k v n) := ⟨fun o _ b => plI_o (by omega), fun m _ => by rw [plI_o (by decide)]⟩
-- box
def boS (bx : BXT) (b so n : Int32) : BR := match ltB b 4 with
  | false => (-1, 0, bx)
  | true => match wiB so 0 3, decide (8 < n), decide (n < 0) with
    | true, false, true => (-14, 4, bx)
    | true, false, false => (1, 0, ubx bx b.toNatClampNeg (some (so.toNatClampNeg, n.toNatClampNeg, fun _ => none)))
    | _, _, _ => (-2, 0, bx)
theorem gn_C {k so l : Nat} (hk : k < 4) (hx : CBX bx I) : CBX (ubx bx k (some (so, l, fun _ => none))) (gnI I k (nI so) (nI l)) := by
  unfold gnI
  refine CBX_u hx (fun c hc hne => ⟨?_, ?_⟩) ⟨fun h => by (cases h), fun so' l' p' h => ?_⟩
  · rw [fl_o (bO_ne hne).2.2.1, up2_o (bO_ne hne).1, up2_o (bO_ne hne).1]
  · rw [fl_o (bO_ne hne).2.1, up2_o (bO_ne hne).2.2.2, up2_o (bO_ne hne).2.2.2]
  · cases h
    have hOP : bO k ≠ bP k := by show 30 + 2 * k ≠ 31 + 2 * k; omega
    refine ⟨?_, ?_, fun i hi => ?_⟩
    · rw [fl_o hOP, up2_k (by decide), up2_s]
    · rw [fl_o hOP, up2_s]
    · rw [fl_in hi]; rfl
theorem gn_F {k : Nat} (hk : k < 4) (so l : Int32) : CFr I (gnI I k so l) := by
  obtain ⟨o1, o2, o3, o4⟩ := bO_lt hk
  unfold gnI
  exact CFr_t (CFr_t (CFr_u ⟨o1, by omega⟩) (CFr_u ⟨o1, by omega⟩)) (CFr_l ⟨o3, by omega⟩)
theorem gn_0 {k : Nat} (hk : k < 4) (so l : Int32) : gnI I k so l 0 = I 0 := by
  obtain ⟨o1, o2, o3, o4⟩ := bO_lt hk
  unfold gnI
  rw [fl_o (by omega), up2_o (by omega), up2_o (by omega)]
theorem n_8 {n : Int32} (h1 : ¬ n < 0) (h2 : ¬ 8 < n) : ∃ l, l ≤ 8 ∧ n = nI l := by
  obtain ⟨l, hl, rfl⟩ := nI_of h1
  exact ⟨l, Nat.not_lt.mp fun h => h2 ((nI_ltI (a := 8) (by decide) hl).mpr h), rfl⟩
theorem ct_X6_box (hx : CBX bx I) (b so n : Int32) : CN 62 RF mX6_box 1 [.ref 0, .int b, .int so, .int n] I J (CBQ I J (boS bx b so n)) := by
  unfold boS
  refine cn_of (by decide) rfl (Nat.le_of_ble_eq_true rfl) ?_
  refine blk s_X6_box_0 (nm ?_)
  have hx0 := CBX_f hx 0
  have hf0 : CFr I (up2 I 0 7 0) := CFr_0 0
  have h70 : up2 I 0 7 0 0 7 = 0 := up2_s
  generalize up2 I 0 7 0 = I0 at hx0 hf0 h70 ⊢
  refine c_X6_box_6 (ct_X6_isBox b) rfl (by decide) rfl (Nat.le_of_ble_eq_true rfl) (rx ?_)
  cases hB : ltB b 4 with
  | false =>
    refine b_X6_box_9 (fun h => absurd rfl h) (fun h => ?_)
    refine blk s_X6_box_12 (nm ?_)
    exact r_X6_box_13 ⟨rfl, rfl, hf0, hx0, h70⟩
  | true =>
    obtain ⟨k, hk, rfl⟩ := lt_ex (N := 4) (by decide) hB
    refine b_X6_box_9 (fun h => ?_) (fun h => absurd h (by decide))
    rw [cl k]
    have out : ∀ q : BR, q = (-2, 0, bx) → EN 62 RF mX6_box 1 29 [(0, .ref 0), (1, .int (nI k)), (2, .int so), (3, .int n)] [] I0 J (CBQ I J q) := by
      rintro _ rfl
      refine blk s_X6_box_29 (nm ?_)
      exact r_X6_box_31 ⟨rfl, rfl, hf0, hx0, h70⟩
    refine blk s_X6_box_14 (nm ?_)
    dsimp only
    refine b_X6_box_15 (fun h1 => out _ ?_) (fun h1 => ?_)
    · have e : wiB so 0 3 = false := by unfold wiB; rw [decide_eq_true h1]; rfl
      rw [e]
    refine blk s_X6_box_18 (nm ?_)
    refine b_X6_box_20 (fun h2 => out _ ?_) (fun h2 => ?_)
    · have e : wiB so 0 3 = false := by unfold wiB; rw [decide_eq_false h1, decide_eq_true h2]; rfl
      rw [e]
    have e : wiB so 0 3 = true := by unfold wiB; rw [decide_eq_false h1, decide_eq_false h2]; rfl
    rw [e]
    refine blk s_X6_box_23 (nm ?_)
    refine b_X6_box_26 (fun h3 => ?_) (fun h3 => out _ ?_)
    · have h3' : ¬ (8 : Int32) < n := Int32.not_lt.mpr h3
      rw [decide_eq_false h3']
      refine blk s_X6_box_32 (nm ?_)
      refine b_X6_box_33 (fun h4 => ?_) (fun h4 => ?_)
      · have h4' : ¬ n < 0 := Int32.not_lt.mpr h4
        rw [decide_eq_false h4']
        obtain ⟨l, hl, rfl⟩ := n_8 h4' h3'
        rw [wi_3] at e
        obtain ⟨s, hs, rfl⟩ := lt_ex (N := 4) (by decide) e
        have go : EN 62 RF mX6_box 1 50 [(0, .ref 0), (1, .int (nI k)), (2, .int (nI s)), (3, .int (nI l))] [.int (nI l), .int (nI s), .ref (bO k)] I0 J (CBQ I J (1, 0, ubx bx k (some ((nI s).toNatClampNeg, (nI l).toNatClampNeg, fun _ => none)))) := by
          refine c_X6_box_50 (ct_X0_getNewRow hk (nI s) (nI l)) rfl (by decide) rfl (Nat.le_of_ble_eq_true rfl) ?_ ?_ (rx ?_)
          · rcases b4 hk with rfl | rfl | rfl | rfl <;> decide
          · rcases b4 hk with rfl | rfl | rfl | rfl <;> rfl
          refine blk s_X6_box_53 (nm ?_)
          rw [cl s, cl l]
          exact r_X6_box_54 ⟨rfl, rfl, CFr_t hf0 (gn_F hk _ _), gn_C hk hx0, by rw [gn_0 hk]; exact h70⟩
        rcases b4 hk with rfl | rfl | rfl | rfl
        all_goals
          refine blk s_X6_box_42 (And.intro (ib hk) (nm ?_))
          exact go
      · rw [decide_eq_true (show n < 0 from Int32.not_le.mp h4)]
        refine blk s_X6_box_36 (nm ?_)
        refine c_X6_box_38 (ct_X6_faulted 4) rfl (by decide) rfl (Nat.le_of_ble_eq_true rfl) (by decide) rfl (rx ?_)
        exact r_X6_box_41 ⟨rfl, rfl, CFr_t hf0 (CFr_0 4), CBX_f hx0 4, up2_s⟩
    · rw [decide_eq_true (show (8 : Int32) < n from Int32.not_le.mp h3)]
theorem ct_X7_box (hx : RBX bx I) (b so n : Int32) : CN 62 RF mX7_box 2 [.ref 39, .int b, .int so, .int n] I J (MBQ I J (boS bx b so n)) := by
  unfold boS
  refine cn_of (by decide) rfl (Nat.le_of_ble_eq_true rfl) ?_
  refine blk s_X7_box_0 (nm ?_)
  have hx0 := RBX_f hx 0
  have hf0 : MFr I (up2 I 39 0 0) := MFr_0 0
  have h70 : up2 I 39 0 0 39 0 = 0 := up2_s
  generalize up2 I 39 0 0 = I0 at hx0 hf0 h70 ⊢
  refine c_X7_box_6 (ct_X7_isBoxC b) rfl (by decide) rfl (Nat.le_of_ble_eq_true rfl) (rx ?_)
  cases hB : ltB b 4 with
  | false =>
    refine b_X7_box_9 (fun h => absurd rfl h) (fun h => ?_)
    refine blk s_X7_box_12 (nm ?_)
    exact r_X7_box_13 ⟨rfl, rfl, hf0, hx0, h70⟩
  | true =>
    obtain ⟨k, hk, rfl⟩ := lt_ex (N := 4) (by decide) hB
    refine b_X7_box_9 (fun h => ?_) (fun h => absurd h (by decide))
    rw [cl k]
    have out : ∀ q : BR, q = (-2, 0, bx) → EN 62 RF mX7_box 2 29 [(0, .ref 39), (1, .int (nI k)), (2, .int so), (3, .int n)] [] I0 J (MBQ I J q) := by
      rintro _ rfl
      refine blk s_X7_box_29 (nm ?_)
      exact r_X7_box_31 ⟨rfl, rfl, hf0, hx0, h70⟩
    refine blk s_X7_box_14 (nm ?_)
    dsimp only
    refine c_X7_box_17 (ct_X7_within _ _ _) rfl (by decide) rfl (Nat.le_of_ble_eq_true rfl) (rx ?_)
    cases e : wiB so 0 3 with
    | false => exact b_X7_box_20 (fun _ => out _ rfl) (fun h => absurd rfl h)
    | true =>
      refine b_X7_box_20 (fun h => absurd h (by decide)) (fun h => ?_)
      refine blk s_X7_box_23 (nm ?_)
      refine b_X7_box_26 (fun h3 => ?_) (fun h3 => out _ ?_)
      · have h3' : ¬ (8 : Int32) < n := Int32.not_lt.mpr h3
        rw [decide_eq_false h3']
        refine blk s_X7_box_32 (nm ?_)
        refine b_X7_box_33 (fun h4 => ?_) (fun h4 => ?_)
        · have h4' : ¬ n < 0 := Int32.not_lt.mpr h4
          rw [decide_eq_false h4']
          obtain ⟨l, hl, rfl⟩ := n_8 h4' h3'
          rw [wi_3] at e
          obtain ⟨s, hs, rfl⟩ := lt_ex (N := 4) (by decide) e
          dsimp only
          rw [cl s, cl l]
          refine blk s_X7_box_42 (And.intro (ib hk) (And.intro (ib hk) (nm ?_)))
          rw [cl k]
          generalize hI1 : up2 (up2 I0 58 k (nI s)) 59 k (nI l) = I1
          have hfr : MFr I I1 := by rw [← hI1]; exact MFr_t hf0 (MFr_t (MFr_u (o := 58) (by decide)) (MFr_u (o := 59) (by decide)))
          refine en_I (plI_0 (I := I1) (k := k) (v := fun _ => -9)).symm ?_
          refine dn (P := fun i => EN 62 RF mX7_box 2 59 [(0, .ref 39), (1, .int (nI k)), (2, .int (nI s)), (3, .int (nI l)), (4, .int (nI i))] [] (plI I1 k (fun _ => -9) i) J (MBQ I J (1, 0, ubx bx k (some (s, l, fun _ => none))))) (N := 8) (a := 0) ?_ ?_ (Nat.zero_le _)
          · refine blk s_X7_box_59 (nm ?_)
            refine b_X7_box_63 (fun h => ?_) (fun h => absurd (Int32.le_refl _) h)
            refine blk s_X7_box_86 (nm ?_)
            have e58 : plI I1 k (fun _ => -9) 8 58 = up2 I0 58 k (nI s) 58 := by rw [plI_o (by decide), ← hI1, up2_o (by decide)]
            have e59 : plI I1 k (fun _ => -9) 8 59 = up2 (up2 I0 58 k (nI s)) 59 k (nI l) 59 := by rw [plI_o (by decide), ← hI1]
            refine r_X7_box_87 ⟨rfl, rfl, MFr_t hfr MFr_p, RBX_u hx0 (fun c hc hne => ⟨?_, ?_, fun i hi => ?_⟩) ⟨fun h => by (cases h), fun so' l' p' h => ?_⟩, ?_⟩
            · rw [e58, up2_k hne]
            · rw [e59, up2_k hne, up2_o (by decide)]
            · rw [plI_out (by decide) hne hi, ← hI1, up2_o (by decide), up2_o (by decide)]
            · cases h
              refine ⟨by rw [e58, up2_s], by rw [e59, up2_s], fun i hi => by rw [plI_in hi]; rfl⟩
            · rw [plI_o (by decide), ← hI1, up2_o (by decide), up2_o (by decide)]; exact h70
          · intro i hi ih
            refine blk s_X7_box_59 (nm ?_)
            refine b_X7_box_63 (fun h => absurd h (nI_ge hi (by decide))) (fun h => ?_)
            refine blk s_X7_box_66 (And.intro (show vp_in ((8 : Int32) * nI k + nI i) 32 from by rw [ix8]; exact ib (by omega)) (nm ?_))
            rw [ix8, cl (8 * k + i)]
            exact en_L (by rw [nI_s]) (en_I (plI_s rfl) ih)
        · rw [decide_eq_true (show n < 0 from Int32.not_le.mp h4)]
          refine blk s_X7_box_36 (nm ?_)
          refine c_X7_box_38 (ct_X7_fails 4) rfl (by decide) rfl (Nat.le_of_ble_eq_true rfl) (by decide) rfl (rx ?_)
          exact r_X7_box_41 ⟨rfl, rfl, MFr_t hf0 (MFr_0 4), RBX_f hx0 4, up2_s⟩
      · rw [decide_eq_true (show (8 : Int32) < n from Int32.not_le.mp h3)]
theorem boS_b (hb : BOK C bx) (b so n : Int32) : BOK C (boS bx b so n).2.2 := by
  unfold boS
  cases ltB b 4 with
  | false => exact hb
  | true =>
    dsimp only
    cases e : wiB so 0 3 with
    | false => exact hb
    | true =>
      cases h8 : decide (8 < n) with
      | true => exact hb
      | false =>
        cases h0 : decide (n < 0) with
        | true => exact hb
        | false =>
          obtain ⟨l, hl, rfl⟩ := n_8 (of_decide_eq_false h0) (of_decide_eq_false h8)
          rw [wi_3] at e
          obtain ⟨s, hs, rfl⟩ := lt_ex (N := 4) (by decide) e
          dsimp only
          rw [cl s, cl l]
          refine BOK_u hb (fun so l p h => ?_)
          cases h
          exact ⟨hs, hl, fun i t _ h => by cases h⟩
theorem p_box (b so n : Int32) : PR sc V mX6_box mX7_box 1 2 [.int b, .int so, .int n] := pr_b (q := fun _ _ _ bx _ => boS bx b so n) fun I J C nx os oc K V' bx fa hb hC =>
  ⟨boS_b hb b so n, ct_X6_box hC.2.2.2.1 b so n, fun I1 h1 => ct_X7_box h1.2.2.2.1 b so n⟩
-- lay
def laS (C : Nat) (kd : Nat → Int32) (bx : BXT) (b i t : Int32) : BR := match ltB b 4, hsB C t with
  | true, true => match bx b.toNatClampNeg with
    | none => (-11, 1, bx)
    | some q => match hsB q.2.1 i with
      | false => (-13, 3, bx)
      | true => match amB (nI q.1) (kd t.toNatClampNeg) with
        | false => (-12, 2, bx)
        | true => (1, 0, ubx bx b.toNatClampNeg (some (q.1, q.2.1, fun j => if j = i.toNatClampNeg then some t.toNatClampNeg else q.2.2 j)))
  | _, _ => (-1, 0, bx)
theorem la_C {k so l m t : Nat} {p : Nat → Option Nat} (hk : k < 4) (hx : CBX bx I) (e : bx k = some (so, l, p)) : CBX (ubx bx k (some (so, l, fun j => if j = m then some t else p j))) (up2 I (bP k) m (nI t)) := by
  obtain ⟨x1, x2, x3⟩ := (hx k hk).2 so l p e
  refine CBX_u hx (fun c hc hne => ⟨up2_o (bO_ne hne).2.2.1, up2_o (bO_ne hne).2.1⟩) ⟨fun h => by (cases h), fun so' l' p' h => ?_⟩
  cases h
  have hOP : bO k ≠ bP k := by show 30 + 2 * k ≠ 31 + 2 * k; omega
  refine ⟨by rw [up2_o hOP]; exact x1, by rw [up2_o hOP]; exact x2, fun i hi => ?_⟩
  show _ = o2i (if i = m then some t else p i)
  by_cases e : i = m
  · subst e; rw [up2_s, if_pos rfl]; rfl
  · rw [up2_k e, if_neg e]; exact x3 i hi
theorem la_R {k so l m t : Nat} {p : Nat → Option Nat} (hk : k < 4) (hm : m < 8) (hx : RBX bx I) (e : bx k = some (so, l, p)) : RBX (ubx bx k (some (so, l, fun j => if j = m then some t else p j))) (up2 I 60 (8 * k + m) (nI t)) := by
  obtain ⟨x1, x2, x3⟩ := (hx k hk).2 so l p e
  refine RBX_u hx (fun c hc hne => ⟨by rw [up2_o (by decide)], by rw [up2_o (by decide)], fun i hi => up2_k (by omega)⟩) ⟨fun h => by (cases h), fun so' l' p' h => ?_⟩
  cases h
  refine ⟨by rw [up2_o (by decide)]; exact x1, by rw [up2_o (by decide)]; exact x2, fun i hi => ?_⟩
  show _ = o2i (if i = m then some t else p i)
  by_cases e : i = m
  · subst e; rw [up2_s, if_pos rfl]; rfl
  · rw [up2_k (by omega), if_neg e]; exact x3 i hi
theorem ct_X6_lay (hC : I 1 9 = nI C) (h40 : C ≤ 40) (hb : BOK C bx) (hx : CBX bx I) (b i t : Int32) : CN 62 RF mX6_lay 1 [.ref 0, .int b, .int i, .int t] I J (CBQ I J (laS C (I 2) bx b i t)) := by
  unfold laS
  refine cn_of (by decide) rfl (Nat.le_of_ble_eq_true rfl) ?_
  refine blk s_X6_lay_0 (nm ?_)
  have hx0 := CBX_f hx 0
  have hf0 : CFr I (up2 I 0 7 0) := CFr_0 0
  have h70 : up2 I 0 7 0 0 7 = 0 := up2_s
  generalize up2 I 0 7 0 = I0 at hx0 hf0 h70 ⊢
  have hC0 : I0 1 9 = nI C := by rw [hf0 1 (by decide) (by decide)]; exact hC
  refine c_X6_lay_6 (ct_X6_isBox b) rfl (by decide) rfl (Nat.le_of_ble_eq_true rfl) (rx ?_)
  cases hB : ltB b 4 with
  | false =>
    refine b_X6_lay_9 (fun h => ?_) (fun h => absurd rfl h)
    refine blk s_X6_lay_23 (nm ?_)
    exact r_X6_lay_24 ⟨rfl, rfl, hf0, hx0, h70⟩
  | true =>
    obtain ⟨k, hk, rfl⟩ := lt_ex (N := 4) (by decide) hB
    refine b_X6_lay_9 (fun h => absurd h (by decide)) (fun h => ?_)
    refine blk s_X6_lay_12 (nm ?_)
    refine c_X6_lay_17 (ct_X4_hasC hC0 t) rfl (by decide) rfl (Nat.le_of_ble_eq_true rfl) (by decide) rfl (rx ?_)
    cases ht : hsB C t with
    | false =>
      refine b_X6_lay_20 (fun h => absurd rfl h) (fun h => ?_)
      refine blk s_X6_lay_23 (nm ?_)
      exact r_X6_lay_24 ⟨rfl, rfl, hf0, hx0, h70⟩
    | true =>
      obtain ⟨u, hu, rfl⟩ := hs_ex (by omega) ht
      refine b_X6_lay_20 (fun h => ?_) (fun h => absurd h (by decide))
      rw [cl k, cl u]
      rcases b4 hk with rfl | rfl | rfl | rfl
      all_goals
        refine blk s_X6_lay_25 (And.intro (ib hk) (nm ?_))
        refine c_X6_lay_35 (ct_X0_hasRow hk) rfl (by decide) rfl (Nat.le_of_ble_eq_true rfl) (by decide) rfl (rx ?_)
        rw [hr_bx hb hx0 hk]
        cases e : bx _ with
        | none =>
          refine b_X6_lay_38 (fun h => absurd rfl h) (fun h => ?_)
          refine blk s_X6_lay_41 (nm ?_)
          refine c_X6_lay_43 (ct_X6_faulted 1) rfl (by decide) rfl (Nat.le_of_ble_eq_true rfl) (by decide) rfl (rx ?_)
          exact r_X6_lay_46 ⟨rfl, rfl, CFr_t hf0 (CFr_0 1), CBX_f hx0 1, up2_s⟩
        | some q =>
          obtain ⟨so, l, p⟩ := q
          obtain ⟨x1, x2, x3⟩ := (hx0 _ hk).2 so l p e
          have hl := (hb _ so l p hk e).2.1
          refine b_X6_lay_38 (fun h => ?_) (fun h => absurd h (show ¬ b2i true = 0 by decide))
          refine blk s_X6_lay_47 (nm ?_)
          refine c_X6_lay_50 (ct_X0_hasPlace hk i) rfl (by decide) rfl (Nat.le_of_ble_eq_true rfl) (by decide) rfl (rx ?_)
          rw [x2, show hpB i (nI l) = hsB l i from rfl]
          dsimp only
          cases hi : hsB l i with
          | false =>
            refine b_X6_lay_53 (fun h => absurd rfl h) (fun h => ?_)
            refine blk s_X6_lay_56 (nm ?_)
            refine c_X6_lay_58 (ct_X6_faulted 3) rfl (by decide) rfl (Nat.le_of_ble_eq_true rfl) (by decide) rfl (rx ?_)
            exact r_X6_lay_61 ⟨rfl, rfl, CFr_t hf0 (CFr_0 3), CBX_f hx0 3, up2_s⟩
          | true =>
            obtain ⟨m, hm, rfl⟩ := hs_ex (by omega) hi
            refine b_X6_lay_53 (fun h => ?_) (fun h => absurd h (by decide))
            refine blk s_X6_lay_62 (And.intro (ib (show u < 40 by omega)) (nm ?_))
            rw [cl u, hf0 2 (by decide) (by decide), cl m]
            refine c_X6_lay_73 (ct_X0_admits hk (I 2 u)) rfl (by decide) rfl (Nat.le_of_ble_eq_true rfl) (by decide) rfl (rx ?_)
            rw [x1]
            dsimp only
            cases ha : amB (nI so) (I 2 u) with
            | false =>
              refine b_X6_lay_76 (fun h => absurd rfl h) (fun h => ?_)
              refine blk s_X6_lay_79 (nm ?_)
              refine c_X6_lay_81 (ct_X6_faulted 2) rfl (by decide) rfl (Nat.le_of_ble_eq_true rfl) (by decide) rfl (rx ?_)
              exact r_X6_lay_84 ⟨rfl, rfl, CFr_t hf0 (CFr_0 2), CBX_f hx0 2, up2_s⟩
            | true =>
              refine b_X6_lay_76 (fun h => ?_) (fun h => absurd h (by decide))
              refine blk s_X6_lay_85 (And.intro (ib (show m < 8 by omega)) (nm ?_))
              rw [cl m]
              exact r_X6_lay_94 ⟨rfl, rfl, CFr_t hf0 (CFr_u (by decide)), la_C hk hx0 e, by rw [up2_o (by decide)]; exact h70⟩
theorem ct_X7_lay (hB : RB I g C nx os oc) (hR : RTm I J f g C) (hb : BOK C bx) (hx : RBX bx I) (b i t : Int32) : CN 62 RF mX7_lay 2 [.ref 39, .int b, .int i, .int t] I J (MBQ I J (laS C (f 2) bx b i t)) := by
  have h40 := hB.1.2.1
  unfold laS
  refine cn_of (by decide) rfl (Nat.le_of_ble_eq_true rfl) ?_
  refine blk s_X7_lay_0 (nm ?_)
  have hx0 := RBX_f hx 0
  have hf0 : MFr I (up2 I 39 0 0) := MFr_0 0
  have h70 : up2 I 39 0 0 39 0 = 0 := up2_s
  generalize up2 I 39 0 0 = I0 at hx0 hf0 h70 ⊢
  have hC0 : I0 39 1 = nI C := by rw [hf0.2 1 (by decide)]; exact hB.1.1
  refine c_X7_lay_6 (ct_X7_isBoxC b) rfl (by decide) rfl (Nat.le_of_ble_eq_true rfl) (rx ?_)
  cases hBx : ltB b 4 with
  | false =>
    refine b_X7_lay_9 (fun h => ?_) (fun h => absurd rfl h)
    refine blk s_X7_lay_20 (nm ?_)
    exact r_X7_lay_21 ⟨rfl, rfl, hf0, hx0, h70⟩
  | true =>
    obtain ⟨k, hk, rfl⟩ := lt_ex (N := 4) (by decide) hBx
    refine b_X7_lay_9 (fun h => absurd h (by decide)) (fun h => ?_)
    refine blk s_X7_lay_12 (nm ?_)
    refine c_X7_lay_14 (ct_X7_isTermC hC0 h40 t) rfl (by decide) rfl (Nat.le_of_ble_eq_true rfl) (by decide) rfl (rx ?_)
    cases ht : hsB C t with
    | false =>
      refine b_X7_lay_17 (fun h => absurd rfl h) (fun h => ?_)
      refine blk s_X7_lay_20 (nm ?_)
      exact r_X7_lay_21 ⟨rfl, rfl, hf0, hx0, h70⟩
    | true =>
      obtain ⟨u, hu, rfl⟩ := hs_ex (by omega) ht
      refine b_X7_lay_17 (fun h => ?_) (fun h => absurd h (by decide))
      refine blk s_X7_lay_22 (And.intro (ib hk) (nm ?_))
      rw [cl k, cl u]
      dsimp only
      cases e : bx k with
      | none =>
        rw [(hx0 k hk).1 e]
        refine b_X7_lay_30 (fun h => absurd rfl h) (fun h => ?_)
        refine blk s_X7_lay_33 (nm ?_)
        refine c_X7_lay_35 (ct_X7_fails 1) rfl (by decide) rfl (Nat.le_of_ble_eq_true rfl) (by decide) rfl (rx ?_)
        exact r_X7_lay_38 ⟨rfl, rfl, MFr_t hf0 (MFr_0 1), RBX_f hx0 1, up2_s⟩
      | some q =>
        obtain ⟨so, l, p⟩ := q
        obtain ⟨x1, x2, x3⟩ := (hx0 _ hk).2 so l p e
        obtain ⟨hso, hl, -⟩ := hb _ so l p hk e
        refine b_X7_lay_30 (fun h => ?_) (fun h => absurd h (n58 hb hx0 hk e))
        refine blk s_X7_lay_39 (And.intro (ib hk) (nm ?_))
        rw [cl k, x2]
        refine c_X7_lay_49 (ct_X7_within _ _ _) rfl (by decide) rfl (Nat.le_of_ble_eq_true rfl) (rx ?_)
        rw [wi_has (show l < 2 ^ 31 by omega)]
        show EN 62 RF mX7_lay 2 52 _ [.int (b2i (hsB l i))] I0 J _
        dsimp only
        cases hi : hsB l i with
        | false =>
          refine b_X7_lay_52 (fun h => absurd rfl h) (fun h => ?_)
          refine blk s_X7_lay_55 (nm ?_)
          refine c_X7_lay_57 (ct_X7_fails 3) rfl (by decide) rfl (Nat.le_of_ble_eq_true rfl) (by decide) rfl (rx ?_)
          exact r_X7_lay_60 ⟨rfl, rfl, MFr_t hf0 (MFr_0 3), RBX_f hx0 3, up2_s⟩
        | true =>
          obtain ⟨m, hm, rfl⟩ := hs_ex (by omega) hi
          refine b_X7_lay_52 (fun h => ?_) (fun h => absurd h (by decide))
          refine blk s_X7_lay_61 (And.intro (ib hk) (nm ?_))
          rw [cl k, x1, cl m]
          refine c_X7_lay_69 (ct_X7_goesTo (show u < 40 by omega) hso) rfl (by decide) rfl (Nat.le_of_ble_eq_true rfl) (by decide) rfl (rx ?_)
          rw [hf0.1 40 (by decide) (by decide), (hR u hu).1]
          dsimp only
          cases ha : amB (nI so) (f 2 u) with
          | false =>
            refine b_X7_lay_72 (fun h => absurd rfl h) (fun h => ?_)
            refine blk s_X7_lay_75 (nm ?_)
            refine c_X7_lay_77 (ct_X7_fails 2) rfl (by decide) rfl (Nat.le_of_ble_eq_true rfl) (by decide) rfl (rx ?_)
            exact r_X7_lay_80 ⟨rfl, rfl, MFr_t hf0 (MFr_0 2), RBX_f hx0 2, up2_s⟩
          | true =>
            refine b_X7_lay_72 (fun h => ?_) (fun h => absurd h (by decide))
            refine blk s_X7_lay_81 (And.intro (show vp_in ((8 : Int32) * nI k + nI m) 32 from by rw [ix8]; exact ib (by omega)) (nm ?_))
            rw [ix8, cl (8 * k + m)]
            exact r_X7_lay_94 ⟨rfl, rfl, MFr_t hf0 (MFr_u (by decide)), la_R hk (by omega) hx0 e, by rw [up2_o (by decide)]; exact h70⟩
theorem laS_b (h40 : C ≤ 40) (hb : BOK C bx) (kd : Nat → Int32) (b i t : Int32) : BOK C (laS C kd bx b i t).2.2 := by
  unfold laS
  cases hB : ltB b 4 with
  | false => cases hsB C t <;> exact hb
  | true =>
    cases ht : hsB C t with
    | false => exact hb
    | true =>
      obtain ⟨k, hk, rfl⟩ := lt_ex (N := 4) (by decide) hB
      obtain ⟨u, hu, rfl⟩ := hs_ex (by omega) ht
      dsimp only
      rw [cl k, cl u]
      cases e : bx k with
      | none => exact hb
      | some q =>
        obtain ⟨so, l, p⟩ := q
        obtain ⟨h1, h2, h3⟩ := hb k so l p hk e
        dsimp only
        cases hsB l i with
        | false => exact hb
        | true =>
          cases amB (nI so) (kd u) with
          | false => exact hb
          | true =>
            refine BOK_u hb (fun so' l' p' h => ?_)
            cases h
            refine ⟨h1, h2, fun j t hj ht => ?_⟩
            change (if j = i.toNatClampNeg then some u else p j) = some t at ht
            by_cases e : j = i.toNatClampNeg
            · rw [if_pos e] at ht; cases ht; exact hu
            · rw [if_neg e] at ht; exact h3 j t hj ht
theorem p_lay (b i t : Int32) : PR sc V mX6_lay mX7_lay 1 2 [.int b, .int i, .int t] := pr_b (q := fun C I _ bx _ => laS C (I 2) bx b i t) fun I J C nx os oc K V' bx fa hb hC =>
  ⟨laS_b (c40 hC) hb _ b i t, ct_X6_lay (cC hC) (c40 hC) hb hC.2.2.2.1 b i t, fun I1 h1 => ct_X7_lay h1.1 h1.2.1 hb h1.2.2.2.1 b i t⟩
end PAIR10
