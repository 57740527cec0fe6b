/-! PAIRS: move of the reference -/
section PAIR15
variable {sc : Nat → Nat → Int32} {V V' : Nat} {I I0 I1 I2 : IT} {J : JT} {f : IT} {g : JT} {C : Nat} {nx : Nat → Option Nat} {os oc : Option Nat} {K : Nat} {bx : BXT} {fa : Int32}
theorem ix8a (k a m : Nat) : (8 : Int32) * nI k + nI a + nI m = nI (8 * k + a + m) := by rw [ix8, nI_add]
theorem mv1_R {b3 b4 : Int32} {k l a w : Nat} {p1 : Nat → Option Nat} (hk : k < 4) (hl : l ≤ 8) (haw : a + w ≤ l) (x3 : ∀ i, i < 8 → I 60 (8 * k + i) = o2i (p1 i)) {Q : IQ} (hK : EN 62 RF mX7_move 2 166 [(0, .ref 39), (1, .int (nI k)), (2, .int (nI a)), (3, .int b3), (4, .int b4), (5, .int (nI w)), (6, .int 1), (7, .int (nI w))] [] (fl I 61 (fun m => o2i (p1 (a + m))) w) J Q) : EN 62 RF mX7_move 2 132 [(0, .ref 39), (1, .int (nI k)), (2, .int (nI a)), (3, .int b3), (4, .int b4), (5, .int (nI w)), (6, .int 1), (7, .int 0)] [] I J Q := by
  refine en_I (fl_0 (I := I) (o := 61) (g := fun m => o2i (p1 (a + m)))).symm ?_
  refine dn (P := fun m => EN 62 RF mX7_move 2 132 [(0, .ref 39), (1, .int (nI k)), (2, .int (nI a)), (3, .int b3), (4, .int b4), (5, .int (nI w)), (6, .int 1), (7, .int (nI m))] [] (fl I 61 (fun m => o2i (p1 (a + m))) m) J Q) (N := w) (a := 0) ?_ ?_ (Nat.zero_le _)
  · refine blk s_X7_move_132 (nm ?_)
    exact b_X7_move_136 (fun _ => hK) (fun h => absurd (Int32.le_refl _) h)
  · intro m hm ih
    refine blk s_X7_move_132 (nm ?_)
    refine b_X7_move_136 (fun h => absurd h (nI_ge hm (by omega))) (fun h => ?_)
    refine blk s_X7_move_139 (And.intro (show vp_in ((8 : Int32) * nI k + nI a + nI m) 32 from by rw [ix8a]; exact ib (by omega)) (And.intro (ib (show m < 8 by omega)) (nm ?_)))
    have x := x3 (a + m) (by omega)
    rw [← Nat.add_assoc] at x
    rw [ix8a, cl (8 * k + a + m), cl m, fl_o (by decide), x]
    exact en_L (by rw [nI_s]) (en_I (fl_s rfl) ih)
theorem mv2_R {b1 b2 : Int32} {k so l c w a : Nat} {p1 p2 : Nat → Option Nat} (hkk : k < 4) (h40 : C ≤ 40) (hR : RTm I J f g C) (hso : so < 4) (hl : l ≤ 8) (hcw : c + w ≤ l) (hp : ∀ m t, m < w → p1 (a + m) = some t → t < C) : ∀ (n m : Nat) (Im : IT), m + n = w → MFr I Im → RBX (ubx bx k (some (so, l, mvP p1 p2 a c m))) Im → Im 39 0 = 0 → (∀ x, x < w → Im 61 x = o2i (p1 (a + x))) → (∀ x, x < m → mvX (f 2) so p1 a x = false) → EN 62 RF mX7_move 2 169 [(0, .ref 39), (1, .int b1), (2, .int b2), (3, .int (nI k)), (4, .int (nI c)), (5, .int (nI w)), (6, .int 1), (7, .int (nI m))] [] Im J (MBQ I J (mvR (f 2) bx k so l p1 p2 a c w)) := by
  intro n
  induction n with
  | zero =>
    intro m Im hn hf hx h7 h61 hno
    have hmw : m = w := by omega
    subst hmw
    refine blk s_X7_move_169 (nm ?_)
    refine b_X7_move_173 (fun h => ?_) (fun h => absurd (Int32.le_refl _) h)
    have e : lsN (mvX (f 2) so p1 a) m = none := lsN_none.mpr hno
    unfold mvR; rw [e]
    refine blk s_X7_move_230 (nm ?_)
    exact r_X7_move_232 ⟨rfl, rfl, hf, hx, h7⟩
  | succ n ih =>
    intro m Im hn hf hx h7 h61 hno
    have hmw : m < w := by omega
    have hpt : ∀ t, p1 (a + m) = some t → t < C := fun t ht => hp m t hmw ht
    obtain ⟨x1, x2, x3⟩ := (hx _ hkk).2 so l _ ubx_s
    refine blk s_X7_move_169 (nm ?_)
    refine b_X7_move_173 (fun h => absurd h (nI_ge hmw (by omega))) (fun h => ?_)
    refine blk s_X7_move_176 (And.intro (ib (show m < 8 by omega)) (And.intro (ib hkk) (nm ?_)))
    rw [cl m, cl k, h61 m hmw, x1]
    have on : mvX (f 2) so p1 a m = false → EN 62 RF mX7_move 2 202 [(0, .ref 39), (1, .int b1), (2, .int b2), (3, .int (nI k)), (4, .int (nI c)), (5, .int (nI w)), (6, .int 1), (7, .int (nI m))] [] Im J (MBQ I J (mvR (f 2) bx k so l p1 p2 a c w)) := by
      intro hX
      refine blk s_X7_move_202 (And.intro (ib (show m < 8 by omega)) (And.intro (show vp_in ((8 : Int32) * nI k + nI c + nI m) 32 from by rw [ix8a]; exact ib (by omega)) (nm ?_)))
      rw [ix8a, cl (8 * k + c + m), cl m, h61 m hmw, Nat.add_assoc]
      refine en_L (by rw [nI_s]) (ih (m + 1) _ (by omega) (MFr_t hf (MFr_u (by decide))) (mv_R hkk (by omega) hx (fun x => mvP_s x)) ?_ (fun x hx' => ?_) (fun x hx' => ?_))
      · rw [up2_o (by decide)]; exact h7
      · rw [up2_o (by decide)]; exact h61 x hx'
      · by_cases e : x = m
        · subst e; exact hX
        · exact hno x (by omega)
    cases hpi : p1 (a + m) with
    | none =>
      refine c_X7_move_190 ct_X7_goesNone rfl (by decide) rfl (Nat.le_of_ble_eq_true rfl) (by decide) rfl (rx ?_)
      exact b_X7_move_193 (fun _ => on (by unfold mvX; rw [hpi])) (fun h => absurd h (by decide))
    | some t =>
      have ht := hpt t hpi
      refine c_X7_move_190 (ct_X7_goesTo (show t < 40 by omega) hso) rfl (by decide) rfl (Nat.le_of_ble_eq_true rfl) (by decide) rfl (rx ?_)
      rw [hf.1 40 (by decide) (by decide), (hR t ht).1]
      cases ha : amB (nI so) (f 2 t) with
      | true => exact b_X7_move_193 (fun _ => on (by unfold mvX; rw [hpi]; dsimp only; rw [ha]; rfl)) (fun h => absurd h (by decide))
      | false =>
        have e : lsN (mvX (f 2) so p1 a) w = some m := lsN_first hmw (by unfold mvX; rw [hpi]; dsimp only; rw [ha]; rfl) hno
        refine b_X7_move_193 (fun h => absurd rfl h) (fun h => ?_)
        unfold mvR; rw [e]
        refine blk s_X7_move_196 (nm ?_)
        refine c_X7_move_198 (ct_X7_fails 2) rfl (by decide) rfl (Nat.le_of_ble_eq_true rfl) (by decide) rfl (rx ?_)
        exact r_X7_move_201 ⟨rfl, rfl, MFr_t hf (MFr_0 2), RBX_f hx 2, up2_s⟩
theorem hg_t {i n l : Int32} (h1 : ¬ i < 0) (h2 : ¬ n < 0) (h3 : ¬ l < i) (h4 : ¬ l - i < n) : hgB i n l = true := by
  unfold hgB; rw [decide_eq_false h1, decide_eq_false h2, decide_eq_false h3, decide_eq_false h4]; rfl
theorem hg_1 {i n l : Int32} (h : i < 0) : hgB i n l = false := by unfold hgB; rw [decide_eq_true h]; rfl
theorem hg_2 {i n l : Int32} (h : n < 0) : hgB i n l = false := by unfold hgB; rw [decide_eq_true h, Bool.not_true, Bool.and_false]; rfl
theorem hg_3 {i n l : Int32} (h : l < i) : hgB i n l = false := by unfold hgB; rw [decide_eq_true h, Bool.not_true, Bool.and_false]; rfl
theorem hg_4 {i n l : Int32} (h : l - i < n) : hgB i n l = false := by unfold hgB; rw [decide_eq_true h, Bool.not_true, Bool.and_false]
theorem ct_X7_move (hB : RB I g C nx os oc) (hR : RTm I J f g C) (hb : BOK C bx) (hx : RBX bx I) (b i c j n : Int32) : CN 62 RF mX7_move 2 [.ref 39, .int b, .int i, .int c, .int j, .int n] I J (MBQ I J (mvS (f 2) bx b i c j n)) := by
  have h40 := hB.1.2.1
  unfold mvS
  refine cn_of (by decide) rfl (Nat.le_of_ble_eq_true rfl) ?_
  refine blk s_X7_move_0 (nm ?_)
  have hx0 := RBX_f hx 0
  have hf0 : MFr I (up2 I 39 0 0) := MFr_0 0
  have h70 : up2 I 39 0 0 39 0 = 0 := up2_s
  generalize up2 I 39 0 0 = I0 at hx0 hf0 h70 ⊢
  refine c_X7_move_6 (ct_X7_isBoxC b) rfl (by decide) rfl (Nat.le_of_ble_eq_true rfl) (rx ?_)
  cases hBx : ltB b 4 with
  | false =>
    refine b_X7_move_9 (fun h => ?_) (fun h => absurd rfl h)
    refine blk s_X7_move_19 (nm ?_)
    exact r_X7_move_20 ⟨rfl, rfl, hf0, hx0, h70⟩
  | true =>
    obtain ⟨k, hk, rfl⟩ := lt_ex (N := 4) (by decide) hBx
    refine b_X7_move_9 (fun h => absurd h (by decide)) (fun h => ?_)
    refine blk s_X7_move_12 (nm ?_)
    refine c_X7_move_13 (ct_X7_isBoxC c) rfl (by decide) rfl (Nat.le_of_ble_eq_true rfl) (rx ?_)
    cases hC2 : ltB c 4 with
    | false =>
      refine b_X7_move_16 (fun h => absurd rfl h) (fun h => ?_)
      refine blk s_X7_move_19 (nm ?_)
      exact r_X7_move_20 ⟨rfl, rfl, hf0, hx0, h70⟩
    | true =>
      obtain ⟨q, hq, rfl⟩ := lt_ex (N := 4) (by decide) hC2
      refine b_X7_move_16 (fun h => ?_) (fun h => absurd h (by decide))
      rw [cl k, cl q]
      have null : ∀ Q : BR, Q = (-11, 1, bx) → EN 62 RF mX7_move 2 43 [(0, .ref 39), (1, .int (nI k)), (2, .int i), (3, .int (nI q)), (4, .int j), (5, .int n)] [] I0 J (MBQ I J Q) := by
        rintro _ rfl
        refine blk s_X7_move_43 (nm ?_)
        refine c_X7_move_45 (ct_X7_fails 1) rfl (by decide) rfl (Nat.le_of_ble_eq_true rfl) (by decide) rfl (rx ?_)
        exact r_X7_move_48 ⟨rfl, rfl, MFr_t hf0 (MFr_0 1), RBX_f hx0 1, up2_s⟩
      refine blk s_X7_move_21 (And.intro (ib hk) (nm ?_))
      rw [cl k]
      generalize h1 : bx k = o1
      cases o1 with
      | none =>
        rw [(hx0 k hk).1 h1]
        exact b_X7_move_29 (fun _ => null _ rfl) (fun h => absurd rfl h)
      | some q1 =>
        obtain ⟨so1, l1, p1⟩ := q1
        obtain ⟨x1, x2, x3⟩ := (hx0 _ hk).2 so1 l1 p1 h1
        obtain ⟨-, hl1, hp1⟩ := hb _ so1 l1 p1 hk h1
        refine b_X7_move_29 (fun h => absurd h (n58 hb hx0 hk h1)) (fun h => ?_)
        refine blk s_X7_move_32 (And.intro (ib hq) (nm ?_))
        rw [cl q]
        generalize h2 : bx q = o2
        cases o2 with
        | none =>
          rw [(hx0 q hq).1 h2]
          exact b_X7_move_40 (fun h => absurd rfl h) (fun _ => null _ rfl)
        | some q2 =>
          obtain ⟨so2, l2, p2⟩ := q2
          obtain ⟨y1, y2, y3⟩ := (hx0 _ hq).2 so2 l2 p2 h2
          obtain ⟨hso2, hl2, -⟩ := hb _ so2 l2 p2 hq h2
          refine b_X7_move_40 (fun h => ?_) (fun h => absurd h (n58 hb hx0 hq h2))
          dsimp only
          have idx : ∀ (z : Int32) (Q : BR), Q = (-13, 3, bx) → EN 62 RF mX7_move 2 123 [(0, .ref 39), (1, .int (nI k)), (2, .int i), (3, .int (nI q)), (4, .int j), (5, .int n), (6, .int z)] [] I0 J (MBQ I J Q) := by
            rintro z _ rfl
            refine blk s_X7_move_123 (nm ?_)
            refine c_X7_move_125 (ct_X7_fails 3) rfl (by decide) rfl (Nat.le_of_ble_eq_true rfl) (by decide) rfl (rx ?_)
            exact r_X7_move_128 ⟨rfl, rfl, MFr_t hf0 (MFr_0 3), RBX_f hx0 3, up2_s⟩
          have out : ∀ Q : BR, Q = (-13, 3, bx) → EN 62 RF mX7_move 2 88 [(0, .ref 39), (1, .int (nI k)), (2, .int i), (3, .int (nI q)), (4, .int j), (5, .int n)] [] I0 J (MBQ I J Q) := by
            intro Q h
            refine blk s_X7_move_88 (nm ?_)
            refine blk s_X7_move_89 (nm ?_)
            exact b_X7_move_93 (fun _ => idx _ _ h) (fun h => absurd rfl h)
          refine blk s_X7_move_49 (nm ?_)
          refine b_X7_move_50 (fun h => out _ (by rw [show (hgB i n (nI l1) && hgB j n (nI l2)) = false from by rw [hg_1 h]; rfl])) (fun t1 => ?_)
          refine blk s_X7_move_53 (nm ?_)
          refine b_X7_move_55 (fun h => out _ (by rw [show (hgB i n (nI l1) && hgB j n (nI l2)) = false from by rw [hg_1 (i := j) h, Bool.and_false]])) (fun t2 => ?_)
          refine blk s_X7_move_58 (nm ?_)
          refine b_X7_move_60 (fun h => out _ (by rw [show (hgB i n (nI l1) && hgB j n (nI l2)) = false from by rw [hg_2 (i := i) h]; rfl])) (fun t3 => ?_)
          refine blk s_X7_move_63 (And.intro (ib hk) (nm ?_))
          rw [cl k, x2]
          refine b_X7_move_70 (fun h => out _ (by rw [show (hgB i n (nI l1) && hgB j n (nI l2)) = false from by rw [hg_3 h]; rfl])) (fun t4 => ?_)
          refine blk s_X7_move_73 (And.intro (ib hq) (nm ?_))
          rw [cl q, y2]
          refine b_X7_move_81 (fun h => out _ (by rw [show (hgB i n (nI l1) && hgB j n (nI l2)) = false from by rw [hg_3 (i := j) h, Bool.and_false]])) (fun t5 => ?_)
          refine blk s_X7_move_84 (nm ?_)
          refine blk s_X7_move_89 (nm ?_)
          refine b_X7_move_93 (fun h => absurd h (by decide)) (fun _ => ?_)
          refine blk s_X7_move_96 (And.intro (ib hk) (nm ?_))
          rw [cl k, x2]
          refine b_X7_move_106 (fun h => idx _ _ (by rw [show (hgB i n (nI l1) && hgB j n (nI l2)) = false from by rw [hg_4 h]; rfl])) (fun t6 => ?_)
          refine blk s_X7_move_109 (And.intro (ib hq) (nm ?_))
          rw [cl q, y2]
          refine b_X7_move_120 (fun t7 => ?_) (fun h => idx _ _ (by rw [show (hgB i n (nI l1) && hgB j n (nI l2)) = false from by rw [hg_4 (i := j) (Int32.not_le.mp h), Bool.and_false]]))
          have g1 := hg_t t1 t3 t4 t6
          have g2 := hg_t t2 t3 t5 (Int32.not_lt.mpr t7)
          rw [g1, g2]
          obtain ⟨a, w, rfl, rfl, haw⟩ := hg_ex hl1 g1
          obtain ⟨d, w', rfl, hw', hdw⟩ := hg_ex hl2 g2
          have ew : w = w' := (nI_eq (by omega) (by omega)).mp hw'
          subst ew
          rw [cl a, cl d, cl w]
          have hR0 : RTm I0 J f g C := by
            unfold RTm at *
            rw [hf0.1 40 (by decide) (by decide), hf0.1 41 (by decide) (by decide), hf0.1 42 (by decide) (by decide), hf0.1 43 (by decide) (by decide), hf0.1 44 (by decide) (by decide)]; exact hR
          refine blk s_X7_move_129 (nm ?_)
          refine mv1_R hk hl1 haw x3 ?_
          refine blk s_X7_move_166 (nm ?_)
          refine mv2_R hq h40 hR hso2 hl2 hdw (fun m t hm ht => hp1 (a + m) t (by omega) ht) w 0 _ (by omega) ⟨fun o u v => ?_, fun m hm => ?_⟩ ?_ ?_ (fun x hx' => fl_in hx') (fun x hx' => absurd hx' (Nat.not_lt_zero x))
          · rw [fl_o (by omega)]; exact hf0.1 o u v
          · rw [fl_o (by decide)]; exact hf0.2 m hm
          · rw [mvP_0, ubx_id h2]
            exact RBX_cg hx0 (fl_o (by decide)) (fl_o (by decide)) (fl_o (by decide))
          · rw [fl_o (by decide)]; exact h70
theorem mvS_b (hb : BOK C bx) (kd : Nat → Int32) (b i c j n : Int32) : BOK C (mvS kd bx b i c j n).2.2 := by
  unfold mvS
  cases hB : ltB b 4 with
  | false => cases ltB c 4 <;> exact hb
  | true =>
    cases hC : ltB c 4 with
    | false => exact hb
    | true =>
      obtain ⟨k, hk, rfl⟩ := lt_ex (N := 4) (by decide) hB
      obtain ⟨q, hq, rfl⟩ := lt_ex (N := 4) (by decide) hC
      dsimp only
      rw [cl k, cl q]
      generalize h1 : bx k = o1
      generalize h2 : bx q = o2
      cases o1 with
      | none => exact hb
      | some q1 =>
        cases o2 with
        | none => exact hb
        | some q2 =>
          obtain ⟨so1, l1, p1⟩ := q1
          obtain ⟨so2, l2, p2⟩ := q2
          obtain ⟨-, hl1, hp1⟩ := hb _ so1 l1 p1 hk h1
          obtain ⟨hso2, hl2, hp2⟩ := hb _ so2 l2 p2 hq h2
          dsimp only
          cases hg : (hgB i n (nI l1) && hgB j n (nI l2)) with
          | false => exact hb
          | true =>
            obtain ⟨g1, g2⟩ := Bool.and_eq_true_iff.mp hg
            obtain ⟨a, w, rfl, rfl, haw⟩ := hg_ex hl1 g1
            obtain ⟨d, w', rfl, hw', hdw⟩ := hg_ex hl2 g2
            have ew : w = w' := (nI_eq (by omega) (by omega)).mp hw'
            subst ew
            dsimp only
            rw [cl a, cl d, cl w]
            have key : ∀ m, m ≤ w → BOK C (ubx bx q (some (so2, l2, mvP p1 p2 a d m))) := by
              intro m hm
              refine BOK_u hb (fun so' l' p' h => ?_)
              cases h
              refine ⟨hso2, hl2, fun x t hx ht => ?_⟩
              unfold mvP at ht
              by_cases e : d ≤ x ∧ x < d + m
              · rw [if_pos e] at ht; exact hp1 _ t (by omega) ht
              · rw [if_neg e] at ht; exact hp2 x t hx ht
            unfold mvR
            cases hl : lsN (mvX kd so2 p1 a) w with
            | none => exact key w (Nat.le_refl _)
            | some m => exact key m (Nat.le_of_lt (lsN_some hl).1)
theorem p_move (b i c j n : Int32) : PR sc V mX6_move mX7_move 1 2 [.int b, .int i, .int c, .int j, .int n] := pr_b (q := fun _ I _ bx _ => mvS (I 2) bx b i c j n) fun I J C nx os oc K V' bx fa hb hC =>
  ⟨mvS_b hb _ b i c j n, ct_X6_move (cC hC) (c40 hC) hb hC.2.2.2.1 b i c j n, fun I1 h1 => ct_X7_move h1.1 h1.2.1 hb h1.2.2.2.1 b i c j n⟩
end PAIR15
