/-! PAIRS: states -/
section PAIR12
variable {sc : Nat → Nat → Int32} {V V' : Nat} {I I1 I2 : IT} {J : JT} {f : IT} {g : JT} {C : Nat} {nx : Nat → Option Nat} {os oc : Option Nat} {K : Nat} {bx : BXT} {fa : Int32}
def stA (g : JT) (p : Nat → Option Nat) (r : Nat) : Nat → Int32
  | 0 => 65535
  | i + 1 => match p i with
    | none => stA g p r i
    | some t => stA g p r i &&& tsX g t r
def stO (g : JT) (p : Nat → Option Nat) (r : Nat) : Nat → Int32
  | 0 => 0
  | i + 1 => match p i with
    | none => stO g p r i
    | some t => stO g p r i ||| tsX g t r
def ssS (g : JT) (bx : BXT) (b r h : Int32) : BR := match ltB b 4 with
  | false => (-1, 0, bx)
  | true => match ltB r 4, wiB h 0 1 with
    | true, true => match bx b.toNatClampNeg with
      | none => (-11, 1, bx)
      | some q => (if h = 0 then stA g q.2.2 r.toNatClampNeg q.2.1 else stO g q.2.2 r.toNatClampNeg q.2.1, 0, bx)
    | _, _ => (-2, 0, bx)
theorem hsB_o {o : Option Nat} (h40 : C ≤ 40) (ho : ∀ t, o = some t → t < C) : hsB C (o2i o) = o.isSome := by
  cases o with
  | none => rfl
  | some t =>
    have ht := ho t rfl
    unfold hsB
    show (!(decide (nI t < 0)) && !(decide (nI C ≤ nI t))) = true
    rw [decide_eq_false (nI_pos (by omega)), decide_eq_false (fun h => by rw [nI_leI (by omega) (by omega)] at h; omega)]; rfl
theorem ct_X6_states (hC : I 1 9 = nI C) (h40 : C ≤ 40) (hb : BOK C bx) (hx : CBX bx I) (b r w : Int32) : CN 62 RF mX6_states 1 [.ref 0, .int b, .int r, .int w] I J (CBQ I J (ssS J bx b r w)) := by
  unfold ssS
  refine cn_of (by decide) rfl (Nat.le_of_ble_eq_true rfl) ?_
  refine blk s_X6_states_0 (nm ?_)
  have hx0 := CBX_f hx 0
  have hf0 : CFr I (up2 I 0 7 0) := CFr_0 0
  have h70 : up2 I 0 7 0 0 7 = 0 := up2_s
  generalize up2 I 0 7 0 = I0 at hx0 hf0 h70 ⊢
  have hC0 : I0 1 9 = nI C := by rw [hf0 1 (by decide) (by decide)]; exact hC
  refine c_X6_states_6 (ct_X6_isBox b) rfl (by decide) rfl (Nat.le_of_ble_eq_true rfl) (rx ?_)
  cases hB : ltB b 4 with
  | false =>
    refine b_X6_states_9 (fun h => absurd rfl h) (fun h => ?_)
    refine blk s_X6_states_12 (nm ?_)
    exact r_X6_states_13 ⟨rfl, rfl, hf0, hx0, h70⟩
  | true =>
    obtain ⟨k, hk, rfl⟩ := lt_ex (N := 4) (by decide) hB
    refine b_X6_states_9 (fun h => ?_) (fun h => absurd h (by decide))
    have out : ∀ q : BR, q = (-2, 0, bx) → EN 62 RF mX6_states 1 30 [(0, .ref 0), (1, .int (nI k)), (2, .int r), (3, .int w)] [] I0 J (CBQ I J q) := by
      rintro _ rfl
      refine blk s_X6_states_30 (nm ?_)
      exact r_X6_states_32 ⟨rfl, rfl, hf0, hx0, h70⟩
    refine blk s_X6_states_14 (nm ?_)
    refine c_X6_states_15 (ct_X6_isRow r) rfl (by decide) rfl (Nat.le_of_ble_eq_true rfl) (rx ?_)
    rw [cl k]
    cases hr : ltB r 4 with
    | false => exact b_X6_states_18 (fun _ => out _ rfl) (fun h => absurd rfl h)
    | true =>
      obtain ⟨z, hz, rfl⟩ := lt_ex (N := 4) (by decide) hr
      refine b_X6_states_18 (fun h => absurd h (by decide)) (fun _ => ?_)
      refine blk s_X6_states_21 (nm ?_)
      dsimp only
      refine b_X6_states_22 (fun h1 => out _ ?_) (fun h1 => ?_)
      · have e : wiB w 0 1 = false := by unfold wiB; rw [decide_eq_true h1]; rfl
        rw [e]
      refine blk s_X6_states_25 (nm ?_)
      refine b_X6_states_27 (fun h2 => ?_) (fun h2 => out _ ?_)
      · have e1 : wiB w 0 1 = true := by unfold wiB; rw [decide_eq_false h1, decide_eq_false (Int32.not_lt.mpr h2)]; rfl
        rw [e1, cl z]
        dsimp only
        clear out
        rcases b4 hk with rfl | rfl | rfl | rfl
        · refine blk s_X6_states_33 (And.intro (ib hk) (nm ?_))
          refine c_X6_states_43 (ct_X0_hasRow hk) rfl (by decide) rfl (Nat.le_of_ble_eq_true rfl) (by decide) rfl (rx ?_)
          rw [hr_bx hb hx0 hk]
          cases e : bx _ with
          | none =>
            refine b_X6_states_46 (fun h => absurd rfl h) (fun h => ?_)
            refine blk s_X6_states_49 (nm ?_)
            refine c_X6_states_51 (ct_X6_faulted 1) rfl (by decide) rfl (Nat.le_of_ble_eq_true rfl) (by decide) rfl (rx ?_)
            exact r_X6_states_54 ⟨rfl, rfl, CFr_t hf0 (CFr_0 1), CBX_f hx0 1, up2_s⟩
          | some q =>
            obtain ⟨so, l, p⟩ := q
            obtain ⟨x1, x2, x3⟩ := (hx0 _ hk).2 so l p e
            obtain ⟨-, hl, hp⟩ := hb _ so l p hk e
            refine b_X6_states_46 (fun h => ?_) (fun h => absurd h (show ¬ b2i true = 0 by decide))
            dsimp only
            have hQ : CBQ I J (if w = 0 then stA J p z l else stO J p z l, 0, bx) (some (.int (if w = 0 then stA J p z l else stO J p z l))) I0 J := ⟨rfl, rfl, hf0, hx0, h70⟩
            generalize CBQ I J (if w = 0 then stA J p z l else stO J p z l, 0, bx) = Q at hQ ⊢
            refine blk s_X6_states_55 (nm ?_)
            refine dn (P := fun i => EN 62 RF mX6_states 1 65 [(0, .ref 0), (1, .int (nI 0)), (2, .int (nI z)), (3, .int w), (4, .ref (bO 0)), (5, .int (stA J p z i)), (6, .int (stO J p z i)), (7, .int (nI i))] [] I0 J Q) (N := l) (a := 0) ?_ ?_ (Nat.zero_le _)
            · refine blk s_X6_states_65 (nm ?_)
              rw [show I0 _ 2 = nI l from x2]
              refine b_X6_states_72 (fun h => ?_) (fun h => absurd (Int32.le_refl _) h)
              refine blk s_X6_states_136 (nm ?_)
              refine b_X6_states_137 (fun h3 => ?_) (fun h3 => ?_)
              · rw [if_neg h3] at hQ
                refine blk s_X6_states_145 (nm ?_)
                exact r_X6_states_147 hQ
              · rw [if_pos h3] at hQ
                refine blk s_X6_states_140 (nm ?_)
                exact r_X6_states_147 hQ
            · intro i hi ih
              have hpt : ∀ t, p i = some t → t < C := fun t ht => hp i t (by omega) ht
              refine blk s_X6_states_65 (nm ?_)
              rw [show I0 _ 2 = nI l from x2]
              refine b_X6_states_72 (fun h => absurd h (nI_ge hi (by omega))) (fun h => ?_)
              refine blk s_X6_states_75 (And.intro (ib (show i < 8 by omega)) (nm ?_))
              rw [cl i, show I0 _ i = o2i (p i) from x3 i (by omega)]
              refine c_X6_states_91 (ct_X4_hasC hC0 _) rfl (by decide) rfl (Nat.le_of_ble_eq_true rfl) (by decide) rfl (rx ?_)
              rw [hsB_o h40 hpt]
              cases hpi : p i with
              | none =>
                refine b_X6_states_94 (fun h => absurd rfl h) (fun h => ?_)
                refine blk s_X6_states_97 (nm ?_)
                refine blk s_X6_states_130 (nm ?_)
                refine wkt 8 (en_L ?_ ih)
                rw [nI_s]; simp only [stA, stO, hpi]; rfl
              | some t =>
                have ht := hpt t hpi
                refine b_X6_states_94 (fun h => ?_) (fun h => absurd h (show ¬ b2i true = 0 by decide))
                refine blk s_X6_states_100 (nm ?_)
                refine c_X6_states_109 (ct_X4_trueStates (show t < 40 by omega) hz) rfl (by decide) rfl (Nat.le_of_ble_eq_true rfl) (by decide) rfl (rx ?_)
                refine blk s_X6_states_112 (nm ?_)
                refine c_X6_states_124 (ct_X4_trueStates (show t < 40 by omega) hz) rfl (by decide) rfl (Nat.le_of_ble_eq_true rfl) (by decide) rfl (rx ?_)
                refine blk s_X6_states_127 (nm ?_)
                refine blk s_X6_states_130 (nm ?_)
                refine wkt 8 (en_L ?_ ih)
                rw [nI_s]; simp only [stA, stO, hpi]; rfl
        · refine blk s_X6_states_33 (And.intro (ib hk) (nm ?_))
          refine c_X6_states_43 (ct_X0_hasRow hk) rfl (by decide) rfl (Nat.le_of_ble_eq_true rfl) (by decide) rfl (rx ?_)
          rw [hr_bx hb hx0 hk]
          cases e : bx _ with
          | none =>
            refine b_X6_states_46 (fun h => absurd rfl h) (fun h => ?_)
            refine blk s_X6_states_49 (nm ?_)
            refine c_X6_states_51 (ct_X6_faulted 1) rfl (by decide) rfl (Nat.le_of_ble_eq_true rfl) (by decide) rfl (rx ?_)
            exact r_X6_states_54 ⟨rfl, rfl, CFr_t hf0 (CFr_0 1), CBX_f hx0 1, up2_s⟩
          | some q =>
            obtain ⟨so, l, p⟩ := q
            obtain ⟨x1, x2, x3⟩ := (hx0 _ hk).2 so l p e
            obtain ⟨-, hl, hp⟩ := hb _ so l p hk e
            refine b_X6_states_46 (fun h => ?_) (fun h => absurd h (show ¬ b2i true = 0 by decide))
            dsimp only
            have hQ : CBQ I J (if w = 0 then stA J p z l else stO J p z l, 0, bx) (some (.int (if w = 0 then stA J p z l else stO J p z l))) I0 J := ⟨rfl, rfl, hf0, hx0, h70⟩
            generalize CBQ I J (if w = 0 then stA J p z l else stO J p z l, 0, bx) = Q at hQ ⊢
            refine blk s_X6_states_55 (nm ?_)
            refine dn (P := fun i => EN 62 RF mX6_states 1 65 [(0, .ref 0), (1, .int (nI 1)), (2, .int (nI z)), (3, .int w), (4, .ref (bO 1)), (5, .int (stA J p z i)), (6, .int (stO J p z i)), (7, .int (nI i))] [] I0 J Q) (N := l) (a := 0) ?_ ?_ (Nat.zero_le _)
            · refine blk s_X6_states_65 (nm ?_)
              rw [show I0 _ 2 = nI l from x2]
              refine b_X6_states_72 (fun h => ?_) (fun h => absurd (Int32.le_refl _) h)
              refine blk s_X6_states_136 (nm ?_)
              refine b_X6_states_137 (fun h3 => ?_) (fun h3 => ?_)
              · rw [if_neg h3] at hQ
                refine blk s_X6_states_145 (nm ?_)
                exact r_X6_states_147 hQ
              · rw [if_pos h3] at hQ
                refine blk s_X6_states_140 (nm ?_)
                exact r_X6_states_147 hQ
            · intro i hi ih
              have hpt : ∀ t, p i = some t → t < C := fun t ht => hp i t (by omega) ht
              refine blk s_X6_states_65 (nm ?_)
              rw [show I0 _ 2 = nI l from x2]
              refine b_X6_states_72 (fun h => absurd h (nI_ge hi (by omega))) (fun h => ?_)
              refine blk s_X6_states_75 (And.intro (ib (show i < 8 by omega)) (nm ?_))
              rw [cl i, show I0 _ i = o2i (p i) from x3 i (by omega)]
              refine c_X6_states_91 (ct_X4_hasC hC0 _) rfl (by decide) rfl (Nat.le_of_ble_eq_true rfl) (by decide) rfl (rx ?_)
              rw [hsB_o h40 hpt]
              cases hpi : p i with
              | none =>
                refine b_X6_states_94 (fun h => absurd rfl h) (fun h => ?_)
                refine blk s_X6_states_97 (nm ?_)
                refine blk s_X6_states_130 (nm ?_)
                refine wkt 8 (en_L ?_ ih)
                rw [nI_s]; simp only [stA, stO, hpi]; rfl
              | some t =>
                have ht := hpt t hpi
                refine b_X6_states_94 (fun h => ?_) (fun h => absurd h (show ¬ b2i true = 0 by decide))
                refine blk s_X6_states_100 (nm ?_)
                refine c_X6_states_109 (ct_X4_trueStates (show t < 40 by omega) hz) rfl (by decide) rfl (Nat.le_of_ble_eq_true rfl) (by decide) rfl (rx ?_)
                refine blk s_X6_states_112 (nm ?_)
                refine c_X6_states_124 (ct_X4_trueStates (show t < 40 by omega) hz) rfl (by decide) rfl (Nat.le_of_ble_eq_true rfl) (by decide) rfl (rx ?_)
                refine blk s_X6_states_127 (nm ?_)
                refine blk s_X6_states_130 (nm ?_)
                refine wkt 8 (en_L ?_ ih)
                rw [nI_s]; simp only [stA, stO, hpi]; rfl
        · refine blk s_X6_states_33 (And.intro (ib hk) (nm ?_))
          refine c_X6_states_43 (ct_X0_hasRow hk) rfl (by decide) rfl (Nat.le_of_ble_eq_true rfl) (by decide) rfl (rx ?_)
          rw [hr_bx hb hx0 hk]
          cases e : bx _ with
          | none =>
            refine b_X6_states_46 (fun h => absurd rfl h) (fun h => ?_)
            refine blk s_X6_states_49 (nm ?_)
            refine c_X6_states_51 (ct_X6_faulted 1) rfl (by decide) rfl (Nat.le_of_ble_eq_true rfl) (by decide) rfl (rx ?_)
            exact r_X6_states_54 ⟨rfl, rfl, CFr_t hf0 (CFr_0 1), CBX_f hx0 1, up2_s⟩
          | some q =>
            obtain ⟨so, l, p⟩ := q
            obtain ⟨x1, x2, x3⟩ := (hx0 _ hk).2 so l p e
            obtain ⟨-, hl, hp⟩ := hb _ so l p hk e
            refine b_X6_states_46 (fun h => ?_) (fun h => absurd h (show ¬ b2i true = 0 by decide))
            dsimp only
            have hQ : CBQ I J (if w = 0 then stA J p z l else stO J p z l, 0, bx) (some (.int (if w = 0 then stA J p z l else stO J p z l))) I0 J := ⟨rfl, rfl, hf0, hx0, h70⟩
            generalize CBQ I J (if w = 0 then stA J p z l else stO J p z l, 0, bx) = Q at hQ ⊢
            refine blk s_X6_states_55 (nm ?_)
            refine dn (P := fun i => EN 62 RF mX6_states 1 65 [(0, .ref 0), (1, .int (nI 2)), (2, .int (nI z)), (3, .int w), (4, .ref (bO 2)), (5, .int (stA J p z i)), (6, .int (stO J p z i)), (7, .int (nI i))] [] I0 J Q) (N := l) (a := 0) ?_ ?_ (Nat.zero_le _)
            · refine blk s_X6_states_65 (nm ?_)
              rw [show I0 _ 2 = nI l from x2]
              refine b_X6_states_72 (fun h => ?_) (fun h => absurd (Int32.le_refl _) h)
              refine blk s_X6_states_136 (nm ?_)
              refine b_X6_states_137 (fun h3 => ?_) (fun h3 => ?_)
              · rw [if_neg h3] at hQ
                refine blk s_X6_states_145 (nm ?_)
                exact r_X6_states_147 hQ
              · rw [if_pos h3] at hQ
                refine blk s_X6_states_140 (nm ?_)
                exact r_X6_states_147 hQ
            · intro i hi ih
              have hpt : ∀ t, p i = some t → t < C := fun t ht => hp i t (by omega) ht
              refine blk s_X6_states_65 (nm ?_)
              rw [show I0 _ 2 = nI l from x2]
              refine b_X6_states_72 (fun h => absurd h (nI_ge hi (by omega))) (fun h => ?_)
              refine blk s_X6_states_75 (And.intro (ib (show i < 8 by omega)) (nm ?_))
              rw [cl i, show I0 _ i = o2i (p i) from x3 i (by omega)]
              refine c_X6_states_91 (ct_X4_hasC hC0 _) rfl (by decide) rfl (Nat.le_of_ble_eq_true rfl) (by decide) rfl (rx ?_)
              rw [hsB_o h40 hpt]
              cases hpi : p i with
              | none =>
                refine b_X6_states_94 (fun h => absurd rfl h) (fun h => ?_)
                refine blk s_X6_states_97 (nm ?_)
                refine blk s_X6_states_130 (nm ?_)
                refine wkt 8 (en_L ?_ ih)
                rw [nI_s]; simp only [stA, stO, hpi]; rfl
              | some t =>
                have ht := hpt t hpi
                refine b_X6_states_94 (fun h => ?_) (fun h => absurd h (show ¬ b2i true = 0 by decide))
                refine blk s_X6_states_100 (nm ?_)
                refine c_X6_states_109 (ct_X4_trueStates (show t < 40 by omega) hz) rfl (by decide) rfl (Nat.le_of_ble_eq_true rfl) (by decide) rfl (rx ?_)
                refine blk s_X6_states_112 (nm ?_)
                refine c_X6_states_124 (ct_X4_trueStates (show t < 40 by omega) hz) rfl (by decide) rfl (Nat.le_of_ble_eq_true rfl) (by decide) rfl (rx ?_)
                refine blk s_X6_states_127 (nm ?_)
                refine blk s_X6_states_130 (nm ?_)
                refine wkt 8 (en_L ?_ ih)
                rw [nI_s]; simp only [stA, stO, hpi]; rfl
        · refine blk s_X6_states_33 (And.intro (ib hk) (nm ?_))
          refine c_X6_states_43 (ct_X0_hasRow hk) rfl (by decide) rfl (Nat.le_of_ble_eq_true rfl) (by decide) rfl (rx ?_)
          rw [hr_bx hb hx0 hk]
          cases e : bx _ with
          | none =>
            refine b_X6_states_46 (fun h => absurd rfl h) (fun h => ?_)
            refine blk s_X6_states_49 (nm ?_)
            refine c_X6_states_51 (ct_X6_faulted 1) rfl (by decide) rfl (Nat.le_of_ble_eq_true rfl) (by decide) rfl (rx ?_)
            exact r_X6_states_54 ⟨rfl, rfl, CFr_t hf0 (CFr_0 1), CBX_f hx0 1, up2_s⟩
          | some q =>
            obtain ⟨so, l, p⟩ := q
            obtain ⟨x1, x2, x3⟩ := (hx0 _ hk).2 so l p e
            obtain ⟨-, hl, hp⟩ := hb _ so l p hk e
            refine b_X6_states_46 (fun h => ?_) (fun h => absurd h (show ¬ b2i true = 0 by decide))
            dsimp only
            have hQ : CBQ I J (if w = 0 then stA J p z l else stO J p z l, 0, bx) (some (.int (if w = 0 then stA J p z l else stO J p z l))) I0 J := ⟨rfl, rfl, hf0, hx0, h70⟩
            generalize CBQ I J (if w = 0 then stA J p z l else stO J p z l, 0, bx) = Q at hQ ⊢
            refine blk s_X6_states_55 (nm ?_)
            refine dn (P := fun i => EN 62 RF mX6_states 1 65 [(0, .ref 0), (1, .int (nI 3)), (2, .int (nI z)), (3, .int w), (4, .ref (bO 3)), (5, .int (stA J p z i)), (6, .int (stO J p z i)), (7, .int (nI i))] [] I0 J Q) (N := l) (a := 0) ?_ ?_ (Nat.zero_le _)
            · refine blk s_X6_states_65 (nm ?_)
              rw [show I0 _ 2 = nI l from x2]
              refine b_X6_states_72 (fun h => ?_) (fun h => absurd (Int32.le_refl _) h)
              refine blk s_X6_states_136 (nm ?_)
              refine b_X6_states_137 (fun h3 => ?_) (fun h3 => ?_)
              · rw [if_neg h3] at hQ
                refine blk s_X6_states_145 (nm ?_)
                exact r_X6_states_147 hQ
              · rw [if_pos h3] at hQ
                refine blk s_X6_states_140 (nm ?_)
                exact r_X6_states_147 hQ
            · intro i hi ih
              have hpt : ∀ t, p i = some t → t < C := fun t ht => hp i t (by omega) ht
              refine blk s_X6_states_65 (nm ?_)
              rw [show I0 _ 2 = nI l from x2]
              refine b_X6_states_72 (fun h => absurd h (nI_ge hi (by omega))) (fun h => ?_)
              refine blk s_X6_states_75 (And.intro (ib (show i < 8 by omega)) (nm ?_))
              rw [cl i, show I0 _ i = o2i (p i) from x3 i (by omega)]
              refine c_X6_states_91 (ct_X4_hasC hC0 _) rfl (by decide) rfl (Nat.le_of_ble_eq_true rfl) (by decide) rfl (rx ?_)
              rw [hsB_o h40 hpt]
              cases hpi : p i with
              | none =>
                refine b_X6_states_94 (fun h => absurd rfl h) (fun h => ?_)
                refine blk s_X6_states_97 (nm ?_)
                refine blk s_X6_states_130 (nm ?_)
                refine wkt 8 (en_L ?_ ih)
                rw [nI_s]; simp only [stA, stO, hpi]; rfl
              | some t =>
                have ht := hpt t hpi
                refine b_X6_states_94 (fun h => ?_) (fun h => absurd h (show ¬ b2i true = 0 by decide))
                refine blk s_X6_states_100 (nm ?_)
                refine c_X6_states_109 (ct_X4_trueStates (show t < 40 by omega) hz) rfl (by decide) rfl (Nat.le_of_ble_eq_true rfl) (by decide) rfl (rx ?_)
                refine blk s_X6_states_112 (nm ?_)
                refine c_X6_states_124 (ct_X4_trueStates (show t < 40 by omega) hz) rfl (by decide) rfl (Nat.le_of_ble_eq_true rfl) (by decide) rfl (rx ?_)
                refine blk s_X6_states_127 (nm ?_)
                refine blk s_X6_states_130 (nm ?_)
                refine wkt 8 (en_L ?_ ih)
                rw [nI_s]; simp only [stA, stO, hpi]; rfl
      · have e : wiB w 0 1 = false := by unfold wiB; rw [decide_eq_false h1, decide_eq_true (Int32.not_le.mp h2)]; rfl
        rw [e]
theorem ct_X7_states (hB : RB I g C nx os oc) (hb : BOK C bx) (hx : RBX bx I) (b r w : Int32) : CN 62 RF mX7_states 2 [.ref 39, .int b, .int r, .int w] I J (MBQ I J (ssS g bx b r w)) := by
  unfold ssS
  refine cn_of (by decide) rfl (Nat.le_of_ble_eq_true rfl) ?_
  refine blk s_X7_states_0 (nm ?_)
  have hx0 := RBX_f hx 0
  have hf0 : MFr I (up2 I 39 0 0) := MFr_0 0
  have h70 : up2 I 39 0 0 39 0 = 0 := up2_s
  generalize up2 I 39 0 0 = I0 at hx0 hf0 h70 ⊢
  have hB0 : RB I0 g C nx os oc := RB_cg hB ⟨hf0.2 1 (by decide), hf0.2 9 (by decide), hf0.2 10 (by decide)⟩ (hf0.1 46 (by decide) (by decide)) (hf0.1 47 (by decide) (by decide))
  refine c_X7_states_6 (ct_X7_isBoxC b) rfl (by decide) rfl (Nat.le_of_ble_eq_true rfl) (rx ?_)
  cases hBx : ltB b 4 with
  | false =>
    refine b_X7_states_9 (fun h => absurd rfl h) (fun h => ?_)
    refine blk s_X7_states_12 (nm ?_)
    exact r_X7_states_13 ⟨rfl, rfl, hf0, hx0, h70⟩
  | true =>
    obtain ⟨k, hk, rfl⟩ := lt_ex (N := 4) (by decide) hBx
    refine b_X7_states_9 (fun h => ?_) (fun h => absurd h (by decide))
    have out : ∀ q : BR, q = (-2, 0, bx) → EN 62 RF mX7_states 2 30 [(0, .ref 39), (1, .int (nI k)), (2, .int r), (3, .int w)] [] I0 J (MBQ I J q) := by
      rintro _ rfl
      refine blk s_X7_states_30 (nm ?_)
      exact r_X7_states_32 ⟨rfl, rfl, hf0, hx0, h70⟩
    refine blk s_X7_states_14 (nm ?_)
    refine c_X7_states_15 (ct_X7_isRowC r) rfl (by decide) rfl (Nat.le_of_ble_eq_true rfl) (rx ?_)
    rw [cl k]
    cases hr : ltB r 4 with
    | false => exact b_X7_states_18 (fun _ => out _ rfl) (fun h => absurd rfl h)
    | true =>
      obtain ⟨z, hz, rfl⟩ := lt_ex (N := 4) (by decide) hr
      refine b_X7_states_18 (fun h => absurd h (by decide)) (fun _ => ?_)
      refine blk s_X7_states_21 (nm ?_)
      dsimp only
      refine c_X7_states_24 (ct_X7_within _ _ _) rfl (by decide) rfl (Nat.le_of_ble_eq_true rfl) (rx ?_)
      cases hw : wiB w 0 1 with
      | false => exact b_X7_states_27 (fun h => absurd rfl h) (fun _ => out _ rfl)
      | true =>
        refine b_X7_states_27 (fun _ => ?_) (fun h => absurd h (by decide))
        rw [cl z]
        refine blk s_X7_states_33 (And.intro (ib hk) (nm ?_))
        rw [cl k]
        cases e : bx k with
        | none =>
          rw [(hx0 k hk).1 e]
          refine b_X7_states_41 (fun h => absurd rfl h) (fun h => ?_)
          refine blk s_X7_states_44 (nm ?_)
          refine c_X7_states_46 (ct_X7_fails 1) rfl (by decide) rfl (Nat.le_of_ble_eq_true rfl) (by decide) rfl (rx ?_)
          exact r_X7_states_49 ⟨rfl, rfl, MFr_t hf0 (MFr_0 1), RBX_f hx0 1, up2_s⟩
        | some q =>
          obtain ⟨so, l, p⟩ := q
          obtain ⟨x1, x2, x3⟩ := (hx0 _ hk).2 so l p e
          obtain ⟨-, hl, hp⟩ := hb _ so l p hk e
          have h40 := hB.1.2.1
          refine b_X7_states_41 (fun h => ?_) (fun h => absurd h (n58 hb hx0 hk e))
          dsimp only
          have hQ : MBQ I J (if w = 0 then stA g p z l else stO g p z l, 0, bx) (some (.int (if w = 0 then stA g p z l else stO g p z l))) I0 J := ⟨rfl, rfl, hf0, hx0, h70⟩
          generalize MBQ I J (if w = 0 then stA g p z l else stO g p z l, 0, bx) = Q at hQ ⊢
          have go : ∀ (F : Nat → Int32), Q (some (.int (F l))) I0 J → (∀ i, F (i + 1) = match p i with | none => F i | some t => if w = 0 then F i &&& tsX g t z else F i ||| tsX g t z) → EN 62 RF mX7_states 2 65 [(0, .ref 39), (1, .int (nI k)), (2, .int (nI z)), (3, .int w), (4, .int (F 0)), (5, .int (nI 0))] [] I0 J Q := by
            intro F hF hs
            refine dn (P := fun i => EN 62 RF mX7_states 2 65 [(0, .ref 39), (1, .int (nI k)), (2, .int (nI z)), (3, .int w), (4, .int (F i)), (5, .int (nI i))] [] I0 J Q) (N := l) (a := 0) ?_ ?_ (Nat.zero_le _)
            · refine blk s_X7_states_65 (And.intro (ib hk) (nm ?_))
              rw [cl k, x2]
              refine b_X7_states_73 (fun h => ?_) (fun h => absurd (Int32.le_refl _) h)
              refine blk s_X7_states_132 (nm ?_)
              exact r_X7_states_134 hF
            · intro i hi ih
              have hpt : ∀ t, p i = some t → t < C := fun t ht => hp i t (by omega) ht
              refine blk s_X7_states_65 (And.intro (ib hk) (nm ?_))
              rw [cl k, x2]
              refine b_X7_states_73 (fun h => absurd h (nI_ge hi (by omega))) (fun h => ?_)
              refine blk s_X7_states_76 (And.intro (show vp_in ((8 : Int32) * nI k + nI i) 32 from by rw [ix8]; exact ib (by omega)) (nm ?_))
              rw [ix8, cl (8 * k + i), x3 i (by omega)]
              have hsi := hs i
              cases hpi : p i with
              | none =>
                rw [hpi] at hsi
                refine b_X7_states_94 (fun h => ?_) (fun h => absurd rfl h)
                refine blk s_X7_states_126 (nm ?_)
                refine wkt 6 (en_L ?_ ih)
                rw [nI_s, hsi]; rfl
              | some t =>
                rw [hpi] at hsi
                have ht := hpt t hpi
                have back : ∀ y, y = F (i + 1) → EN 62 RF mX7_states 2 124 [(0, .ref 39), (1, .int (nI k)), (2, .int (nI z)), (3, .int w), (4, .int (F i)), (5, .int (nI i)), (6, .int (nI t))] [.int y] I0 J Q := by
                  rintro _ rfl
                  refine blk s_X7_states_124 (nm ?_)
                  refine blk s_X7_states_126 (nm ?_)
                  refine wkt 6 (en_L ?_ ih)
                  rw [nI_s]; rfl
                refine b_X7_states_94 (fun h => absurd h (o2i_ne (show t < 2 ^ 31 by omega))) (fun h => ?_)
                refine blk s_X7_states_97 (nm ?_)
                refine b_X7_states_98 (fun h3 => ?_) (fun h3 => ?_)
                · refine blk s_X7_states_114 (nm ?_)
                  refine c_X7_states_120 (ct_X7_holdsOf hB0 ht hz) rfl (by decide) rfl (Nat.le_of_ble_eq_true rfl) (by decide) rfl (rx ?_)
                  refine blk s_X7_states_123 (nm ?_)
                  exact back _ (by rw [hsi]; exact (if_neg h3).symm)
                · refine blk s_X7_states_101 (nm ?_)
                  refine c_X7_states_107 (ct_X7_holdsOf hB0 ht hz) rfl (by decide) rfl (Nat.le_of_ble_eq_true rfl) (by decide) rfl (rx ?_)
                  refine blk s_X7_states_110 (nm ?_)
                  exact back _ (by rw [hsi]; exact (if_pos h3).symm)
          refine blk s_X7_states_50 (nm ?_)
          refine b_X7_states_51 (fun h3 => ?_) (fun h3 => ?_)
          · rw [if_neg h3] at hQ
            refine blk s_X7_states_59 (nm ?_)
            refine blk s_X7_states_60 (nm ?_)
            refine go (stO g p z) hQ (fun i => ?_)
            simp only [stO]
            cases p i with
            | none => rfl
            | some t => exact (if_neg h3).symm
          · rw [if_pos h3] at hQ
            refine blk s_X7_states_54 (nm ?_)
            refine blk s_X7_states_60 (nm ?_)
            refine go (stA g p z) hQ (fun i => ?_)
            simp only [stA]
            cases p i with
            | none => rfl
            | some t => exact (if_pos h3).symm
theorem ssS_b (hb : BOK C bx) (b r w : Int32) : BOK C (ssS g bx b r w).2.2 := by
  have e : (ssS g bx b r w).2.2 = bx := by
    unfold ssS
    cases ltB b 4 with
    | false => rfl
    | true =>
      dsimp only
      cases ltB r 4 with
      | false => cases wiB w 0 1 <;> rfl
      | true =>
        cases wiB w 0 1 with
        | false => rfl
        | true =>
          dsimp only
          cases bx b.toNatClampNeg <;> rfl
  rw [e]; exact hb
theorem p_states (b r w : Int32) : PR sc V mX6_states mX7_states 1 2 [.int b, .int r, .int w] := pr_b (q := fun _ _ g bx _ => ssS g bx b r w) fun I J C nx os oc K V' bx fa hb hC =>
  ⟨ssS_b hb b r w, ct_X6_states (cC hC) (c40 hC) hb hC.2.2.2.1 b r w, fun I1 h1 => ct_X7_states h1.1 hb h1.2.2.2.1 b r w⟩
end PAIR12
