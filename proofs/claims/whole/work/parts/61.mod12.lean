/-! THE REFERENCE: terms -/
section MOD12
variable {I : IT} {J : JT}
/-- the reference's columns are those of f, g -/
def RTm (I : IT) (J : JT) (f : IT) (g : JT) (C : Nat) : Prop := ∀ t, t < C → I 40 t = f 2 t ∧ I 41 (3 * t) = f 3 t ∧ I 41 (3 * t + 1) = f 4 t ∧ I 41 (3 * t + 2) = f 5 t ∧ I 42 t = f 6 t ∧ I 43 t = f 7 t ∧ I 44 t = f 8 t ∧ J 45 t = g 9 t
theorem ix3 (t : Nat) : (3 : Int32) * nI t = nI (3 * t) := by rw [show (3 : Int32) = nI 3 from rfl, nI_mul]
theorem ix31 (t : Nat) : (3 : Int32) * nI t + 1 = nI (3 * t + 1) := by rw [ix3, nI_s]
theorem ix32 (t : Nat) : (3 : Int32) * nI t + 2 = nI (3 * t + 2) := by rw [ix3, show (2 : Int32) = nI 2 from rfl, nI_add]
theorem ct_X7_find {f : IT} {g : JT} {C : Nat} (hC : I 39 1 = nI C) (h40 : C ≤ 40) (hR : RTm I J f g C) (k a b c : Int32) : CN 62 RF mX7_find 0 [.ref 39, .int k, .int a, .int b, .int c] I J (RX (some (.int (o2i (elder f C k a b c)))) I J) := by
  unfold elder
  generalize hp : (fun t => isJ f t k a b c) = p
  have hp' : ∀ t, p t = (decide (f 2 t = k) && decide (f 3 t = a) && decide (f 4 t = b) && decide (f 5 t = c)) := fun t => by rw [← hp]; rfl
  generalize hQ : RX (some (.int (o2i (lsN p C)))) I J = Q
  have hQ' : Q (some (.int (o2i (lsN p C)))) I J := by rw [← hQ]; exact rxq
  clear hQ
  refine cn_of (by decide) rfl (Nat.le_of_ble_eq_true rfl) ?_
  refine blk s_X7_find_0 (nm ?_)
  have key : ∀ t, t ≤ C → lsN p t = none → EN 62 RF mX7_find 0 3 [(0, .ref 39), (1, .int k), (2, .int a), (3, .int b), (4, .int c), (5, .int (nI t))] [] I J Q := by
    intro t ht
    refine dn (P := fun t => lsN p t = none → EN 62 RF mX7_find 0 3 [(0, .ref 39), (1, .int k), (2, .int a), (3, .int b), (4, .int c), (5, .int (nI t))] [] I J Q) (N := C) ?_ ?_ ht
    · intro h0
      refine blk s_X7_find_3 (nm ?_)
      rw [hC]
      refine b_X7_find_9 (fun h => ?_) (fun h => absurd (Int32.le_refl _) h)
      refine blk s_X7_find_88 (nm ?_)
      rw [h0] at hQ'
      exact r_X7_find_90 hQ'
    · intro t ht ih h0
      obtain ⟨r1, r2, r3, r4, -⟩ := hR t ht
      refine blk s_X7_find_3 (nm ?_)
      rw [hC]
      refine b_X7_find_9 (fun h => absurd h (nI_ge ht (by omega))) (fun h => ?_)
      have back : ∀ bb : Bool, bb = p t → EN 62 RF mX7_find 0 72 [(0, .ref 39), (1, .int k), (2, .int a), (3, .int b), (4, .int c), (5, .int (nI t))] [.int (b2i bb)] I J Q := by
        intro bb hb
        refine blk s_X7_find_72 (nm ?_)
        refine b_X7_find_76 (fun h => ?_) (fun h => ?_)
        · refine blk s_X7_find_82 (nm ?_)
          refine wkt 6 (en_L (by rw [nI_s]; rfl) (ih ?_))
          show (match lsN p t with | some i => some i | none => if p t then some t else none) = none
          rw [h0, ← hb, (b2i_0 _).mp h]; rfl
        · refine blk s_X7_find_79 (nm ?_)
          rw [lsN_first ht (by rw [← hb, b2t h]) (lsN_none.mp h0)] at hQ'
          exact r_X7_find_81 hQ'
      refine blk s_X7_find_12 (And.intro (ib (show t < 40 by omega)) (nm ?_))
      rw [cl t, r1]
      refine b_X7_find_20 (fun h => ?_) (fun h => ?_)
      · refine blk s_X7_find_71 (nm ?_)
        exact back false (by rw [hp' t, decide_eq_false h]; rfl)
      · refine blk s_X7_find_23 (And.intro (show vp_in ((3 : Int32) * nI t) 120 from by rw [ix3]; exact ib (by omega)) (nm ?_))
        rw [ix3, cl (3 * t), r2]
        refine b_X7_find_33 (fun h2 => ?_) (fun h2 => ?_)
        · refine blk s_X7_find_71 (nm ?_)
          exact back false (by rw [hp' t, decide_eq_false h2, Bool.and_false]; rfl)
        · refine blk s_X7_find_36 (And.intro (show vp_in ((3 : Int32) * nI t + 1) 120 from by rw [ix31]; exact ib (by omega)) (nm ?_))
          rw [ix31, cl (3 * t + 1), r3]
          refine b_X7_find_48 (fun h3 => ?_) (fun h3 => ?_)
          · refine blk s_X7_find_71 (nm ?_)
            exact back false (by rw [hp' t, decide_eq_false h3, Bool.and_false]; rfl)
          · refine blk s_X7_find_51 (And.intro (show vp_in ((3 : Int32) * nI t + 2) 120 from by rw [ix32]; exact ib (by omega)) (nm ?_))
            rw [ix32, cl (3 * t + 2), r4]
            refine b_X7_find_64 (fun h4 => ?_) (fun h4 => ?_)
            · refine blk s_X7_find_71 (nm ?_)
              exact back false (by rw [hp' t, decide_eq_false h4, Bool.and_false])
            · refine blk s_X7_find_67 (nm ?_)
              exact back true (by rw [hp' t, decide_eq_true h, decide_eq_true h2, decide_eq_true h3, decide_eq_true h4]; rfl)
  exact key 0 (by omega) rfl
theorem ct_X7_valueIn0 {t s r : Nat} (ht : t < 40) (hs : s < 16) (hr : r < 4) : CN 62 RF mX7_valueIn 0 [.ref 39, .int (nI t), .int (nI s), .int (nI r)] I J (RX (some (.int (I 46 (64 * t + 4 * s + r)))) I J) := by
  refine cn_of (by decide) rfl (Nat.le_of_ble_eq_true rfl) ?_
  have e : (64 : Int32) * nI t + 4 * nI s + nI r = nI (64 * t + 4 * s + r) := by
    rw [show (64 : Int32) = nI 64 from rfl, show (4 : Int32) = nI 4 from rfl, nI_mul, nI_mul, nI_add, nI_add]
  refine blk s_X7_valueIn_0 (And.intro (show vp_in ((64 : Int32) * nI t + 4 * nI s + nI r) 2560 from by rw [e]; exact ib (by omega)) (nm ?_))
  rw [e, cl (64 * t + 4 * s + r)]
  exact r_X7_valueIn_15 rxq
def evB (k m : Nat) (x y z : Bool) (s r : Nat) : Bool := match k with
  | 0 => decide (m = 1)
  | 1 => s.testBit m
  | 2 => r.testBit m
  | 3 => !x
  | 4 => x && y
  | 5 => x || y
  | 6 => x ^^ y
  | _ => if x = true then y else z
theorem ct_X7_evalLeaf {t k m s r : Nat} (ht : t < 40) (hk : k < 3) (hm : m < 4) (hm0 : k = 0 → m < 2) (hs : s < 16) (hr : r < 4) (h40 : I 40 t = nI k) (h41 : I 41 (3 * t) = nI m) (x y z : Bool) : CN 62 RF mX7_evaluated 1 [.ref 39, .int (nI t), .int (nI s), .int (nI r)] I J (RX (some (.int (b2i (evB k m x y z s r)))) I J) := by
  refine cn_of (by decide) rfl (Nat.le_of_ble_eq_true rfl) ?_
  refine blk s_X7_evaluated_0 (And.intro (show vp_in ((3 : Int32) * nI t) 120 from by rw [ix3]; exact ib (by omega)) (And.intro (ib ht) (nm ?_)))
  rw [ix3, cl (3 * t), cl t, h41, h40]
  have hle2 : nI k ≤ 2 := (nI_leI (a := k) (b := 2) (by omega) (by decide)).mpr (by omega)
  have hle3 : nI k ≤ 3 := (nI_leI (a := k) (b := 3) (by omega) (by decide)).mpr (by omega)
  refine b_X7_evaluated_17 (fun h => ?_) (fun h => absurd hle2 h)
  refine blk s_X7_evaluated_31 (nm ?_)
  refine blk s_X7_evaluated_32 (And.intro (ib ht) (nm ?_))
  rw [cl t, h40]
  refine b_X7_evaluated_41 (fun h => ?_) (fun h => absurd hle3 h)
  refine blk s_X7_evaluated_63 (nm ?_)
  refine blk s_X7_evaluated_64 (And.intro (ib ht) (nm ?_))
  rw [cl t, h40]
  rcases (show k = 0 ∨ k = 1 ∨ k = 2 by omega) with rfl | rfl | rfl
  · refine w_X7_evaluated_72 (fun h => ?_) (fun h => absurd h (by decide)) (fun h => absurd h (by decide)) (fun h => absurd h (by decide)) (fun h => absurd h (by decide)) (fun h => absurd h (by decide)) (fun h => absurd h (by decide)) (fun h0 _ _ _ _ _ _ => absurd rfl h0)
    refine blk s_X7_evaluated_116 (nm ?_)
    refine r_X7_evaluated_118 (rxe ?_ rfl rfl)
    have := hm0 rfl
    rcases (show m = 0 ∨ m = 1 by omega) with rfl | rfl <;> rfl
  · refine w_X7_evaluated_72 (fun h => absurd h (by decide)) (fun h => ?_) (fun h => absurd h (by decide)) (fun h => absurd h (by decide)) (fun h => absurd h (by decide)) (fun h => absurd h (by decide)) (fun h => absurd h (by decide)) (fun _ h0 _ _ _ _ _ => absurd rfl h0)
    refine blk s_X7_evaluated_119 (nm ?_)
    refine c_X7_evaluated_122 (ct_X7_isIn _ (by omega)) rfl (by decide) rfl (Nat.le_of_ble_eq_true rfl) (rx ?_)
    rw [mb_nI (by omega) (by omega)]
    exact r_X7_evaluated_125 rxq
  · refine w_X7_evaluated_72 (fun h => absurd h (by decide)) (fun h => absurd h (by decide)) (fun h => ?_) (fun h => absurd h (by decide)) (fun h => absurd h (by decide)) (fun h => absurd h (by decide)) (fun h => absurd h (by decide)) (fun _ _ h0 _ _ _ _ => absurd rfl h0)
    refine blk s_X7_evaluated_126 (nm ?_)
    refine c_X7_evaluated_129 (ct_X7_isIn _ (by omega)) rfl (by decide) rfl (Nat.le_of_ble_eq_true rfl) (rx ?_)
    rw [mb_nI (by omega) (by omega)]
    exact r_X7_evaluated_132 rxq
theorem ct_X7_evalGate {t k pa pb pc s r : Nat} (ht : t < 40) (hk : 3 ≤ k) (hk7 : k ≤ 7) (hs : s < 16) (hr : r < 4) (h40 : I 40 t = nI k) (ha : I 41 (3 * t) = nI pa) (ha4 : pa < 40) (hb : 3 < k → I 41 (3 * t + 1) = nI pb ∧ pb < 40) (hc : k = 7 → I 41 (3 * t + 2) = nI pc ∧ pc < 40) {x y z : Bool} (hx : I 46 (64 * pa + 4 * s + r) = b2i x) (hy : 3 < k → I 46 (64 * pb + 4 * s + r) = b2i y) (hz : k = 7 → I 46 (64 * pc + 4 * s + r) = b2i z) (m : Nat) : CN 62 RF mX7_evaluated 1 [.ref 39, .int (nI t), .int (nI s), .int (nI r)] I J (RX (some (.int (b2i (evB k m x y z s r)))) I J) := by
  refine cn_of (by decide) rfl (Nat.le_of_ble_eq_true rfl) ?_
  refine blk s_X7_evaluated_0 (And.intro (show vp_in ((3 : Int32) * nI t) 120 from by rw [ix3]; exact ib (by omega)) (And.intro (ib ht) (nm ?_)))
  rw [ix3, cl (3 * t), cl t, ha, h40]
  refine b_X7_evaluated_17 (fun h => absurd ((nI_leI (a := k) (b := 2) (by omega) (by decide)).mp h) (by omega)) (fun h => ?_)
  refine blk s_X7_evaluated_20 (nm ?_)
  refine c_X7_evaluated_25 (ct_X7_valueIn0 ha4 hs hr) rfl (by decide) rfl (Nat.le_of_ble_eq_true rfl) (by decide) rfl (rx ?_)
  rw [hx]
  refine blk s_X7_evaluated_28 (nm ?_)
  refine blk s_X7_evaluated_32 (And.intro (ib ht) (nm ?_))
  rw [cl t, h40]
  have L : ∀ v : Int32, EN 62 RF mX7_evaluated 1 64 [(0, .ref 39), (1, .int (nI t)), (2, .int (nI s)), (3, .int (nI r)), (4, .int (nI pa)), (5, .int (b2i x))] [.int v] I J (RX (some (.int (b2i (evB k m x y z s r)))) I J) ∨ ¬ (k = 3 ∨ v = b2i y) := by
    intro v
    by_cases hv : k = 3 ∨ v = b2i y
    · left
      refine blk s_X7_evaluated_64 (And.intro (ib ht) (nm ?_))
      rw [cl t, h40]
      rcases (show k = 3 ∨ k = 4 ∨ k = 5 ∨ k = 6 ∨ k = 7 by omega) with rfl | rfl | rfl | rfl | rfl
      · refine w_X7_evaluated_72 (fun h => absurd h (by decide)) (fun h => absurd h (by decide)) (fun h => absurd h (by decide)) (fun h => ?_) (fun h => absurd h (by decide)) (fun h => absurd h (by decide)) (fun h => absurd h (by decide)) (fun _ _ _ h0 _ _ _ => absurd rfl h0)
        refine blk s_X7_evaluated_133 (nm ?_)
        refine r_X7_evaluated_137 (rxe ?_ rfl rfl)
        cases x <;> rfl
      · have hv := hv.resolve_left (by decide)
        subst hv
        refine w_X7_evaluated_72 (fun h => absurd h (by decide)) (fun h => absurd h (by decide)) (fun h => absurd h (by decide)) (fun h => absurd h (by decide)) (fun h => ?_) (fun h => absurd h (by decide)) (fun h => absurd h (by decide)) (fun _ _ _ _ h0 _ _ => absurd rfl h0)
        refine blk s_X7_evaluated_138 (nm ?_)
        refine r_X7_evaluated_143 (rxe ?_ rfl rfl)
        cases x <;> cases y <;> rfl
      · have hv := hv.resolve_left (by decide)
        subst hv
        refine w_X7_evaluated_72 (fun h => absurd h (by decide)) (fun h => absurd h (by decide)) (fun h => absurd h (by decide)) (fun h => absurd h (by decide)) (fun h => absurd h (by decide)) (fun h => ?_) (fun h => absurd h (by decide)) (fun _ _ _ _ _ h0 _ => absurd rfl h0)
        refine blk s_X7_evaluated_144 (nm ?_)
        refine b_X7_evaluated_149 (fun h => ?_) (fun h => ?_)
        · refine blk s_X7_evaluated_156 (nm ?_)
          refine r_X7_evaluated_157 (rxe ?_ rfl rfl)
          revert h; cases x <;> cases y <;> first | (intro _; rfl) | (intro h; exact absurd h (by decide))
        · refine blk s_X7_evaluated_152 (nm ?_)
          refine r_X7_evaluated_157 (rxe ?_ rfl rfl)
          revert h; cases x <;> cases y <;> first | (intro _; rfl) | (intro h; exact absurd (by decide) h)
      · have hv := hv.resolve_left (by decide)
        subst hv
        refine w_X7_evaluated_72 (fun h => absurd h (by decide)) (fun h => absurd h (by decide)) (fun h => absurd h (by decide)) (fun h => absurd h (by decide)) (fun h => absurd h (by decide)) (fun h => absurd h (by decide)) (fun h => ?_) (fun _ _ _ _ _ _ h0 => absurd rfl h0)
        refine blk s_X7_evaluated_158 (nm ?_)
        refine b_X7_evaluated_162 (fun h => ?_) (fun h => ?_)
        · refine blk s_X7_evaluated_169 (nm ?_)
          refine r_X7_evaluated_170 (rxe ?_ rfl rfl)
          revert h; cases x <;> cases y <;> first | (intro _; rfl) | (intro h; exact absurd rfl h)
        · refine blk s_X7_evaluated_165 (nm ?_)
          refine r_X7_evaluated_170 (rxe ?_ rfl rfl)
          revert h; cases x <;> cases y <;> first | (intro _; rfl) | (intro h; exact absurd h (by decide))
      · have hv := hv.resolve_left (by decide)
        subst hv
        refine w_X7_evaluated_72 (fun h => absurd h (by decide)) (fun h => absurd h (by decide)) (fun h => absurd h (by decide)) (fun h => absurd h (by decide)) (fun h => absurd h (by decide)) (fun h => absurd h (by decide)) (fun h => absurd h (by decide)) (fun _ _ _ _ _ _ _ => ?_)
        refine blk s_X7_evaluated_171 (nm ?_)
        refine b_X7_evaluated_174 (fun h => ?_) (fun h => ?_)
        · refine blk s_X7_evaluated_182 (And.intro (show vp_in ((3 : Int32) * nI t + 2) 120 from by rw [ix32]; exact ib (by omega)) (nm ?_))
          rw [ix32, cl (3 * t + 2), (hc rfl).1]
          refine c_X7_evaluated_195 (ct_X7_valueIn0 (hc rfl).2 hs hr) rfl (by decide) rfl (Nat.le_of_ble_eq_true rfl) (by decide) rfl (rx ?_)
          rw [hz rfl]
          refine r_X7_evaluated_198 (rxe ?_ rfl rfl)
          rw [show evB 7 m x y z s r = (if x = true then y else z) from rfl, bf h]; rfl
        · refine blk s_X7_evaluated_177 (nm ?_)
          refine r_X7_evaluated_198 (rxe ?_ rfl rfl)
          rw [show evB 7 m x y z s r = (if x = true then y else z) from rfl, bt h]; rfl
    · exact Or.inr hv
  by_cases hk3 : k = 3
  · refine b_X7_evaluated_41 (fun h => ?_) (fun h => absurd ((nI_leI (a := k) (b := 3) (by omega) (by decide)).mpr (by omega)) h)
    refine blk s_X7_evaluated_63 (nm ?_)
    exact (L 0).resolve_right (fun hn => hn (Or.inl hk3))
  · refine b_X7_evaluated_41 (fun h => absurd ((nI_leI (a := k) (b := 3) (by omega) (by decide)).mp h) (by omega)) (fun h => ?_)
    have hb' := hb (by omega)
    refine blk s_X7_evaluated_44 (And.intro (show vp_in ((3 : Int32) * nI t + 1) 120 from by rw [ix31]; exact ib (by omega)) (nm ?_))
    rw [ix31, cl (3 * t + 1), hb'.1]
    refine c_X7_evaluated_57 (ct_X7_valueIn0 hb'.2 hs hr) rfl (by decide) rfl (Nat.le_of_ble_eq_true rfl) (by decide) rfl (rx ?_)
    rw [hy (by omega)]
    refine blk s_X7_evaluated_60 (nm ?_)
    exact (L (b2i y)).resolve_right (fun hn => hn (Or.inr rfl))
end MOD12
