/-! CONTRACTS of Terms -/
theorem nm {M : MI} {d cap pc : Nat} {L : LT} {st : List Value} {n : Nat} {R : RT} {I : IT} {J : JT} {Q : QT} (h : Ends M d cap pc L st n R I J Q) : Ends M d cap pc L st n R I J Q := h
def isJ (I : IT) (t : Nat) (k a b c : Int32) : Bool := decide (I 2 t = k) && decide (I 3 t = a) && decide (I 4 t = b) && decide (I 5 t = c)
theorem ct_X4_isJust {I : IT} {J : JT} {t : Nat} (ht : t < 40) (k a b c : Int32) : CN 62 RF mX4_isJust 0 [.ref 1, .int (nI t), .int k, .int a, .int b, .int c] I J (RX (some (.int (b2i (isJ I t k a b c)))) I J) := by
  have e := cl t
  refine cn_of (by decide) rfl (Nat.le_of_ble_eq_true rfl) ?_
  refine blk s_X4_isJust_0 (And.intro (ib ht) ?_)
  rw [e]
  refine b_X4_isJust_7 (fun h => ?_) (fun h => ?_)
  · refine blk s_X4_isJust_46 ?_
    exact r_X4_isJust_47 (Or.inl rfl) (rz0 (by simp [isJ, h]))
  · refine blk s_X4_isJust_10 (And.intro (ib ht) ?_)
    rw [e]
    refine b_X4_isJust_17 (fun h1 => ?_) (fun h1 => ?_)
    · refine blk s_X4_isJust_46 ?_
      exact r_X4_isJust_47 (Or.inl rfl) (rz0 (by simp [isJ, h1]))
    · refine blk s_X4_isJust_20 (And.intro (ib ht) ?_)
      rw [e]
      refine b_X4_isJust_28 (fun h2 => ?_) (fun h2 => ?_)
      · refine blk s_X4_isJust_46 ?_
        exact r_X4_isJust_47 (Or.inl rfl) (rz0 (by simp [isJ, h2]))
      · refine blk s_X4_isJust_31 (And.intro (ib ht) ?_)
        rw [e]
        refine b_X4_isJust_39 (fun h3 => ?_) (fun h3 => ?_)
        · refine blk s_X4_isJust_46 ?_
          exact r_X4_isJust_47 (Or.inl rfl) (rz0 (by simp [isJ, h3]))
        · refine blk s_X4_isJust_42 ?_
          exact r_X4_isJust_47 (Or.inr rfl) (rz1 (by simp [isJ, h, h1, h2, h3]))
/-- the table of a leaf -/
def lfT (k n : Nat) : Int64 := stJ (k + 1) n
theorem ct_X4_leafTable {n' : Nat} {R : RT} {I : IT} {J : JT} {k n : Nat} (hk : k < 3) (hn : n < stLen (k + 1)) : CN n' R mX4_leafTable 0 [.int (nI k), .int (nI n)] I J (RX (some (.long (lfT k n))) I J) := by
  refine cn_of (by decide) rfl (Nat.le_of_ble_eq_true rfl) ?_
  refine blk s_X4_leafTable_0 ?_
  have hn4 : n < 4 := by
    have : stLen (k + 1) ≤ 4 := by
      rcases (show k = 0 ∨ k = 1 ∨ k = 2 by omega) with rfl | rfl | rfl <;> decide
    omega
  refine w_X4_leafTable_1 (fun h => ?_) (fun h => ?_) (fun h0 h1 => ?_)
  · have hk0 : k = 0 := (nI_eq (by omega) (by decide)).mp h
    subst hk0
    refine blk s_X4_leafTable_28 (And.intro (ib hn) ?_)
    exact r_X4_leafTable_33 (rxe (by rw [cl n]; rfl) rfl rfl)
  · have hk0 : k = 1 := (nI_eq (by omega) (by decide)).mp h
    subst hk0
    refine blk s_X4_leafTable_34 (And.intro (ib hn) ?_)
    exact r_X4_leafTable_39 (rxe (by rw [cl n]; rfl) rfl rfl)
  · have hk0 : k = 2 := by
      rcases (show k = 0 ∨ k = 1 ∨ k = 2 by omega) with rfl | rfl | rfl
      · exact absurd rfl h0
      · exact absurd rfl h1
      · rfl
    subst hk0
    refine blk s_X4_leafTable_40 (And.intro (ib hn) ?_)
    exact r_X4_leafTable_45 (rxe (by rw [cl n]; rfl) rfl rfl)
/-- what is written of a term beside its kind and parts -/
def tri (I : IT) (t : Nat) (v6 v7 v8 : Int32) : IT := fun o k => if k = t then (if o = 6 then v6 else if o = 7 then v7 else if o = 8 then v8 else I o k) else I o k
theorem tri_up (I : IT) (t : Nat) (v6 v7 v8 : Int32) : up2 (up2 (up2 I 6 t v6) 7 t v7) 8 t v8 = tri I t v6 v7 v8 := by
  funext o k; unfold up2 tri
  by_cases hk : k = t
  · simp only [hk, if_true]
    by_cases h8 : o = 8
    · subst h8; simp
    · by_cases h7 : o = 7
      · subst h7; simp
      · by_cases h6 : o = 6
        · subst h6; simp
        · simp [h6, h7, h8]
  · simp [hk]
theorem tri_tri (I : IT) (t : Nat) (a b c a' b' c' : Int32) : tri (tri I t a b c) t a' b' c' = tri I t a' b' c' := by
  funext o k; unfold tri
  by_cases hk : k = t
  · simp only [hk, if_true]
    split
    · rfl
    · split
      · rfl
      · split
        · rfl
        · rename_i h1 h2 h3; simp [h1, h2, h3]
  · simp [hk]
theorem tri_ne {I : IT} {t k : Nat} {a b c : Int32} (h : k ≠ t) (o : Nat) : tri I t a b c o k = I o k := by unfold tri; rw [if_neg h]
theorem tri_o {I : IT} {t o : Nat} {a b c : Int32} (h6 : o ≠ 6) (h7 : o ≠ 7) (h8 : o ≠ 8) : tri I t a b c o = I o := by
  funext k; unfold tri
  simp [h6, h7, h8]
theorem tri_6 {I : IT} {t : Nat} {a b c : Int32} : tri I t a b c 6 t = a := by unfold tri; rw [if_pos rfl, if_pos rfl]
theorem tri_7 {I : IT} {t : Nat} {a b c : Int32} : tri I t a b c 7 t = b := by unfold tri; rw [if_pos rfl, if_neg (by decide), if_pos rfl]
theorem tri_8 {I : IT} {t : Nat} {a b c : Int32} : tri I t a b c 8 t = c := by unfold tri; rw [if_pos rfl, if_neg (by decide), if_neg (by decide), if_pos rfl]
theorem ct_X4_fillLeaf {I : IT} {J : JT} {t k m : Nat} (ht : t < 40) (hk : k < 3) (hm : m < stLen (k + 1)) (h2 : I 2 t = nI k) (h3 : I 3 t = nI m) :
    CN 62 RF mX4_fillLeaf 1 [.ref 1, .int (nI t)] I J (RX none (tri I t (if k = 1 then (1 : Int32) <<< (nI m &&& 31) else 0) (if k = 2 then (1 : Int32) <<< (nI m &&& 31) else 0) 0) (up2 (up2 J 9 t 1) 10 t (lfT k m))) := by
  have e := cl t
  generalize hQ : RX none (tri I t (if k = 1 then (1 : Int32) <<< (nI m &&& 31) else 0) (if k = 2 then (1 : Int32) <<< (nI m &&& 31) else 0) 0) (up2 (up2 J 9 t 1) 10 t (lfT k m)) = Q
  refine cn_of (by decide) rfl (Nat.le_of_ble_eq_true rfl) ?_
  refine blk s_X4_fillLeaf_0 (And.intro (ib ht) (And.intro (ib ht) ?_))
  rw [e, h2, h3]
  have fin : ∀ v6 v7 : Int32, v6 = (if k = 1 then (1 : Int32) <<< (nI m &&& 31) else 0) → v7 = (if k = 2 then (1 : Int32) <<< (nI m &&& 31) else 0) →
      EN 62 RF mX4_fillLeaf 1 52 [(0, .ref 1), (1, .int (nI t)), (2, .int (nI m))] [.int v7, .int (nI t), .ref 7] (up2 I 6 t v6) J Q := by
    intro v6 v7 hv6 hv7
    refine blk s_X4_fillLeaf_52 (And.intro (ib ht) (And.intro (ib ht) (And.intro (ib ht) (And.intro (ib ht) ?_))))
    rw [e]
    rw [show (up2 (up2 (up2 I 6 t v6) 7 t v7) 8 t 0) 2 t = nI k from h2]
    refine c_X4_fillLeaf_79 (ct_X4_leafTable hk hm) rfl (by decide) rfl (Nat.le_of_ble_eq_true rfl) (rx ?_)
    refine blk s_X4_fillLeaf_82 (And.intro (ib ht) ?_)
    refine r_X4_fillLeaf_83 ?_
    rw [e, ← hQ, tri_up, hv6, hv7]
    exact rxq
  have mid : ∀ v6 : Int32, v6 = (if k = 1 then (1 : Int32) <<< (nI m &&& 31) else 0) →
      EN 62 RF mX4_fillLeaf 1 29 [(0, .ref 1), (1, .int (nI t)), (2, .int (nI m))] [.int v6, .int (nI t), .ref 6] I J Q := by
    intro v6 hv6
    refine blk s_X4_fillLeaf_29 (And.intro (ib ht) (And.intro (ib ht) ?_))
    rw [e, show (up2 I 6 t v6) 2 t = nI k from h2]
    refine b_X4_fillLeaf_42 (fun h => ?_) (fun h => ?_)
    · refine blk s_X4_fillLeaf_51 ?_
      exact fin v6 0 hv6 (by rw [if_neg (fun hh => h (by rw [hh]; rfl))])
    · refine blk s_X4_fillLeaf_45 ?_
      exact fin v6 _ hv6 (by rw [if_pos ((nI_eq (by omega) (by decide)).mp h)])
  refine b_X4_fillLeaf_19 (fun h => ?_) (fun h => ?_)
  · refine blk s_X4_fillLeaf_28 ?_
    exact mid 0 (by rw [if_neg (fun hh => h (by rw [hh]; rfl))])
  · refine blk s_X4_fillLeaf_22 ?_
    exact mid _ (by rw [if_pos ((nI_eq (by omega) (by decide)).mp h)])
/-- what a part adds -/
def orO (x : Int32) (f : Nat → Int32) : Option Nat → Int32
  | none => x
  | some p => x ||| f p
def mxO (x : Int32) (f : Nat → Int32) : Option Nat → Int32
  | none => x
  | some p => if x < f p + 1 then f p + 1 else x
def adO (x : Int64) (f : Nat → Int64) : Option Nat → Int64
  | none => x
  | some p => x + f p
def tbO (f : Nat → Int64) : Option Nat → Int64
  | none => 0
  | some p => f p
theorem ct_X4_addPart {I : IT} {J : JT} {C t : Nat} (hC : I 1 9 = nI C) (hCt : C ≤ t) (ht : t < 40) (o : Option Nat) (ho : ∀ p, o = some p → p < C) :
    CN 62 RF mX4_addPart 1 [.ref 1, .int (nI t), .int (o2i o)] I J (RX none (tri I t (orO (I 6 t) (I 6) o) (orO (I 7 t) (I 7) o) (mxO (I 8 t) (I 8) o)) (up2 J 9 t (adO (J 9 t) (J 9) o))) := by
  have e := cl t
  refine cn_of (by decide) rfl (Nat.le_of_ble_eq_true rfl) ?_
  refine blk s_X4_addPart_0 ?_
  refine c_X4_addPart_2 (ct_X4_has _) rfl (by decide) rfl (by decide) (by decide) rfl (rx ?_)
  cases o with
  | none =>
    rw [show o2i none = -9 from rfl, hasT_none]
    refine b_X4_addPart_5 (fun h => absurd rfl h) (fun h => ?_)
    refine r_X4_addPart_8 (rxe rfl ?_ ?_)
    · show I = tri I t (I 6 t) (I 7 t) (I 8 t)
      rw [← tri_up]
      have h7 : I 7 t = up2 I 6 t (I 6 t) 7 t := by rw [up2_id]
      rw [up2_id, up2_id, up2_id]
    · show J = up2 J 9 t (J 9 t)
      rw [up2_id]
  | some p =>
    have hp := ho p rfl
    have ep := cl p
    rw [show o2i (some p) = nI p from rfl, hasT_nI hC (by omega) (by omega), decide_eq_true hp]
    refine b_X4_addPart_5 (fun h => ?_) (fun h => by cases h)
    have hp40 : p < 40 := by omega
    refine blk s_X4_addPart_9 (And.intro (ib ht) (And.intro (ib hp40) (And.intro (ib ht) (And.intro (ib ht) (And.intro (ib hp40) (And.intro (ib ht) (And.intro (ib ht) (And.intro (ib hp40) ?_))))))))
    refine c_X4_addPart_58 (by decide) (Nat.le_of_ble_eq_true rfl) ?_
    refine blk s_X4_addPart_61 (And.intro (ib ht) (And.intro (ib ht) (And.intro (ib hp40) (And.intro (ib ht) ?_))))
    refine r_X4_addPart_77 ?_
    rw [e, ep]
    exact rxe rfl (tri_up I t _ _ _) rfl
theorem ct_X4_tableOf {I : IT} {J : JT} {C : Nat} (hC : I 1 9 = nI C) (hC40 : C ≤ 40) (o : Option Nat) (ho : ∀ p, o = some p → p < C) : CN 62 RF mX4_tableOf 1 [.ref 1, .int (o2i o)] I J (RX (some (.long (tbO (J 10) o))) I J) := by
  refine cn_of (by decide) rfl (Nat.le_of_ble_eq_true rfl) ?_
  refine blk s_X4_tableOf_0 ?_
  refine c_X4_tableOf_2 (ct_X4_has _) rfl (by decide) rfl (by decide) (by decide) rfl (rx ?_)
  cases o with
  | none =>
    rw [show o2i none = -9 from rfl, hasT_none]
    refine b_X4_tableOf_5 (fun h => ?_) (fun h => absurd rfl h)
    refine blk s_X4_tableOf_17 ?_
    exact r_X4_tableOf_18 rxq
  | some p =>
    have hp := ho p rfl
    rw [show o2i (some p) = nI p from rfl, hasT_nI hC (by omega) (by omega), decide_eq_true hp]
    refine b_X4_tableOf_5 (fun h => by cases h) (fun h => ?_)
    refine blk s_X4_tableOf_8 (And.intro (ib (by omega)) ?_)
    exact r_X4_tableOf_18 (rxe (by rw [cl p]; rfl) rfl rfl)
def jnT (k : Nat) (a b c : Int64) : Int64 := if k = 3 then a ^^^ (-1) else if k = 4 then a &&& b else if k = 5 then a ||| b else if k = 6 then a ^^^ b else (a &&& b) ||| ((a ^^^ (-1)) &&& c)
theorem ct_X4_joinedTable {n' : Nat} {R : RT} {I : IT} {J : JT} {k : Nat} (hk : k < 100) (a b c : Int64) : CN n' R mX4_joinedTable 0 [.int (nI k), .long a, .long b, .long c] I J (RX (some (.long (jnT k a b c))) I J) := by
  refine cn_of (by decide) rfl (Nat.le_of_ble_eq_true rfl) ?_
  refine blk s_X4_joinedTable_0 ?_
  refine w_X4_joinedTable_1 (fun h => ?_) (fun h => ?_) (fun h => ?_) (fun h => ?_) (fun h0 h1 h2 h3 => ?_)
  · have := (nI_eq (b := 3) (by omega) (by decide)).mp h
    subst this
    refine blk s_X4_joinedTable_32 ?_
    exact r_X4_joinedTable_37 rxq
  · have := (nI_eq (b := 4) (by omega) (by decide)).mp h
    subst this
    refine blk s_X4_joinedTable_38 ?_
    exact r_X4_joinedTable_41 rxq
  · have := (nI_eq (b := 5) (by omega) (by decide)).mp h
    subst this
    refine blk s_X4_joinedTable_42 ?_
    exact r_X4_joinedTable_45 rxq
  · have := (nI_eq (b := 6) (by omega) (by decide)).mp h
    subst this
    refine blk s_X4_joinedTable_46 ?_
    exact r_X4_joinedTable_49 rxq
  · refine blk s_X4_joinedTable_50 ?_
    refine r_X4_joinedTable_62 (rxe ?_ rfl rfl)
    unfold jnT
    rw [if_neg (fun h => h0 (by rw [h]; rfl)), if_neg (fun h => h1 (by rw [h]; rfl)), if_neg (fun h => h2 (by rw [h]; rfl)), if_neg (fun h => h3 (by rw [h]; rfl))]
theorem ct_X4_fillFromParts {I : IT} {J : JT} {C t k : Nat} (hC : I 1 9 = nI C) (hCt : C ≤ t) (ht : t < 40) (hk : k < 100) (oa ob oc : Option Nat) (ha : ∀ p, oa = some p → p < C) (hb : ∀ p, ob = some p → p < C) (hc : ∀ p, oc = some p → p < C) (h2 : I 2 t = nI k) (h3 : I 3 t = o2i oa) (h4 : I 4 t = o2i ob) (h5 : I 5 t = o2i oc) :
    CN 62 RF mX4_fillFromParts 2 [.ref 1, .int (nI t)] I J (RX none (tri I t (orO (orO (orO 0 (I 6) oa) (I 6) ob) (I 6) oc) (orO (orO (orO 0 (I 7) oa) (I 7) ob) (I 7) oc) (mxO (mxO (mxO 0 (I 8) oa) (I 8) ob) (I 8) oc)) (up2 (up2 J 9 t (adO (adO (adO 0 (J 9) oa) (J 9) ob) (J 9) oc)) 10 t (jnT k (tbO (J 10) oa) (tbO (J 10) ob) (tbO (J 10) oc)))) := by
  have e := cl t
  have orE : ∀ (x : Int32) (f g : Nat → Int32) (o : Option Nat), (∀ p, o = some p → p < C) → (∀ p, p < C → f p = g p) → orO x f o = orO x g o := by
    intro x f g o h1 h2
    cases o with
    | none => rfl
    | some p => show x ||| f p = x ||| g p; rw [h2 p (h1 p rfl)]
  have mxE : ∀ (x : Int32) (f g : Nat → Int32) (o : Option Nat), (∀ p, o = some p → p < C) → (∀ p, p < C → f p = g p) → mxO x f o = mxO x g o := by
    intro x f g o h1 h2
    cases o with
    | none => rfl
    | some p => show (if x < f p + 1 then f p + 1 else x) = _; rw [h2 p (h1 p rfl)]; rfl
  have adE : ∀ (x : Int64) (f g : Nat → Int64) (o : Option Nat), (∀ p, o = some p → p < C) → (∀ p, p < C → f p = g p) → adO x f o = adO x g o := by
    intro x f g o h1 h2
    cases o with
    | none => rfl
    | some p => show x + f p = x + g p; rw [h2 p (h1 p rfl)]
  have triE : ∀ (a b c : Int32) (o p : Nat), p < C → tri I t a b c o p = I o p := fun a b c o p hp => tri_ne (by omega) o
  have upE : ∀ (v : Int64) (p : Nat), p < C → up2 J 9 t v 9 p = J 9 p := fun v p hp => up2_k (by omega)
  refine cn_of (by decide) rfl (Nat.le_of_ble_eq_true rfl) ?_
  refine blk s_X4_fillFromParts_0 (And.intro (ib ht) (And.intro (ib ht) (And.intro (ib ht) (And.intro (ib ht) (And.intro (ib ht) ?_)))))
  rw [e, tri_up]
  rw [show (tri I t 0 0 0) 3 t = o2i oa from (congrFun (tri_o (by decide) (by decide) (by decide)) t).trans h3]
  refine c_X4_fillFromParts_36 (ct_X4_addPart (C := C) ((congrFun (tri_o (by decide) (by decide) (by decide)) 9).trans hC) hCt ht oa ha) rfl (by decide) rfl (Nat.le_of_ble_eq_true rfl) (by decide) rfl (rx ?_)
  rw [tri_tri, up2_2, tri_6, tri_7, tri_8, up2_s]
  rw [orE 0 _ (I 6) oa ha (fun p hp => triE _ _ _ 6 p hp), orE 0 _ (I 7) oa ha (fun p hp => triE _ _ _ 7 p hp), mxE 0 _ (I 8) oa ha (fun p hp => triE _ _ _ 8 p hp), adE 0 _ (J 9) oa ha (fun p hp => upE _ p hp)]
  refine blk s_X4_fillFromParts_39 (And.intro (ib ht) ?_)
  rw [e, show ∀ a b c : Int32, (tri I t a b c) 4 t = o2i ob from fun a b c => (congrFun (tri_o (by decide) (by decide) (by decide)) t).trans h4]
  refine c_X4_fillFromParts_47 (ct_X4_addPart (C := C) ((congrFun (tri_o (by decide) (by decide) (by decide)) 9).trans hC) hCt ht ob hb) rfl (by decide) rfl (Nat.le_of_ble_eq_true rfl) (by decide) rfl (rx ?_)
  rw [tri_tri, up2_2, tri_6, tri_7, tri_8, up2_s]
  rw [orE _ _ (I 6) ob hb (fun p hp => triE _ _ _ 6 p hp), orE _ _ (I 7) ob hb (fun p hp => triE _ _ _ 7 p hp), mxE _ _ (I 8) ob hb (fun p hp => triE _ _ _ 8 p hp), adE _ _ (J 9) ob hb (fun p hp => upE _ p hp)]
  refine blk s_X4_fillFromParts_50 (And.intro (ib ht) ?_)
  rw [e, show ∀ a b c : Int32, (tri I t a b c) 5 t = o2i oc from fun a b c => (congrFun (tri_o (by decide) (by decide) (by decide)) t).trans h5]
  refine c_X4_fillFromParts_58 (ct_X4_addPart (C := C) ((congrFun (tri_o (by decide) (by decide) (by decide)) 9).trans hC) hCt ht oc hc) rfl (by decide) rfl (Nat.le_of_ble_eq_true rfl) (by decide) rfl (rx ?_)
  rw [tri_tri, up2_2, tri_6, tri_7, tri_8, up2_s]
  rw [orE _ _ (I 6) oc hc (fun p hp => triE _ _ _ 6 p hp), orE _ _ (I 7) oc hc (fun p hp => triE _ _ _ 7 p hp), mxE _ _ (I 8) oc hc (fun p hp => triE _ _ _ 8 p hp), adE _ _ (J 9) oc hc (fun p hp => upE _ p hp)]
  refine blk s_X4_fillFromParts_61 (And.intro (ib ht) (And.intro (ib ht) ?_))
  rw [e, show ∀ a b c : Int32, (tri I t a b c) 2 t = nI k from fun a b c => (congrFun (tri_o (by decide) (by decide) (by decide)) t).trans h2, show ∀ a b c : Int32, (tri I t a b c) 3 t = o2i oa from fun a b c => (congrFun (tri_o (by decide) (by decide) (by decide)) t).trans h3]
  refine c_X4_fillFromParts_79 (ct_X4_tableOf (C := C) ((congrFun (tri_o (by decide) (by decide) (by decide)) 9).trans hC) (by omega) oa ha) rfl (by decide) rfl (Nat.le_of_ble_eq_true rfl) (by decide) rfl (rx ?_)
  refine blk s_X4_fillFromParts_82 (And.intro (ib ht) ?_)
  rw [e, show ∀ a b c : Int32, (tri I t a b c) 4 t = o2i ob from fun a b c => (congrFun (tri_o (by decide) (by decide) (by decide)) t).trans h4]
  refine c_X4_fillFromParts_89 (ct_X4_tableOf (C := C) ((congrFun (tri_o (by decide) (by decide) (by decide)) 9).trans hC) (by omega) ob hb) rfl (by decide) rfl (Nat.le_of_ble_eq_true rfl) (by decide) rfl (rx ?_)
  refine blk s_X4_fillFromParts_92 (And.intro (ib ht) ?_)
  rw [e, show ∀ a b c : Int32, (tri I t a b c) 5 t = o2i oc from fun a b c => (congrFun (tri_o (by decide) (by decide) (by decide)) t).trans h5]
  refine c_X4_fillFromParts_99 (ct_X4_tableOf (C := C) ((congrFun (tri_o (by decide) (by decide) (by decide)) 9).trans hC) (by omega) oc hc) rfl (by decide) rfl (Nat.le_of_ble_eq_true rfl) (by decide) rfl (rx ?_)
  refine c_X4_fillFromParts_102 (ct_X4_joinedTable hk _ _ _) rfl (by decide) rfl (Nat.le_of_ble_eq_true rfl) (rx ?_)
  refine blk s_X4_fillFromParts_105 (And.intro (ib ht) ?_)
  refine r_X4_fillFromParts_106 ?_
  rw [e]
  exact rxq
/-- the elder term that is just like it -/
def elder (I : IT) (C : Nat) (k a b c : Int32) : Option Nat := lsN (fun t => isJ I t k a b c) C
def wr4 (I : IT) (t : Nat) (k a b c : Int32) : IT := up2 (up2 (up2 (up2 I 2 t k) 3 t a) 4 t b) 5 t c
theorem ct_X4_elder {I : IT} {J : JT} {C t0 : Nat} (hC : I 1 9 = nI C) (hC40 : C ≤ 40) {k a b c : Int32} (he : elder I C k a b c = some t0) :
    CN 62 RF mX4_elderOrNew 3 [.ref 1, .int k, .int a, .int b, .int c] I J (RX (some (.int (nI t0))) I J) := by
  obtain ⟨ht0, hj, hno⟩ := lsN_some he
  generalize hQ : RX (some (.int (nI t0))) I J = Q
  refine cn_of (by decide) rfl (Nat.le_of_ble_eq_true rfl) ?_
  refine blk s_X4_elderOrNew_0 ?_
  refine dn (P := fun j => EN 62 RF mX4_elderOrNew 3 3 [(0, .ref 1), (1, .int k), (2, .int a), (3, .int b), (4, .int c), (5, .int (nI j))] [] I J Q) (N := t0) ?_ ?_ (Nat.zero_le _)
  · refine blk s_X4_elderOrNew_3 (nm ?_)
    rw [hC]
    refine b_X4_elderOrNew_9 (fun h => absurd h (nI_ge ht0 (by omega))) (fun h => ?_)
    refine blk s_X4_elderOrNew_12 ?_
    refine c_X4_elderOrNew_20 (ct_X4_isJust (by omega) _ _ _ _) rfl (by decide) rfl (Nat.le_of_ble_eq_true rfl) (by decide) rfl (rx ?_)
    rw [hj]
    refine b_X4_elderOrNew_23 (fun h => by cases h) (fun h => ?_)
    refine blk s_X4_elderOrNew_26 ?_
    refine r_X4_elderOrNew_28 ?_
    rw [← hQ]; exact rxq
  · intro j hjt ih
    refine blk s_X4_elderOrNew_3 (nm ?_)
    rw [hC]
    refine b_X4_elderOrNew_9 (fun h => absurd h (nI_ge (by omega) (by omega))) (fun h => ?_)
    refine blk s_X4_elderOrNew_12 ?_
    refine c_X4_elderOrNew_20 (ct_X4_isJust (by omega) _ _ _ _) rfl (by decide) rfl (Nat.le_of_ble_eq_true rfl) (by decide) rfl (rx ?_)
    rw [hno j hjt]
    refine b_X4_elderOrNew_23 (fun h => ?_) (fun h => absurd rfl h)
    refine blk s_X4_elderOrNew_29 ?_
    exact en_L (by rw [nI_s]) ih
theorem x4_past {I : IT} {J : JT} {C : Nat} (hC : I 1 9 = nI C) (hC40 : C ≤ 40) {k a b c : Int32} (he : elder I C k a b c = none) {Q : IQ} (h35 : EN 62 RF mX4_elderOrNew 3 35 [(0, .ref 1), (1, .int k), (2, .int a), (3, .int b), (4, .int c), (5, .int (nI C))] [] I J Q) :
    CN 62 RF mX4_elderOrNew 3 [.ref 1, .int k, .int a, .int b, .int c] I J Q := by
  have hno := lsN_none.mp he
  refine cn_of (by decide) rfl (Nat.le_of_ble_eq_true rfl) ?_
  refine blk s_X4_elderOrNew_0 ?_
  refine dn (P := fun j => EN 62 RF mX4_elderOrNew 3 3 [(0, .ref 1), (1, .int k), (2, .int a), (3, .int b), (4, .int c), (5, .int (nI j))] [] I J Q) (N := C) ?_ ?_ (Nat.zero_le _)
  · refine blk s_X4_elderOrNew_3 (nm ?_)
    rw [hC]
    refine b_X4_elderOrNew_9 (fun h => h35) (fun h => absurd (Int32.le_refl _) h)
  · intro j hjt ih
    refine blk s_X4_elderOrNew_3 (nm ?_)
    rw [hC]
    refine b_X4_elderOrNew_9 (fun h => absurd h (nI_ge (by omega) (by omega))) (fun h => ?_)
    refine blk s_X4_elderOrNew_12 ?_
    refine c_X4_elderOrNew_20 (ct_X4_isJust (by omega) _ _ _ _) rfl (by decide) rfl (Nat.le_of_ble_eq_true rfl) (by decide) rfl (rx ?_)
    rw [hno j hjt]
    refine b_X4_elderOrNew_23 (fun h => ?_) (fun h => absurd rfl h)
    refine blk s_X4_elderOrNew_29 ?_
    exact en_L (by rw [nI_s]) ih
theorem ct_X4_full {I : IT} {J : JT} (hC : I 1 9 = nI 40) {k a b c : Int32} (he : elder I 40 k a b c = none) :
    CN 62 RF mX4_elderOrNew 3 [.ref 1, .int k, .int a, .int b, .int c] I J (RX (some (.int (-4))) I J) := by
  refine x4_past hC (by decide) he ?_
  refine blk s_X4_elderOrNew_35 (nm ?_)
  rw [hC]
  refine b_X4_elderOrNew_41 (fun h => absurd h (Int32.lt_irrefl)) (fun h => ?_)
  refine blk s_X4_elderOrNew_44 ?_
  exact r_X4_elderOrNew_46 rxq
theorem wr4_o {I : IT} {t o : Nat} {k a b c : Int32} (h2 : o ≠ 2) (h3 : o ≠ 3) (h4 : o ≠ 4) (h5 : o ≠ 5) : wr4 I t k a b c o = I o := by
  unfold wr4; rw [up2_o h5, up2_o h4, up2_o h3, up2_o h2]
theorem wr4_2 {I : IT} {t : Nat} {k a b c : Int32} : wr4 I t k a b c 2 t = k ∧ wr4 I t k a b c 3 t = a ∧ wr4 I t k a b c 4 t = b ∧ wr4 I t k a b c 5 t = c := by
  unfold wr4
  refine ⟨?_, ?_, ?_, ?_⟩
  · rw [up2_o (by decide), up2_o (by decide), up2_o (by decide), up2_s]
  · rw [up2_o (by decide), up2_o (by decide), up2_s]
  · rw [up2_o (by decide), up2_s]
  · rw [up2_s]
theorem ct_X4_newLeaf {I : IT} {J : JT} {C k m : Nat} (hC : I 1 9 = nI C) (hC40 : C < 40) (hk : k < 3) (hm : m < stLen (k + 1)) (he : elder I C (nI k) (nI m) (-9) (-9) = none) :
    CN 62 RF mX4_elderOrNew 3 [.ref 1, .int (nI k), .int (nI m), .int (-9), .int (-9)] I J (RX (some (.int (nI C))) (up2 (tri (wr4 I C (nI k) (nI m) (-9) (-9)) C (if k = 1 then (1 : Int32) <<< (nI m &&& 31) else 0) (if k = 2 then (1 : Int32) <<< (nI m &&& 31) else 0) 0) 1 9 (nI (C + 1))) (up2 (up2 J 9 C 1) 10 C (lfT k m))) := by
  have e := cl C
  refine x4_past hC (by omega) he ?_
  refine blk s_X4_elderOrNew_35 (nm ?_)
  rw [hC]
  refine b_X4_elderOrNew_41 (fun h => ?_) (fun h => absurd ((nI_ltI (b := 40) (by omega) (by decide)).mpr hC40) h)
  have hi : vp_in (I 1 9) 40 := by rw [hC]; exact ib hC40
  refine blk s_X4_elderOrNew_47 (And.intro hi (And.intro hi (And.intro hi (And.intro hi (nm ?_)))))
  rw [hC, e]
  refine b_X4_elderOrNew_88 (fun h => absurd ((nI_ltI (a := 2) (by decide) (by omega)).mp h) (by omega)) (fun h => ?_)
  refine blk s_X4_elderOrNew_91 ?_
  refine c_X4_elderOrNew_94 (ct_X4_fillLeaf (I := wr4 I C (nI k) (nI m) (-9) (-9)) hC40 hk hm wr4_2.1 wr4_2.2.1) rfl (by decide) rfl (Nat.le_of_ble_eq_true rfl) (by decide) rfl (rx ?_)
  refine blk s_X4_elderOrNew_97 ?_
  refine blk s_X4_elderOrNew_106 ?_
  refine r_X4_elderOrNew_116 (rxe rfl ?_ rfl)
  rw [nI_s]
theorem ct_X4_newGate {I : IT} {J : JT} {C k : Nat} (hC : I 1 9 = nI C) (hC40 : C < 40) (hk : 3 ≤ k) (hk8 : k < 100) (oa ob oc : Option Nat) (ha : ∀ p, oa = some p → p < C) (hb : ∀ p, ob = some p → p < C) (hc : ∀ p, oc = some p → p < C) (he : elder I C (nI k) (o2i oa) (o2i ob) (o2i oc) = none) :
    CN 62 RF mX4_elderOrNew 3 [.ref 1, .int (nI k), .int (o2i oa), .int (o2i ob), .int (o2i oc)] I J (RX (some (.int (nI C))) (up2 (tri (wr4 I C (nI k) (o2i oa) (o2i ob) (o2i oc)) C (orO (orO (orO 0 (I 6) oa) (I 6) ob) (I 6) oc) (orO (orO (orO 0 (I 7) oa) (I 7) ob) (I 7) oc) (mxO (mxO (mxO 0 (I 8) oa) (I 8) ob) (I 8) oc)) 1 9 (nI (C + 1))) (up2 (up2 J 9 C (adO (adO (adO 0 (J 9) oa) (J 9) ob) (J 9) oc)) 10 C (jnT k (tbO (J 10) oa) (tbO (J 10) ob) (tbO (J 10) oc)))) := by
  have e := cl C
  refine x4_past hC (by omega) he ?_
  refine blk s_X4_elderOrNew_35 (nm ?_)
  rw [hC]
  refine b_X4_elderOrNew_41 (fun h => ?_) (fun h => absurd ((nI_ltI (b := 40) (by omega) (by decide)).mpr hC40) h)
  have hi : vp_in (I 1 9) 40 := by rw [hC]; exact ib hC40
  refine blk s_X4_elderOrNew_47 (And.intro hi (And.intro hi (And.intro hi (And.intro hi (nm ?_)))))
  rw [hC, e]
  refine b_X4_elderOrNew_88 (fun h => ?_) (fun h => absurd ((nI_ltI (a := 2) (by decide) (by omega)).mpr (by omega)) h)
  refine blk s_X4_elderOrNew_100 ?_
  have w6 : wr4 I C (nI k) (o2i oa) (o2i ob) (o2i oc) 6 = I 6 := wr4_o (by decide) (by decide) (by decide) (by decide)
  have w7 : wr4 I C (nI k) (o2i oa) (o2i ob) (o2i oc) 7 = I 7 := wr4_o (by decide) (by decide) (by decide) (by decide)
  have w8 : wr4 I C (nI k) (o2i oa) (o2i ob) (o2i oc) 8 = I 8 := wr4_o (by decide) (by decide) (by decide) (by decide)
  refine c_X4_elderOrNew_103 (ct_X4_fillFromParts (I := wr4 I C (nI k) (o2i oa) (o2i ob) (o2i oc)) (C := C) ((congrFun (wr4_o (by decide) (by decide) (by decide) (by decide)) 9).trans hC) (Nat.le_refl C) hC40 hk8 oa ob oc ha hb hc wr4_2.1 wr4_2.2.1 wr4_2.2.2.1 wr4_2.2.2.2) rfl (by decide) rfl (Nat.le_of_ble_eq_true rfl) (by decide) rfl (rx ?_)
  refine blk s_X4_elderOrNew_106 ?_
  refine r_X4_elderOrNew_116 (rxe rfl ?_ rfl)
  rw [nI_s, w6, w7, w8]
