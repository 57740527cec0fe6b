/-! THE REFERENCE: before, distances, from where -/
section MOD3
variable {I : IT} {J : JT} {g : JT} {C : Nat} {nx : Nat → Option Nat} {os oc : Option Nat}
theorem i32_or0 (x : Int32) : x ||| 0 = x := by apply mb_ext; intro k _; rw [mb_or, mb_0, Bool.or_false]
theorem i32_0or (x : Int32) : 0 ||| x = x := by apply mb_ext; intro k _; rw [mb_or, mb_0, Bool.false_or]
theorem i32_oras (x y z : Int32) : x ||| y ||| z = x ||| (y ||| z) := by apply mb_ext; intro k _; rw [mb_or, mb_or, mb_or, mb_or, Bool.or_assoc]
theorem i32_orid (x : Int32) : x ||| x = x := by apply mb_ext; intro k _; rw [mb_or, Bool.or_self]
def bv (b : Bool) (k : Nat) : Int32 := match b with
  | true => (1 : Int32) <<< (nI k &&& 31)
  | false => 0
theorem bv_or (a b : Bool) (k : Nat) : bv a k ||| bv b k = bv (a || b) k := by
  cases a <;> cases b
  · exact i32_or0 _
  · exact i32_0or _
  · exact i32_or0 _
  · exact i32_orid _
theorem bsN_v (p : Nat → Bool) (k : Nat) : bsN p k ||| bv (p k) k = bsN p (k + 1) := rfl
theorem Tx_lt' (g : JT) (nx : Nat → Option Nat) : ∀ s r, s < 16 → r < 4 → Tx g nx s r < 16 := fun s r _ _ => Tx_lt g nx s r
theorem ct_X7_beforeOf (hB : RB I g C nx os oc) {x : Nat} (hx : x < 16) : CN 62 RF mX7_beforeOf 2 [.ref 39, .int (nI x)] I J (RX (some (.int (bs (fun s => rc (Tx g nx) s x)))) I J) := by
  generalize hp : (fun s => rc (Tx g nx) s x) = p
  have hp' : ∀ s, rc (Tx g nx) s x = p s := fun s => by rw [← hp]
  generalize hQ : RX (some (.int (bs p))) I J = Q
  have hQ' : Q (some (.int (bs p))) I J := by rw [← hQ]; exact rxq
  clear hQ
  refine cn_of (by decide) rfl (Nat.le_of_ble_eq_true rfl) ?_
  refine blk s_X7_beforeOf_0 (nm ?_)
  refine dn (P := fun k => EN 62 RF mX7_beforeOf 2 4 [(0, .ref 39), (1, .int (nI x)), (2, .int (bsN p k)), (3, .int (nI k))] [] I J Q) (N := 16) ?_ ?_ (Nat.zero_le _)
  · refine blk s_X7_beforeOf_4 (nm ?_)
    refine b_X7_beforeOf_7 (fun h => ?_) (fun h => absurd (Int32.le_refl _) h)
    refine blk s_X7_beforeOf_52 (nm ?_)
    exact r_X7_beforeOf_53 hQ'
  · intro k hk ih
    refine blk s_X7_beforeOf_4 (nm ?_)
    refine b_X7_beforeOf_7 (fun h => absurd h (nI_ge hk (by decide))) (fun h => ?_)
    refine blk s_X7_beforeOf_10 (nm ?_)
    refine en_L (show _ = [(0, .ref 39), (1, .int (nI x)), (2, .int (bsN p k ||| bv (anN (fun r => decide (Tx g nx k r = x)) 0) k)), (3, .int (nI k)), (4, .int (nI 0))] from by rw [show bv (anN (fun r => decide (Tx g nx k r = x)) 0) k = 0 from rfl, i32_or0]; rfl) ?_
    refine dn (P := fun r => EN 62 RF mX7_beforeOf 2 13 [(0, .ref 39), (1, .int (nI x)), (2, .int (bsN p k ||| bv (anN (fun r => decide (Tx g nx k r = x)) r) k)), (3, .int (nI k)), (4, .int (nI r))] [] I J Q) (N := 4) ?_ ?_ (Nat.zero_le _)
    · refine blk s_X7_beforeOf_13 (nm ?_)
      refine b_X7_beforeOf_16 (fun h => ?_) (fun h => absurd (Int32.le_refl _) h)
      refine blk s_X7_beforeOf_46 (nm ?_)
      refine wkt 4 (en_L ?_ ih)
      rw [nI_s, show anN (fun r => decide (Tx g nx k r = x)) 4 = p k from hp' k, bsN_v]; rfl
    · intro r hr ih2
      refine blk s_X7_beforeOf_13 (nm ?_)
      refine b_X7_beforeOf_16 (fun h => absurd h (nI_ge hr (by decide))) (fun h => ?_)
      refine blk s_X7_beforeOf_19 (nm ?_)
      refine c_X7_beforeOf_24 (ct_X7_stepOf hB hk hr) rfl (by decide) rfl (Nat.le_of_ble_eq_true rfl) (by decide) rfl (rx ?_)
      refine blk s_X7_beforeOf_27 (nm ?_)
      have back : ∀ y : Int32, y = bv (decide (Tx g nx k r = x)) k → EN 62 RF mX7_beforeOf 2 38 [(0, .ref 39), (1, .int (nI x)), (2, .int (bsN p k ||| bv (anN (fun r => decide (Tx g nx k r = x)) r) k)), (3, .int (nI k)), (4, .int (nI r))] [.int y, .int (bsN p k ||| bv (anN (fun r => decide (Tx g nx k r = x)) r) k)] I J Q := by
        intro y hy
        subst hy
        refine blk s_X7_beforeOf_38 (nm ?_)
        exact en_L (by rw [nI_s, i32_oras, bv_or]; rfl) ih2
      have hT := Tx_lt g nx k r
      refine b_X7_beforeOf_28 (fun h => ?_) (fun h => ?_)
      · refine blk s_X7_beforeOf_37 (nm ?_)
        refine back _ ?_
        rw [decide_eq_false (fun e => h (by rw [e]))]; rfl
      · refine blk s_X7_beforeOf_31 (nm ?_)
        refine back _ ?_
        rw [decide_eq_true ((nI_eq (by omega) (by omega)).mp h)]; rfl
theorem fl_cg {I : IT} {o : Nat} {G G' : Nat → Int32} {k : Nat} (h : ∀ t, t < k → G t = G' t) : fl I o G k = fl I o G' k := by
  funext a b; unfold fl
  split
  · split
    · exact h b (by assumption)
    · rfl
  · rfl
theorem fl_put {I : IT} {o : Nat} {G : Nat → Int32} {k m : Nat} {v : Int32} (hk : k < m) : up2 (fl I o G m) o k v = fl I o (fun t => if t = k then v else G t) m := by
  funext a b; unfold up2 fl
  by_cases ha : a = o
  · subst ha
    by_cases hb : b = k
    · subst hb; simp [hk]
    · simp [hb]
  · simp [ha]
/-- in a round: who has been met so far -/
def fE (D : Nat → Option Nat) (e : Nat → Bool) (T : Nat → Nat → Nat) (r s row t : Nat) : Option Nat := match D t with
  | some d => some d
  | none => if (anN (fun s' => e s' && rc T s' t) s || (e s && anN (fun r' => decide (T s r' = t)) row)) = true then some r else none
theorem fE_s {D : Nat → Option Nat} {e : Nat → Bool} {T : Nat → Nat → Nat} {r s row : Nat} (h : e s = false ∨ row = 4) (t : Nat) : fE D e T r s row t = fE D e T r (s + 1) 0 t := by
  unfold fE
  cases D t with
  | some d => rfl
  | none =>
    show (if _ then _ else _) = (if (((anN (fun s' => e s' && rc T s' t) s || (e s && rc T s t)) || (e (s + 1) && false)) = true) then some r else none)
    rw [Bool.and_false, Bool.or_false]
    cases h with
    | inl h => rw [h, Bool.false_and, Bool.false_and]
    | inr h => subst h; rfl
theorem fE_put {D : Nat → Option Nat} {e : Nat → Bool} {T : Nat → Nat → Nat} {r s row : Nat} (h : e s = true) (t : Nat) : (if t = T s row then (match fE D e T r s row t with | some d => some d | none => some r) else fE D e T r s row t) = fE D e T r s (row + 1) t := by
  unfold fE
  cases D t with
  | some d => by_cases ht : t = T s row
              · rw [if_pos ht]
              · rw [if_neg ht]
  | none =>
    show _ = (if (anN (fun s' => e s' && rc T s' t) s || (e s && (anN (fun r' => decide (T s r' = t)) row || decide (T s row = t)))) = true then some r else none)
    rw [h, Bool.true_and, Bool.true_and]
    by_cases ht : t = T s row
    · rw [if_pos ht, decide_eq_true ht.symm, Bool.or_true, Bool.or_true, if_pos rfl]
      show (match (if _ then some r else none) with | some d => some d | none => some r) = _
      split <;> rename_i h2
      · split at h2
        · exact h2.symm
        · cases h2
      · rfl
    · rw [if_neg ht, decide_eq_false (fun e => ht e.symm), Bool.or_false]
theorem fE_lt {D : Nat → Option Nat} {e : Nat → Bool} {T : Nat → Nat → Nat} {r s row t x : Nat} (hD : ∀ t d, D t = some d → d < r) (h : fE D e T r s row t = some x) : x ≤ r := by
  unfold fE at h
  cases hd : D t with
  | some d => rw [hd] at h; cases h; have := hD t _ hd; omega
  | none =>
    rw [hd] at h
    change (if _ then some r else none) = some x at h
    split at h
    · cases h; omega
    · cases h
theorem lvl_edge {rr : Nat → Nat → Bool} {S : Nat → Bool} {r s : Nat} : (lvl rr S r).1 s = true ↔ dsO rr S (r + 1) s = some r := by
  show _ ↔ (if (lvl rr S r).1 s = true then some r else dsO rr S r s) = some r
  constructor
  · intro h; rw [if_pos h]
  · intro h
    split at h
    · assumption
    · have := dsO_lt h; omega
theorem fE_0 {S : Nat → Bool} {T : Nat → Nat → Nat} {r : Nat} (t : Nat) : fE (dsO (rc T) S (r + 1)) (lvl (rc T) S r).1 T (r + 1) 0 0 t = dsO (rc T) S (r + 1) t := by
  unfold fE
  cases dsO (rc T) S (r + 1) t with
  | some d => rfl
  | none =>
    show (if (false || ((lvl (rc T) S r).1 0 && false)) = true then some (r + 1) else none) = none
    rw [Bool.and_false]; rfl
theorem fE_16 {S : Nat → Bool} {T : Nat → Nat → Nat} {r : Nat} (t : Nat) : fE (dsO (rc T) S (r + 1)) (lvl (rc T) S r).1 T (r + 1) 16 0 t = dsO (rc T) S (r + 2) t := by
  show _ = (if (im (rc T) (lvl (rc T) S r).1 t && !(lvl (rc T) S (r + 1)).2 t) = true then some (r + 1) else dsO (rc T) S (r + 1) t)
  rw [met_iff]
  unfold fE
  cases hd : dsO (rc T) S (r + 1) t with
  | some d => show some d = _; rw [show (some d).isSome = true from rfl]; simp
  | none =>
    show (if (im (rc T) (lvl (rc T) S r).1 t || ((lvl (rc T) S r).1 16 && false)) = true then some (r + 1) else none) = _
    rw [Bool.and_false, Bool.or_false]
    show _ = (if (im (rc T) (lvl (rc T) S r).1 t && !false) = true then some (r + 1) else none)
    rw [Bool.not_false, Bool.and_true]
def faI (I : IT) (D : Nat → Option Nat) : IT := fl I 48 (fun t => o2i (D t)) 16
theorem faI_cg {I : IT} {D D' : Nat → Option Nat} (h : ∀ t, t < 16 → D t = D' t) : faI I D = faI I D' := fl_cg fun t ht => by rw [h t ht]
theorem faI_o {I : IT} {D : Nat → Option Nat} {o : Nat} (h : o ≠ 48) : faI I D o = I o := fl_o h
theorem faI_48 {I : IT} {D : Nat → Option Nat} {s : Nat} (h : s < 16) : faI I D 48 s = o2i (D s) := fl_in h
theorem faI_B (hB : RB I g C nx os oc) (D : Nat → Option Nat) : RB (faI I D) g C nx os oc := RB_cg hB (by rw [faI_o (by decide)]; exact ⟨rfl, rfl, rfl⟩) (faI_o (by decide)) (faI_o (by decide))
theorem ct_X7_findFar (hB : RB I g C nx os oc) : CN 62 RF mX7_findFar 3 [.ref 39] I J (RX none (faI I (dsO (rc (Tx g nx)) (Sx g os) 16)) J) := by
  generalize hT : Tx g nx = T
  generalize hS : Sx g os = S
  generalize hQ : RX none (faI I (dsO (rc T) S 16)) J = Q
  have hQ' : Q none (faI I (dsO (rc T) S 16)) J := by rw [← hQ]; exact rxq
  clear hQ
  refine cn_of (by decide) rfl (Nat.le_of_ble_eq_true rfl) ?_
  refine blk s_X7_findFar_0 (nm ?_)
  refine en_I (fl_0 (I := I) (o := 48) (g := fun t => o2i (dsO (rc T) S 1 t))).symm ?_
  refine dn (P := fun k => EN 62 RF mX7_findFar 3 2 [(0, .ref 39), (1, .int (nI k))] [] (fl I 48 (fun t => o2i (dsO (rc T) S 1 t)) k) J Q) (N := 16) ?_ ?_ (Nat.zero_le _)
  · refine blk s_X7_findFar_2 (nm ?_)
    refine b_X7_findFar_5 (fun h => ?_) (fun h => absurd (Int32.le_refl _) h)
    refine blk s_X7_findFar_38 (nm ?_)
    refine dn1 (P := fun k => EN 62 RF mX7_findFar 3 40 [(0, .ref 39), (1, .int (nI k))] [] (faI I (dsO (rc T) S k)) J Q) (N := 16) (a := 1) ?_ ?_ (by decide)
    · refine blk s_X7_findFar_40 (nm ?_)
      refine b_X7_findFar_43 (fun h => ?_) (fun h => absurd (Int32.le_refl _) h)
      exact r_X7_findFar_129 hQ'
    · intro r1 h1 hk ih
      obtain ⟨r, rfl⟩ : ∃ r, r1 = r + 1 := ⟨r1 - 1, by omega⟩
      refine blk s_X7_findFar_40 (nm ?_)
      refine b_X7_findFar_43 (fun h => absurd h (nI_ge hk (by decide))) (fun h => ?_)
      refine blk s_X7_findFar_46 (nm ?_)
      generalize hD : dsO (rc T) S (r + 1) = D at *
      generalize he : (lvl (rc T) S r).1 = e at *
      have hDl : ∀ t d, D t = some d → d < r + 1 := fun t d h => by rw [← hD] at h; exact dsO_lt h
      have hed : ∀ s, e s = true ↔ D s = some r := fun s => by rw [← he, ← hD]; exact lvl_edge
      refine en_I (faI_cg (D' := fE D e T (r + 1) 0 0) fun t _ => by rw [← hD, ← he, fE_0]) ?_
      refine dn (P := fun s => EN 62 RF mX7_findFar 3 48 [(0, .ref 39), (1, .int (nI (r + 1))), (2, .int (nI s))] [] (faI I (fE D e T (r + 1) s 0)) J Q) (N := 16) ?_ ?_ (Nat.zero_le _)
      · refine blk s_X7_findFar_48 (nm ?_)
        refine b_X7_findFar_51 (fun h => ?_) (fun h => absurd (Int32.le_refl _) h)
        refine blk s_X7_findFar_123 (nm ?_)
        refine wkt 2 (en_L (by rw [nI_s]; rfl) (en_I (faI_cg (D' := dsO (rc T) S (r + 1 + 1)) fun t _ => by rw [← hD, ← he, fE_16]) ih))
      · intro s hs ih2
        refine blk s_X7_findFar_48 (nm ?_)
        refine b_X7_findFar_51 (fun h => absurd h (nI_ge hs (by decide))) (fun h => ?_)
        refine blk s_X7_findFar_54 (nm ?_)
        have out : ∀ row, (e s = false ∨ row = 4) → EN 62 RF mX7_findFar 3 117 [(0, .ref 39), (1, .int (nI (r + 1))), (2, .int (nI s)), (3, .int (nI row))] [] (faI I (fE D e T (r + 1) s row)) J Q := by
          intro row hrow
          refine blk s_X7_findFar_117 (nm ?_)
          exact wkt 3 (en_L (by rw [nI_s]; rfl) (en_I (faI_cg (D' := fE D e T (r + 1) (s + 1) 0) fun t _ => fE_s hrow t) ih2))
        refine dn (P := fun row => EN 62 RF mX7_findFar 3 56 [(0, .ref 39), (1, .int (nI (r + 1))), (2, .int (nI s)), (3, .int (nI row))] [] (faI I (fE D e T (r + 1) s row)) J Q) (N := 4) ?_ ?_ (Nat.zero_le _)
        · refine blk s_X7_findFar_56 (nm ?_)
          refine b_X7_findFar_58 (fun h => ?_) (fun h => absurd (Int32.le_refl _) h)
          exact out 4 (Or.inr rfl)
        · intro row hrow ih3
          refine blk s_X7_findFar_56 (nm ?_)
          refine b_X7_findFar_58 (fun h => absurd h (nI_ge hrow (by decide))) (fun h => ?_)
          refine blk s_X7_findFar_61 (And.intro (ib hs) (nm ?_))
          rw [cl s, faI_48 hs, nI_pred r]
          refine b_X7_findFar_70 (fun h => ?_) (fun h => ?_)
          · refine out row (Or.inl ?_)
            cases hes : e s
            · rfl
            · refine absurd ?_ h
              have := (hed s).mp hes
              unfold fE; rw [this]; rfl
          · have hes : e s = true := by
              have h' := h
              refine (hed s).mpr ?_
              cases hd : D s with
              | some d =>
                have h2 : o2i (some d) = nI r := by rw [← h']; unfold fE; rw [hd]
                have := hDl s d hd
                rw [(nI_eq (a := d) (b := r) (by omega) (by omega)).mp h2]
              | none =>
                exfalso
                cases hf : fE D e T (r + 1) s row s with
                | none => rw [hf] at h'; exact o2i_ne (k := r) (by omega) h'.symm
                | some x =>
                  have hx : x = r + 1 := by
                    unfold fE at hf; rw [hd] at hf
                    change (if _ then some (r + 1) else none) = some x at hf
                    split at hf
                    · cases hf; rfl
                    · cases hf
                  rw [hf, hx] at h'
                  have := (nI_eq (a := r + 1) (b := r) (by omega) (by omega)).mp h'
                  omega
            refine blk s_X7_findFar_73 (nm ?_)
            refine c_X7_findFar_76 (ct_X7_stepOf (faI_B hB _) hs hrow) rfl (by decide) rfl (Nat.le_of_ble_eq_true rfl) (by decide) rfl (rx ?_)
            rw [hT]
            have hto : T s row < 16 := by rw [← hT]; exact Tx_lt g nx s row
            refine blk s_X7_findFar_79 (And.intro (ib hto) (nm ?_))
            rw [cl (T s row), faI_48 hto]
            have back : ∀ y : Int32, y = o2i (match fE D e T (r + 1) s row (T s row) with | some d => some d | none => some (r + 1)) → EN 62 RF mX7_findFar 3 110 [(0, .ref 39), (1, .int (nI (r + 1))), (2, .int (nI s)), (3, .int (nI row)), (4, .int (nI (T s row)))] [.int y, .int (nI (T s row)), .ref 48] (faI I (fE D e T (r + 1) s row)) J Q := by
              intro y hy
              subst hy
              refine blk s_X7_findFar_110 (And.intro (ib hto) (nm ?_))
              rw [cl (T s row)]
              refine wkt 4 (en_L (by rw [nI_s]; rfl) (en_I ?_ ih3))
              unfold faI
              rw [fl_put hto]
              refine fl_cg fun t ht => ?_
              rw [← fE_put hes t]
              by_cases htt : t = T s row
              · rw [if_pos htt, if_pos htt, htt]
              · rw [if_neg htt, if_neg htt]
            refine b_X7_findFar_96 (fun h => ?_) (fun h => ?_)
            · refine blk s_X7_findFar_103 (And.intro (ib hto) (nm ?_))
              rw [cl (T s row), faI_48 hto]
              refine back _ ?_
              cases hf : fE D e T (r + 1) s row (T s row) with
              | none => rw [hf] at h; exact absurd rfl h
              | some d => rfl
            · refine blk s_X7_findFar_99 (nm ?_)
              refine back _ ?_
              cases hf : fE D e T (r + 1) s row (T s row) with
              | none => rfl
              | some d =>
                rw [hf] at h
                have := fE_lt hDl hf
                exact absurd h (o2i_ne (by omega))
  · intro k hk ih
    refine blk s_X7_findFar_2 (nm ?_)
    refine b_X7_findFar_5 (fun h => absurd h (nI_ge hk (by decide))) (fun h => ?_)
    refine blk s_X7_findFar_8 (nm ?_)
    have hB' : RB (fl I 48 (fun t => o2i (dsO (rc T) S 1 t)) k) g C nx os oc := RB_cg hB (by rw [fl_o (by decide)]; exact ⟨rfl, rfl, rfl⟩) (fl_o (by decide)) (fl_o (by decide))
    refine c_X7_findFar_14 (ct_X7_startSet hB') rfl (by decide) rfl (Nat.le_of_ble_eq_true rfl) (by decide) rfl (rx ?_)
    refine blk s_X7_findFar_17 (nm ?_)
    refine c_X7_findFar_18 (ct_X7_isIn _ (by omega)) rfl (by decide) rfl (Nat.le_of_ble_eq_true rfl) (rx ?_)
    refine blk s_X7_findFar_21 (nm ?_)
    rw [mb_bs1 _ hk, hS]
    have back : ∀ y : Int32, y = o2i (dsO (rc T) S 1 k) → EN 62 RF mX7_findFar 3 31 [(0, .ref 39), (1, .int (nI k))] [.int y, .int (nI k), .ref 48] (fl I 48 (fun t => o2i (dsO (rc T) S 1 t)) k) J Q := by
      intro y hy
      refine blk s_X7_findFar_31 (And.intro (ib hk) (nm ?_))
      rw [cl k]
      exact en_L (by rw [nI_s]) (en_I (fl_s hy) ih)
    refine b_X7_findFar_22 (fun h => ?_) (fun h => ?_)
    · refine blk s_X7_findFar_29 (nm ?_)
      refine back _ ?_
      show _ = o2i (if S k = true then some 0 else none)
      rw [if_neg (fun e => h (by rw [e]; rfl))]; rfl
    · refine blk s_X7_findFar_25 (nm ?_)
      refine back _ ?_
      show _ = o2i (if S k = true then some 0 else none)
      rw [if_pos ((b2i_1 _).mp h)]; rfl
theorem ct_X7_metSet {D : Nat → Option Nat} (hD : ∀ s, s < 16 → I 48 s = o2i (D s)) (hl : ∀ s d, D s = some d → d < 2 ^ 31) : CN 62 RF mX7_metSet 0 [.ref 39] I J (RX (some (.int (bs (fun s => (D s).isSome)))) I J) := by
  generalize hp : (fun s => (D s).isSome) = p
  have hp' : ∀ s, (D s).isSome = p s := fun s => by rw [← hp]
  generalize hQ : RX (some (.int (bs p))) I J = Q
  have hQ' : Q (some (.int (bs p))) I J := by rw [← hQ]; exact rxq
  clear hQ
  refine cn_of (by decide) rfl (Nat.le_of_ble_eq_true rfl) ?_
  refine blk s_X7_metSet_0 (nm ?_)
  refine dn (P := fun k => EN 62 RF mX7_metSet 0 4 [(0, .ref 39), (1, .int (bsN p k)), (2, .int (nI k))] [] I J Q) (N := 16) ?_ ?_ (Nat.zero_le _)
  · refine blk s_X7_metSet_4 (nm ?_)
    refine b_X7_metSet_7 (fun h => ?_) (fun h => absurd (Int32.le_refl _) h)
    refine blk s_X7_metSet_37 (nm ?_)
    exact r_X7_metSet_38 hQ'
  · intro k hk ih
    refine blk s_X7_metSet_4 (nm ?_)
    refine b_X7_metSet_7 (fun h => absurd h (nI_ge hk (by decide))) (fun h => ?_)
    refine blk s_X7_metSet_10 (And.intro (ib hk) (nm ?_))
    rw [cl k, hD k hk]
    have back : ∀ y : Int32, y = bv (p k) k → EN 62 RF mX7_metSet 0 29 [(0, .ref 39), (1, .int (bsN p k)), (2, .int (nI k))] [.int y, .int (bsN p k)] I J Q := by
      intro y hy
      subst hy
      refine blk s_X7_metSet_29 (nm ?_)
      exact en_L (by rw [nI_s, bsN_v]) ih
    cases hd : D k with
    | none =>
      refine b_X7_metSet_19 (fun h => absurd rfl h) (fun h => ?_)
      refine blk s_X7_metSet_22 (nm ?_)
      exact back _ (by rw [← hp' k, hd]; rfl)
    | some d =>
      refine b_X7_metSet_19 (fun h => ?_) (fun h => absurd h (o2i_ne (hl k d hd)))
      refine blk s_X7_metSet_26 (nm ?_)
      exact back _ (by rw [← hp' k, hd]; rfl)
theorem ct_X7_greatestFar : CN 62 RF mX7_greatestFar 0 [.ref 39] I J (RX (some (.int (gdF (I 48) 16))) I J) := by
  generalize hQ : RX (some (.int (gdF (I 48) 16))) I J = Q
  have hQ' : Q (some (.int (gdF (I 48) 16))) I J := by rw [← hQ]; exact rxq
  clear hQ
  refine cn_of (by decide) rfl (Nat.le_of_ble_eq_true rfl) ?_
  refine blk s_X7_greatestFar_0 (nm ?_)
  refine dn (P := fun k => EN 62 RF mX7_greatestFar 0 5 [(0, .ref 39), (1, .int (gdF (I 48) k)), (2, .int (nI k))] [] I J Q) (N := 16) ?_ ?_ (Nat.zero_le _)
  · refine blk s_X7_greatestFar_5 (nm ?_)
    refine b_X7_greatestFar_8 (fun h => ?_) (fun h => absurd (Int32.le_refl _) h)
    refine blk s_X7_greatestFar_38 (nm ?_)
    exact r_X7_greatestFar_39 hQ'
  · intro k hk ih
    refine blk s_X7_greatestFar_5 (nm ?_)
    refine b_X7_greatestFar_8 (fun h => absurd h (nI_ge hk (by decide))) (fun h => ?_)
    refine blk s_X7_greatestFar_11 (And.intro (ib hk) (nm ?_))
    rw [cl k]
    have back : ∀ y : Int32, y = gdF (I 48) (k + 1) → EN 62 RF mX7_greatestFar 0 31 [(0, .ref 39), (1, .int (gdF (I 48) k)), (2, .int (nI k))] [.int y] I J Q := by
      intro y hy
      subst hy
      refine blk s_X7_greatestFar_31 (nm ?_)
      exact en_L (by rw [nI_s]) ih
    refine b_X7_greatestFar_18 (fun h => ?_) (fun h => ?_)
    · refine blk s_X7_greatestFar_30 (nm ?_)
      exact back _ (if_neg (Int32.not_lt.mpr h)).symm
    · refine blk s_X7_greatestFar_21 (And.intro (ib hk) (nm ?_))
      rw [cl k]
      exact back _ (if_pos (Int32.not_le.mp h)).symm
theorem ct_X7_wayLong (hB : RB I g C nx os oc) {D : Nat → Option Nat} (hD : ∀ s, s < 16 → I 48 s = o2i (D s)) (hl : ∀ s d, D s = some d → d < 16) : CN 62 RF mX7_wayLong 3 [.ref 39] I J (RX (some (.int (o2i (lbO (Bx g oc) D 16)))) I J) := by
  generalize hBx : Bx g oc = B
  rw [← lbO_F (N := 16) (by decide) hl 16]
  generalize hp : (fun s => B s && (D s).isSome) = p
  have hp' : ∀ s, (B s && (D s).isSome) = p s := fun s => by rw [← hp]
  generalize hE : (fun s => o2i (D s)) = E
  have hE' : ∀ s, o2i (D s) = E s := fun s => by rw [← hE]
  generalize hQ : RX (some (.int (lbF p E 16))) I J = Q
  have hQ' : Q (some (.int (lbF p E 16))) I J := by rw [← hQ]; exact rxq
  clear hQ
  refine cn_of (by decide) rfl (Nat.le_of_ble_eq_true rfl) ?_
  refine blk s_X7_wayLong_0 (nm ?_)
  refine dn (P := fun k => EN 62 RF mX7_wayLong 3 5 [(0, .ref 39), (1, .int (lbF p E k)), (2, .int (nI k))] [] I J Q) (N := 16) ?_ ?_ (Nat.zero_le _)
  · refine blk s_X7_wayLong_5 (nm ?_)
    refine b_X7_wayLong_8 (fun h => ?_) (fun h => absurd (Int32.le_refl _) h)
    refine blk s_X7_wayLong_77 (nm ?_)
    exact r_X7_wayLong_78 hQ'
  · intro k hk ih
    refine blk s_X7_wayLong_5 (nm ?_)
    refine b_X7_wayLong_8 (fun h => absurd h (nI_ge hk (by decide))) (fun h => ?_)
    refine blk s_X7_wayLong_11 (nm ?_)
    refine c_X7_wayLong_12 (ct_X7_brokenSet hB) rfl (by decide) rfl (Nat.le_of_ble_eq_true rfl) (by decide) rfl (rx ?_)
    refine blk s_X7_wayLong_15 (nm ?_)
    refine c_X7_wayLong_16 (ct_X7_isIn _ (by omega)) rfl (by decide) rfl (Nat.le_of_ble_eq_true rfl) (rx ?_)
    refine blk s_X7_wayLong_19 (nm ?_)
    rw [mb_bs1 _ hk, hBx]
    have back : ∀ (y : Int32) (L : LT), y = lbF p E (k + 1) → L.take 3 = [(0, .ref 39), (1, .int (lbF p E k)), (2, .int (nI k))] → EN 62 RF mX7_wayLong 3 70 L [.int y] I J Q := by
      intro y L hy hL
      subst hy
      refine wkt 3 ?_
      rw [hL]
      refine blk s_X7_wayLong_70 (nm ?_)
      exact en_L (by rw [nI_s]) ih
    have mid : ∀ (b : Bool), b = p k → EN 62 RF mX7_wayLong 3 39 [(0, .ref 39), (1, .int (lbF p E k)), (2, .int (nI k))] [.int (b2i b)] I J Q := by
      intro b hb
      refine blk s_X7_wayLong_39 (nm ?_)
      refine b_X7_wayLong_41 (fun h => ?_) (fun h => ?_)
      · refine blk s_X7_wayLong_69 (nm ?_)
        refine back _ _ ?_ rfl
        refine (if_neg fun h2 => ?_).symm
        rw [← hb, (b2i_0 b).mp h] at h2; cases h2.1
      · have hpk : p k = true := by rw [← hb]; exact b2t h
        refine blk s_X7_wayLong_44 (nm ?_)
        have take : EN 62 RF mX7_wayLong 3 60 [(0, .ref 39), (1, .int (lbF p E k)), (2, .int (nI k)), (3, .int (b2i b))] [] I J Q ∨ ¬ (lbF p E k = -9 ∨ E k < lbF p E k) := by
          by_cases hc : lbF p E k = -9 ∨ E k < lbF p E k
          · left
            refine blk s_X7_wayLong_60 (And.intro (ib hk) (nm ?_))
            rw [cl k, hD k hk, hE' k]
            refine back _ _ ?_ rfl
            exact (if_pos ⟨hpk, hc⟩).symm
          · exact Or.inr hc
        refine b_X7_wayLong_47 (fun h2 => ?_) (fun h2 => ?_)
        · exact take.resolve_right (fun hn => hn (Or.inl h2))
        · refine blk s_X7_wayLong_50 (And.intro (ib hk) (nm ?_))
          rw [cl k, hD k hk, hE' k]
          refine b_X7_wayLong_57 (fun h3 => ?_) (fun h3 => ?_)
          · refine blk s_X7_wayLong_69 (nm ?_)
            refine back _ _ ?_ rfl
            exact (if_neg fun hc => hc.2.elim h2 (fun h4 => absurd h3 (Int32.not_le.mpr h4))).symm
          · exact take.resolve_right (fun hn => hn (Or.inr (Int32.not_le.mp h3)))
    refine b_X7_wayLong_20 (fun h => ?_) (fun h => ?_)
    · refine blk s_X7_wayLong_38 (nm ?_)
      refine mid false ?_
      rw [← hp' k]
      cases hb : B k
      · rfl
      · rw [hb] at h; exact absurd rfl h
    · refine blk s_X7_wayLong_23 (And.intro (ib hk) (nm ?_))
      rw [cl k, hD k hk]
      have hb := (b2i_1 _).mp h
      cases hd : D k with
      | none =>
        refine b_X7_wayLong_31 (fun h => ?_) (fun h => absurd rfl h)
        refine blk s_X7_wayLong_38 (nm ?_)
        exact mid false (by rw [← hp' k, hd, hb]; rfl)
      | some d =>
        have := hl k d hd
        refine b_X7_wayLong_31 (fun h => absurd h (o2i_ne (by omega))) (fun h => ?_)
        refine blk s_X7_wayLong_34 (nm ?_)
        exact mid true (by rw [← hp' k, hd, hb]; rfl)
theorem ct_X7_cameFrom (hB : RB I g C nx os oc) {w : Nat} (hw : w < 2 ^ 31) : CN 62 RF mX7_cameFrom 3 [.ref 39, .int (nI w)] I J (RX (some (.int (bs (soN (rc (Tx g nx)) (Bx g oc) w)))) I J) := by
  generalize hBx : Bx g oc = B
  generalize hT : Tx g nx = T
  generalize hQ : RX (some (.int (bs (soN (rc T) B w)))) I J = Q
  have hQ' : Q (some (.int (bs (soN (rc T) B w)))) I J := by rw [← hQ]; exact rxq
  clear hQ
  refine cn_of (by decide) rfl (Nat.le_of_ble_eq_true rfl) ?_
  refine blk s_X7_cameFrom_0 (nm ?_)
  refine c_X7_cameFrom_1 (ct_X7_brokenSet hB) rfl (by decide) rfl (Nat.le_of_ble_eq_true rfl) (by decide) rfl (rx ?_)
  rw [hBx]
  refine blk s_X7_cameFrom_4 (nm ?_)
  refine dn (P := fun m => EN 62 RF mX7_cameFrom 3 7 [(0, .ref 39), (1, .int (nI w)), (2, .int (bs (soN (rc T) B m))), (3, .int (nI m))] [] I J Q) (N := w) (a := 0) ?_ ?_ (Nat.zero_le _)
  · refine blk s_X7_cameFrom_7 (nm ?_)
    refine b_X7_cameFrom_9 (fun h => ?_) (fun h => absurd (Int32.le_refl _) h)
    refine blk s_X7_cameFrom_65 (nm ?_)
    exact r_X7_cameFrom_66 hQ'
  · intro m hm ih
    refine blk s_X7_cameFrom_7 (nm ?_)
    refine b_X7_cameFrom_9 (fun h => absurd h (nI_ge hm hw)) (fun h => ?_)
    refine blk s_X7_cameFrom_12 (nm ?_)
    generalize hp : soN (rc T) B m = p at *
    have e0 : (0 : Int32) = bs (fun s => anN (fun t => rc T s t && p t) 0) := zero_bs
    refine en_L (show _ = [(0, .ref 39), (1, .int (nI w)), (2, .int (bs p)), (3, .int (nI m)), (4, .int (bs (fun s => anN (fun t => rc T s t && p t) 0))), (5, .int (nI 0))] from by rw [← e0]; rfl) ?_
    refine dn (P := fun k => EN 62 RF mX7_cameFrom 3 18 [(0, .ref 39), (1, .int (nI w)), (2, .int (bs p)), (3, .int (nI m)), (4, .int (bs (fun s => anN (fun t => rc T s t && p t) k))), (5, .int (nI k))] [] I J Q) (N := 16) (a := 0) ?_ ?_ (Nat.zero_le _)
    · refine blk s_X7_cameFrom_18 (nm ?_)
      refine b_X7_cameFrom_22 (fun h => ?_) (fun h => absurd (Int32.le_refl _) h)
      refine blk s_X7_cameFrom_56 (nm ?_)
      refine wkt 4 (en_L ?_ ih)
      rw [nI_s]
      show [(0, Value.ref 39), (1, .int (nI w)), (2, .int (bs (so (rc T) p))), (3, .int (nI (m + 1)))] = [(0, .ref 39), (1, .int (nI w)), (2, .int (bs (so (rc T) (soN (rc T) B m)))), (3, .int (nI (m + 1)))]
      rw [hp]
    · intro k hk ih2
      refine blk s_X7_cameFrom_18 (nm ?_)
      refine b_X7_cameFrom_22 (fun h => absurd h (nI_ge hk (by decide))) (fun h => ?_)
      refine blk s_X7_cameFrom_25 (nm ?_)
      refine c_X7_cameFrom_30 (ct_X7_isIn _ (by omega)) rfl (by decide) rfl (Nat.le_of_ble_eq_true rfl) (rx ?_)
      refine blk s_X7_cameFrom_33 (nm ?_)
      rw [mb_bs1 _ hk]
      have back : ∀ y : Int32, y = bs (fun s => rc T s k && p k) → EN 62 RF mX7_cameFrom 3 47 [(0, .ref 39), (1, .int (nI w)), (2, .int (bs p)), (3, .int (nI m)), (4, .int (bs (fun s => anN (fun t => rc T s t && p t) k))), (5, .int (nI k))] [.int y, .int (bs (fun s => anN (fun t => rc T s t && p t) k))] I J Q := by
        intro y hy
        subst hy
        refine blk s_X7_cameFrom_47 (nm ?_)
        rw [bs_or]
        exact en_L (by rw [nI_s]; rfl) ih2
      refine b_X7_cameFrom_34 (fun h => ?_) (fun h => ?_)
      · refine blk s_X7_cameFrom_46 (nm ?_)
        refine back _ ?_
        have : p k = false := by
          cases hb : p k
          · rfl
          · rw [hb] at h; exact absurd rfl h
        rw [this, zero_bs]
        exact bsN_cg fun s _ => (Bool.and_false _).symm
      · refine blk s_X7_cameFrom_37 (nm ?_)
        refine c_X7_cameFrom_40 (ct_X7_beforeOf hB hk) rfl (by decide) rfl (Nat.le_of_ble_eq_true rfl) (by decide) rfl (rx ?_)
        refine blk s_X7_cameFrom_43 (nm ?_)
        refine back _ ?_
        rw [(b2i_1 _).mp h, hT]
        exact bsN_cg fun s _ => (Bool.and_true _).symm
end MOD3
