/-! THE REFERENCE: before, distances, from where -/
section MOD3
variable {I : IT} {J : JT} {g : JT} {C : Nat} {nx : Nat → Option Nat} {os oc : Option Nat}
theorem i32_or0 (x : Int32) : x ||| 0 = x := by apply mb_ext; intro k _; rw [mb_or, mb_0, Bool.or_false]
theorem i32_0or (x : Int32) : 0 ||| x = x := by apply mb_ext; intro k _; rw [mb_or, mb_0, Bool.false_or]
theorem i32_oras (x y z : Int32) : x ||| y ||| z = x ||| (y ||| z) := by apply mb_ext; intro k _; rw [mb_or, mb_or, mb_or, mb_or, Bool.or_assoc]
theorem i32_orid (x : Int32) : x ||| x = x := by apply mb_ext; intro k _; rw [mb_or, Bool.or_self]
def bv (b : Bool) (k : Nat) : Int32 := match b with
  | true => (1 : Int32) <<< (nI k &&& 31)
  | false => 0
theorem bv_or (a b : Bool) (k : Nat) : bv a k ||| bv b k = bv (a || b) k := by
  cases a <;> cases b
  · exact i32_or0 _
  · exact i32_0or _
  · exact i32_or0 _
  · exact i32_orid _
theorem bsN_v (p : Nat → Bool) (k : Nat) : bsN p k ||| bv (p k) k = bsN p (k + 1) := rfl
theorem Tx_lt' (g : JT) (nx : Nat → Option Nat) : ∀ s r, s < 16 → r < 4 → Tx g nx s r < 16 := fun s r _ _ => Tx_lt g nx s r
theorem ct_X7_beforeOf (hB : RB I g C nx os oc) {x : Nat} (hx : x < 16) : CN 62 RF mX7_beforeOf 2 [.ref 39, .int (nI x)] I J (RX (some (.int (bs (fun s => rc (Tx g nx) s x)))) I J) := by
  generalize hp : (fun s => rc (Tx g nx) s x) = p
  have hp' : ∀ s, rc (Tx g nx) s x = p s := fun s => by rw [← hp]
  generalize hQ : RX (some (.int (bs p))) I J = Q
  have hQ' : Q (some (.int (bs p))) I J := by rw [← hQ]; exact rxq
  clear hQ
  refine cn_of (by decide) rfl (Nat.le_of_ble_eq_true rfl) ?_
  refine blk s_X7_beforeOf_0 (nm ?_)
  refine dn (P := fun k => EN 62 RF mX7_beforeOf 2 4 [(0, .ref 39), (1, .int (nI x)), (2, .int (bsN p k)), (3, .int (nI k))] [] I J Q) (N := 16) ?_ ?_ (Nat.zero_le _)
  · refine blk s_X7_beforeOf_4 (nm ?_)
    refine b_X7_beforeOf_7 (fun h => ?_) (fun h => absurd (Int32.le_refl _) h)
    refine blk s_X7_beforeOf_52 (nm ?_)
    exact r_X7_beforeOf_53 hQ'
  · intro k hk ih
    refine blk s_X7_beforeOf_4 (nm ?_)
    refine b_X7_beforeOf_7 (fun h => absurd h (nI_ge hk (by decide))) (fun h => ?_)
    refine blk s_X7_beforeOf_10 (nm ?_)
    refine en_L (show _ = [(0, .ref 39), (1, .int (nI x)), (2, .int (bsN p k ||| bv (anN (fun r => decide (Tx g nx k r = x)) 0) k)), (3, .int (nI k)), (4, .int (nI 0))] from by rw [show bv (anN (fun r => decide (Tx g nx k r = x)) 0) k = 0 from rfl, i32_or0]; rfl) ?_
    refine dn (P := fun r => EN 62 RF mX7_beforeOf 2 13 [(0, .ref 39), (1, .int (nI x)), (2, .int (bsN p k ||| bv (anN (fun r => decide (Tx g nx k r = x)) r) k)), (3, .int (nI k)), (4, .int (nI r))] [] I J Q) (N := 4) ?_ ?_ (Nat.zero_le _)
    · refine blk s_X7_beforeOf_13 (nm ?_)
      refine b_X7_beforeOf_16 (fun h => ?_) (fun h => absurd (Int32.le_refl _) h)
      refine blk s_X7_beforeOf_46 (nm ?_)
      refine wkt 4 (en_L ?_ ih)
      rw [nI_s, show anN (fun r => decide (Tx g nx k r = x)) 4 = p k from hp' k, bsN_v]; rfl
    · intro r hr ih2
      refine blk s_X7_beforeOf_13 (nm ?_)
      refine b_X7_beforeOf_16 (fun h => absurd h (nI_ge hr (by decide))) (fun h => ?_)
      refine blk s_X7_beforeOf_19 (nm ?_)
      refine c_X7_beforeOf_24 (ct_X7_stepOf hB hk hr) rfl (by decide) rfl (Nat.le_of_ble_eq_true rfl) (by decide) rfl (rx ?_)
      refine blk s_X7_beforeOf_27 (nm ?_)
      have back : ∀ y : Int32, y = bv (decide (Tx g nx k r = x)) k → EN 62 RF mX7_beforeOf 2 38 [(0, .ref 39), (1, .int (nI x)), (2, .int (bsN p k ||| bv (anN (fun r => decide (Tx g nx k r = x)) r) k)), (3, .int (nI k)), (4, .int (nI r))] [.int y, .int (bsN p k ||| bv (anN (fun r => decide (Tx g nx k r = x)) r) k)] I J Q := by
        intro y hy
        subst hy
        refine blk s_X7_beforeOf_38 (nm ?_)
        exact en_L (by rw [nI_s, i32_oras, bv_or]; rfl) ih2
      have hT := Tx_lt g nx k r
      refine b_X7_beforeOf_28 (fun h => ?_) (fun h => ?_)
      · refine blk s_X7_beforeOf_37 (nm ?_)
        refine back _ ?_
        rw [decide_eq_false (fun e => h (by rw [e]))]; rfl
      · refine blk s_X7_beforeOf_31 (nm ?_)
        refine back _ ?_
        rw [decide_eq_true ((nI_eq (by omega) (by omega)).mp (Classical.not_not.mp h))]; rfl
theorem fl_cg {I : IT} {o : Nat} {G G' : Nat → Int32} {k : Nat} (h : ∀ t, t < k → G t = G' t) : fl I o G k = fl I o G' k := by
  funext a b; unfold fl
  split
  · split
    · exact h b (by assumption)
    · rfl
  · rfl
theorem fl_put {I : IT} {o : Nat} {G : Nat → Int32} {k m : Nat} {v : Int32} (hk : k < m) : up2 (fl I o G m) o k v = fl I o (fun t => if t = k then v else G t) m := by
  funext a b; unfold up2 fl
  by_cases ha : a = o
  · subst ha
    by_cases hb : b = k
    · subst hb; simp [hk]
    · simp [hb]
  · simp [ha]
/-- in a round: who has been met so far -/
def fE (D : Nat → Option Nat) (e : Nat → Bool) (T : Nat → Nat → Nat) (r s row t : Nat) : Option Nat := match D t with
  | some d => some d
  | none => if (anN (fun s' => e s' && rc T s' t) s || (e s && anN (fun r' => decide (T s r' = t)) row)) = true then some r else none
theorem fE_s {D : Nat → Option Nat} {e : Nat → Bool} {T : Nat → Nat → Nat} {r s row : Nat} (h : e s = false ∨ row = 4) (t : Nat) : fE D e T r s row t = fE D e T r (s + 1) 0 t := by
  unfold fE
  cases D t with
  | some d => rfl
  | none =>
    show (if _ then _ else _) = (if (((anN (fun s' => e s' && rc T s' t) s || (e s && rc T s t)) || (e (s + 1) && false)) = true) then some r else none)
    rw [Bool.and_false, Bool.or_false]
    cases h with
    | inl h => rw [h, Bool.false_and, Bool.false_and]
    | inr h => subst h; rfl
theorem fE_put {D : Nat → Option Nat} {e : Nat → Bool} {T : Nat → Nat → Nat} {r s row : Nat} (h : e s = true) (t : Nat) : (if t = T s row then (match fE D e T r s row t with | some d => some d | none => some r) else fE D e T r s row t) = fE D e T r s (row + 1) t := by
  unfold fE
  cases D t with
  | some d => by_cases ht : t = T s row
              · rw [if_pos ht]
              · rw [if_neg ht]
  | none =>
    show _ = (if (anN (fun s' => e s' && rc T s' t) s || (e s && (anN (fun r' => decide (T s r' = t)) row || decide (T s row = t)))) = true then some r else none)
    rw [h, Bool.true_and, Bool.true_and]
    by_cases ht : t = T s row
    · rw [if_pos ht, decide_eq_true ht.symm, Bool.or_true, Bool.or_true, if_pos rfl]
      show (match (if _ then some r else none) with | some d => some d | none => some r) = _
      split <;> rename_i h2
      · split at h2
        · exact h2.symm
        · cases h2
      · rfl
    · rw [if_neg ht, decide_eq_false (fun e => ht e.symm), Bool.or_false]
theorem fE_lt {D : Nat → Option Nat} {e : Nat → Bool} {T : Nat → Nat → Nat} {r s row t x : Nat} (hD : ∀ t d, D t = some d → d < r) (h : fE D e T r s row t = some x) : x ≤ r := by
  unfold fE at h
  cases hd : D t with
  | some d => rw [hd] at h; cases h; have := hD t d hd; omega
  | none =>
    rw [hd] at h
    change (if _ then some r else none) = some x at h
    split at h
    · cases h; omega
    · cases h
theorem lvl_edge {rr : Nat → Nat → Bool} {S : Nat → Bool} {r s : Nat} : (lvl rr S r).1 s = true ↔ dsO rr S (r + 1) s = some r := by
  show _ ↔ (if (lvl rr S r).1 s = true then some r else dsO rr S r s) = some r
  constructor
  · intro h; rw [if_pos h]
  · intro h
    split at h
    · assumption
    · have := dsO_lt h; omega
theorem fE_0 {S : Nat → Bool} {T : Nat → Nat → Nat} {r : Nat} (t : Nat) : fE (dsO (rc T) S (r + 1)) (lvl (rc T) S r).1 T (r + 1) 0 0 t = dsO (rc T) S (r + 1) t := by
  unfold fE
  cases dsO (rc T) S (r + 1) t with
  | some d => rfl
  | none =>
    show (if (false || ((lvl (rc T) S r).1 0 && false)) = true then some (r + 1) else none) = none
    rw [Bool.and_false]; rfl
theorem fE_16 {S : Nat → Bool} {T : Nat → Nat → Nat} {r : Nat} (t : Nat) : fE (dsO (rc T) S (r + 1)) (lvl (rc T) S r).1 T (r + 1) 16 0 t = dsO (rc T) S (r + 2) t := by
  show _ = (if (im (rc T) (lvl (rc T) S r).1 t && !(lvl (rc T) S (r + 1)).2 t) = true then some (r + 1) else dsO (rc T) S (r + 1) t)
  rw [met_iff]
  unfold fE
  cases hd : dsO (rc T) S (r + 1) t with
  | some d => show some d = _; rw [show (some d).isSome = true from rfl]; simp
  | none =>
    show (if (im (rc T) (lvl (rc T) S r).1 t || ((lvl (rc T) S r).1 16 && false)) = true then some (r + 1) else none) = _
    rw [Bool.and_false, Bool.or_false]
    show _ = (if (im (rc T) (lvl (rc T) S r).1 t && !false) = true then some (r + 1) else none)
    rw [Bool.not_false, Bool.and_true]
def faI (I : IT) (D : Nat → Option Nat) : IT := fl I 48 (fun t => o2i (D t)) 16
theorem faI_cg {I : IT} {D D' : Nat → Option Nat} (h : ∀ t, t < 16 → D t = D' t) : faI I D = faI I D' := fl_cg fun t ht => by rw [h t ht]
theorem faI_o {I : IT} {D : Nat → Option Nat} {o : Nat} (h : o ≠ 48) : faI I D o = I o := fl_o h
theorem faI_48 {I : IT} {D : Nat → Option Nat} {s : Nat} (h : s < 16) : faI I D 48 s = o2i (D s) := fl_in h
theorem faI_B (hB : RB I g C nx os oc) (D : Nat → Option Nat) : RB (faI I D) g C nx os oc := RB_cg hB (by rw [faI_o (by decide)]; exact ⟨rfl, rfl, rfl⟩) (faI_o (by decide)) (faI_o (by decide))
end MOD3
