/-! THE REFERENCE: a term comes -/
section MOD13
variable {I : IT} {J : JT}
def tr3 (I : IT) (t : Nat) (a b c : Int32) : IT := up2 (up2 (up2 I 42 t a) 43 t b) 44 t c
theorem ct_X7_takes {t : Nat} (ht : t < 40) (o : Option Nat) (ho : ∀ p, o = some p → p < 40) :
    CN 62 RF mX7_takes 0 [.ref 39, .int (nI t), .int (o2i o)] I J (RX none (tr3 I t (orO (I 42 t) (I 42) o) (orO (I 43 t) (I 43) o) (mxO (I 44 t) (I 44) o)) (up2 J 45 t (adO (J 45 t) (J 45) o))) := by
  refine cn_of (by decide) rfl (Nat.le_of_ble_eq_true rfl) ?_
  refine blk s_X7_takes_0 (nm ?_)
  cases o with
  | none =>
    refine b_X7_takes_3 (fun h => ?_) (fun h => absurd rfl h)
    refine r_X7_takes_91 (rxe rfl ?_ ?_)
    · show I = tr3 I t (I 42 t) (I 43 t) (I 44 t)
      unfold tr3
      rw [up2_id, up2_id, up2_id]
    · show J = up2 J 45 t (J 45 t)
      rw [up2_id]
  | some p =>
    have hp40 := ho p rfl
    refine b_X7_takes_3 (fun h => absurd h (o2i_ne (by omega))) (fun h => ?_)
    rw [show o2i (some p) = nI p from rfl]
    refine blk s_X7_takes_6 (And.intro (ib ht) (And.intro (ib hp40) (And.intro (ib ht) (And.intro (ib ht) (And.intro (ib hp40) (And.intro (ib ht) (And.intro (ib hp40) (And.intro (ib ht) (nm ?_)))))))))
    rw [cl t, cl p]
    have e43 : ∀ x, up2 I 42 t x 43 = I 43 := fun x => up2_o (by decide)
    have e44 : ∀ x y, up2 (up2 I 42 t x) 43 t y 44 = I 44 := fun x y => by rw [up2_o (by decide), up2_o (by decide)]
    rw [e43, e44]
    have back : ∀ y : Int32, y = mxO (I 44 t) (I 44) (some p) → EN 62 RF mX7_takes 0 75 [(0, .ref 39), (1, .int (nI t)), (2, .int (nI p))] [.int y, .int (nI t), .ref 44] (up2 (up2 I 42 t (I 42 t ||| I 42 p)) 43 t (I 43 t ||| I 43 p)) J (RX none (tr3 I t (orO (I 42 t) (I 42) (some p)) (orO (I 43 t) (I 43) (some p)) (mxO (I 44 t) (I 44) (some p))) (up2 J 45 t (adO (J 45 t) (J 45) (some p)))) := by
      intro y hy
      subst hy
      refine blk s_X7_takes_75 (And.intro (ib ht) (And.intro (ib ht) (And.intro (ib hp40) (And.intro (ib ht) (nm ?_)))))
      rw [cl t, cl p]
      exact r_X7_takes_91 rxq
    refine b_X7_takes_55 (fun h => ?_) (fun h => ?_)
    · refine blk s_X7_takes_69 (And.intro (ib ht) (nm ?_))
      rw [cl t, e44]
      exact back _ (if_neg (Int32.not_lt.mpr h)).symm
    · refine blk s_X7_takes_58 (And.intro (ib hp40) (nm ?_))
      rw [cl p, e44]
      exact back _ (if_pos (Int32.not_le.mp h)).symm
def cm4 (I : IT) (C : Nat) (kk a b c x y : Int32) : IT := up2 (up2 (up2 (up2 (up2 (up2 (up2 I 40 C kk) 41 (3 * C) a) 41 (3 * C + 1) b) 41 (3 * C + 2) c) 42 C x) 43 C y) 44 C 0
theorem comes_mid {C : Nat} (hC : I 39 1 = nI C) (hC40 : C < 40) {kk a b c : Int32} {Q : IQ} (h : EN 62 RF mX7_comes 2 156 [(0, .ref 39), (1, .int kk), (2, .int a), (3, .int b), (4, .int c), (5, .int (-9)), (6, .int (nI C))] [.int 2, .int kk] (cm4 I C kk a b c (if kk = 1 then (1 : Int32) <<< (a &&& 31) else 0) (if kk = 2 then (1 : Int32) <<< (a &&& 31) else 0)) (up2 J 45 C (if (2 : Int32) < kk then 0 else 1)) Q) :
    EN 62 RF mX7_comes 2 42 [(0, .ref 39), (1, .int kk), (2, .int a), (3, .int b), (4, .int c), (5, .int (-9))] [] I J Q := by
  have i0 : vp_in (I 39 1) 40 := by rw [hC]; exact ib hC40
  have i1 : vp_in (3 * I 39 1) 120 := by rw [hC, ix3]; exact ib (by omega)
  have i2 : vp_in (3 * I 39 1 + 1) 120 := by rw [hC, ix31]; exact ib (by omega)
  have i3 : vp_in (3 * I 39 1 + 2) 120 := by rw [hC, ix32]; exact ib (by omega)
  refine blk s_X7_comes_42 (And.intro i0 (And.intro i1 (And.intro i2 (And.intro i3 (nm ?_)))))
  rw [hC, ix31, ix32, ix3, cl C, cl (3 * C), cl (3 * C + 1), cl (3 * C + 2)]
  generalize hI1 : up2 (up2 (up2 (up2 I 40 C kk) 41 (3 * C) a) 41 (3 * C + 1) b) 41 (3 * C + 2) c = I1
  have last : ∀ (x y : Int32) (z : Int64), x = (if kk = 1 then (1 : Int32) <<< (a &&& 31) else 0) → y = (if kk = 2 then (1 : Int32) <<< (a &&& 31) else 0) → z = (if (2 : Int32) < kk then 0 else 1) → EN 62 RF mX7_comes 2 153 [(0, .ref 39), (1, .int kk), (2, .int a), (3, .int b), (4, .int c), (5, .int (-9)), (6, .int (nI C))] [.long z, .int (nI C), .ref 45] (up2 (up2 (up2 I1 42 C x) 43 C y) 44 C 0) J Q := by
    intro x y z hx hy hz
    refine blk s_X7_comes_153 (And.intro (ib hC40) (nm ?_))
    rw [cl C, hx, hy, hz, ← hI1]
    exact h
  have mid2 : ∀ (x y : Int32), x = (if kk = 1 then (1 : Int32) <<< (a &&& 31) else 0) → y = (if kk = 2 then (1 : Int32) <<< (a &&& 31) else 0) → EN 62 RF mX7_comes 2 128 [(0, .ref 39), (1, .int kk), (2, .int a), (3, .int b), (4, .int c), (5, .int (-9)), (6, .int (nI C))] [.int y, .int (nI C), .ref 43] (up2 I1 42 C x) J Q := by
    intro x y hx hy
    refine blk s_X7_comes_128 (And.intro (ib hC40) (And.intro (ib hC40) (nm ?_)))
    rw [cl C]
    refine b_X7_comes_145 (fun h => ?_) (fun h => ?_)
    · refine blk s_X7_comes_152 (nm ?_)
      exact last x y _ hx hy (if_pos h).symm
    · refine blk s_X7_comes_148 (nm ?_)
      exact last x y _ hx hy (if_neg h).symm
  have mid1 : ∀ x : Int32, x = (if kk = 1 then (1 : Int32) <<< (a &&& 31) else 0) → EN 62 RF mX7_comes 2 109 [(0, .ref 39), (1, .int kk), (2, .int a), (3, .int b), (4, .int c), (5, .int (-9)), (6, .int (nI C))] [.int x, .int (nI C), .ref 42] I1 J Q := by
    intro x hx
    refine blk s_X7_comes_109 (And.intro (ib hC40) (nm ?_))
    rw [cl C]
    refine b_X7_comes_118 (fun h => ?_) (fun h => ?_)
    · refine blk s_X7_comes_127 (nm ?_)
      exact mid2 x _ hx (if_neg h).symm
    · refine blk s_X7_comes_121 (nm ?_)
      exact mid2 x _ hx (if_pos h).symm
  refine b_X7_comes_99 (fun h => ?_) (fun h => ?_)
  · refine blk s_X7_comes_108 (nm ?_)
    exact mid1 _ (if_neg h).symm
  · refine blk s_X7_comes_102 (nm ?_)
    exact mid1 _ (if_pos h).symm
/-- the values of the new term, the first n of them -/
def fvI (I : IT) (C : Nat) (v : Nat → Int32) (n : Nat) : IT := fun o b => if o = 46 ∧ 64 * C ≤ b ∧ b < 64 * C + n then v (b - 64 * C) else I o b
theorem fvI_0 {I : IT} {C : Nat} {v : Nat → Int32} : fvI I C v 0 = I := by
  funext o b; unfold fvI; rw [if_neg (by omega)]
theorem fvI_s {I : IT} {C n : Nat} {v : Nat → Int32} {x : Int32} (h : x = v n) : up2 (fvI I C v n) 46 (64 * C + n) x = fvI I C v (n + 1) := by
  subst h
  funext o b
  by_cases ho : o = 46
  · subst ho
    by_cases hb : b = 64 * C + n
    · subst hb
      rw [up2_s]; unfold fvI
      rw [if_pos ⟨rfl, by omega, by omega⟩, show 64 * C + n - 64 * C = n by omega]
    · rw [up2_k hb]; unfold fvI
      by_cases hc : 64 * C ≤ b ∧ b < 64 * C + n
      · rw [if_pos ⟨rfl, hc⟩, if_pos ⟨rfl, hc.1, by omega⟩]
      · rw [if_neg (fun h => hc h.2), if_neg (fun h => hc ⟨h.2.1, by omega⟩)]
  · rw [up2_o ho]; unfold fvI
    rw [if_neg (fun h => ho h.1), if_neg (fun h => ho h.1)]
theorem fvI_o {I : IT} {C n o : Nat} {v : Nat → Int32} (h : o ≠ 46) : fvI I C v n o = I o := by
  funext b; unfold fvI; rw [if_neg (fun h2 => h h2.1)]
theorem fvI_lo {I : IT} {C n b : Nat} {v : Nat → Int32} (h : b < 64 * C) : fvI I C v n 46 b = I 46 b := by
  unfold fvI; rw [if_neg (by omega)]
theorem fvI_in {I : IT} {C n b : Nat} {v : Nat → Int32} (h : b < n) : fvI I C v n 46 (64 * C + b) = v b := by
  unfold fvI; rw [if_pos ⟨rfl, by omega, by omega⟩, show 64 * C + b - 64 * C = b by omega]
theorem comes_end {C : Nat} (hC : I 39 1 = nI C) (hC40 : C < 40) {kk a b c : Int32} (vals : Nat → Nat → Bool)
    (hev : ∀ s r I3, s < 16 → r < 4 → I3 40 = I 40 → I3 41 = I 41 → (∀ m, m < 64 * C → I3 46 m = I 46 m) → CN 62 RF mX7_evaluated 1 [.ref 39, .int (nI C), .int (nI s), .int (nI r)] I3 J (RX (some (.int (b2i (vals s r)))) I3 J)) :
    EN 62 RF mX7_comes 2 181 [(0, .ref 39), (1, .int kk), (2, .int a), (3, .int b), (4, .int c), (5, .int (-9)), (6, .int (nI C))] [] I J (RX (some (.int (nI C))) (fvI (up2 I 39 1 (nI (C + 1))) C (fun m => b2i (vals (m / 4) (m % 4))) 64) J) := by
  generalize hQ : RX (some (.int (nI C))) (fvI (up2 I 39 1 (nI (C + 1))) C (fun m => b2i (vals (m / 4) (m % 4))) 64) J = Q
  have hQ' : Q (some (.int (nI C))) (fvI (up2 I 39 1 (nI (C + 1))) C (fun m => b2i (vals (m / 4) (m % 4))) 64) J := by rw [← hQ]; exact rxq
  clear hQ
  refine blk s_X7_comes_181 (And.intro rfl (nm ?_))
  rw [hC, nI_s]
  generalize hI1 : up2 I 39 1 (nI (C + 1)) = I1 at *
  have f40 : I1 40 = I 40 := by rw [← hI1, up2_o (by decide)]
  have f41 : I1 41 = I 41 := by rw [← hI1, up2_o (by decide)]
  have f46 : I1 46 = I 46 := by rw [← hI1, up2_o (by decide)]
  clear hI1
  generalize hg : (fun m => b2i (vals (m / 4) (m % 4))) = w at *
  have hg' : ∀ s r, r < 4 → w (4 * s + r) = b2i (vals s r) := fun s r hr => by
    rw [← hg]; show b2i (vals ((4 * s + r) / 4) ((4 * s + r) % 4)) = _
    rw [show (4 * s + r) / 4 = s by omega, show (4 * s + r) % 4 = r by omega]
  refine en_I (fvI_0 (I := I1) (C := C) (v := w)).symm ?_
  refine dn (P := fun s => EN 62 RF mX7_comes 2 194 [(0, .ref 39), (1, .int kk), (2, .int a), (3, .int b), (4, .int c), (5, .int (-9)), (6, .int (nI C)), (7, .int (nI s))] [] (fvI I1 C w (4 * s)) J Q) (N := 16) (a := 0) ?_ ?_ (Nat.zero_le _)
  · refine blk s_X7_comes_194 (nm ?_)
    refine b_X7_comes_198 (fun h => ?_) (fun h => absurd (Int32.le_refl _) h)
    refine blk s_X7_comes_250 (nm ?_)
    exact r_X7_comes_252 hQ'
  · intro s hs ih
    refine blk s_X7_comes_194 (nm ?_)
    refine b_X7_comes_198 (fun h => absurd h (nI_ge hs (by decide))) (fun h => ?_)
    refine blk s_X7_comes_201 (nm ?_)
    refine dn (P := fun r => EN 62 RF mX7_comes 2 204 [(0, .ref 39), (1, .int kk), (2, .int a), (3, .int b), (4, .int c), (5, .int (-9)), (6, .int (nI C)), (7, .int (nI s)), (8, .int (nI r))] [] (fvI I1 C w (4 * s + r)) J Q) (N := 4) (a := 0) ?_ ?_ (Nat.zero_le _)
    · refine blk s_X7_comes_204 (nm ?_)
      refine b_X7_comes_207 (fun h => ?_) (fun h => absurd (Int32.le_refl _) h)
      refine blk s_X7_comes_244 (nm ?_)
      exact wkt 8 (en_L (by rw [nI_s]; rfl) ih)
    · intro r hr ih2
      refine blk s_X7_comes_204 (nm ?_)
      refine b_X7_comes_207 (fun h => absurd h (nI_ge hr (by decide))) (fun h => ?_)
      refine blk s_X7_comes_210 (nm ?_)
      have e : (64 : Int32) * nI C + 4 * nI s + nI r = nI (64 * C + (4 * s + r)) := by
        rw [show (64 : Int32) = nI 64 from rfl, show (4 : Int32) = nI 4 from rfl, nI_mul, nI_mul, nI_add, nI_add, Nat.add_assoc]
      rw [e]
      refine c_X7_comes_234 (hev s r _ hs hr (by rw [fvI_o (by decide), f40]) (by rw [fvI_o (by decide), f41]) (fun m hm => by rw [fvI_lo hm, f46])) rfl (by decide) rfl (Nat.le_of_ble_eq_true rfl) (by decide) rfl (rx ?_)
      refine blk s_X7_comes_237 (And.intro (ib (show 64 * C + (4 * s + r) < 2560 by omega)) (nm ?_))
      rw [cl (64 * C + (4 * s + r)), fvI_s (by rw [hg' s r hr])]
      exact en_L (by rw [nI_s]) ih2
theorem ct_X7_comesElder {f : IT} {g : JT} {C t0 : Nat} (hC : I 39 1 = nI C) (h40 : C ≤ 40) (hR : RTm I J f g C) {k a b c : Int32} (he : elder f C k a b c = some t0) : CN 62 RF mX7_comes 2 [.ref 39, .int k, .int a, .int b, .int c] I J (RX (some (.int (nI t0))) I J) := by
  have ht0 := (lsN_some he).1
  refine cn_of (by decide) rfl (Nat.le_of_ble_eq_true rfl) ?_
  refine blk s_X7_comes_0 (nm ?_)
  refine c_X7_comes_6 (ct_X7_find hC h40 hR k a b c) rfl (by decide) rfl (Nat.le_of_ble_eq_true rfl) (by decide) rfl (rx ?_)
  rw [he]
  refine blk s_X7_comes_9 (nm ?_)
  refine b_X7_comes_15 (fun h => ?_) (fun h => absurd h (o2i_ne (by omega)))
  refine blk s_X7_comes_27 (nm ?_)
  refine b_X7_comes_31 (fun h => absurd h (o2i_ne (by omega))) (fun h => ?_)
  refine blk s_X7_comes_34 (nm ?_)
  exact r_X7_comes_41 rxq
theorem ct_X7_comesFull {f : IT} {g : JT} (hC : I 39 1 = nI 40) (hR : RTm I J f g 40) {k a b c : Int32} (he : elder f 40 k a b c = none) : CN 62 RF mX7_comes 2 [.ref 39, .int k, .int a, .int b, .int c] I J (RX (some (.int (-4))) I J) := by
  refine cn_of (by decide) rfl (Nat.le_of_ble_eq_true rfl) ?_
  refine blk s_X7_comes_0 (nm ?_)
  refine c_X7_comes_6 (ct_X7_find hC (by omega) hR k a b c) rfl (by decide) rfl (Nat.le_of_ble_eq_true rfl) (by decide) rfl (rx ?_)
  rw [he]
  refine blk s_X7_comes_9 (nm ?_)
  refine b_X7_comes_15 (fun h => absurd rfl h) (fun h => ?_)
  refine blk s_X7_comes_18 (nm ?_)
  rw [hC]
  refine b_X7_comes_24 (fun h => absurd rfl h) (fun h => ?_)
  refine blk s_X7_comes_27 (nm ?_)
  refine b_X7_comes_31 (fun h => ?_) (fun h => absurd rfl h)
  refine blk s_X7_comes_39 (nm ?_)
  exact r_X7_comes_41 rxq
theorem comes_new {f : IT} {g : JT} {C : Nat} (hC : I 39 1 = nI C) (h40 : C < 40) (hR : RTm I J f g C) {k a b c : Int32} (he : elder f C k a b c = none) {Q : IQ} (h : EN 62 RF mX7_comes 2 42 [(0, .ref 39), (1, .int k), (2, .int a), (3, .int b), (4, .int c), (5, .int (-9))] [] I J Q) : CN 62 RF mX7_comes 2 [.ref 39, .int k, .int a, .int b, .int c] I J Q := by
  refine cn_of (by decide) rfl (Nat.le_of_ble_eq_true rfl) ?_
  refine blk s_X7_comes_0 (nm ?_)
  refine c_X7_comes_6 (ct_X7_find hC (by omega) hR k a b c) rfl (by decide) rfl (Nat.le_of_ble_eq_true rfl) (by decide) rfl (rx ?_)
  rw [he]
  refine blk s_X7_comes_9 (nm ?_)
  refine b_X7_comes_15 (fun h => absurd rfl h) (fun _ => ?_)
  refine blk s_X7_comes_18 (nm ?_)
  rw [hC]
  refine b_X7_comes_24 (fun _ => h) (fun h2 => absurd ((nI_eq (a := C) (b := 40) (by omega) (by decide)).mp h2) (by omega))
end MOD13
