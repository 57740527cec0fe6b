/-! PUBLIC METHODS: ofTerm -/
section PUB10
variable {I : IT} {J : JT} {C : Nat}
def ofV (f : IT) (C : Nat) (t w : Int32) : Int32 := match hsB C t with
  | false => -1
  | true => if w = 0 then f 2 t.toNatClampNeg else if w = 1 then f 3 t.toNatClampNeg else if w = 2 then f 4 t.toNatClampNeg else if w = 3 then f 5 t.toNatClampNeg else if w = 4 then f 6 t.toNatClampNeg else if w = 5 then f 7 t.toNatClampNeg else if w = 6 then f 8 t.toNatClampNeg else -2
theorem ct_X6_ofTerm (hC : I 1 9 = nI C) (h40 : C ≤ 40) (t w : Int32) : CN 62 RF mX6_ofTerm 1 [.ref 0, .int t, .int w] I J (RX (some (.int (ofV I C t w))) I J) := by
  unfold ofV
  refine cn_of (by decide) rfl (Nat.le_of_ble_eq_true rfl) ?_
  refine blk s_X6_ofTerm_0 (nm ?_)
  refine c_X6_ofTerm_5 (ct_X4_hasC hC t) rfl (by decide) rfl (Nat.le_of_ble_eq_true rfl) (by decide) rfl (rx ?_)
  cases ht : hsB C t with
  | false =>
    refine b_X6_ofTerm_8 (fun h => absurd rfl h) (fun h => ?_)
    refine blk s_X6_ofTerm_11 (nm ?_)
    exact r_X6_ofTerm_12 rxq
  | true =>
    obtain ⟨k, hk, rfl⟩ := hs_ex (by omega) ht
    have hk40 : k < 40 := by omega
    refine b_X6_ofTerm_8 (fun h => ?_) (fun h => absurd h (by decide))
    refine blk s_X6_ofTerm_13 (nm ?_)
    refine w_X6_ofTerm_14 (fun h => ?_) (fun h => ?_) (fun h => ?_) (fun h => ?_) (fun h => ?_) (fun h => ?_) (fun h => ?_) (fun h0 h1 h2 h3 h4 h5 h6 => ?_)
    · subst h
      refine blk s_X6_ofTerm_56 (And.intro (ib hk40) (nm ?_))
      exact r_X6_ofTerm_65 rxq
    · subst h
      refine blk s_X6_ofTerm_66 (And.intro (ib hk40) (nm ?_))
      exact r_X6_ofTerm_75 rxq
    · subst h
      refine blk s_X6_ofTerm_76 (And.intro (ib hk40) (nm ?_))
      exact r_X6_ofTerm_85 rxq
    · subst h
      refine blk s_X6_ofTerm_86 (And.intro (ib hk40) (nm ?_))
      exact r_X6_ofTerm_95 rxq
    · subst h
      refine blk s_X6_ofTerm_96 (And.intro (ib hk40) (nm ?_))
      exact r_X6_ofTerm_105 rxq
    · subst h
      refine blk s_X6_ofTerm_106 (And.intro (ib hk40) (nm ?_))
      exact r_X6_ofTerm_115 rxq
    · subst h
      refine blk s_X6_ofTerm_116 (And.intro (ib hk40) (nm ?_))
      exact r_X6_ofTerm_125 rxq
    · refine blk s_X6_ofTerm_126 (nm ?_)
      refine r_X6_ofTerm_128 (rxe ?_ rfl rfl)
      show _ = some (Value.int (if w = 0 then _ else _))
      rw [if_neg h0, if_neg h1, if_neg h2, if_neg h3, if_neg h4, if_neg h5, if_neg h6]
theorem ct_X7_ofTerm {f : IT} {g : JT} (hC : I 39 1 = nI C) (h40 : C ≤ 40) (hR : RTm I J f g C) (t w : Int32) : CN 62 RF mX7_ofTerm 2 [.ref 39, .int t, .int w] I J (RX (some (.int (ofV f C t w))) I J) := by
  unfold ofV
  refine cn_of (by decide) rfl (Nat.le_of_ble_eq_true rfl) ?_
  refine blk s_X7_ofTerm_0 (nm ?_)
  refine c_X7_ofTerm_2 (ct_X7_isTermC hC h40 t) rfl (by decide) rfl (Nat.le_of_ble_eq_true rfl) (by decide) rfl (rx ?_)
  cases ht : hsB C t with
  | false =>
    refine b_X7_ofTerm_5 (fun h => absurd rfl h) (fun h => ?_)
    refine blk s_X7_ofTerm_8 (nm ?_)
    exact r_X7_ofTerm_9 rxq
  | true =>
    obtain ⟨k, hk, rfl⟩ := hs_ex (by omega) ht
    have hk40 : k < 40 := by omega
    obtain ⟨r1, r2, r3, r4, r5, r6, r7, -⟩ := hR k hk
    refine b_X7_ofTerm_5 (fun h => ?_) (fun h => absurd h (by decide))
    refine blk s_X7_ofTerm_10 (nm ?_)
    refine w_X7_ofTerm_11 (fun h => ?_) (fun h => ?_) (fun h => ?_) (fun h => ?_) (fun h => ?_) (fun h => ?_) (fun h => ?_) (fun h0 h1 h2 h3 h4 h5 h6 => ?_)
    · subst h
      refine blk s_X7_ofTerm_52 (And.intro (ib hk40) (nm ?_))
      rw [cl k, r1]
      exact r_X7_ofTerm_58 rxq
    · subst h
      refine blk s_X7_ofTerm_59 (And.intro (show vp_in ((3 : Int32) * nI k) 120 from by rw [ix3]; exact ib (by omega)) (nm ?_))
      rw [ix3, cl (3 * k), r2, cl k]
      exact r_X7_ofTerm_67 rxq
    · subst h
      refine blk s_X7_ofTerm_68 (And.intro (show vp_in ((3 : Int32) * nI k + 1) 120 from by rw [ix31]; exact ib (by omega)) (nm ?_))
      rw [ix31, cl (3 * k + 1), r3, cl k]
      exact r_X7_ofTerm_78 rxq
    · subst h
      refine blk s_X7_ofTerm_79 (And.intro (show vp_in ((3 : Int32) * nI k + 2) 120 from by rw [ix32]; exact ib (by omega)) (nm ?_))
      rw [ix32, cl (3 * k + 2), r4, cl k]
      exact r_X7_ofTerm_89 rxq
    · subst h
      refine blk s_X7_ofTerm_90 (And.intro (ib hk40) (nm ?_))
      rw [cl k, r5]
      exact r_X7_ofTerm_96 rxq
    · subst h
      refine blk s_X7_ofTerm_97 (And.intro (ib hk40) (nm ?_))
      rw [cl k, r6]
      exact r_X7_ofTerm_103 rxq
    · subst h
      refine blk s_X7_ofTerm_104 (And.intro (ib hk40) (nm ?_))
      rw [cl k, r7]
      exact r_X7_ofTerm_110 rxq
    · refine blk s_X7_ofTerm_111 (nm ?_)
      refine r_X7_ofTerm_113 (rxe ?_ rfl rfl)
      show _ = some (Value.int (if w = 0 then _ else _))
      rw [if_neg h0, if_neg h1, if_neg h2, if_neg h3, if_neg h4, if_neg h5, if_neg h6]
end PUB10
