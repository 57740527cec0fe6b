/-! THE REFERENCE: nearestBits -/
def ng : Nat → Int32
  | 0 => 0
  | j + 1 => ng j + (-1)
theorem ng24 : ∀ j, j < 61 → (ng j + nI 24).toInt64 - 1 + (nI 127).toInt64 = lN (127 + 24 - 1 - j) ∧ (ng j + 1 + nI 24).toInt64 - 1 + (nI 127).toInt64 = lN (127 + 24 - j) := by decide +kernel
theorem ng53 : ∀ j, j < 61 → (ng j + nI 53).toInt64 - 1 + (nI 1023).toInt64 = lN (1023 + 53 - 1 - j) ∧ (ng j + 1 + nI 53).toInt64 - 1 + (nI 1023).toInt64 = lN (1023 + 53 - j) := by decide +kernel
theorem ct_X7_nearestBits {I : IT} {J : JT} {u d F bias : Nat} (hu : u < 2 ^ 31) (hd : 0 < d) (hd2 : d < 2 ^ 30) (hF : 1 ≤ F) (hF2 : F ≤ 60) (hD : d * 2 ^ (F - 1) ≤ 2 ^ 60) (hbs : 61 ≤ bias)
    (hng : ∀ j, j < 61 → (ng j + nI F).toInt64 - 1 + (nI bias).toInt64 = lN (bias + F - 1 - j) ∧ (ng j + 1 + nI F).toInt64 - 1 + (nI bias).toInt64 = lN (bias + F - j)) :
    CN 62 RF mX7_nearestBits 0 [.int (nI u), .int (nI d), .int (nI F), .int (nI bias)] I J (RX (some (.long (nbV u d F bias))) I J) := by
  generalize hQ : RX (some (.long (nbV u d F bias))) I J = Q
  have hQ' : Q (some (.long (nbV u d F bias))) I J := by rw [← hQ]; exact rxq
  clear hQ
  refine cn_of (by decide) rfl (Nat.le_of_ble_eq_true rfl) ?_
  refine blk s_X7_nearestBits_0 (nm ?_)
  refine b_X7_nearestBits_1 (fun h => ?_) (fun h => ?_)
  · have hu0 : 0 < u := by
      rcases Nat.eq_zero_or_pos u with h1 | h1
      · subst h1; exact absurd rfl h
      · exact h1
    unfold nbV at hQ'
    rw [if_neg (by omega)] at hQ'
    refine blk s_X7_nearestBits_6 (nm ?_)
    have eF : nI F - 1 = nI (F - 1) := pk_sub (b := 1) hF
    rw [eF, show (1 : Int64) <<< ((nI (F - 1)).toInt64 &&& 63) = lN (2 ^ (F - 1)) from by rw [show (1 : Int64) = lN 1 from rfl, wb_shl 1 (by omega), Nat.one_mul], nI_l (by omega)]
    generalize hsh : shF u (d * 2 ^ (F - 1)) = sh at hQ'
    obtain ⟨s1, s2, s3⟩ := shF_spec hu0 hD
    have s4 := shF_x hu0 (by omega) hD
    rw [hsh] at s1 s2 s3 s4
    generalize hU : 2 ^ (F - 1) = U at *
    have hU63 : U < 2 ^ 62 := by
      have : 1 * U ≤ d * U := Nat.mul_le_mul_right _ hd
      omega
    have hU0 : 0 < U := by rw [← hU]; exact Nat.pow_pos (by decide)
    have dne : ¬ lN d = 0 := fun e => by have := (pk_lEQ (b := 0) (by omega) (by decide)).mp e; omega
    have dne' : ¬ (nI d).toInt64 = 0 := by rw [nI_l (by omega)]; exact dne
    have ed : (nI d).toInt64 = lN d := nI_l (by omega)
    refine en_L (show _ = [(0, .int (nI u)), (1, .int (nI d)), (2, .int (nI F)), (3, .int (nI bias)), (4, .long (lN (u * 2 ^ 0))), (6, .long (lN U)), (8, .int (ng 0))] from by rw [Nat.pow_zero, Nat.mul_one]; rfl) ?_
    refine dn (P := fun i => EN 62 RF mX7_nearestBits 0 20 [(0, .int (nI u)), (1, .int (nI d)), (2, .int (nI F)), (3, .int (nI bias)), (4, .long (lN (u * 2 ^ i))), (6, .long (lN U)), (8, .int (ng i))] [] I J Q) (N := sh) (a := 0) ?_ ?_ (Nat.zero_le _)
    · have sx := s4 sh (Nat.le_refl sh)
      refine blk s_X7_nearestBits_20 (And.intro dne' (nm ?_))
      rw [ed]
      generalize hx : u * 2 ^ sh = x at *
      rw [pk_lDiv (by omega) hd (by omega)]
      have hdl := Nat.div_le_self x d
      have hq : U ≤ x / d := (Nat.le_div_iff_mul_le hd).mpr (by rw [Nat.mul_comm]; exact s1)
      refine b_X7_nearestBits_28 (fun h => ?_) (fun h => absurd ((lg_cmp_ge _ _).mpr ((pk_lLE (by omega) (by omega)).mpr hq)) h)
      refine blk s_X7_nearestBits_45 (And.intro dne' (And.intro dne' (nm ?_)))
      rw [ed, pk_lRem (by omega) hd (by omega), pk_lDiv (by omega) hd (by omega)]
      have hmod : x % d < d := Nat.mod_lt _ hd
      rw [show 2 * lN (x % d) = lN (2 * (x % d)) from mulI 2 _]
      have hrl : U ≤ rdU x d ∧ rdU x d ≤ x / d + 1 := by
        unfold rdU; split <;> omega
      have fin : ∀ (q b : Nat), q = x / d → q + b = rdU x d → EN 62 RF mX7_nearestBits 0 97 [(0, .int (nI u)), (1, .int (nI d)), (2, .int (nI F)), (3, .int (nI bias)), (4, .long (lN x)), (6, .long (lN U)), (8, .int (ng sh)), (9, .long (lN (x / d))), (11, .long (lN (2 * (x % d))))] [.long (lN b), .long (lN q)] I J Q := by
        intro q b hqe hb
        refine blk s_X7_nearestBits_97 (nm ?_)
        rw [lN_add, hb, show 2 * lN U = lN (2 * U) from mulI 2 U]
        generalize rdU x d = rd at *
        have hn := hng sh (by omega)
        rw [lN_sub hrl.1, mulI, lN_add] at hQ'
        refine b_X7_nearestBits_109 (fun h => ?_) (fun h => ?_)
        · refine blk s_X7_nearestBits_119 (nm ?_)
          rw [hn.1, mulI, lN_add, lN_sub (by omega), show (bias + F - 1 - sh) * U + rd - U = (bias + F - 1 - sh) * U + (rd - U) by omega]
          exact r_X7_nearestBits_138 hQ'
        · have h2 : rd = 2 * U := (pk_lEQ (by omega) (by omega)).mp ((lg_cmp_eq _ _).mp h)
          refine blk s_X7_nearestBits_112 (nm ?_)
          refine blk s_X7_nearestBits_119 (nm ?_)
          rw [hn.2, mulI, lN_add, lN_sub (by omega), show (bias + F - sh) * U + U - U = (bias + F - 1 - sh) * U + (rd - U) from by
            rw [show bias + F - sh = (bias + F - 1 - sh) + 1 by omega, Nat.add_mul, Nat.one_mul]; omega]
          exact r_X7_nearestBits_138 hQ'
      have rdT : (d < 2 * (x % d) ∨ (2 * (x % d) = d ∧ x / d % 2 = 1)) → x / d + 1 = rdU x d := fun h => by unfold rdU; rw [if_pos h]
      have rdF : ¬ (d < 2 * (x % d) ∨ (2 * (x % d) = d ∧ x / d % 2 = 1)) → x / d = rdU x d := fun h => by unfold rdU; rw [if_neg h]
      have inc : (d < 2 * (x % d) ∨ (2 * (x % d) = d ∧ x / d % 2 = 1)) → EN 62 RF mX7_nearestBits 0 92 [(0, .int (nI u)), (1, .int (nI d)), (2, .int (nI F)), (3, .int (nI bias)), (4, .long (lN x)), (6, .long (lN U)), (8, .int (ng sh)), (9, .long (lN (x / d))), (11, .long (lN (2 * (x % d))))] [.long (lN (x / d))] I J Q := by
        intro h
        refine blk s_X7_nearestBits_92 (nm ?_)
        exact fin (x / d) 1 rfl (rdT h)
      have non : ¬ (d < 2 * (x % d) ∨ (2 * (x % d) = d ∧ x / d % 2 = 1)) → EN 62 RF mX7_nearestBits 0 96 [(0, .int (nI u)), (1, .int (nI d)), (2, .int (nI F)), (3, .int (nI bias)), (4, .long (lN x)), (6, .long (lN U)), (8, .int (ng sh)), (9, .long (lN (x / d))), (11, .long (lN (2 * (x % d))))] [.long (lN (x / d))] I J Q := by
        intro h
        refine blk s_X7_nearestBits_96 (nm ?_)
        exact fin (x / d) 0 rfl (rdF h)
      refine b_X7_nearestBits_70 (fun h => ?_) (fun h => ?_)
      · exact inc (Or.inl ((pk_lLT (by omega) (by omega)).mp ((lg_cmp_gt _ _).mp h)))
      · have h1 : ¬ d < 2 * (x % d) := fun h2 => h ((lg_cmp_gt _ _).mpr ((pk_lLT (by omega) (by omega)).mpr h2))
        refine blk s_X7_nearestBits_73 (nm ?_)
        rw [ed]
        refine b_X7_nearestBits_78 (fun h => ?_) (fun h => ?_)
        · exact non (fun h2 => h2.elim h1 (fun h3 => h ((lg_cmp_eq _ _).mpr (congrArg lN h3.1))))
        · have h2 : 2 * (x % d) = d := (pk_lEQ (by omega) (by omega)).mp ((lg_cmp_eq _ _).mp h)
          refine blk s_X7_nearestBits_81 (And.intro (by decide) (nm ?_))
          rw [show lN (x / d) - lN (x / d) / 2 * 2 = lN (x / d % 2) from pk_lRem (b := 2) (by omega) (by decide) (by decide)]
          have hm2 : x / d % 2 < 2 := Nat.mod_lt _ (by decide)
          refine b_X7_nearestBits_89 (fun h => ?_) (fun h => ?_)
          · exact non (fun h4 => h4.elim h1 (fun h3 => h ((lg_cmp_eq _ _).mpr (by rw [h3.2]; rfl))))
          · exact inc (Or.inr ⟨h2, (pk_lEQ (b := 1) (by omega) (by decide)).mp ((lg_cmp_eq _ _).mp h)⟩)
    · intro i hi ih
      have sx := s4 i (by omega)
      have sl := s2 i hi
      refine blk s_X7_nearestBits_20 (And.intro dne' (nm ?_))
      rw [ed, pk_lDiv (by omega) hd (by omega)]
      have hdl := Nat.div_le_self (u * 2 ^ i) d
      have hq : u * 2 ^ i / d < U := (Nat.div_lt_iff_lt_mul hd).mpr (by rw [Nat.mul_comm U d]; exact sl)
      refine b_X7_nearestBits_28 (fun h => absurd ((pk_lLE (by omega) (by omega)).mp ((lg_cmp_ge _ _).mp h)) (by omega)) (fun h => ?_)
      refine blk s_X7_nearestBits_31 (nm ?_)
      rw [show lN (u * 2 ^ i) * 2 = lN (u * 2 ^ (i + 1)) from by rw [show (2 : Int64) = lN 2 from rfl, mulI, Nat.pow_succ, Nat.mul_assoc]]
      exact ih
  · have : u = 0 := (nI_eq (a := u) (b := 0) (by omega) (by decide)).mp h
    subst this
    refine blk s_X7_nearestBits_4 (nm ?_)
    exact r_X7_nearestBits_5 hQ'
