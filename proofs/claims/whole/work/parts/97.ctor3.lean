/-! CONSTRUCTORS: ClaimChains -/
def R20 : RT := rs2 (up2 R19 0 1 (some 11)) 19 none
def R23 : RT := rs2 (up2 (lmR R20) 0 2 (some 19)) 22 none
def R27 : RT := rs2 (up2 (chR R23) 0 3 (some 22)) 26 none
def R30 : RT := up2 (rs2 (up2 (wkR R27) 0 4 (some 26)) 29 none) 0 5 (some 29)
def R32 : RT := up2 (bxR0 (rs2 R30 30 none)) 29 0 (some 30)
def R34 : RT := up2 (bxR1 (rs2 R32 32 none)) 29 1 (some 32)
def R36 : RT := up2 (bxR2 (rs2 R34 34 none)) 29 2 (some 34)
def R38 : RT := up2 (bxR3 (rs2 R36 36 none)) 29 3 (some 36)
def R39 : RT := up2 (rs2 R38 38 none) 0 6 (some 38)
def R40 : RT := rs2 R39 39 none
theorem lb_none (d : Nat → Option Nat) : ∀ k, lbO (fun _ => false) d k = none
  | 0 => rfl
  | k + 1 => by
    have ih := lb_none d k
    show (match false, d k, lbO (fun _ => false) d k with | true, some x, none => some x | true, some x, some y => if x < y then some x else some y | _, _, o => o) = none
    rw [ih]
theorem MX_new {I I' : IT} {J J' : JT} (h : MD I J 0 nx0 none none) (h11 : I 11 11 = -9) (hI : ∀ o, o = 1 ∨ (11 ≤ o ∧ o ≤ 18) → I' o = I o) : MX I' J' 0 nx0 none none := by
  refine MX_cg (MX_J (J := J) ⟨h, ?_, fun w hw => ?_⟩ (fun t s r ht => absurd ht (Nat.not_lt_zero t))) hI
  · have e : lwX (rc (Tx J nx0)) (Sx J none) (Bx J none) = none := lb_none _ 16
    rw [e]; exact h11
  · have e : lwX (rc (Tx J nx0)) (Sx J none) (Bx J none) = none := lb_none _ 16
    rw [e] at hw; cases hw
def CA (M' : MI) (ci o : Nat) (n : Nat) (av : List Value) : Prop := ∃ (ci o : Nat) (av' : List Value), av = .ref o :: av' ∧ o < n ∧ (sh o).1 = ci ∧ ci < 8 ∧ clsNo M' ci
theorem ct_R39 {I : IT} {J : JT} : Ct mX6_init 4 [.ref 0] 1 RB1 I J 39 (fun r R' I' J' => R' = R39 ∧ r = none ∧ CL 0 nx0 none none 0 1 (fun _ => none) 0 I' J' ∧ ∀ o, 39 ≤ o → I' o = I o) := by
  refine ct_of (by decide) rfl (Nat.le_of_ble_eq_true rfl) ?_
  refine blk s_X6_init_0 (nm ?_)
  refine o_X6_init_1 (by decide) (by decide) (nm ?_)
  refine blk s_X6_init_4 (nm ?_)
  refine n_X6_init_5 rfl (by decide) rfl rfl (nm ?_)
  refine blk s_X6_init_8 (And.intro rfl (nm ?_))
  refine e_callA i_X6_init_9 (ct_tmR (R := R2)) (rest := [.ref 1, .ref 0]) rfl (by decide) (by decide) (by decide) (by decide) rfl (by decide) (fun _ => ⟨4, 1, [], rfl, by decide, rfl, by decide, rfl⟩) rfl rfl (fun r R' Ia Ja hq => ?_)
  obtain ⟨hR, hr, a1, aF⟩ := hq
  subst hR hr
  refine blk s_X6_init_12 (nm ?_)
  refine n_X6_init_16 rfl (by decide) rfl rfl (nm ?_)
  refine blk s_X6_init_19 (And.intro rfl (nm ?_))
  refine e_callA i_X6_init_24 (ct_mcR (show rs2 Ia 11 0 1 9 = 0 from a1)) (rest := [.ref 11, .ref 0]) rfl (by decide) (by decide) (by decide) (by decide) rfl (by decide) (fun _ => ⟨3, 11, [.ref 1], rfl, by decide, rfl, by decide, rfl⟩) rfl rfl (fun r R' Ib Jb hq => ?_)
  obtain ⟨hR, hr, b1, b2, b3, bF⟩ := hq
  subst hR hr
  refine blk s_X6_init_27 (nm ?_)
  refine n_X6_init_31 rfl (by decide) rfl rfl (nm ?_)
  refine blk s_X6_init_34 (And.intro rfl (nm ?_))
  refine e_callA i_X6_init_39 (ct_lmR (R := R20)) (rest := [.ref 19, .ref 0]) rfl (by decide) (by decide) (by decide) (by decide) rfl (by decide) (fun _ => ⟨2, 19, [.ref 11], rfl, by decide, rfl, by decide, rfl⟩) rfl rfl (fun r R' Ic Jc hq => ?_)
  obtain ⟨hR, hr, ⟨c1, c2⟩, cF⟩ := hq
  subst hR hr
  refine blk s_X6_init_42 (nm ?_)
  refine n_X6_init_46 rfl (by decide) rfl rfl (nm ?_)
  refine blk s_X6_init_49 (And.intro rfl (nm ?_))
  refine e_callA i_X6_init_58 (ct_chR (R := R23)) (rest := [.ref 22, .ref 0]) rfl (by decide) (by decide) (by decide) (by decide) rfl (by decide) (fun _ => ⟨1, 22, [.ref 11, .ref 19], rfl, by decide, rfl, by decide, rfl⟩) rfl rfl (fun r R' Id Jd hq => ?_)
  obtain ⟨hR, hr, ⟨d1, d2, d3⟩, dF⟩ := hq
  subst hR hr
  refine blk s_X6_init_61 (nm ?_)
  refine n_X6_init_65 rfl (by decide) rfl rfl (nm ?_)
  refine blk s_X6_init_68 (And.intro rfl (nm ?_))
  refine e_callA i_X6_init_73 (ct_wkR (R := R27)) (rest := [.ref 26, .ref 0]) rfl (by decide) (by decide) (by decide) (by decide) rfl (by decide) (fun _ => ⟨5, 26, [.ref 11], rfl, by decide, rfl, by decide, rfl⟩) rfl rfl (fun r R' Ie Je hq => ?_)
  obtain ⟨hR, hr, eF⟩ := hq
  subst hR hr
  refine blk s_X6_init_76 (nm ?_)
  refine n_X6_init_81 (len := 4) (by decide) (by decide) (by decide) rfl (by decide) rfl rfl (nm ?_)
  refine blk s_X6_init_84 (nm ?_)
  refine blk s_X6_init_89 (nm ?_)
  refine b_X6_init_91 (fun h => absurd h (by decide)) (fun _ => ?_)
  refine blk s_X6_init_94 (nm ?_)
  refine n_X6_init_99 rfl (by decide) rfl rfl (nm ?_)
  refine blk s_X6_init_102 (And.intro rfl (nm ?_))
  refine e_callA i_X6_init_103 (ct_bxR0 (R := rs2 R30 30 none)) (rest := [.ref 30, .int 0, .ref 29]) rfl (by decide) (by decide) (by decide) (by decide) rfl (by decide) (fun _ => ⟨0, 30, [], rfl, by decide, rfl, by decide, rfl⟩) rfl rfl (fun r R' If0 Jf0 hq => ?_)
  obtain ⟨hR, hr, f0, fF0⟩ := hq
  subst hR hr
  refine blk s_X6_init_106 (And.intro (by unfold vp_in; decide) (nm ?_))
  refine blk s_X6_init_89 (nm ?_)
  refine b_X6_init_91 (fun h => absurd h (by decide)) (fun _ => ?_)
  refine blk s_X6_init_94 (nm ?_)
  refine n_X6_init_99 rfl (by decide) rfl rfl (nm ?_)
  refine blk s_X6_init_102 (And.intro rfl (nm ?_))
  refine e_callA i_X6_init_103 (ct_bxR1 (R := rs2 R32 32 none)) (rest := [.ref 32, .int 1, .ref 29]) rfl (by decide) (by decide) (by decide) (by decide) rfl (by decide) (fun _ => ⟨0, 32, [], rfl, by decide, rfl, by decide, rfl⟩) rfl rfl (fun r R' If1 Jf1 hq => ?_)
  obtain ⟨hR, hr, f1, fF1⟩ := hq
  subst hR hr
  refine blk s_X6_init_106 (And.intro (by unfold vp_in; decide) (nm ?_))
  refine blk s_X6_init_89 (nm ?_)
  refine b_X6_init_91 (fun h => absurd h (by decide)) (fun _ => ?_)
  refine blk s_X6_init_94 (nm ?_)
  refine n_X6_init_99 rfl (by decide) rfl rfl (nm ?_)
  refine blk s_X6_init_102 (And.intro rfl (nm ?_))
  refine e_callA i_X6_init_103 (ct_bxR2 (R := rs2 R34 34 none)) (rest := [.ref 34, .int 2, .ref 29]) rfl (by decide) (by decide) (by decide) (by decide) rfl (by decide) (fun _ => ⟨0, 34, [], rfl, by decide, rfl, by decide, rfl⟩) rfl rfl (fun r R' If2 Jf2 hq => ?_)
  obtain ⟨hR, hr, f2, fF2⟩ := hq
  subst hR hr
  refine blk s_X6_init_106 (And.intro (by unfold vp_in; decide) (nm ?_))
  refine blk s_X6_init_89 (nm ?_)
  refine b_X6_init_91 (fun h => absurd h (by decide)) (fun _ => ?_)
  refine blk s_X6_init_94 (nm ?_)
  refine n_X6_init_99 rfl (by decide) rfl rfl (nm ?_)
  refine blk s_X6_init_102 (And.intro rfl (nm ?_))
  refine e_callA i_X6_init_103 (ct_bxR3 (R := rs2 R36 36 none)) (rest := [.ref 36, .int 3, .ref 29]) rfl (by decide) (by decide) (by decide) (by decide) rfl (by decide) (fun _ => ⟨0, 36, [], rfl, by decide, rfl, by decide, rfl⟩) rfl rfl (fun r R' If3 Jf3 hq => ?_)
  obtain ⟨hR, hr, f3, fF3⟩ := hq
  subst hR hr
  refine blk s_X6_init_106 (And.intro (by unfold vp_in; decide) (nm ?_))
  refine blk s_X6_init_89 (nm ?_)
  refine b_X6_init_91 (fun _ => ?_) (fun h => absurd (by decide) h)
  refine blk s_X6_init_113 (nm ?_)
  refine n_X6_init_116 (len := 8) (by decide) (by decide) (by decide) rfl (by decide) rfl rfl (nm ?_)
  refine blk s_X6_init_118 (nm ?_)
  have k3 : ∀ o, o ≠ 0 → o ≠ 38 → up2 (rs2 If3 38 0) 0 7 0 o = If3 o := fun o h1 h2 => by rw [up2_o h1, rs2_o h2]
  have k2 : ∀ o, o < 36 ∨ 37 < o → If3 o = If2 o := fun o h => by rw [fF3 o h, rs2_o (by omega)]
  have k1 : ∀ o, o < 34 ∨ 35 < o → If2 o = If1 o := fun o h => by rw [fF2 o h, rs2_o (by omega)]
  have k0 : ∀ o, o < 32 ∨ 33 < o → If1 o = If0 o := fun o h => by rw [fF1 o h, rs2_o (by omega)]
  have ke : ∀ o, o < 29 ∨ 31 < o → If0 o = Ie o := fun o h => by rw [fF0 o (by omega), rs2_o (by omega), rs2_o (by omega)]
  have kd : ∀ o, o < 26 ∨ 28 < o → Ie o = Id o := fun o h => by rw [eF o h, rs2_o (by omega)]
  have kc : ∀ o, o < 22 ∨ 25 < o → Id o = Ic o := fun o h => by rw [dF o h, rs2_o (by omega)]
  have kb : ∀ o, o < 19 ∨ 21 < o → Ic o = Ib o := fun o h => by rw [cF o h, rs2_o (by omega)]
  have ka : ∀ o, o < 11 ∨ 18 < o → Ib o = Ia o := fun o h => by rw [bF o h, rs2_o (by omega)]
  have kz : ∀ o, 11 ≤ o → Ia o = I o := fun o h => by rw [aF o (Or.inr h), rs2_o (by omega)]
  have lo : ∀ o, 1 ≤ o → o < 26 → up2 (rs2 If3 38 0) 0 7 0 o = Id o := fun o h1 h2 => by rw [k3 o (by omega) (by omega), k2 o (by omega), k1 o (by omega), k0 o (by omega), ke o (by omega), kd o (by omega)]
  refine r_X6_init_126 ⟨rfl, ⟨?_, ⟨?_, Nat.zero_le _, ?_, fun k hk => absurd hk (Nat.not_lt_zero k)⟩, ⟨?_, 0, ?_, Nat.zero_le _, Or.inl ?_, fun h => absurd h (by decide)⟩, fun b hb => ⟨fun _ => ?_, fun so l p h => by cases h⟩, up2_s⟩, fun o ho => ?_⟩
  · exact MX_new b1 b3 fun o ho => by rw [lo o (by omega) (by omega), kc o (by omega), kb o (by omega)]
  · rw [lo 19 (by decide) (by decide), kc 19 (by decide)]; exact c1
  · rw [lo 19 (by decide) (by decide), kc 19 (by decide), c2]
    exact bs_all.symm
  · rw [lo 11 (by decide) (by decide), kc 11 (by decide), kb 11 (by decide)]; exact b2
  · rw [lo 22 (by decide) (by decide)]; exact d3
  · rw [lo 22 (by decide) (by decide)]; exact d1
  · rcases b4 hb with rfl | rfl | rfl | rfl
    · exact ((congrFun (k3 30 (by decide) (by decide)) 2).trans ((congrFun (k2 30 (by decide)) 2).trans ((congrFun (k1 30 (by decide)) 2).trans (congrFun (k0 30 (by decide)) 2)))).trans f0
    · exact ((congrFun (k3 32 (by decide) (by decide)) 2).trans ((congrFun (k2 32 (by decide)) 2).trans (congrFun (k1 32 (by decide)) 2))).trans f1
    · exact ((congrFun (k3 34 (by decide) (by decide)) 2).trans (congrFun (k2 34 (by decide)) 2)).trans f2
    · exact (congrFun (k3 36 (by decide) (by decide)) 2).trans f3
  · rw [k3 o (by omega) (by omega), k2 o (by omega), k1 o (by omega), k0 o (by omega), ke o (by omega), kd o (by omega), kc o (by omega), kb o (by omega), ka o (by omega), kz o (by omega)]
theorem R62 : mdR R40 = RF := by
  refine R_eq ?_ Rg_RF ?_
  · unfold mdR R40 R39 R38 bxR3 R36 bxR2 R34 bxR1 R32 bxR0 R30 wkR R27 chR R23 lmR R20
    repeat (first | exact Rg_19 | refine Rg_up ?_ (by decide) (by decide) | refine Rg_rs ?_)
  · decide +kernel
