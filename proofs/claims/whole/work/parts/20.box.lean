/-! ClaimChains$Box.<init>()V -/
set_option maxRecDepth 20000 in
theorem s_X0_init_0 : Snd mX0_init 0 (opLdA 0) 1 := (snd_aload_n (k := 0) (by decide +kernel) rfl)
set_option maxRecDepth 20000 in
theorem o_X0_init_1 : OIn mX0_init 1 := fun h1 h2 => e_oinit (by decide +kernel) w341 w106 w107 h1 h2
set_option maxRecDepth 20000 in
theorem s_X0_init_4 : Snd mX0_init 4 (sq (opLdA 0) (opCi (8))) 7 := (snd_sq (snd_aload_n (k := 0) (by decide +kernel) rfl) (snd_bipush (k := 8) (by decide) (by decide +kernel)))
set_option maxRecDepth 20000 in
theorem n_X0_init_7 : NewA mX0_init 7 2 100 := fun h1 h2 h3 h4 h5 h6 h7 => e_newI (by decide +kernel) w158 h1 h2 h3 h4 h5 h6 h7
set_option maxRecDepth 20000 in
theorem s_X0_init_9 : Snd mX0_init 9 (sq (opPutR 0 0) (sq (opLdA 0) (sq (opCi (0)) (sq (opPutI 0 1) (sq (opLdA 0) (sq (opCi (-9)) (opPutI 0 2))))))) 23 := (snd_sq (snd_putR (ci := 0) (k := 0) (by decide +kernel) rfl (by decide) (by decide) rfl iw_0 tyX0_ok nmX0 rfl rfl rfl (tyX0_ok 0 (by decide)) (fun _ => rfl) (fun _ => rfl) w342) (snd_sq (snd_aload_n (k := 0) (by decide +kernel) rfl) (snd_sq (snd_iconst (k := 0) (by decide) (by decide +kernel)) (snd_sq (snd_putI (ci := 0) (k := 1) (by decide +kernel) rfl (by decide) (by decide) (by decide) iw_0 tyX0_ok nmX0 rfl (tyX0_ok 1 (by decide)) w344) (snd_sq (snd_aload_n (k := 0) (by decide +kernel) rfl) (snd_sq (snd_bipush (k := -9) (by decide) (by decide +kernel)) (snd_putI (ci := 0) (k := 2) (by decide +kernel) rfl (by decide) (by decide) (by decide) iw_0 tyX0_ok nmX0 rfl (tyX0_ok 2 (by decide)) w345)))))))
set_option maxRecDepth 20000 in
theorem r_X0_init_23 : RtV mX0_init 23 := rt_V (by decide +kernel) rfl
/-! ClaimChains$Box.hasRow()Z -/
set_option maxRecDepth 20000 in
theorem s_X0_hasRow_0 : Snd mX0_hasRow 0 (sq (opLdA 0) (opGetI 0 2)) 4 := (snd_sq (snd_aload_n (k := 0) (by decide +kernel) rfl) (snd_getI (ci := 0) (k := 2) (by decide +kernel) rfl (by decide) (by decide) (by decide) iw_0 w345))
set_option maxRecDepth 20000 in
theorem b_X0_hasRow_4 : Br_if_lt mX0_hasRow 4 11 := br_if_lt (off := 7) (by decide +kernel) (by decide)
set_option maxRecDepth 20000 in
theorem s_X0_hasRow_7 : Snd mX0_hasRow 7 (sq (opCi (1)) opNop) 12 := (snd_sq (snd_iconst (k := 1) (by decide) (by decide +kernel)) (snd_goto (off := 4) (by decide +kernel) (by decide)))
set_option maxRecDepth 20000 in
theorem s_X0_hasRow_11 : Snd mX0_hasRow 11 (opCi (0)) 12 := (snd_iconst (k := 0) (by decide) (by decide +kernel))
set_option maxRecDepth 20000 in
theorem r_X0_hasRow_12 : RtZ mX0_hasRow 12 := rt_Z (by decide +kernel) rfl
/-! ClaimChains$Box.hasPlace(I)Z -/
set_option maxRecDepth 20000 in
theorem s_X0_hasPlace_0 : Snd mX0_hasPlace 0 (opLdI 1) 1 := (snd_iload_n (k := 1) (by decide +kernel) rfl)
set_option maxRecDepth 20000 in
theorem b_X0_hasPlace_1 : Br_if_lt mX0_hasPlace 1 16 := br_if_lt (off := 15) (by decide +kernel) (by decide)
set_option maxRecDepth 20000 in
theorem s_X0_hasPlace_4 : Snd mX0_hasPlace 4 (sq (opLdI 1) (sq (opLdA 0) (opGetI 0 2))) 9 := (snd_sq (snd_iload_n (k := 1) (by decide +kernel) rfl) (snd_sq (snd_aload_n (k := 0) (by decide +kernel) rfl) (snd_getI (ci := 0) (k := 2) (by decide +kernel) rfl (by decide) (by decide) (by decide) iw_0 w345)))
set_option maxRecDepth 20000 in
theorem b_X0_hasPlace_9 : Br_ic_ge mX0_hasPlace 9 16 := br_ic_ge (off := 7) (by decide +kernel) (by decide)
set_option maxRecDepth 20000 in
theorem s_X0_hasPlace_12 : Snd mX0_hasPlace 12 (sq (opCi (1)) opNop) 17 := (snd_sq (snd_iconst (k := 1) (by decide) (by decide +kernel)) (snd_goto (off := 4) (by decide +kernel) (by decide)))
set_option maxRecDepth 20000 in
theorem s_X0_hasPlace_16 : Snd mX0_hasPlace 16 (opCi (0)) 17 := (snd_iconst (k := 0) (by decide) (by decide +kernel))
set_option maxRecDepth 20000 in
theorem r_X0_hasPlace_17 : RtZ mX0_hasPlace 17 := rt_Z (by decide +kernel) rfl
/-! ClaimChains$Box.hasRange(II)Z -/
set_option maxRecDepth 20000 in
theorem s_X0_hasRange_0 : Snd mX0_hasRange 0 (opLdI 1) 1 := (snd_iload_n (k := 1) (by decide +kernel) rfl)
set_option maxRecDepth 20000 in
theorem b_X0_hasRange_1 : Br_if_lt mX0_hasRange 1 30 := br_if_lt (off := 29) (by decide +kernel) (by decide)
set_option maxRecDepth 20000 in
theorem s_X0_hasRange_4 : Snd mX0_hasRange 4 (opLdI 2) 5 := (snd_iload_n (k := 2) (by decide +kernel) rfl)
set_option maxRecDepth 20000 in
theorem b_X0_hasRange_5 : Br_if_lt mX0_hasRange 5 30 := br_if_lt (off := 25) (by decide +kernel) (by decide)
set_option maxRecDepth 20000 in
theorem s_X0_hasRange_8 : Snd mX0_hasRange 8 (sq (opLdI 1) (sq (opLdA 0) (opGetI 0 2))) 13 := (snd_sq (snd_iload_n (k := 1) (by decide +kernel) rfl) (snd_sq (snd_aload_n (k := 0) (by decide +kernel) rfl) (snd_getI (ci := 0) (k := 2) (by decide +kernel) rfl (by decide) (by decide) (by decide) iw_0 w345)))
set_option maxRecDepth 20000 in
theorem b_X0_hasRange_13 : Br_ic_gt mX0_hasRange 13 30 := br_ic_gt (off := 17) (by decide +kernel) (by decide)
set_option maxRecDepth 20000 in
theorem s_X0_hasRange_16 : Snd mX0_hasRange 16 (sq (opLdI 2) (sq (opLdA 0) (sq (opGetI 0 2) (sq (opLdI 1) opisub)))) 23 := (snd_sq (snd_iload_n (k := 2) (by decide +kernel) rfl) (snd_sq (snd_aload_n (k := 0) (by decide +kernel) rfl) (snd_sq (snd_getI (ci := 0) (k := 2) (by decide +kernel) rfl (by decide) (by decide) (by decide) iw_0 w345) (snd_sq (snd_iload_n (k := 1) (by decide +kernel) rfl) (snd_isub (by decide +kernel))))))
set_option maxRecDepth 20000 in
theorem b_X0_hasRange_23 : Br_ic_gt mX0_hasRange 23 30 := br_ic_gt (off := 7) (by decide +kernel) (by decide)
set_option maxRecDepth 20000 in
theorem s_X0_hasRange_26 : Snd mX0_hasRange 26 (sq (opCi (1)) opNop) 31 := (snd_sq (snd_iconst (k := 1) (by decide) (by decide +kernel)) (snd_goto (off := 4) (by decide +kernel) (by decide)))
set_option maxRecDepth 20000 in
theorem s_X0_hasRange_30 : Snd mX0_hasRange 30 (opCi (0)) 31 := (snd_iconst (k := 0) (by decide) (by decide +kernel))
set_option maxRecDepth 20000 in
theorem r_X0_hasRange_31 : RtZ mX0_hasRange 31 := rt_Z (by decide +kernel) rfl
/-! ClaimChains$Box.admits(I)Z -/
set_option maxRecDepth 20000 in
theorem s_X0_admits_0 : Snd mX0_admits 0 (sq (opLdA 0) (opGetI 0 1)) 4 := (snd_sq (snd_aload_n (k := 0) (by decide +kernel) rfl) (snd_getI (ci := 0) (k := 1) (by decide +kernel) rfl (by decide) (by decide) (by decide) iw_0 w344))
set_option maxRecDepth 20000 in
theorem hw_X0_admits_4 : decode (MI.bytes mX0_admits) 4 = .ok (.tableswitch 67 1 3 #[28, 39, 50], 28) := by decide +kernel
set_option maxRecDepth 20000 in
theorem w_X0_admits_4 {d cap : Nat} {L : LT} {x : Int32} {st : List Value} {n : Nat} {R : RT} {I : IT} {J : JT} {Q : QT} (k1 : x = 1 → Ends mX0_admits d cap 32 L st n R I J Q) (k2 : x = 2 → Ends mX0_admits d cap 43 L st n R I J Q) (k3 : x = 3 → Ends mX0_admits d cap 54 L st n R I J Q) (kd : ¬ x = 1 → ¬ x = 2 → ¬ x = 3 → Ends mX0_admits d cap 71 L st n R I J Q) : Ends mX0_admits d cap 4 L (.int x :: st) n R I J Q := by
  by_cases h0 : x.toInt < 1 ∨ 3 < x.toInt
  · exact sw_out hw_X0_admits_4 h0 (by decide) (kd (fun h => by subst h; revert h0; decide) (fun h => by subst h; revert h0; decide) (fun h => by subst h; revert h0; decide))
  · have h1 : x.toInt = 1 ∨ x.toInt = 2 ∨ x.toInt = 3 := by omega
    rcases h1 with h1 | h1 | h1
    · have h2 : x = 1 := i32_of h1 (by decide)
      subst h2
      exact sw_in (off := 28) hw_X0_admits_4 (by decide) (by decide) (by decide +kernel) (by decide) (k1 rfl)
    · have h2 : x = 2 := i32_of h1 (by decide)
      subst h2
      exact sw_in (off := 39) hw_X0_admits_4 (by decide) (by decide) (by decide +kernel) (by decide) (k2 rfl)
    · have h2 : x = 3 := i32_of h1 (by decide)
      subst h2
      exact sw_in (off := 50) hw_X0_admits_4 (by decide) (by decide) (by decide +kernel) (by decide) (k3 rfl)
set_option maxRecDepth 20000 in
theorem s_X0_admits_32 : Snd mX0_admits 32 (sq (opLdI 1) (opCi (2))) 34 := (snd_sq (snd_iload_n (k := 1) (by decide +kernel) rfl) (snd_iconst (k := 2) (by decide) (by decide +kernel)))
set_option maxRecDepth 20000 in
theorem b_X0_admits_34 : Br_ic_gt mX0_admits 34 41 := br_ic_gt (off := 7) (by decide +kernel) (by decide)
set_option maxRecDepth 20000 in
theorem s_X0_admits_37 : Snd mX0_admits 37 (sq (opCi (1)) opNop) 42 := (snd_sq (snd_iconst (k := 1) (by decide) (by decide +kernel)) (snd_goto (off := 4) (by decide +kernel) (by decide)))
set_option maxRecDepth 20000 in
theorem s_X0_admits_41 : Snd mX0_admits 41 (opCi (0)) 42 := (snd_iconst (k := 0) (by decide) (by decide +kernel))
set_option maxRecDepth 20000 in
theorem r_X0_admits_42 : RtZ mX0_admits 42 := rt_Z (by decide +kernel) rfl
set_option maxRecDepth 20000 in
theorem s_X0_admits_43 : Snd mX0_admits 43 (sq (opLdI 1) (opCi (1))) 45 := (snd_sq (snd_iload_n (k := 1) (by decide +kernel) rfl) (snd_iconst (k := 1) (by decide) (by decide +kernel)))
set_option maxRecDepth 20000 in
theorem b_X0_admits_45 : Br_ic_ne mX0_admits 45 52 := br_ic_ne (off := 7) (by decide +kernel) (by decide)
set_option maxRecDepth 20000 in
theorem s_X0_admits_48 : Snd mX0_admits 48 (sq (opCi (1)) opNop) 53 := (snd_sq (snd_iconst (k := 1) (by decide) (by decide +kernel)) (snd_goto (off := 4) (by decide +kernel) (by decide)))
set_option maxRecDepth 20000 in
theorem s_X0_admits_52 : Snd mX0_admits 52 (opCi (0)) 53 := (snd_iconst (k := 0) (by decide) (by decide +kernel))
set_option maxRecDepth 20000 in
theorem r_X0_admits_53 : RtZ mX0_admits 53 := rt_Z (by decide +kernel) rfl
set_option maxRecDepth 20000 in
theorem s_X0_admits_54 : Snd mX0_admits 54 (sq (opLdI 1) (opCi (3))) 56 := (snd_sq (snd_iload_n (k := 1) (by decide +kernel) rfl) (snd_iconst (k := 3) (by decide) (by decide +kernel)))
set_option maxRecDepth 20000 in
theorem b_X0_admits_56 : Br_ic_lt mX0_admits 56 69 := br_ic_lt (off := 13) (by decide +kernel) (by decide)
set_option maxRecDepth 20000 in
theorem s_X0_admits_59 : Snd mX0_admits 59 (sq (opLdI 1) (opCi (6))) 62 := (snd_sq (snd_iload_n (k := 1) (by decide +kernel) rfl) (snd_bipush (k := 6) (by decide) (by decide +kernel)))
set_option maxRecDepth 20000 in
theorem b_X0_admits_62 : Br_ic_gt mX0_admits 62 69 := br_ic_gt (off := 7) (by decide +kernel) (by decide)
set_option maxRecDepth 20000 in
theorem s_X0_admits_65 : Snd mX0_admits 65 (sq (opCi (1)) opNop) 70 := (snd_sq (snd_iconst (k := 1) (by decide) (by decide +kernel)) (snd_goto (off := 4) (by decide +kernel) (by decide)))
set_option maxRecDepth 20000 in
theorem s_X0_admits_69 : Snd mX0_admits 69 (opCi (0)) 70 := (snd_iconst (k := 0) (by decide) (by decide +kernel))
set_option maxRecDepth 20000 in
theorem r_X0_admits_70 : RtZ mX0_admits 70 := rt_Z (by decide +kernel) rfl
set_option maxRecDepth 20000 in
theorem s_X0_admits_71 : Snd mX0_admits 71 (opCi (1)) 72 := (snd_iconst (k := 1) (by decide) (by decide +kernel))
set_option maxRecDepth 20000 in
theorem r_X0_admits_72 : RtZ mX0_admits 72 := rt_Z (by decide +kernel) rfl
/-! ClaimChains$Box.getNewRow(II)V -/
set_option maxRecDepth 20000 in
theorem s_X0_getNewRow_0 : Snd mX0_getNewRow 0 (sq (opLdA 0) (sq (opLdI 1) (sq (opPutI 0 1) (sq (opLdA 0) (sq (opLdI 2) (sq (opPutI 0 2) (sq (opCi (0)) (opStI 3)))))))) 12 := (snd_sq (snd_aload_n (k := 0) (by decide +kernel) rfl) (snd_sq (snd_iload_n (k := 1) (by decide +kernel) rfl) (snd_sq (snd_putI (ci := 0) (k := 1) (by decide +kernel) rfl (by decide) (by decide) (by decide) iw_0 tyX0_ok nmX0 rfl (tyX0_ok 1 (by decide)) w344) (snd_sq (snd_aload_n (k := 0) (by decide +kernel) rfl) (snd_sq (snd_iload_n (k := 2) (by decide +kernel) rfl) (snd_sq (snd_putI (ci := 0) (k := 2) (by decide +kernel) rfl (by decide) (by decide) (by decide) iw_0 tyX0_ok nmX0 rfl (tyX0_ok 2 (by decide)) w345) (snd_sq (snd_iconst (k := 0) (by decide) (by decide +kernel)) (snd_istore_n (k := 3) (by decide +kernel) rfl (by decide)))))))))
set_option maxRecDepth 20000 in
theorem s_X0_getNewRow_12 : Snd mX0_getNewRow 12 (sq (opLdI 3) (opCi (8))) 15 := (snd_sq (snd_iload_n (k := 3) (by decide +kernel) rfl) (snd_bipush (k := 8) (by decide) (by decide +kernel)))
set_option maxRecDepth 20000 in
theorem b_X0_getNewRow_15 : Br_ic_ge mX0_getNewRow 15 32 := br_ic_ge (off := 17) (by decide +kernel) (by decide)
set_option maxRecDepth 20000 in
theorem s_X0_getNewRow_18 : Snd mX0_getNewRow 18 (sq (opLdA 0) (sq (opGetR 0 0) (sq (opLdI 3) (sq (opCi (-9)) (sq opIast (sq (opInc 3 (1)) opNop)))))) 12 := (snd_sq (snd_aload_n (k := 0) (by decide +kernel) rfl) (snd_sq (snd_getR (ci := 0) (k := 0) (by decide +kernel) rfl (by decide) (by decide) rfl iw_0 w342) (snd_sq (snd_iload_n (k := 3) (by decide +kernel) rfl) (snd_sq (snd_bipush (k := -9) (by decide) (by decide +kernel)) (snd_sq (snd_iast (by decide +kernel)) (snd_sq (snd_iinc (k := 1) (by decide +kernel) (by decide) (by decide)) (snd_goto (off := -17) (by decide +kernel) (by decide))))))))
set_option maxRecDepth 20000 in
theorem r_X0_getNewRow_32 : RtV mX0_getNewRow 32 := rt_V (by decide +kernel) rfl
/-! ClaimChains$Box.becomeLike(LClaimChains$Box;)V -/
set_option maxRecDepth 20000 in
theorem s_X0_becomeLike_0 : Snd mX0_becomeLike 0 (sq (opLdA 0) (sq (opLdA 1) (sq (opGetI 0 1) (sq (opPutI 0 1) (sq (opLdA 0) (sq (opLdA 1) (sq (opGetI 0 2) (sq (opPutI 0 2) (sq (opCi (0)) (opStI 2)))))))))) 18 := (snd_sq (snd_aload_n (k := 0) (by decide +kernel) rfl) (snd_sq (snd_aload_n (k := 1) (by decide +kernel) rfl) (snd_sq (snd_getI (ci := 0) (k := 1) (by decide +kernel) rfl (by decide) (by decide) (by decide) iw_0 w344) (snd_sq (snd_putI (ci := 0) (k := 1) (by decide +kernel) rfl (by decide) (by decide) (by decide) iw_0 tyX0_ok nmX0 rfl (tyX0_ok 1 (by decide)) w344) (snd_sq (snd_aload_n (k := 0) (by decide +kernel) rfl) (snd_sq (snd_aload_n (k := 1) (by decide +kernel) rfl) (snd_sq (snd_getI (ci := 0) (k := 2) (by decide +kernel) rfl (by decide) (by decide) (by decide) iw_0 w345) (snd_sq (snd_putI (ci := 0) (k := 2) (by decide +kernel) rfl (by decide) (by decide) (by decide) iw_0 tyX0_ok nmX0 rfl (tyX0_ok 2 (by decide)) w345) (snd_sq (snd_iconst (k := 0) (by decide) (by decide +kernel)) (snd_istore_n (k := 2) (by decide +kernel) rfl (by decide)))))))))))
set_option maxRecDepth 20000 in
theorem s_X0_becomeLike_18 : Snd mX0_becomeLike 18 (sq (opLdI 2) (opCi (8))) 21 := (snd_sq (snd_iload_n (k := 2) (by decide +kernel) rfl) (snd_bipush (k := 8) (by decide) (by decide +kernel)))
set_option maxRecDepth 20000 in
theorem b_X0_becomeLike_21 : Br_ic_ge mX0_becomeLike 21 42 := br_ic_ge (off := 21) (by decide +kernel) (by decide)
set_option maxRecDepth 20000 in
theorem s_X0_becomeLike_24 : Snd mX0_becomeLike 24 (sq (opLdA 0) (sq (opGetR 0 0) (sq (opLdI 2) (sq (opLdA 1) (sq (opGetR 0 0) (sq (opLdI 2) (sq opIald (sq opIast (sq (opInc 2 (1)) opNop))))))))) 18 := (snd_sq (snd_aload_n (k := 0) (by decide +kernel) rfl) (snd_sq (snd_getR (ci := 0) (k := 0) (by decide +kernel) rfl (by decide) (by decide) rfl iw_0 w342) (snd_sq (snd_iload_n (k := 2) (by decide +kernel) rfl) (snd_sq (snd_aload_n (k := 1) (by decide +kernel) rfl) (snd_sq (snd_getR (ci := 0) (k := 0) (by decide +kernel) rfl (by decide) (by decide) rfl iw_0 w342) (snd_sq (snd_iload_n (k := 2) (by decide +kernel) rfl) (snd_sq (snd_iald (by decide +kernel)) (snd_sq (snd_iast (by decide +kernel)) (snd_sq (snd_iinc (k := 1) (by decide +kernel) (by decide) (by decide)) (snd_goto (off := -21) (by decide +kernel) (by decide)))))))))))
set_option maxRecDepth 20000 in
theorem r_X0_becomeLike_42 : RtV mX0_becomeLike 42 := rt_V (by decide +kernel) rfl
/-! ClaimChains$Box.loseRow()V -/
set_option maxRecDepth 20000 in
theorem s_X0_loseRow_0 : Snd mX0_loseRow 0 (sq (opLdA 0) (sq (opCi (-9)) (opPutI 0 2))) 6 := (snd_sq (snd_aload_n (k := 0) (by decide +kernel) rfl) (snd_sq (snd_bipush (k := -9) (by decide) (by decide +kernel)) (snd_putI (ci := 0) (k := 2) (by decide +kernel) rfl (by decide) (by decide) (by decide) iw_0 tyX0_ok nmX0 rfl (tyX0_ok 2 (by decide)) w345)))
set_option maxRecDepth 20000 in
theorem r_X0_loseRow_6 : RtV mX0_loseRow 6 := rt_V (by decide +kernel) rfl
