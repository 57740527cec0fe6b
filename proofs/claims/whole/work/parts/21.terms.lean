/-! ClaimChains$Terms.<init>()V -/
set_option maxRecDepth 20000 in
theorem s_X4_init_0 : Snd mX4_init 0 (opLdA 0) 1 := (snd_aload_n (k := 0) (by decide +kernel) rfl)
set_option maxRecDepth 20000 in
theorem o_X4_init_1 : OIn mX4_init 1 := fun h1 h2 => e_oinit (by decide +kernel) w113 w106 w107 h1 h2
set_option maxRecDepth 20000 in
theorem s_X4_init_4 : Snd mX4_init 4 (sq (opLdA 0) (opCi (40))) 7 := (snd_sq (snd_aload_n (k := 0) (by decide +kernel) rfl) (snd_bipush (k := 40) (by decide) (by decide +kernel)))
set_option maxRecDepth 20000 in
theorem n_X4_init_7 : NewA mX4_init 7 2 100 := fun h1 h2 h3 h4 h5 h6 h7 => e_newI (by decide +kernel) w158 h1 h2 h3 h4 h5 h6 h7
set_option maxRecDepth 20000 in
theorem s_X4_init_9 : Snd mX4_init 9 (sq (opPutR 4 0) (sq (opLdA 0) (opCi (40)))) 15 := (snd_sq (snd_putR (ci := 4) (k := 0) (by decide +kernel) rfl (by decide) (by decide) rfl iw_4 tyX4_ok nmX4 rfl rfl rfl (tyX4_ok 0 (by decide)) (fun _ => rfl) (fun _ => rfl) w114) (snd_sq (snd_aload_n (k := 0) (by decide +kernel) rfl) (snd_bipush (k := 40) (by decide) (by decide +kernel))))
set_option maxRecDepth 20000 in
theorem n_X4_init_15 : NewA mX4_init 15 2 100 := fun h1 h2 h3 h4 h5 h6 h7 => e_newI (by decide +kernel) w158 h1 h2 h3 h4 h5 h6 h7
set_option maxRecDepth 20000 in
theorem s_X4_init_17 : Snd mX4_init 17 (sq (opPutR 4 1) (sq (opLdA 0) (opCi (40)))) 23 := (snd_sq (snd_putR (ci := 4) (k := 1) (by decide +kernel) rfl (by decide) (by decide) rfl iw_4 tyX4_ok nmX4 rfl rfl rfl (tyX4_ok 1 (by decide)) (fun _ => rfl) (fun _ => rfl) w116) (snd_sq (snd_aload_n (k := 0) (by decide +kernel) rfl) (snd_bipush (k := 40) (by decide) (by decide +kernel))))
set_option maxRecDepth 20000 in
theorem n_X4_init_23 : NewA mX4_init 23 2 100 := fun h1 h2 h3 h4 h5 h6 h7 => e_newI (by decide +kernel) w158 h1 h2 h3 h4 h5 h6 h7
set_option maxRecDepth 20000 in
theorem s_X4_init_25 : Snd mX4_init 25 (sq (opPutR 4 2) (sq (opLdA 0) (opCi (40)))) 31 := (snd_sq (snd_putR (ci := 4) (k := 2) (by decide +kernel) rfl (by decide) (by decide) rfl iw_4 tyX4_ok nmX4 rfl rfl rfl (tyX4_ok 2 (by decide)) (fun _ => rfl) (fun _ => rfl) w118) (snd_sq (snd_aload_n (k := 0) (by decide +kernel) rfl) (snd_bipush (k := 40) (by decide) (by decide +kernel))))
set_option maxRecDepth 20000 in
theorem n_X4_init_31 : NewA mX4_init 31 2 100 := fun h1 h2 h3 h4 h5 h6 h7 => e_newI (by decide +kernel) w158 h1 h2 h3 h4 h5 h6 h7
set_option maxRecDepth 20000 in
theorem s_X4_init_33 : Snd mX4_init 33 (sq (opPutR 4 3) (sq (opLdA 0) (opCi (40)))) 39 := (snd_sq (snd_putR (ci := 4) (k := 3) (by decide +kernel) rfl (by decide) (by decide) rfl iw_4 tyX4_ok nmX4 rfl rfl rfl (tyX4_ok 3 (by decide)) (fun _ => rfl) (fun _ => rfl) w120) (snd_sq (snd_aload_n (k := 0) (by decide +kernel) rfl) (snd_bipush (k := 40) (by decide) (by decide +kernel))))
set_option maxRecDepth 20000 in
theorem n_X4_init_39 : NewA mX4_init 39 2 100 := fun h1 h2 h3 h4 h5 h6 h7 => e_newI (by decide +kernel) w158 h1 h2 h3 h4 h5 h6 h7
set_option maxRecDepth 20000 in
theorem s_X4_init_41 : Snd mX4_init 41 (sq (opPutR 4 4) (sq (opLdA 0) (opCi (40)))) 47 := (snd_sq (snd_putR (ci := 4) (k := 4) (by decide +kernel) rfl (by decide) (by decide) rfl iw_4 tyX4_ok nmX4 rfl rfl rfl (tyX4_ok 4 (by decide)) (fun _ => rfl) (fun _ => rfl) w122) (snd_sq (snd_aload_n (k := 0) (by decide +kernel) rfl) (snd_bipush (k := 40) (by decide) (by decide +kernel))))
set_option maxRecDepth 20000 in
theorem n_X4_init_47 : NewA mX4_init 47 2 100 := fun h1 h2 h3 h4 h5 h6 h7 => e_newI (by decide +kernel) w158 h1 h2 h3 h4 h5 h6 h7
set_option maxRecDepth 20000 in
theorem s_X4_init_49 : Snd mX4_init 49 (sq (opPutR 4 5) (sq (opLdA 0) (opCi (40)))) 55 := (snd_sq (snd_putR (ci := 4) (k := 5) (by decide +kernel) rfl (by decide) (by decide) rfl iw_4 tyX4_ok nmX4 rfl rfl rfl (tyX4_ok 5 (by decide)) (fun _ => rfl) (fun _ => rfl) w125) (snd_sq (snd_aload_n (k := 0) (by decide +kernel) rfl) (snd_bipush (k := 40) (by decide) (by decide +kernel))))
set_option maxRecDepth 20000 in
theorem n_X4_init_55 : NewA mX4_init 55 2 100 := fun h1 h2 h3 h4 h5 h6 h7 => e_newI (by decide +kernel) w158 h1 h2 h3 h4 h5 h6 h7
set_option maxRecDepth 20000 in
theorem s_X4_init_57 : Snd mX4_init 57 (sq (opPutR 4 6) (sq (opLdA 0) (opCi (40)))) 63 := (snd_sq (snd_putR (ci := 4) (k := 6) (by decide +kernel) rfl (by decide) (by decide) rfl iw_4 tyX4_ok nmX4 rfl rfl rfl (tyX4_ok 6 (by decide)) (fun _ => rfl) (fun _ => rfl) w128) (snd_sq (snd_aload_n (k := 0) (by decide +kernel) rfl) (snd_bipush (k := 40) (by decide) (by decide +kernel))))
set_option maxRecDepth 20000 in
theorem n_X4_init_63 : NewA mX4_init 63 2 101 := fun h1 h2 h3 h4 h5 h6 h7 => e_newL (by decide +kernel) w159 h1 h2 h3 h4 h5 h6 h7
set_option maxRecDepth 20000 in
theorem s_X4_init_65 : Snd mX4_init 65 (sq (opPutR 4 7) (sq (opLdA 0) (opCi (40)))) 71 := (snd_sq (snd_putR (ci := 4) (k := 7) (by decide +kernel) rfl (by decide) (by decide) rfl iw_4 tyX4_ok nmX4 rfl rfl rfl (tyX4_ok 7 (by decide)) (fun _ => rfl) (fun _ => rfl) w130) (snd_sq (snd_aload_n (k := 0) (by decide +kernel) rfl) (snd_bipush (k := 40) (by decide) (by decide +kernel))))
set_option maxRecDepth 20000 in
theorem n_X4_init_71 : NewA mX4_init 71 2 101 := fun h1 h2 h3 h4 h5 h6 h7 => e_newL (by decide +kernel) w159 h1 h2 h3 h4 h5 h6 h7
set_option maxRecDepth 20000 in
theorem s_X4_init_73 : Snd mX4_init 73 (sq (opPutR 4 8) (sq (opLdA 0) (sq (opCi (0)) (opPutI 4 9)))) 81 := (snd_sq (snd_putR (ci := 4) (k := 8) (by decide +kernel) rfl (by decide) (by decide) rfl iw_4 tyX4_ok nmX4 rfl rfl rfl (tyX4_ok 8 (by decide)) (fun _ => rfl) (fun _ => rfl) w132) (snd_sq (snd_aload_n (k := 0) (by decide +kernel) rfl) (snd_sq (snd_iconst (k := 0) (by decide) (by decide +kernel)) (snd_putI (ci := 4) (k := 9) (by decide +kernel) rfl (by decide) (by decide) (by decide) iw_4 tyX4_ok nmX4 rfl (tyX4_ok 9 (by decide)) w135))))
set_option maxRecDepth 20000 in
theorem r_X4_init_81 : RtV mX4_init 81 := rt_V (by decide +kernel) rfl
/-! ClaimChains$Terms.has(I)Z -/
set_option maxRecDepth 20000 in
theorem s_X4_has_0 : Snd mX4_has 0 (opLdI 1) 1 := (snd_iload_n (k := 1) (by decide +kernel) rfl)
set_option maxRecDepth 20000 in
theorem b_X4_has_1 : Br_if_lt mX4_has 1 16 := br_if_lt (off := 15) (by decide +kernel) (by decide)
set_option maxRecDepth 20000 in
theorem s_X4_has_4 : Snd mX4_has 4 (sq (opLdI 1) (sq (opLdA 0) (opGetI 4 9))) 9 := (snd_sq (snd_iload_n (k := 1) (by decide +kernel) rfl) (snd_sq (snd_aload_n (k := 0) (by decide +kernel) rfl) (snd_getI (ci := 4) (k := 9) (by decide +kernel) rfl (by decide) (by decide) (by decide) iw_4 w135)))
set_option maxRecDepth 20000 in
theorem b_X4_has_9 : Br_ic_ge mX4_has 9 16 := br_ic_ge (off := 7) (by decide +kernel) (by decide)
set_option maxRecDepth 20000 in
theorem s_X4_has_12 : Snd mX4_has 12 (sq (opCi (1)) opNop) 17 := (snd_sq (snd_iconst (k := 1) (by decide) (by decide +kernel)) (snd_goto (off := 4) (by decide +kernel) (by decide)))
set_option maxRecDepth 20000 in
theorem s_X4_has_16 : Snd mX4_has 16 (opCi (0)) 17 := (snd_iconst (k := 0) (by decide) (by decide +kernel))
set_option maxRecDepth 20000 in
theorem r_X4_has_17 : RtZ mX4_has 17 := rt_Z (by decide +kernel) rfl
/-! ClaimChains$Terms.trueStates(II)I -/
set_option maxRecDepth 20000 in
theorem s_X4_trueStates_0 : Snd mX4_trueStates 0 (sq (opLdA 0) (sq (opGetR 4 8) (sq (opLdI 1) (sq opLald (sq (opCi (16)) (sq (opLdI 2) (sq opimul (sq oplushr (sq opl2i (sq (opCi (65535)) opiand)))))))))) 15 := (snd_sq (snd_aload_n (k := 0) (by decide +kernel) rfl) (snd_sq (snd_getR (ci := 4) (k := 8) (by decide +kernel) rfl (by decide) (by decide) rfl iw_4 w132) (snd_sq (snd_iload_n (k := 1) (by decide +kernel) rfl) (snd_sq (snd_lald (by decide +kernel)) (snd_sq (snd_bipush (k := 16) (by decide) (by decide +kernel)) (snd_sq (snd_iload_n (k := 2) (by decide +kernel) rfl) (snd_sq (snd_imul (by decide +kernel)) (snd_sq (snd_lushr (by decide +kernel)) (snd_sq (snd_l2i (by decide +kernel)) (snd_sq (snd_ldc w457 (by decide +kernel)) (snd_iand (by decide +kernel))))))))))))
set_option maxRecDepth 20000 in
theorem r_X4_trueStates_15 : RtI mX4_trueStates 15 := rt_I (by decide +kernel) rfl
/-! ClaimChains$Terms.elderOrNew(IIII)I -/
set_option maxRecDepth 20000 in
theorem s_X4_elderOrNew_0 : Snd mX4_elderOrNew 0 (sq (opCi (0)) (opStI 5)) 3 := (snd_sq (snd_iconst (k := 0) (by decide) (by decide +kernel)) (snd_istore (by decide +kernel) (by decide)))
set_option maxRecDepth 20000 in
theorem s_X4_elderOrNew_3 : Snd mX4_elderOrNew 3 (sq (opLdI 5) (sq (opLdA 0) (opGetI 4 9))) 9 := (snd_sq (snd_iload (by decide +kernel)) (snd_sq (snd_aload_n (k := 0) (by decide +kernel) rfl) (snd_getI (ci := 4) (k := 9) (by decide +kernel) rfl (by decide) (by decide) (by decide) iw_4 w135)))
set_option maxRecDepth 20000 in
theorem b_X4_elderOrNew_9 : Br_ic_ge mX4_elderOrNew 9 35 := br_ic_ge (off := 26) (by decide +kernel) (by decide)
set_option maxRecDepth 20000 in
theorem s_X4_elderOrNew_12 : Snd mX4_elderOrNew 12 (sq (opLdA 0) (sq (opLdI 5) (sq (opLdI 1) (sq (opLdI 2) (sq (opLdI 3) (opLdI 4)))))) 20 := (snd_sq (snd_aload_n (k := 0) (by decide +kernel) rfl) (snd_sq (snd_iload (by decide +kernel)) (snd_sq (snd_iload_n (k := 1) (by decide +kernel) rfl) (snd_sq (snd_iload_n (k := 2) (by decide +kernel) rfl) (snd_sq (snd_iload_n (k := 3) (by decide +kernel) rfl) (snd_iload (by decide +kernel)))))))
set_option maxRecDepth 20000 in
theorem c_X4_elderOrNew_20 : CallV mX4_elderOrNew 20 mX4_isJust 4 6 := kallV (site_V rfl w392 (by decide +kernel) w389 w391 w7 w91 ⟨by decide, by decide, by decide +kernel⟩) (by decide) (by decide) (by unfold clsNo; rfl)
set_option maxRecDepth 20000 in
theorem b_X4_elderOrNew_23 : Br_if_eq mX4_elderOrNew 23 29 := br_if_eq (off := 6) (by decide +kernel) (by decide)
set_option maxRecDepth 20000 in
theorem s_X4_elderOrNew_26 : Snd mX4_elderOrNew 26 (opLdI 5) 28 := (snd_iload (by decide +kernel))
set_option maxRecDepth 20000 in
theorem r_X4_elderOrNew_28 : RtI mX4_elderOrNew 28 := rt_I (by decide +kernel) rfl
set_option maxRecDepth 20000 in
theorem s_X4_elderOrNew_29 : Snd mX4_elderOrNew 29 (sq (opInc 5 (1)) opNop) 3 := (snd_sq (snd_iinc (k := 1) (by decide +kernel) (by decide) (by decide)) (snd_goto (off := -29) (by decide +kernel) (by decide)))
set_option maxRecDepth 20000 in
theorem s_X4_elderOrNew_35 : Snd mX4_elderOrNew 35 (sq (opLdA 0) (sq (opGetI 4 9) (opCi (40)))) 41 := (snd_sq (snd_aload_n (k := 0) (by decide +kernel) rfl) (snd_sq (snd_getI (ci := 4) (k := 9) (by decide +kernel) rfl (by decide) (by decide) (by decide) iw_4 w135) (snd_bipush (k := 40) (by decide) (by decide +kernel))))
set_option maxRecDepth 20000 in
theorem b_X4_elderOrNew_41 : Br_ic_lt mX4_elderOrNew 41 47 := br_ic_lt (off := 6) (by decide +kernel) (by decide)
set_option maxRecDepth 20000 in
theorem s_X4_elderOrNew_44 : Snd mX4_elderOrNew 44 (opCi (-4)) 46 := (snd_bipush (k := -4) (by decide) (by decide +kernel))
set_option maxRecDepth 20000 in
theorem r_X4_elderOrNew_46 : RtI mX4_elderOrNew 46 := rt_I (by decide +kernel) rfl
set_option maxRecDepth 20000 in
theorem s_X4_elderOrNew_47 : Snd mX4_elderOrNew 47 (sq (opLdA 0) (sq (opGetI 4 9) (sq (opStI 5) (sq (opLdA 0) (sq (opGetR 4 0) (sq (opLdI 5) (sq (opLdI 1) (sq opIast (sq (opLdA 0) (sq (opGetR 4 1) (sq (opLdI 5) (sq (opLdI 2) (sq opIast (sq (opLdA 0) (sq (opGetR 4 2) (sq (opLdI 5) (sq (opLdI 3) (sq opIast (sq (opLdA 0) (sq (opGetR 4 3) (sq (opLdI 5) (sq (opLdI 4) (sq opIast (sq (opLdI 1) (opCi (2)))))))))))))))))))))))))) 88 := (snd_sq (snd_aload_n (k := 0) (by decide +kernel) rfl) (snd_sq (snd_getI (ci := 4) (k := 9) (by decide +kernel) rfl (by decide) (by decide) (by decide) iw_4 w135) (snd_sq (snd_istore (by decide +kernel) (by decide)) (snd_sq (snd_aload_n (k := 0) (by decide +kernel) rfl) (snd_sq (snd_getR (ci := 4) (k := 0) (by decide +kernel) rfl (by decide) (by decide) rfl iw_4 w114) (snd_sq (snd_iload (by decide +kernel)) (snd_sq (snd_iload_n (k := 1) (by decide +kernel) rfl) (snd_sq (snd_iast (by decide +kernel)) (snd_sq (snd_aload_n (k := 0) (by decide +kernel) rfl) (snd_sq (snd_getR (ci := 4) (k := 1) (by decide +kernel) rfl (by decide) (by decide) rfl iw_4 w116) (snd_sq (snd_iload (by decide +kernel)) (snd_sq (snd_iload_n (k := 2) (by decide +kernel) rfl) (snd_sq (snd_iast (by decide +kernel)) (snd_sq (snd_aload_n (k := 0) (by decide +kernel) rfl) (snd_sq (snd_getR (ci := 4) (k := 2) (by decide +kernel) rfl (by decide) (by decide) rfl iw_4 w118) (snd_sq (snd_iload (by decide +kernel)) (snd_sq (snd_iload_n (k := 3) (by decide +kernel) rfl) (snd_sq (snd_iast (by decide +kernel)) (snd_sq (snd_aload_n (k := 0) (by decide +kernel) rfl) (snd_sq (snd_getR (ci := 4) (k := 3) (by decide +kernel) rfl (by decide) (by decide) rfl iw_4 w120) (snd_sq (snd_iload (by decide +kernel)) (snd_sq (snd_iload (by decide +kernel)) (snd_sq (snd_iast (by decide +kernel)) (snd_sq (snd_iload_n (k := 1) (by decide +kernel) rfl) (snd_iconst (k := 2) (by decide) (by decide +kernel))))))))))))))))))))))))))
set_option maxRecDepth 20000 in
theorem b_X4_elderOrNew_88 : Br_ic_gt mX4_elderOrNew 88 100 := br_ic_gt (off := 12) (by decide +kernel) (by decide)
set_option maxRecDepth 20000 in
theorem s_X4_elderOrNew_91 : Snd mX4_elderOrNew 91 (sq (opLdA 0) (opLdI 5)) 94 := (snd_sq (snd_aload_n (k := 0) (by decide +kernel) rfl) (snd_iload (by decide +kernel)))
set_option maxRecDepth 20000 in
theorem c_X4_elderOrNew_94 : CallV mX4_elderOrNew 94 mX4_fillLeaf 4 2 := kallV (site_V rfl w396 (by decide +kernel) w393 w395 w8 w91 ⟨by decide, by decide, by decide +kernel⟩) (by decide) (by decide) (by unfold clsNo; rfl)
set_option maxRecDepth 20000 in
theorem s_X4_elderOrNew_97 : Snd mX4_elderOrNew 97 opNop 106 := (snd_goto (off := 9) (by decide +kernel) (by decide))
set_option maxRecDepth 20000 in
theorem s_X4_elderOrNew_100 : Snd mX4_elderOrNew 100 (sq (opLdA 0) (opLdI 5)) 103 := (snd_sq (snd_aload_n (k := 0) (by decide +kernel) rfl) (snd_iload (by decide +kernel)))
set_option maxRecDepth 20000 in
theorem c_X4_elderOrNew_103 : CallV mX4_elderOrNew 103 mX4_fillFromParts 4 2 := kallV (site_V rfl w408 (by decide +kernel) w405 w407 w9 w91 ⟨by decide, by decide, by decide +kernel⟩) (by decide) (by decide) (by unfold clsNo; rfl)
set_option maxRecDepth 20000 in
theorem s_X4_elderOrNew_106 : Snd mX4_elderOrNew 106 (sq (opLdA 0) (sq (opLdI 5) (sq (opCi (1)) (sq opiadd (sq (opPutI 4 9) (opLdI 5)))))) 116 := (snd_sq (snd_aload_n (k := 0) (by decide +kernel) rfl) (snd_sq (snd_iload (by decide +kernel)) (snd_sq (snd_iconst (k := 1) (by decide) (by decide +kernel)) (snd_sq (snd_iadd (by decide +kernel)) (snd_sq (snd_putI (ci := 4) (k := 9) (by decide +kernel) rfl (by decide) (by decide) (by decide) iw_4 tyX4_ok nmX4 rfl (tyX4_ok 9 (by decide)) w135) (snd_iload (by decide +kernel)))))))
set_option maxRecDepth 20000 in
theorem r_X4_elderOrNew_116 : RtI mX4_elderOrNew 116 := rt_I (by decide +kernel) rfl
/-! ClaimChains$Terms.isJust(IIIII)Z -/
set_option maxRecDepth 20000 in
theorem s_X4_isJust_0 : Snd mX4_isJust 0 (sq (opLdA 0) (sq (opGetR 4 0) (sq (opLdI 1) (sq opIald (opLdI 2))))) 7 := (snd_sq (snd_aload_n (k := 0) (by decide +kernel) rfl) (snd_sq (snd_getR (ci := 4) (k := 0) (by decide +kernel) rfl (by decide) (by decide) rfl iw_4 w114) (snd_sq (snd_iload_n (k := 1) (by decide +kernel) rfl) (snd_sq (snd_iald (by decide +kernel)) (snd_iload_n (k := 2) (by decide +kernel) rfl)))))
set_option maxRecDepth 20000 in
theorem b_X4_isJust_7 : Br_ic_ne mX4_isJust 7 46 := br_ic_ne (off := 39) (by decide +kernel) (by decide)
set_option maxRecDepth 20000 in
theorem s_X4_isJust_10 : Snd mX4_isJust 10 (sq (opLdA 0) (sq (opGetR 4 1) (sq (opLdI 1) (sq opIald (opLdI 3))))) 17 := (snd_sq (snd_aload_n (k := 0) (by decide +kernel) rfl) (snd_sq (snd_getR (ci := 4) (k := 1) (by decide +kernel) rfl (by decide) (by decide) rfl iw_4 w116) (snd_sq (snd_iload_n (k := 1) (by decide +kernel) rfl) (snd_sq (snd_iald (by decide +kernel)) (snd_iload_n (k := 3) (by decide +kernel) rfl)))))
set_option maxRecDepth 20000 in
theorem b_X4_isJust_17 : Br_ic_ne mX4_isJust 17 46 := br_ic_ne (off := 29) (by decide +kernel) (by decide)
set_option maxRecDepth 20000 in
theorem s_X4_isJust_20 : Snd mX4_isJust 20 (sq (opLdA 0) (sq (opGetR 4 2) (sq (opLdI 1) (sq opIald (opLdI 4))))) 28 := (snd_sq (snd_aload_n (k := 0) (by decide +kernel) rfl) (snd_sq (snd_getR (ci := 4) (k := 2) (by decide +kernel) rfl (by decide) (by decide) rfl iw_4 w118) (snd_sq (snd_iload_n (k := 1) (by decide +kernel) rfl) (snd_sq (snd_iald (by decide +kernel)) (snd_iload (by decide +kernel))))))
set_option maxRecDepth 20000 in
theorem b_X4_isJust_28 : Br_ic_ne mX4_isJust 28 46 := br_ic_ne (off := 18) (by decide +kernel) (by decide)
set_option maxRecDepth 20000 in
theorem s_X4_isJust_31 : Snd mX4_isJust 31 (sq (opLdA 0) (sq (opGetR 4 3) (sq (opLdI 1) (sq opIald (opLdI 5))))) 39 := (snd_sq (snd_aload_n (k := 0) (by decide +kernel) rfl) (snd_sq (snd_getR (ci := 4) (k := 3) (by decide +kernel) rfl (by decide) (by decide) rfl iw_4 w120) (snd_sq (snd_iload_n (k := 1) (by decide +kernel) rfl) (snd_sq (snd_iald (by decide +kernel)) (snd_iload (by decide +kernel))))))
set_option maxRecDepth 20000 in
theorem b_X4_isJust_39 : Br_ic_ne mX4_isJust 39 46 := br_ic_ne (off := 7) (by decide +kernel) (by decide)
set_option maxRecDepth 20000 in
theorem s_X4_isJust_42 : Snd mX4_isJust 42 (sq (opCi (1)) opNop) 47 := (snd_sq (snd_iconst (k := 1) (by decide) (by decide +kernel)) (snd_goto (off := 4) (by decide +kernel) (by decide)))
set_option maxRecDepth 20000 in
theorem s_X4_isJust_46 : Snd mX4_isJust 46 (opCi (0)) 47 := (snd_iconst (k := 0) (by decide) (by decide +kernel))
set_option maxRecDepth 20000 in
theorem r_X4_isJust_47 : RtZ mX4_isJust 47 := rt_Z (by decide +kernel) rfl
/-! ClaimChains$Terms.fillLeaf(I)V -/
set_option maxRecDepth 20000 in
theorem s_X4_fillLeaf_0 : Snd mX4_fillLeaf 0 (sq (opLdA 0) (sq (opGetR 4 1) (sq (opLdI 1) (sq opIald (sq (opStI 2) (sq (opLdA 0) (sq (opGetR 4 4) (sq (opLdI 1) (sq (opLdA 0) (sq (opGetR 4 0) (sq (opLdI 1) (sq opIald (opCi (1)))))))))))))) 19 := (snd_sq (snd_aload_n (k := 0) (by decide +kernel) rfl) (snd_sq (snd_getR (ci := 4) (k := 1) (by decide +kernel) rfl (by decide) (by decide) rfl iw_4 w116) (snd_sq (snd_iload_n (k := 1) (by decide +kernel) rfl) (snd_sq (snd_iald (by decide +kernel)) (snd_sq (snd_istore_n (k := 2) (by decide +kernel) rfl (by decide)) (snd_sq (snd_aload_n (k := 0) (by decide +kernel) rfl) (snd_sq (snd_getR (ci := 4) (k := 4) (by decide +kernel) rfl (by decide) (by decide) rfl iw_4 w122) (snd_sq (snd_iload_n (k := 1) (by decide +kernel) rfl) (snd_sq (snd_aload_n (k := 0) (by decide +kernel) rfl) (snd_sq (snd_getR (ci := 4) (k := 0) (by decide +kernel) rfl (by decide) (by decide) rfl iw_4 w114) (snd_sq (snd_iload_n (k := 1) (by decide +kernel) rfl) (snd_sq (snd_iald (by decide +kernel)) (snd_iconst (k := 1) (by decide) (by decide +kernel))))))))))))))
set_option maxRecDepth 20000 in
theorem b_X4_fillLeaf_19 : Br_ic_ne mX4_fillLeaf 19 28 := br_ic_ne (off := 9) (by decide +kernel) (by decide)
set_option maxRecDepth 20000 in
theorem s_X4_fillLeaf_22 : Snd mX4_fillLeaf 22 (sq (opCi (1)) (sq (opLdI 2) (sq opishl opNop))) 29 := (snd_sq (snd_iconst (k := 1) (by decide) (by decide +kernel)) (snd_sq (snd_iload_n (k := 2) (by decide +kernel) rfl) (snd_sq (snd_ishl (by decide +kernel)) (snd_goto (off := 4) (by decide +kernel) (by decide)))))
set_option maxRecDepth 20000 in
theorem s_X4_fillLeaf_28 : Snd mX4_fillLeaf 28 (opCi (0)) 29 := (snd_iconst (k := 0) (by decide) (by decide +kernel))
set_option maxRecDepth 20000 in
theorem s_X4_fillLeaf_29 : Snd mX4_fillLeaf 29 (sq opIast (sq (opLdA 0) (sq (opGetR 4 5) (sq (opLdI 1) (sq (opLdA 0) (sq (opGetR 4 0) (sq (opLdI 1) (sq opIald (opCi (2)))))))))) 42 := (snd_sq (snd_iast (by decide +kernel)) (snd_sq (snd_aload_n (k := 0) (by decide +kernel) rfl) (snd_sq (snd_getR (ci := 4) (k := 5) (by decide +kernel) rfl (by decide) (by decide) rfl iw_4 w125) (snd_sq (snd_iload_n (k := 1) (by decide +kernel) rfl) (snd_sq (snd_aload_n (k := 0) (by decide +kernel) rfl) (snd_sq (snd_getR (ci := 4) (k := 0) (by decide +kernel) rfl (by decide) (by decide) rfl iw_4 w114) (snd_sq (snd_iload_n (k := 1) (by decide +kernel) rfl) (snd_sq (snd_iald (by decide +kernel)) (snd_iconst (k := 2) (by decide) (by decide +kernel))))))))))
set_option maxRecDepth 20000 in
theorem b_X4_fillLeaf_42 : Br_ic_ne mX4_fillLeaf 42 51 := br_ic_ne (off := 9) (by decide +kernel) (by decide)
set_option maxRecDepth 20000 in
theorem s_X4_fillLeaf_45 : Snd mX4_fillLeaf 45 (sq (opCi (1)) (sq (opLdI 2) (sq opishl opNop))) 52 := (snd_sq (snd_iconst (k := 1) (by decide) (by decide +kernel)) (snd_sq (snd_iload_n (k := 2) (by decide +kernel) rfl) (snd_sq (snd_ishl (by decide +kernel)) (snd_goto (off := 4) (by decide +kernel) (by decide)))))
set_option maxRecDepth 20000 in
theorem s_X4_fillLeaf_51 : Snd mX4_fillLeaf 51 (opCi (0)) 52 := (snd_iconst (k := 0) (by decide) (by decide +kernel))
set_option maxRecDepth 20000 in
theorem s_X4_fillLeaf_52 : Snd mX4_fillLeaf 52 (sq opIast (sq (opLdA 0) (sq (opGetR 4 6) (sq (opLdI 1) (sq (opCi (0)) (sq opIast (sq (opLdA 0) (sq (opGetR 4 7) (sq (opLdI 1) (sq (opCl (1)) (sq opLast (sq (opLdA 0) (sq (opGetR 4 8) (sq (opLdI 1) (sq (opLdA 0) (sq (opGetR 4 0) (sq (opLdI 1) (sq opIald (opLdI 2))))))))))))))))))) 79 := (snd_sq (snd_iast (by decide +kernel)) (snd_sq (snd_aload_n (k := 0) (by decide +kernel) rfl) (snd_sq (snd_getR (ci := 4) (k := 6) (by decide +kernel) rfl (by decide) (by decide) rfl iw_4 w128) (snd_sq (snd_iload_n (k := 1) (by decide +kernel) rfl) (snd_sq (snd_iconst (k := 0) (by decide) (by decide +kernel)) (snd_sq (snd_iast (by decide +kernel)) (snd_sq (snd_aload_n (k := 0) (by decide +kernel) rfl) (snd_sq (snd_getR (ci := 4) (k := 7) (by decide +kernel) rfl (by decide) (by decide) rfl iw_4 w130) (snd_sq (snd_iload_n (k := 1) (by decide +kernel) rfl) (snd_sq (snd_lconst (k := 1) (by decide) (by decide +kernel)) (snd_sq (snd_last (by decide +kernel)) (snd_sq (snd_aload_n (k := 0) (by decide +kernel) rfl) (snd_sq (snd_getR (ci := 4) (k := 8) (by decide +kernel) rfl (by decide) (by decide) rfl iw_4 w132) (snd_sq (snd_iload_n (k := 1) (by decide +kernel) rfl) (snd_sq (snd_aload_n (k := 0) (by decide +kernel) rfl) (snd_sq (snd_getR (ci := 4) (k := 0) (by decide +kernel) rfl (by decide) (by decide) rfl iw_4 w114) (snd_sq (snd_iload_n (k := 1) (by decide +kernel) rfl) (snd_sq (snd_iald (by decide +kernel)) (snd_iload_n (k := 2) (by decide +kernel) rfl)))))))))))))))))))
set_option maxRecDepth 20000 in
theorem c_X4_fillLeaf_79 : CallS mX4_fillLeaf 79 mX4_leafTable 2 := kallS (site_S w399 (by decide +kernel) w397 w398 w91 ⟨by decide, by decide, by decide +kernel⟩) (by decide)
set_option maxRecDepth 20000 in
theorem s_X4_fillLeaf_82 : Snd mX4_fillLeaf 82 opLast 83 := (snd_last (by decide +kernel))
set_option maxRecDepth 20000 in
theorem r_X4_fillLeaf_83 : RtV mX4_fillLeaf 83 := rt_V (by decide +kernel) rfl
/-! ClaimChains$Terms.leafTable(II)J -/
set_option maxRecDepth 20000 in
theorem s_X4_leafTable_0 : Snd mX4_leafTable 0 (opLdI 0) 1 := (snd_iload_n (k := 0) (by decide +kernel) rfl)
set_option maxRecDepth 20000 in
theorem hw_X4_leafTable_1 : decode (MI.bytes mX4_leafTable) 1 = .ok (.lookupswitch 39 #[(0, 27), (1, 33)], 27) := by decide +kernel
set_option maxRecDepth 20000 in
theorem w_X4_leafTable_1 {d cap : Nat} {L : LT} {x : Int32} {st : List Value} {n : Nat} {R : RT} {I : IT} {J : JT} {Q : QT} (k0 : x = 0 → Ends mX4_leafTable d cap 28 L st n R I J Q) (k1 : x = 1 → Ends mX4_leafTable d cap 34 L st n R I J Q) (kd : ¬ x = 0 → ¬ x = 1 → Ends mX4_leafTable d cap 40 L st n R I J Q) : Ends mX4_leafTable d cap 1 L (.int x :: st) n R I J Q := by
  by_cases h0 : x = 0
  · subst h0
    exact sw_look (off := 27) hw_X4_leafTable_1 (by decide) (by decide +kernel) (by decide) (k0 rfl)
  by_cases h1 : x = 1
  · subst h1
    exact sw_look (off := 33) hw_X4_leafTable_1 (by decide) (by decide +kernel) (by decide) (k1 rfl)
  exact sw_look (off := 39) hw_X4_leafTable_1 (by decide) (by
    show Op.lookupswitch.offset [(0, 27), (1, 33)] 39 x.toInt = _
    rw [lv_osw h0 (by decide)]
    rw [lv_osw h1 (by decide)]
    rfl) (by decide) (kd h0 h1)
set_option maxRecDepth 20000 in
theorem s_X4_leafTable_28 : Snd mX4_leafTable 28 (sq (opGets 1) (sq (opLdI 1) (opLaldS 1))) 33 := (snd_sq (snd_getsN (j := 1) (by decide) (by decide +kernel) w400) (snd_sq (snd_iload_n (k := 1) (by decide +kernel) rfl) (snd_laldS (j := 1) (by decide) rfl (by decide) (by decide +kernel))))
set_option maxRecDepth 20000 in
theorem r_X4_leafTable_33 : RtL mX4_leafTable 33 := rt_L (by decide +kernel) rfl
set_option maxRecDepth 20000 in
theorem s_X4_leafTable_34 : Snd mX4_leafTable 34 (sq (opGets 2) (sq (opLdI 1) (opLaldS 2))) 39 := (snd_sq (snd_getsN (j := 2) (by decide) (by decide +kernel) w402) (snd_sq (snd_iload_n (k := 1) (by decide +kernel) rfl) (snd_laldS (j := 2) (by decide) rfl (by decide) (by decide +kernel))))
set_option maxRecDepth 20000 in
theorem r_X4_leafTable_39 : RtL mX4_leafTable 39 := rt_L (by decide +kernel) rfl
set_option maxRecDepth 20000 in
theorem s_X4_leafTable_40 : Snd mX4_leafTable 40 (sq (opGets 3) (sq (opLdI 1) (opLaldS 3))) 45 := (snd_sq (snd_getsN (j := 3) (by decide) (by decide +kernel) w403) (snd_sq (snd_iload_n (k := 1) (by decide +kernel) rfl) (snd_laldS (j := 3) (by decide) rfl (by decide) (by decide +kernel))))
set_option maxRecDepth 20000 in
theorem r_X4_leafTable_45 : RtL mX4_leafTable 45 := rt_L (by decide +kernel) rfl
/-! ClaimChains$Terms.fillFromParts(I)V -/
set_option maxRecDepth 20000 in
theorem s_X4_fillFromParts_0 : Snd mX4_fillFromParts 0 (sq (opLdA 0) (sq (opGetR 4 4) (sq (opLdI 1) (sq (opCi (0)) (sq opIast (sq (opLdA 0) (sq (opGetR 4 5) (sq (opLdI 1) (sq (opCi (0)) (sq opIast (sq (opLdA 0) (sq (opGetR 4 6) (sq (opLdI 1) (sq (opCi (0)) (sq opIast (sq (opLdA 0) (sq (opGetR 4 7) (sq (opLdI 1) (sq (opCl (0)) (sq opLast (sq (opLdA 0) (sq (opLdI 1) (sq (opLdA 0) (sq (opGetR 4 1) (sq (opLdI 1) opIald))))))))))))))))))))))))) 36 := (snd_sq (snd_aload_n (k := 0) (by decide +kernel) rfl) (snd_sq (snd_getR (ci := 4) (k := 4) (by decide +kernel) rfl (by decide) (by decide) rfl iw_4 w122) (snd_sq (snd_iload_n (k := 1) (by decide +kernel) rfl) (snd_sq (snd_iconst (k := 0) (by decide) (by decide +kernel)) (snd_sq (snd_iast (by decide +kernel)) (snd_sq (snd_aload_n (k := 0) (by decide +kernel) rfl) (snd_sq (snd_getR (ci := 4) (k := 5) (by decide +kernel) rfl (by decide) (by decide) rfl iw_4 w125) (snd_sq (snd_iload_n (k := 1) (by decide +kernel) rfl) (snd_sq (snd_iconst (k := 0) (by decide) (by decide +kernel)) (snd_sq (snd_iast (by decide +kernel)) (snd_sq (snd_aload_n (k := 0) (by decide +kernel) rfl) (snd_sq (snd_getR (ci := 4) (k := 6) (by decide +kernel) rfl (by decide) (by decide) rfl iw_4 w128) (snd_sq (snd_iload_n (k := 1) (by decide +kernel) rfl) (snd_sq (snd_iconst (k := 0) (by decide) (by decide +kernel)) (snd_sq (snd_iast (by decide +kernel)) (snd_sq (snd_aload_n (k := 0) (by decide +kernel) rfl) (snd_sq (snd_getR (ci := 4) (k := 7) (by decide +kernel) rfl (by decide) (by decide) rfl iw_4 w130) (snd_sq (snd_iload_n (k := 1) (by decide +kernel) rfl) (snd_sq (snd_lconst (k := 0) (by decide) (by decide +kernel)) (snd_sq (snd_last (by decide +kernel)) (snd_sq (snd_aload_n (k := 0) (by decide +kernel) rfl) (snd_sq (snd_iload_n (k := 1) (by decide +kernel) rfl) (snd_sq (snd_aload_n (k := 0) (by decide +kernel) rfl) (snd_sq (snd_getR (ci := 4) (k := 1) (by decide +kernel) rfl (by decide) (by decide) rfl iw_4 w116) (snd_sq (snd_iload_n (k := 1) (by decide +kernel) rfl) (snd_iald (by decide +kernel)))))))))))))))))))))))))))
set_option maxRecDepth 20000 in
theorem c_X4_fillFromParts_36 : CallV mX4_fillFromParts 36 mX4_addPart 4 3 := kallV (site_V rfl w412 (by decide +kernel) w409 w411 w10 w91 ⟨by decide, by decide, by decide +kernel⟩) (by decide) (by decide) (by unfold clsNo; rfl)
set_option maxRecDepth 20000 in
theorem s_X4_fillFromParts_39 : Snd mX4_fillFromParts 39 (sq (opLdA 0) (sq (opLdI 1) (sq (opLdA 0) (sq (opGetR 4 2) (sq (opLdI 1) opIald))))) 47 := (snd_sq (snd_aload_n (k := 0) (by decide +kernel) rfl) (snd_sq (snd_iload_n (k := 1) (by decide +kernel) rfl) (snd_sq (snd_aload_n (k := 0) (by decide +kernel) rfl) (snd_sq (snd_getR (ci := 4) (k := 2) (by decide +kernel) rfl (by decide) (by decide) rfl iw_4 w118) (snd_sq (snd_iload_n (k := 1) (by decide +kernel) rfl) (snd_iald (by decide +kernel)))))))
set_option maxRecDepth 20000 in
theorem c_X4_fillFromParts_47 : CallV mX4_fillFromParts 47 mX4_addPart 4 3 := kallV (site_V rfl w412 (by decide +kernel) w409 w411 w10 w91 ⟨by decide, by decide, by decide +kernel⟩) (by decide) (by decide) (by unfold clsNo; rfl)
set_option maxRecDepth 20000 in
theorem s_X4_fillFromParts_50 : Snd mX4_fillFromParts 50 (sq (opLdA 0) (sq (opLdI 1) (sq (opLdA 0) (sq (opGetR 4 3) (sq (opLdI 1) opIald))))) 58 := (snd_sq (snd_aload_n (k := 0) (by decide +kernel) rfl) (snd_sq (snd_iload_n (k := 1) (by decide +kernel) rfl) (snd_sq (snd_aload_n (k := 0) (by decide +kernel) rfl) (snd_sq (snd_getR (ci := 4) (k := 3) (by decide +kernel) rfl (by decide) (by decide) rfl iw_4 w120) (snd_sq (snd_iload_n (k := 1) (by decide +kernel) rfl) (snd_iald (by decide +kernel)))))))
set_option maxRecDepth 20000 in
theorem c_X4_fillFromParts_58 : CallV mX4_fillFromParts 58 mX4_addPart 4 3 := kallV (site_V rfl w412 (by decide +kernel) w409 w411 w10 w91 ⟨by decide, by decide, by decide +kernel⟩) (by decide) (by decide) (by unfold clsNo; rfl)
set_option maxRecDepth 20000 in
theorem s_X4_fillFromParts_61 : Snd mX4_fillFromParts 61 (sq (opLdA 0) (sq (opGetR 4 8) (sq (opLdI 1) (sq (opLdA 0) (sq (opGetR 4 0) (sq (opLdI 1) (sq opIald (sq (opLdA 0) (sq (opLdA 0) (sq (opGetR 4 1) (sq (opLdI 1) opIald))))))))))) 79 := (snd_sq (snd_aload_n (k := 0) (by decide +kernel) rfl) (snd_sq (snd_getR (ci := 4) (k := 8) (by decide +kernel) rfl (by decide) (by decide) rfl iw_4 w132) (snd_sq (snd_iload_n (k := 1) (by decide +kernel) rfl) (snd_sq (snd_aload_n (k := 0) (by decide +kernel) rfl) (snd_sq (snd_getR (ci := 4) (k := 0) (by decide +kernel) rfl (by decide) (by decide) rfl iw_4 w114) (snd_sq (snd_iload_n (k := 1) (by decide +kernel) rfl) (snd_sq (snd_iald (by decide +kernel)) (snd_sq (snd_aload_n (k := 0) (by decide +kernel) rfl) (snd_sq (snd_aload_n (k := 0) (by decide +kernel) rfl) (snd_sq (snd_getR (ci := 4) (k := 1) (by decide +kernel) rfl (by decide) (by decide) rfl iw_4 w116) (snd_sq (snd_iload_n (k := 1) (by decide +kernel) rfl) (snd_iald (by decide +kernel)))))))))))))
set_option maxRecDepth 20000 in
theorem c_X4_fillFromParts_79 : CallV mX4_fillFromParts 79 mX4_tableOf 4 2 := kallV (site_V rfl w420 (by decide +kernel) w417 w419 w11 w91 ⟨by decide, by decide, by decide +kernel⟩) (by decide) (by decide) (by unfold clsNo; rfl)
set_option maxRecDepth 20000 in
theorem s_X4_fillFromParts_82 : Snd mX4_fillFromParts 82 (sq (opLdA 0) (sq (opLdA 0) (sq (opGetR 4 2) (sq (opLdI 1) opIald)))) 89 := (snd_sq (snd_aload_n (k := 0) (by decide +kernel) rfl) (snd_sq (snd_aload_n (k := 0) (by decide +kernel) rfl) (snd_sq (snd_getR (ci := 4) (k := 2) (by decide +kernel) rfl (by decide) (by decide) rfl iw_4 w118) (snd_sq (snd_iload_n (k := 1) (by decide +kernel) rfl) (snd_iald (by decide +kernel))))))
set_option maxRecDepth 20000 in
theorem c_X4_fillFromParts_89 : CallV mX4_fillFromParts 89 mX4_tableOf 4 2 := kallV (site_V rfl w420 (by decide +kernel) w417 w419 w11 w91 ⟨by decide, by decide, by decide +kernel⟩) (by decide) (by decide) (by unfold clsNo; rfl)
set_option maxRecDepth 20000 in
theorem s_X4_fillFromParts_92 : Snd mX4_fillFromParts 92 (sq (opLdA 0) (sq (opLdA 0) (sq (opGetR 4 3) (sq (opLdI 1) opIald)))) 99 := (snd_sq (snd_aload_n (k := 0) (by decide +kernel) rfl) (snd_sq (snd_aload_n (k := 0) (by decide +kernel) rfl) (snd_sq (snd_getR (ci := 4) (k := 3) (by decide +kernel) rfl (by decide) (by decide) rfl iw_4 w120) (snd_sq (snd_iload_n (k := 1) (by decide +kernel) rfl) (snd_iald (by decide +kernel))))))
set_option maxRecDepth 20000 in
theorem c_X4_fillFromParts_99 : CallV mX4_fillFromParts 99 mX4_tableOf 4 2 := kallV (site_V rfl w420 (by decide +kernel) w417 w419 w11 w91 ⟨by decide, by decide, by decide +kernel⟩) (by decide) (by decide) (by unfold clsNo; rfl)
set_option maxRecDepth 20000 in
theorem c_X4_fillFromParts_102 : CallS mX4_fillFromParts 102 mX4_joinedTable 4 := kallS (site_S w423 (by decide +kernel) w421 w422 w91 ⟨by decide, by decide, by decide +kernel⟩) (by decide)
set_option maxRecDepth 20000 in
theorem s_X4_fillFromParts_105 : Snd mX4_fillFromParts 105 opLast 106 := (snd_last (by decide +kernel))
set_option maxRecDepth 20000 in
theorem r_X4_fillFromParts_106 : RtV mX4_fillFromParts 106 := rt_V (by decide +kernel) rfl
/-! ClaimChains$Terms.addPart(II)V -/
set_option maxRecDepth 20000 in
theorem s_X4_addPart_0 : Snd mX4_addPart 0 (sq (opLdA 0) (opLdI 2)) 2 := (snd_sq (snd_aload_n (k := 0) (by decide +kernel) rfl) (snd_iload_n (k := 2) (by decide +kernel) rfl))
set_option maxRecDepth 20000 in
theorem c_X4_addPart_2 : CallV mX4_addPart 2 mX4_has 4 2 := kallV (site_V rfl w178 (by decide +kernel) w413 w177 w2 w91 ⟨by decide, by decide, by decide +kernel⟩) (by decide) (by decide) (by unfold clsNo; rfl)
set_option maxRecDepth 20000 in
theorem b_X4_addPart_5 : Br_if_ne mX4_addPart 5 9 := br_if_ne (off := 4) (by decide +kernel) (by decide)
set_option maxRecDepth 20000 in
theorem r_X4_addPart_8 : RtV mX4_addPart 8 := rt_V (by decide +kernel) rfl
set_option maxRecDepth 20000 in
theorem s_X4_addPart_9 : Snd mX4_addPart 9 (sq (opLdA 0) (sq (opGetR 4 4) (sq (opLdI 1) (sq opDup2 (sq opIald (sq (opLdA 0) (sq (opGetR 4 4) (sq (opLdI 2) (sq opIald (sq opior (sq opIast (sq (opLdA 0) (sq (opGetR 4 5) (sq (opLdI 1) (sq opDup2 (sq opIald (sq (opLdA 0) (sq (opGetR 4 5) (sq (opLdI 2) (sq opIald (sq opior (sq opIast (sq (opLdA 0) (sq (opGetR 4 6) (sq (opLdI 1) (sq (opLdA 0) (sq (opGetR 4 6) (sq (opLdI 1) (sq opIald (sq (opLdA 0) (sq (opGetR 4 6) (sq (opLdI 2) (sq opIald (sq (opCi (1)) opiadd)))))))))))))))))))))))))))))))))) 58 := (snd_sq (snd_aload_n (k := 0) (by decide +kernel) rfl) (snd_sq (snd_getR (ci := 4) (k := 4) (by decide +kernel) rfl (by decide) (by decide) rfl iw_4 w122) (snd_sq (snd_iload_n (k := 1) (by decide +kernel) rfl) (snd_sq (snd_dup2 (by decide +kernel)) (snd_sq (snd_iald (by decide +kernel)) (snd_sq (snd_aload_n (k := 0) (by decide +kernel) rfl) (snd_sq (snd_getR (ci := 4) (k := 4) (by decide +kernel) rfl (by decide) (by decide) rfl iw_4 w122) (snd_sq (snd_iload_n (k := 2) (by decide +kernel) rfl) (snd_sq (snd_iald (by decide +kernel)) (snd_sq (snd_ior (by decide +kernel)) (snd_sq (snd_iast (by decide +kernel)) (snd_sq (snd_aload_n (k := 0) (by decide +kernel) rfl) (snd_sq (snd_getR (ci := 4) (k := 5) (by decide +kernel) rfl (by decide) (by decide) rfl iw_4 w125) (snd_sq (snd_iload_n (k := 1) (by decide +kernel) rfl) (snd_sq (snd_dup2 (by decide +kernel)) (snd_sq (snd_iald (by decide +kernel)) (snd_sq (snd_aload_n (k := 0) (by decide +kernel) rfl) (snd_sq (snd_getR (ci := 4) (k := 5) (by decide +kernel) rfl (by decide) (by decide) rfl iw_4 w125) (snd_sq (snd_iload_n (k := 2) (by decide +kernel) rfl) (snd_sq (snd_iald (by decide +kernel)) (snd_sq (snd_ior (by decide +kernel)) (snd_sq (snd_iast (by decide +kernel)) (snd_sq (snd_aload_n (k := 0) (by decide +kernel) rfl) (snd_sq (snd_getR (ci := 4) (k := 6) (by decide +kernel) rfl (by decide) (by decide) rfl iw_4 w128) (snd_sq (snd_iload_n (k := 1) (by decide +kernel) rfl) (snd_sq (snd_aload_n (k := 0) (by decide +kernel) rfl) (snd_sq (snd_getR (ci := 4) (k := 6) (by decide +kernel) rfl (by decide) (by decide) rfl iw_4 w128) (snd_sq (snd_iload_n (k := 1) (by decide +kernel) rfl) (snd_sq (snd_iald (by decide +kernel)) (snd_sq (snd_aload_n (k := 0) (by decide +kernel) rfl) (snd_sq (snd_getR (ci := 4) (k := 6) (by decide +kernel) rfl (by decide) (by decide) rfl iw_4 w128) (snd_sq (snd_iload_n (k := 2) (by decide +kernel) rfl) (snd_sq (snd_iald (by decide +kernel)) (snd_sq (snd_iconst (k := 1) (by decide) (by decide +kernel)) (snd_iadd (by decide +kernel))))))))))))))))))))))))))))))))))))
set_option maxRecDepth 20000 in
theorem c_X4_addPart_58 : CallM mX4_addPart 58 := kallM (by decide +kernel) w414 w415 w98 w416
set_option maxRecDepth 20000 in
theorem s_X4_addPart_61 : Snd mX4_addPart 61 (sq opIast (sq (opLdA 0) (sq (opGetR 4 7) (sq (opLdI 1) (sq opDup2 (sq opLald (sq (opLdA 0) (sq (opGetR 4 7) (sq (opLdI 2) (sq opLald (sq opladd opLast))))))))))) 77 := (snd_sq (snd_iast (by decide +kernel)) (snd_sq (snd_aload_n (k := 0) (by decide +kernel) rfl) (snd_sq (snd_getR (ci := 4) (k := 7) (by decide +kernel) rfl (by decide) (by decide) rfl iw_4 w130) (snd_sq (snd_iload_n (k := 1) (by decide +kernel) rfl) (snd_sq (snd_dup2 (by decide +kernel)) (snd_sq (snd_lald (by decide +kernel)) (snd_sq (snd_aload_n (k := 0) (by decide +kernel) rfl) (snd_sq (snd_getR (ci := 4) (k := 7) (by decide +kernel) rfl (by decide) (by decide) rfl iw_4 w130) (snd_sq (snd_iload_n (k := 2) (by decide +kernel) rfl) (snd_sq (snd_lald (by decide +kernel)) (snd_sq (snd_ladd (by decide +kernel)) (snd_last (by decide +kernel)))))))))))))
set_option maxRecDepth 20000 in
theorem r_X4_addPart_77 : RtV mX4_addPart 77 := rt_V (by decide +kernel) rfl
/-! ClaimChains$Terms.tableOf(I)J -/
set_option maxRecDepth 20000 in
theorem s_X4_tableOf_0 : Snd mX4_tableOf 0 (sq (opLdA 0) (opLdI 1)) 2 := (snd_sq (snd_aload_n (k := 0) (by decide +kernel) rfl) (snd_iload_n (k := 1) (by decide +kernel) rfl))
set_option maxRecDepth 20000 in
theorem c_X4_tableOf_2 : CallV mX4_tableOf 2 mX4_has 4 2 := kallV (site_V rfl w178 (by decide +kernel) w413 w177 w2 w91 ⟨by decide, by decide, by decide +kernel⟩) (by decide) (by decide) (by unfold clsNo; rfl)
set_option maxRecDepth 20000 in
theorem b_X4_tableOf_5 : Br_if_eq mX4_tableOf 5 17 := br_if_eq (off := 12) (by decide +kernel) (by decide)
set_option maxRecDepth 20000 in
theorem s_X4_tableOf_8 : Snd mX4_tableOf 8 (sq (opLdA 0) (sq (opGetR 4 8) (sq (opLdI 1) (sq opLald opNop)))) 18 := (snd_sq (snd_aload_n (k := 0) (by decide +kernel) rfl) (snd_sq (snd_getR (ci := 4) (k := 8) (by decide +kernel) rfl (by decide) (by decide) rfl iw_4 w132) (snd_sq (snd_iload_n (k := 1) (by decide +kernel) rfl) (snd_sq (snd_lald (by decide +kernel)) (snd_goto (off := 4) (by decide +kernel) (by decide))))))
set_option maxRecDepth 20000 in
theorem s_X4_tableOf_17 : Snd mX4_tableOf 17 (opCl (0)) 18 := (snd_lconst (k := 0) (by decide) (by decide +kernel))
set_option maxRecDepth 20000 in
theorem r_X4_tableOf_18 : RtL mX4_tableOf 18 := rt_L (by decide +kernel) rfl
/-! ClaimChains$Terms.joinedTable(IJJJ)J -/
set_option maxRecDepth 20000 in
theorem s_X4_joinedTable_0 : Snd mX4_joinedTable 0 (opLdI 0) 1 := (snd_iload_n (k := 0) (by decide +kernel) rfl)
set_option maxRecDepth 20000 in
theorem hw_X4_joinedTable_1 : decode (MI.bytes mX4_joinedTable) 1 = .ok (.tableswitch 49 3 6 #[31, 37, 41, 45], 31) := by decide +kernel
set_option maxRecDepth 20000 in
theorem w_X4_joinedTable_1 {d cap : Nat} {L : LT} {x : Int32} {st : List Value} {n : Nat} {R : RT} {I : IT} {J : JT} {Q : QT} (k3 : x = 3 → Ends mX4_joinedTable d cap 32 L st n R I J Q) (k4 : x = 4 → Ends mX4_joinedTable d cap 38 L st n R I J Q) (k5 : x = 5 → Ends mX4_joinedTable d cap 42 L st n R I J Q) (k6 : x = 6 → Ends mX4_joinedTable d cap 46 L st n R I J Q) (kd : ¬ x = 3 → ¬ x = 4 → ¬ x = 5 → ¬ x = 6 → Ends mX4_joinedTable d cap 50 L st n R I J Q) : Ends mX4_joinedTable d cap 1 L (.int x :: st) n R I J Q := by
  by_cases h0 : x.toInt < 3 ∨ 6 < x.toInt
  · exact sw_out hw_X4_joinedTable_1 h0 (by decide) (kd (fun h => by subst h; revert h0; decide) (fun h => by subst h; revert h0; decide) (fun h => by subst h; revert h0; decide) (fun h => by subst h; revert h0; decide))
  · have h1 : x.toInt = 3 ∨ x.toInt = 4 ∨ x.toInt = 5 ∨ x.toInt = 6 := by omega
    rcases h1 with h1 | h1 | h1 | h1
    · have h2 : x = 3 := i32_of h1 (by decide)
      subst h2
      exact sw_in (off := 31) hw_X4_joinedTable_1 (by decide) (by decide) (by decide +kernel) (by decide) (k3 rfl)
    · have h2 : x = 4 := i32_of h1 (by decide)
      subst h2
      exact sw_in (off := 37) hw_X4_joinedTable_1 (by decide) (by decide) (by decide +kernel) (by decide) (k4 rfl)
    · have h2 : x = 5 := i32_of h1 (by decide)
      subst h2
      exact sw_in (off := 41) hw_X4_joinedTable_1 (by decide) (by decide) (by decide +kernel) (by decide) (k5 rfl)
    · have h2 : x = 6 := i32_of h1 (by decide)
      subst h2
      exact sw_in (off := 45) hw_X4_joinedTable_1 (by decide) (by decide) (by decide +kernel) (by decide) (k6 rfl)
set_option maxRecDepth 20000 in
theorem s_X4_joinedTable_32 : Snd mX4_joinedTable 32 (sq (opLdL 1) (sq (opCl (-1)) oplxor)) 37 := (snd_sq (snd_lload_n (k := 1) (by decide +kernel) rfl) (snd_sq (snd_ldc2 w424 (by decide +kernel)) (snd_lxor (by decide +kernel))))
set_option maxRecDepth 20000 in
theorem r_X4_joinedTable_37 : RtL mX4_joinedTable 37 := rt_L (by decide +kernel) rfl
set_option maxRecDepth 20000 in
theorem s_X4_joinedTable_38 : Snd mX4_joinedTable 38 (sq (opLdL 1) (sq (opLdL 3) opland)) 41 := (snd_sq (snd_lload_n (k := 1) (by decide +kernel) rfl) (snd_sq (snd_lload_n (k := 3) (by decide +kernel) rfl) (snd_land (by decide +kernel))))
set_option maxRecDepth 20000 in
theorem r_X4_joinedTable_41 : RtL mX4_joinedTable 41 := rt_L (by decide +kernel) rfl
set_option maxRecDepth 20000 in
theorem s_X4_joinedTable_42 : Snd mX4_joinedTable 42 (sq (opLdL 1) (sq (opLdL 3) oplor)) 45 := (snd_sq (snd_lload_n (k := 1) (by decide +kernel) rfl) (snd_sq (snd_lload_n (k := 3) (by decide +kernel) rfl) (snd_lor (by decide +kernel))))
set_option maxRecDepth 20000 in
theorem r_X4_joinedTable_45 : RtL mX4_joinedTable 45 := rt_L (by decide +kernel) rfl
set_option maxRecDepth 20000 in
theorem s_X4_joinedTable_46 : Snd mX4_joinedTable 46 (sq (opLdL 1) (sq (opLdL 3) oplxor)) 49 := (snd_sq (snd_lload_n (k := 1) (by decide +kernel) rfl) (snd_sq (snd_lload_n (k := 3) (by decide +kernel) rfl) (snd_lxor (by decide +kernel))))
set_option maxRecDepth 20000 in
theorem r_X4_joinedTable_49 : RtL mX4_joinedTable 49 := rt_L (by decide +kernel) rfl
set_option maxRecDepth 20000 in
theorem s_X4_joinedTable_50 : Snd mX4_joinedTable 50 (sq (opLdL 1) (sq (opLdL 3) (sq opland (sq (opLdL 1) (sq (opCl (-1)) (sq oplxor (sq (opLdL 5) (sq opland oplor)))))))) 62 := (snd_sq (snd_lload_n (k := 1) (by decide +kernel) rfl) (snd_sq (snd_lload_n (k := 3) (by decide +kernel) rfl) (snd_sq (snd_land (by decide +kernel)) (snd_sq (snd_lload_n (k := 1) (by decide +kernel) rfl) (snd_sq (snd_ldc2 w424 (by decide +kernel)) (snd_sq (snd_lxor (by decide +kernel)) (snd_sq (snd_lload (by decide +kernel)) (snd_sq (snd_land (by decide +kernel)) (snd_lor (by decide +kernel))))))))))
set_option maxRecDepth 20000 in
theorem r_X4_joinedTable_62 : RtL mX4_joinedTable 62 := rt_L (by decide +kernel) rfl
