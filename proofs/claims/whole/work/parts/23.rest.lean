/-! ClaimChains$Chains.<init>(LClaimChains$Machine;LClaimChains$Lemmas;)V -/
set_option maxRecDepth 20000 in
theorem s_X1_init_0 : Snd mX1_init 0 (opLdA 0) 1 := (snd_aload_n (k := 0) (by decide +kernel) rfl)
set_option maxRecDepth 20000 in
theorem o_X1_init_1 : OIn mX1_init 1 := fun h1 h2 => e_oinit (by decide +kernel) w285 w106 w107 h1 h2
set_option maxRecDepth 20000 in
theorem s_X1_init_4 : Snd mX1_init 4 (sq (opLdA 0) (opCi (9))) 7 := (snd_sq (snd_aload_n (k := 0) (by decide +kernel) rfl) (snd_bipush (k := 9) (by decide) (by decide +kernel)))
set_option maxRecDepth 20000 in
theorem n_X1_init_7 : NewA mX1_init 7 2 100 := fun h1 h2 h3 h4 h5 h6 h7 => e_newI (by decide +kernel) w158 h1 h2 h3 h4 h5 h6 h7
set_option maxRecDepth 20000 in
theorem s_X1_init_9 : Snd mX1_init 9 (sq (opPutR 1 2) (sq (opLdA 0) (opCi (8)))) 15 := (snd_sq (snd_putR (ci := 1) (k := 2) (by decide +kernel) rfl (by decide) (by decide) rfl iw_1 tyX1_ok nmX1 rfl rfl rfl (tyX1_ok 2 (by decide)) (fun _ => rfl) (fun _ => rfl) w288) (snd_sq (snd_aload_n (k := 0) (by decide +kernel) rfl) (snd_bipush (k := 8) (by decide) (by decide +kernel))))
set_option maxRecDepth 20000 in
theorem n_X1_init_15 : NewA mX1_init 15 2 100 := fun h1 h2 h3 h4 h5 h6 h7 => e_newI (by decide +kernel) w158 h1 h2 h3 h4 h5 h6 h7
set_option maxRecDepth 20000 in
theorem s_X1_init_17 : Snd mX1_init 17 (sq (opPutR 1 3) (sq (opLdA 0) (opCi (9)))) 23 := (snd_sq (snd_putR (ci := 1) (k := 3) (by decide +kernel) rfl (by decide) (by decide) rfl iw_1 tyX1_ok nmX1 rfl rfl rfl (tyX1_ok 3 (by decide)) (fun _ => rfl) (fun _ => rfl) w290) (snd_sq (snd_aload_n (k := 0) (by decide +kernel) rfl) (snd_bipush (k := 9) (by decide) (by decide +kernel))))
set_option maxRecDepth 20000 in
theorem n_X1_init_23 : NewA mX1_init 23 2 100 := fun h1 h2 h3 h4 h5 h6 h7 => e_newI (by decide +kernel) w158 h1 h2 h3 h4 h5 h6 h7
set_option maxRecDepth 20000 in
theorem s_X1_init_25 : Snd mX1_init 25 (sq (opPutR 1 4) (sq (opLdA 0) (sq (opCi (0)) (sq (opPutZ 1 5) (sq (opLdA 0) (sq (opCi (-9)) (sq (opPutI 1 6) (sq (opLdA 0) (sq (opCi (0)) (sq (opPutI 1 7) (sq (opLdA 0) (sq (opCi (0)) (sq (opPutI 1 8) (sq (opLdA 0) (sq (opCi (0)) (sq (opPutI 1 9) (sq (opLdA 0) (sq (opLdA 1) (sq (opPutR 1 0) (sq (opLdA 0) (sq (opLdA 2) (opPutR 1 1)))))))))))))))))))))) 64 := (snd_sq (snd_putR (ci := 1) (k := 4) (by decide +kernel) rfl (by decide) (by decide) rfl iw_1 tyX1_ok nmX1 rfl rfl rfl (tyX1_ok 4 (by decide)) (fun _ => rfl) (fun _ => rfl) w292) (snd_sq (snd_aload_n (k := 0) (by decide +kernel) rfl) (snd_sq (snd_iconst (k := 0) (by decide) (by decide +kernel)) (snd_sq (snd_putZ (ci := 1) (k := 5) (by decide +kernel) rfl (by decide) (by decide) (by decide) iw_1 tyX1_ok nmX1 rfl (tyX1_ok 5 (by decide)) w293) (snd_sq (snd_aload_n (k := 0) (by decide +kernel) rfl) (snd_sq (snd_bipush (k := -9) (by decide) (by decide +kernel)) (snd_sq (snd_putI (ci := 1) (k := 6) (by decide +kernel) rfl (by decide) (by decide) (by decide) iw_1 tyX1_ok nmX1 rfl (tyX1_ok 6 (by decide)) w294) (snd_sq (snd_aload_n (k := 0) (by decide +kernel) rfl) (snd_sq (snd_iconst (k := 0) (by decide) (by decide +kernel)) (snd_sq (snd_putI (ci := 1) (k := 7) (by decide +kernel) rfl (by decide) (by decide) (by decide) iw_1 tyX1_ok nmX1 rfl (tyX1_ok 7 (by decide)) w295) (snd_sq (snd_aload_n (k := 0) (by decide +kernel) rfl) (snd_sq (snd_iconst (k := 0) (by decide) (by decide +kernel)) (snd_sq (snd_putI (ci := 1) (k := 8) (by decide +kernel) rfl (by decide) (by decide) (by decide) iw_1 tyX1_ok nmX1 rfl (tyX1_ok 8 (by decide)) w296) (snd_sq (snd_aload_n (k := 0) (by decide +kernel) rfl) (snd_sq (snd_iconst (k := 0) (by decide) (by decide +kernel)) (snd_sq (snd_putI (ci := 1) (k := 9) (by decide +kernel) rfl (by decide) (by decide) (by decide) iw_1 tyX1_ok nmX1 rfl (tyX1_ok 9 (by decide)) w297) (snd_sq (snd_aload_n (k := 0) (by decide +kernel) rfl) (snd_sq (snd_aload_n (k := 1) (by decide +kernel) rfl) (snd_sq (snd_putR (ci := 1) (k := 0) (by decide +kernel) rfl (by decide) (by decide) rfl iw_1 tyX1_ok nmX1 rfl rfl rfl (tyX1_ok 0 (by decide)) (fun _ => rfl) (fun _ => rfl) w286) (snd_sq (snd_aload_n (k := 0) (by decide +kernel) rfl) (snd_sq (snd_aload_n (k := 2) (by decide +kernel) rfl) (snd_putR (ci := 1) (k := 1) (by decide +kernel) rfl (by decide) (by decide) rfl iw_1 tyX1_ok nmX1 rfl rfl rfl (tyX1_ok 1 (by decide)) (fun _ => rfl) (fun _ => rfl) w287))))))))))))))))))))))
set_option maxRecDepth 20000 in
theorem r_X1_init_64 : RtV mX1_init 64 := rt_V (by decide +kernel) rfl
/-! ClaimChains$Chains.find(I)Z -/
set_option maxRecDepth 20000 in
theorem s_X1_find_0 : Snd mX1_find 0 (sq (opLdA 0) (opLdI 1)) 2 := (snd_sq (snd_aload_n (k := 0) (by decide +kernel) rfl) (snd_iload_n (k := 1) (by decide +kernel) rfl))
set_option maxRecDepth 20000 in
theorem c_X1_find_2 : CallV mX1_find 2 mX1_isKept 1 2 := kallV (site_V rfl w598 (by decide +kernel) w595 w597 w29 w94 ⟨by decide, by decide, by decide +kernel⟩) (by decide) (by decide) (by unfold clsNo; rfl)
set_option maxRecDepth 20000 in
theorem b_X1_find_5 : Br_if_eq mX1_find 5 13 := br_if_eq (off := 8) (by decide +kernel) (by decide)
set_option maxRecDepth 20000 in
theorem s_X1_find_8 : Snd mX1_find 8 (sq (opLdA 0) (opGetI 1 5)) 12 := (snd_sq (snd_aload_n (k := 0) (by decide +kernel) rfl) (snd_getI (ci := 1) (k := 5) (by decide +kernel) rfl (by decide) (by decide) (by decide) iw_1 w293))
set_option maxRecDepth 20000 in
theorem r_X1_find_12 : RtZ mX1_find 12 := rt_Z (by decide +kernel) rfl
set_option maxRecDepth 20000 in
theorem s_X1_find_13 : Snd mX1_find 13 (sq (opLdA 0) (sq (opLdI 1) (sq (opPutI 1 6) (sq (opLdA 0) (sq (opLdA 0) (opGetR 1 1)))))) 23 := (snd_sq (snd_aload_n (k := 0) (by decide +kernel) rfl) (snd_sq (snd_iload_n (k := 1) (by decide +kernel) rfl) (snd_sq (snd_putI (ci := 1) (k := 6) (by decide +kernel) rfl (by decide) (by decide) (by decide) iw_1 tyX1_ok nmX1 rfl (tyX1_ok 6 (by decide)) w294) (snd_sq (snd_aload_n (k := 0) (by decide +kernel) rfl) (snd_sq (snd_aload_n (k := 0) (by decide +kernel) rfl) (snd_getR (ci := 1) (k := 1) (by decide +kernel) rfl (by decide) (by decide) rfl iw_1 w287))))))
set_option maxRecDepth 20000 in
theorem c_X1_find_23 : CallV mX1_find 23 mX2_goodStates 2 1 := kallV (site_VN rfl w602 (by decide +kernel) w599 w601 w30 w93 ⟨by decide, by decide, by decide +kernel⟩) (by decide) (by decide) (by unfold clsNo; rfl)
set_option maxRecDepth 20000 in
theorem s_X1_find_26 : Snd mX1_find 26 (sq (opPutI 1 7) (sq (opLdA 0) (sq (opLdA 0) (opGetR 1 1)))) 34 := (snd_sq (snd_putI (ci := 1) (k := 7) (by decide +kernel) rfl (by decide) (by decide) (by decide) iw_1 tyX1_ok nmX1 rfl (tyX1_ok 7 (by decide)) w295) (snd_sq (snd_aload_n (k := 0) (by decide +kernel) rfl) (snd_sq (snd_aload_n (k := 0) (by decide +kernel) rfl) (snd_getR (ci := 1) (k := 1) (by decide +kernel) rfl (by decide) (by decide) rfl iw_1 w287))))
set_option maxRecDepth 20000 in
theorem c_X1_find_34 : CallV mX1_find 34 mX2_threats 2 1 := kallV (site_VN rfl w606 (by decide +kernel) w603 w605 w31 w93 ⟨by decide, by decide, by decide +kernel⟩) (by decide) (by decide) (by unfold clsNo; rfl)
set_option maxRecDepth 20000 in
theorem s_X1_find_37 : Snd mX1_find 37 (sq (opPutI 1 8) (sq (opLdA 0) (sq (opLdA 0) (sq (opGetR 1 0) (sq (opGetI 3 8) (sq (opPutI 1 9) (sq (opLdA 0) (sq (opLdA 0) (opLdI 1))))))))) 54 := (snd_sq (snd_putI (ci := 1) (k := 8) (by decide +kernel) rfl (by decide) (by decide) (by decide) iw_1 tyX1_ok nmX1 rfl (tyX1_ok 8 (by decide)) w296) (snd_sq (snd_aload_n (k := 0) (by decide +kernel) rfl) (snd_sq (snd_aload_n (k := 0) (by decide +kernel) rfl) (snd_sq (snd_getR (ci := 1) (k := 0) (by decide +kernel) rfl (by decide) (by decide) rfl iw_1 w286) (snd_sq (snd_getIN (ci := 3) (k := 8) (by decide +kernel) rfl (by decide) (by decide) (by decide) iw_3 w211) (snd_sq (snd_putI (ci := 1) (k := 9) (by decide +kernel) rfl (by decide) (by decide) (by decide) iw_1 tyX1_ok nmX1 rfl (tyX1_ok 9 (by decide)) w297) (snd_sq (snd_aload_n (k := 0) (by decide +kernel) rfl) (snd_sq (snd_aload_n (k := 0) (by decide +kernel) rfl) (snd_iload_n (k := 1) (by decide +kernel) rfl)))))))))
set_option maxRecDepth 20000 in
theorem c_X1_find_54 : CallV mX1_find 54 mX1_search 1 2 := kallV (site_V rfl w610 (by decide +kernel) w607 w609 w32 w94 ⟨by decide, by decide, by decide +kernel⟩) (by decide) (by decide) (by unfold clsNo; rfl)
set_option maxRecDepth 20000 in
theorem s_X1_find_57 : Snd mX1_find 57 (sq (opPutZ 1 5) (sq (opLdA 0) (opGetI 1 5))) 64 := (snd_sq (snd_putZ (ci := 1) (k := 5) (by decide +kernel) rfl (by decide) (by decide) (by decide) iw_1 tyX1_ok nmX1 rfl (tyX1_ok 5 (by decide)) w293) (snd_sq (snd_aload_n (k := 0) (by decide +kernel) rfl) (snd_getI (ci := 1) (k := 5) (by decide +kernel) rfl (by decide) (by decide) (by decide) iw_1 w293)))
set_option maxRecDepth 20000 in
theorem r_X1_find_64 : RtZ mX1_find 64 := rt_Z (by decide +kernel) rfl
/-! ClaimChains$Chains.isKept(I)Z -/
set_option maxRecDepth 20000 in
theorem s_X1_isKept_0 : Snd mX1_isKept 0 (sq (opLdA 0) (sq (opGetI 1 6) (opLdI 1))) 5 := (snd_sq (snd_aload_n (k := 0) (by decide +kernel) rfl) (snd_sq (snd_getI (ci := 1) (k := 6) (by decide +kernel) rfl (by decide) (by decide) (by decide) iw_1 w294) (snd_iload_n (k := 1) (by decide +kernel) rfl)))
set_option maxRecDepth 20000 in
theorem b_X1_isKept_5 : Br_ic_ne mX1_isKept 5 54 := br_ic_ne (off := 49) (by decide +kernel) (by decide)
set_option maxRecDepth 20000 in
theorem s_X1_isKept_8 : Snd mX1_isKept 8 (sq (opLdA 0) (sq (opGetI 1 9) (sq (opLdA 0) (sq (opGetR 1 0) (opGetI 3 8))))) 19 := (snd_sq (snd_aload_n (k := 0) (by decide +kernel) rfl) (snd_sq (snd_getI (ci := 1) (k := 9) (by decide +kernel) rfl (by decide) (by decide) (by decide) iw_1 w297) (snd_sq (snd_aload_n (k := 0) (by decide +kernel) rfl) (snd_sq (snd_getR (ci := 1) (k := 0) (by decide +kernel) rfl (by decide) (by decide) rfl iw_1 w286) (snd_getIN (ci := 3) (k := 8) (by decide +kernel) rfl (by decide) (by decide) (by decide) iw_3 w211)))))
set_option maxRecDepth 20000 in
theorem b_X1_isKept_19 : Br_ic_ne mX1_isKept 19 54 := br_ic_ne (off := 35) (by decide +kernel) (by decide)
set_option maxRecDepth 20000 in
theorem s_X1_isKept_22 : Snd mX1_isKept 22 (sq (opLdA 0) (sq (opGetI 1 7) (sq (opLdA 0) (opGetR 1 1)))) 30 := (snd_sq (snd_aload_n (k := 0) (by decide +kernel) rfl) (snd_sq (snd_getI (ci := 1) (k := 7) (by decide +kernel) rfl (by decide) (by decide) (by decide) iw_1 w295) (snd_sq (snd_aload_n (k := 0) (by decide +kernel) rfl) (snd_getR (ci := 1) (k := 1) (by decide +kernel) rfl (by decide) (by decide) rfl iw_1 w287))))
set_option maxRecDepth 20000 in
theorem c_X1_isKept_30 : CallV mX1_isKept 30 mX2_goodStates 2 1 := kallV (site_VN rfl w602 (by decide +kernel) w599 w601 w30 w93 ⟨by decide, by decide, by decide +kernel⟩) (by decide) (by decide) (by unfold clsNo; rfl)
set_option maxRecDepth 20000 in
theorem b_X1_isKept_33 : Br_ic_ne mX1_isKept 33 54 := br_ic_ne (off := 21) (by decide +kernel) (by decide)
set_option maxRecDepth 20000 in
theorem s_X1_isKept_36 : Snd mX1_isKept 36 (sq (opLdA 0) (sq (opGetI 1 8) (sq (opLdA 0) (opGetR 1 1)))) 44 := (snd_sq (snd_aload_n (k := 0) (by decide +kernel) rfl) (snd_sq (snd_getI (ci := 1) (k := 8) (by decide +kernel) rfl (by decide) (by decide) (by decide) iw_1 w296) (snd_sq (snd_aload_n (k := 0) (by decide +kernel) rfl) (snd_getR (ci := 1) (k := 1) (by decide +kernel) rfl (by decide) (by decide) rfl iw_1 w287))))
set_option maxRecDepth 20000 in
theorem c_X1_isKept_44 : CallV mX1_isKept 44 mX2_threats 2 1 := kallV (site_VN rfl w606 (by decide +kernel) w603 w605 w31 w93 ⟨by decide, by decide, by decide +kernel⟩) (by decide) (by decide) (by unfold clsNo; rfl)
set_option maxRecDepth 20000 in
theorem b_X1_isKept_47 : Br_ic_ne mX1_isKept 47 54 := br_ic_ne (off := 7) (by decide +kernel) (by decide)
set_option maxRecDepth 20000 in
theorem s_X1_isKept_50 : Snd mX1_isKept 50 (sq (opCi (1)) opNop) 55 := (snd_sq (snd_iconst (k := 1) (by decide) (by decide +kernel)) (snd_goto (off := 4) (by decide +kernel) (by decide)))
set_option maxRecDepth 20000 in
theorem s_X1_isKept_54 : Snd mX1_isKept 54 (opCi (0)) 55 := (snd_iconst (k := 0) (by decide) (by decide +kernel))
set_option maxRecDepth 20000 in
theorem r_X1_isKept_55 : RtZ mX1_isKept 55 := rt_Z (by decide +kernel) rfl
/-! ClaimChains$Chains.search(I)Z -/
set_option maxRecDepth 20000 in
theorem s_X1_search_0 : Snd mX1_search 0 (sq (opLdA 0) (sq (opGetR 1 4) (sq (opCi (0)) (sq (opLdA 0) (sq (opGetI 1 8) (sq opIast (sq (opCi (1)) (opStI 2)))))))) 12 := (snd_sq (snd_aload_n (k := 0) (by decide +kernel) rfl) (snd_sq (snd_getR (ci := 1) (k := 4) (by decide +kernel) rfl (by decide) (by decide) rfl iw_1 w292) (snd_sq (snd_iconst (k := 0) (by decide) (by decide +kernel)) (snd_sq (snd_aload_n (k := 0) (by decide +kernel) rfl) (snd_sq (snd_getI (ci := 1) (k := 8) (by decide +kernel) rfl (by decide) (by decide) (by decide) iw_1 w296) (snd_sq (snd_iast (by decide +kernel)) (snd_sq (snd_iconst (k := 1) (by decide) (by decide +kernel)) (snd_istore_n (k := 2) (by decide +kernel) rfl (by decide)))))))))
set_option maxRecDepth 20000 in
theorem s_X1_search_12 : Snd mX1_search 12 (sq (opLdI 2) (opLdI 1)) 14 := (snd_sq (snd_iload_n (k := 2) (by decide +kernel) rfl) (snd_iload_n (k := 1) (by decide +kernel) rfl))
set_option maxRecDepth 20000 in
theorem b_X1_search_14 : Br_ic_gt mX1_search 14 49 := br_ic_gt (off := 35) (by decide +kernel) (by decide)
set_option maxRecDepth 20000 in
theorem s_X1_search_17 : Snd mX1_search 17 (sq (opLdA 0) (sq (opGetR 1 4) (sq (opLdI 2) (sq (opLdA 0) (sq (opGetI 1 7) (sq (opLdA 0) (sq (opGetR 1 0) (sq (opLdA 0) (sq (opGetR 1 4) (sq (opLdI 2) (sq (opCi (1)) (sq opisub opIald)))))))))))) 38 := (snd_sq (snd_aload_n (k := 0) (by decide +kernel) rfl) (snd_sq (snd_getR (ci := 1) (k := 4) (by decide +kernel) rfl (by decide) (by decide) rfl iw_1 w292) (snd_sq (snd_iload_n (k := 2) (by decide +kernel) rfl) (snd_sq (snd_aload_n (k := 0) (by decide +kernel) rfl) (snd_sq (snd_getI (ci := 1) (k := 7) (by decide +kernel) rfl (by decide) (by decide) (by decide) iw_1 w295) (snd_sq (snd_aload_n (k := 0) (by decide +kernel) rfl) (snd_sq (snd_getR (ci := 1) (k := 0) (by decide +kernel) rfl (by decide) (by decide) rfl iw_1 w286) (snd_sq (snd_aload_n (k := 0) (by decide +kernel) rfl) (snd_sq (snd_getR (ci := 1) (k := 4) (by decide +kernel) rfl (by decide) (by decide) rfl iw_1 w292) (snd_sq (snd_iload_n (k := 2) (by decide +kernel) rfl) (snd_sq (snd_iconst (k := 1) (by decide) (by decide +kernel)) (snd_sq (snd_isub (by decide +kernel)) (snd_iald (by decide +kernel))))))))))))))
set_option maxRecDepth 20000 in
theorem c_X1_search_38 : CallV mX1_search 38 mX3_sources 3 2 := kallV (site_VN rfl w493 (by decide +kernel) w611 w492 w17 w92 ⟨by decide, by decide, by decide +kernel⟩) (by decide) (by decide) (by unfold clsNo; rfl)
set_option maxRecDepth 20000 in
theorem s_X1_search_41 : Snd mX1_search 41 (sq opiand (sq opIast (sq (opInc 2 (1)) opNop))) 12 := (snd_sq (snd_iand (by decide +kernel)) (snd_sq (snd_iast (by decide +kernel)) (snd_sq (snd_iinc (k := 1) (by decide +kernel) (by decide) (by decide)) (snd_goto (off := -34) (by decide +kernel) (by decide)))))
set_option maxRecDepth 20000 in
theorem s_X1_search_49 : Snd mX1_search 49 (sq (opCi (0)) (opStI 2)) 51 := (snd_sq (snd_iconst (k := 0) (by decide) (by decide +kernel)) (snd_istore_n (k := 2) (by decide +kernel) rfl (by decide)))
set_option maxRecDepth 20000 in
theorem s_X1_search_51 : Snd mX1_search 51 (sq (opLdI 2) (opCi (16))) 54 := (snd_sq (snd_iload_n (k := 2) (by decide +kernel) rfl) (snd_bipush (k := 16) (by decide) (by decide +kernel)))
set_option maxRecDepth 20000 in
theorem b_X1_search_54 : Br_ic_ge mX1_search 54 89 := br_ic_ge (off := 35) (by decide +kernel) (by decide)
set_option maxRecDepth 20000 in
theorem s_X1_search_57 : Snd mX1_search 57 (sq (opLdI 2) (sq (opLdA 0) (sq (opGetR 1 4) (sq (opLdI 1) opIald)))) 64 := (snd_sq (snd_iload_n (k := 2) (by decide +kernel) rfl) (snd_sq (snd_aload_n (k := 0) (by decide +kernel) rfl) (snd_sq (snd_getR (ci := 1) (k := 4) (by decide +kernel) rfl (by decide) (by decide) rfl iw_1 w292) (snd_sq (snd_iload_n (k := 1) (by decide +kernel) rfl) (snd_iald (by decide +kernel))))))
set_option maxRecDepth 20000 in
theorem c_X1_search_64 : CallS mX1_search 64 mX6_isIn 2 := kallS (site_SN w191 (by decide +kernel) w612 w190 w90 ⟨by decide, by decide, by decide +kernel⟩) (by decide)
set_option maxRecDepth 20000 in
theorem b_X1_search_67 : Br_if_eq mX1_search 67 83 := br_if_eq (off := 16) (by decide +kernel) (by decide)
set_option maxRecDepth 20000 in
theorem s_X1_search_70 : Snd mX1_search 70 (sq (opLdA 0) (sq (opLdI 2) (sq (opCi (0)) (sq (opCi (0)) (opLdI 1))))) 75 := (snd_sq (snd_aload_n (k := 0) (by decide +kernel) rfl) (snd_sq (snd_iload_n (k := 2) (by decide +kernel) rfl) (snd_sq (snd_iconst (k := 0) (by decide) (by decide +kernel)) (snd_sq (snd_iconst (k := 0) (by decide) (by decide +kernel)) (snd_iload_n (k := 1) (by decide +kernel) rfl)))))
set_option maxRecDepth 20000 in
theorem c_X1_search_75 : CallV mX1_search 75 mX1_extend 1 5 := kallV (site_V rfl w616 (by decide +kernel) w613 w615 w33 w94 ⟨by decide, by decide, by decide +kernel⟩) (by decide) (by decide) (by unfold clsNo; rfl)
set_option maxRecDepth 20000 in
theorem b_X1_search_78 : Br_if_eq mX1_search 78 83 := br_if_eq (off := 5) (by decide +kernel) (by decide)
set_option maxRecDepth 20000 in
theorem s_X1_search_81 : Snd mX1_search 81 (opCi (1)) 82 := (snd_iconst (k := 1) (by decide) (by decide +kernel))
set_option maxRecDepth 20000 in
theorem r_X1_search_82 : RtZ mX1_search 82 := rt_Z (by decide +kernel) rfl
set_option maxRecDepth 20000 in
theorem s_X1_search_83 : Snd mX1_search 83 (sq (opInc 2 (1)) opNop) 51 := (snd_sq (snd_iinc (k := 1) (by decide +kernel) (by decide) (by decide)) (snd_goto (off := -35) (by decide +kernel) (by decide)))
set_option maxRecDepth 20000 in
theorem s_X1_search_89 : Snd mX1_search 89 (opCi (0)) 90 := (snd_iconst (k := 0) (by decide) (by decide +kernel))
set_option maxRecDepth 20000 in
theorem r_X1_search_90 : RtZ mX1_search 90 := rt_Z (by decide +kernel) rfl
/-! ClaimChains$Chains.extend(IIII)Z -/
set_option maxRecDepth 20000 in
theorem s_X1_extend_0 : Snd mX1_extend 0 (sq (opLdA 0) (sq (opGetR 1 2) (sq (opLdI 2) (sq (opLdI 1) (sq opIast (sq (opLdI 2) (opLdI 4))))))) 10 := (snd_sq (snd_aload_n (k := 0) (by decide +kernel) rfl) (snd_sq (snd_getR (ci := 1) (k := 2) (by decide +kernel) rfl (by decide) (by decide) rfl iw_1 w288) (snd_sq (snd_iload_n (k := 2) (by decide +kernel) rfl) (snd_sq (snd_iload_n (k := 1) (by decide +kernel) rfl) (snd_sq (snd_iast (by decide +kernel)) (snd_sq (snd_iload_n (k := 2) (by decide +kernel) rfl) (snd_iload (by decide +kernel))))))))
set_option maxRecDepth 20000 in
theorem b_X1_extend_10 : Br_ic_lt mX1_extend 10 15 := br_ic_lt (off := 5) (by decide +kernel) (by decide)
set_option maxRecDepth 20000 in
theorem s_X1_extend_13 : Snd mX1_extend 13 (opCi (1)) 14 := (snd_iconst (k := 1) (by decide) (by decide +kernel))
set_option maxRecDepth 20000 in
theorem r_X1_extend_14 : RtZ mX1_extend 14 := rt_Z (by decide +kernel) rfl
set_option maxRecDepth 20000 in
theorem s_X1_extend_15 : Snd mX1_extend 15 (sq (opLdI 3) (sq (opCi (1)) (sq (opLdI 1) (sq opishl (sq opior (sq (opStI 5) (sq (opCi (0)) (opStI 6)))))))) 25 := (snd_sq (snd_iload_n (k := 3) (by decide +kernel) rfl) (snd_sq (snd_iconst (k := 1) (by decide) (by decide +kernel)) (snd_sq (snd_iload_n (k := 1) (by decide +kernel) rfl) (snd_sq (snd_ishl (by decide +kernel)) (snd_sq (snd_ior (by decide +kernel)) (snd_sq (snd_istore (by decide +kernel) (by decide)) (snd_sq (snd_iconst (k := 0) (by decide) (by decide +kernel)) (snd_istore (by decide +kernel) (by decide)))))))))
set_option maxRecDepth 20000 in
theorem s_X1_extend_25 : Snd mX1_extend 25 (sq (opLdI 6) (opCi (4))) 28 := (snd_sq (snd_iload (by decide +kernel)) (snd_iconst (k := 4) (by decide) (by decide +kernel)))
set_option maxRecDepth 20000 in
theorem b_X1_extend_28 : Br_ic_ge mX1_extend 28 119 := br_ic_ge (off := 91) (by decide +kernel) (by decide)
set_option maxRecDepth 20000 in
theorem s_X1_extend_31 : Snd mX1_extend 31 (sq (opLdA 0) (sq (opGetR 1 0) (sq (opLdI 1) (opLdI 6)))) 38 := (snd_sq (snd_aload_n (k := 0) (by decide +kernel) rfl) (snd_sq (snd_getR (ci := 1) (k := 0) (by decide +kernel) rfl (by decide) (by decide) rfl iw_1 w286) (snd_sq (snd_iload_n (k := 1) (by decide +kernel) rfl) (snd_iload (by decide +kernel)))))
set_option maxRecDepth 20000 in
theorem c_X1_extend_38 : CallV mX1_extend 38 mX3_target 3 3 := kallV (site_VN rfl w184 (by decide +kernel) w617 w183 w3 w92 ⟨by decide, by decide, by decide +kernel⟩) (by decide) (by decide) (by unfold clsNo; rfl)
set_option maxRecDepth 20000 in
theorem s_X1_extend_41 : Snd mX1_extend 41 (sq (opStI 7) (sq (opLdI 7) (opLdI 5))) 47 := (snd_sq (snd_istore (by decide +kernel) (by decide)) (snd_sq (snd_iload (by decide +kernel)) (snd_iload (by decide +kernel))))
set_option maxRecDepth 20000 in
theorem c_X1_extend_47 : CallS mX1_extend 47 mX6_isIn 2 := kallS (site_SN w191 (by decide +kernel) w612 w190 w90 ⟨by decide, by decide, by decide +kernel⟩) (by decide)
set_option maxRecDepth 20000 in
theorem b_X1_extend_50 : Br_if_ne mX1_extend 50 113 := br_if_ne (off := 63) (by decide +kernel) (by decide)
set_option maxRecDepth 20000 in
theorem s_X1_extend_53 : Snd mX1_extend 53 (sq (opLdI 7) (sq (opLdA 0) (sq (opGetR 1 4) (sq (opLdI 4) (sq (opCi (1)) (sq opisub (sq (opLdI 2) (sq opisub opIald)))))))) 66 := (snd_sq (snd_iload (by decide +kernel)) (snd_sq (snd_aload_n (k := 0) (by decide +kernel) rfl) (snd_sq (snd_getR (ci := 1) (k := 4) (by decide +kernel) rfl (by decide) (by decide) rfl iw_1 w292) (snd_sq (snd_iload (by decide +kernel)) (snd_sq (snd_iconst (k := 1) (by decide) (by decide +kernel)) (snd_sq (snd_isub (by decide +kernel)) (snd_sq (snd_iload_n (k := 2) (by decide +kernel) rfl) (snd_sq (snd_isub (by decide +kernel)) (snd_iald (by decide +kernel))))))))))
set_option maxRecDepth 20000 in
theorem c_X1_extend_66 : CallS mX1_extend 66 mX6_isIn 2 := kallS (site_SN w191 (by decide +kernel) w612 w190 w90 ⟨by decide, by decide, by decide +kernel⟩) (by decide)
set_option maxRecDepth 20000 in
theorem b_X1_extend_69 : Br_if_ne mX1_extend 69 75 := br_if_ne (off := 6) (by decide +kernel) (by decide)
set_option maxRecDepth 20000 in
theorem s_X1_extend_72 : Snd mX1_extend 72 opNop 113 := (snd_goto (off := 41) (by decide +kernel) (by decide))
set_option maxRecDepth 20000 in
theorem s_X1_extend_75 : Snd mX1_extend 75 (sq (opLdI 5) (sq (opCi (1)) (sq (opLdI 7) (sq opishl (sq opior (sq (opStI 5) (sq (opLdA 0) (sq (opGetR 1 3) (sq (opLdI 2) (sq (opLdI 6) (sq opIast (sq (opLdA 0) (sq (opLdI 7) (sq (opLdI 2) (sq (opCi (1)) (sq opiadd (sq (opLdI 3) (sq (opCi (1)) (sq (opLdI 1) (sq opishl (sq opior (opLdI 4)))))))))))))))))))))) 105 := (snd_sq (snd_iload (by decide +kernel)) (snd_sq (snd_iconst (k := 1) (by decide) (by decide +kernel)) (snd_sq (snd_iload (by decide +kernel)) (snd_sq (snd_ishl (by decide +kernel)) (snd_sq (snd_ior (by decide +kernel)) (snd_sq (snd_istore (by decide +kernel) (by decide)) (snd_sq (snd_aload_n (k := 0) (by decide +kernel) rfl) (snd_sq (snd_getR (ci := 1) (k := 3) (by decide +kernel) rfl (by decide) (by decide) rfl iw_1 w290) (snd_sq (snd_iload_n (k := 2) (by decide +kernel) rfl) (snd_sq (snd_iload (by decide +kernel)) (snd_sq (snd_iast (by decide +kernel)) (snd_sq (snd_aload_n (k := 0) (by decide +kernel) rfl) (snd_sq (snd_iload (by decide +kernel)) (snd_sq (snd_iload_n (k := 2) (by decide +kernel) rfl) (snd_sq (snd_iconst (k := 1) (by decide) (by decide +kernel)) (snd_sq (snd_iadd (by decide +kernel)) (snd_sq (snd_iload_n (k := 3) (by decide +kernel) rfl) (snd_sq (snd_iconst (k := 1) (by decide) (by decide +kernel)) (snd_sq (snd_iload_n (k := 1) (by decide +kernel) rfl) (snd_sq (snd_ishl (by decide +kernel)) (snd_sq (snd_ior (by decide +kernel)) (snd_iload (by decide +kernel)))))))))))))))))))))))
set_option maxRecDepth 20000 in
theorem c_X1_extend_105 : CallV mX1_extend 105 mX1_extend 1 5 := kallV (site_V rfl w616 (by decide +kernel) w613 w615 w33 w94 ⟨by decide, by decide, by decide +kernel⟩) (by decide) (by decide) (by unfold clsNo; rfl)
set_option maxRecDepth 20000 in
theorem b_X1_extend_108 : Br_if_eq mX1_extend 108 113 := br_if_eq (off := 5) (by decide +kernel) (by decide)
set_option maxRecDepth 20000 in
theorem s_X1_extend_111 : Snd mX1_extend 111 (opCi (1)) 112 := (snd_iconst (k := 1) (by decide) (by decide +kernel))
set_option maxRecDepth 20000 in
theorem r_X1_extend_112 : RtZ mX1_extend 112 := rt_Z (by decide +kernel) rfl
set_option maxRecDepth 20000 in
theorem s_X1_extend_113 : Snd mX1_extend 113 (sq (opInc 6 (1)) opNop) 25 := (snd_sq (snd_iinc (k := 1) (by decide +kernel) (by decide) (by decide)) (snd_goto (off := -91) (by decide +kernel) (by decide)))
set_option maxRecDepth 20000 in
theorem s_X1_extend_119 : Snd mX1_extend 119 (opCi (0)) 120 := (snd_iconst (k := 0) (by decide) (by decide +kernel))
set_option maxRecDepth 20000 in
theorem r_X1_extend_120 : RtZ mX1_extend 120 := rt_Z (by decide +kernel) rfl
/-! ClaimChains$Lemmas.<init>(LClaimChains$Machine;)V -/
set_option maxRecDepth 20000 in
theorem s_X2_init_0 : Snd mX2_init 0 (opLdA 0) 1 := (snd_aload_n (k := 0) (by decide +kernel) rfl)
set_option maxRecDepth 20000 in
theorem o_X2_init_1 : OIn mX2_init 1 := fun h1 h2 => e_oinit (by decide +kernel) w259 w106 w107 h1 h2
set_option maxRecDepth 20000 in
theorem s_X2_init_4 : Snd mX2_init 4 (sq (opLdA 0) (opCi (8))) 7 := (snd_sq (snd_aload_n (k := 0) (by decide +kernel) rfl) (snd_bipush (k := 8) (by decide) (by decide +kernel)))
set_option maxRecDepth 20000 in
theorem n_X2_init_7 : NewA mX2_init 7 2 100 := fun h1 h2 h3 h4 h5 h6 h7 => e_newI (by decide +kernel) w158 h1 h2 h3 h4 h5 h6 h7
set_option maxRecDepth 20000 in
theorem s_X2_init_9 : Snd mX2_init 9 (sq (opPutR 2 1) (sq (opLdA 0) (opCi (8)))) 15 := (snd_sq (snd_putR (ci := 2) (k := 1) (by decide +kernel) rfl (by decide) (by decide) rfl iw_2 tyX2_ok nmX2 rfl rfl rfl (tyX2_ok 1 (by decide)) (fun _ => rfl) (fun _ => rfl) w262) (snd_sq (snd_aload_n (k := 0) (by decide +kernel) rfl) (snd_bipush (k := 8) (by decide) (by decide +kernel))))
set_option maxRecDepth 20000 in
theorem n_X2_init_15 : NewA mX2_init 15 2 100 := fun h1 h2 h3 h4 h5 h6 h7 => e_newI (by decide +kernel) w158 h1 h2 h3 h4 h5 h6 h7
set_option maxRecDepth 20000 in
theorem s_X2_init_17 : Snd mX2_init 17 (sq (opPutR 2 2) (sq (opLdA 0) (sq (opCi (0)) (sq (opPutI 2 3) (sq (opLdA 0) (sq (opCi (65535)) (sq (opPutI 2 4) (sq (opLdA 0) (sq (opLdA 1) (opPutR 2 0)))))))))) 36 := (snd_sq (snd_putR (ci := 2) (k := 2) (by decide +kernel) rfl (by decide) (by decide) rfl iw_2 tyX2_ok nmX2 rfl rfl rfl (tyX2_ok 2 (by decide)) (fun _ => rfl) (fun _ => rfl) w264) (snd_sq (snd_aload_n (k := 0) (by decide +kernel) rfl) (snd_sq (snd_iconst (k := 0) (by decide) (by decide +kernel)) (snd_sq (snd_putI (ci := 2) (k := 3) (by decide +kernel) rfl (by decide) (by decide) (by decide) iw_2 tyX2_ok nmX2 rfl (tyX2_ok 3 (by decide)) w266) (snd_sq (snd_aload_n (k := 0) (by decide +kernel) rfl) (snd_sq (snd_ldc w260 (by decide +kernel)) (snd_sq (snd_putI (ci := 2) (k := 4) (by decide +kernel) rfl (by decide) (by decide) (by decide) iw_2 tyX2_ok nmX2 rfl (tyX2_ok 4 (by decide)) w268) (snd_sq (snd_aload_n (k := 0) (by decide +kernel) rfl) (snd_sq (snd_aload_n (k := 1) (by decide +kernel) rfl) (snd_putR (ci := 2) (k := 0) (by decide +kernel) rfl (by decide) (by decide) rfl iw_2 tyX2_ok nmX2 rfl rfl rfl (tyX2_ok 0 (by decide)) (fun _ => rfl) (fun _ => rfl) w261))))))))))
set_option maxRecDepth 20000 in
theorem r_X2_init_36 : RtV mX2_init 36 := rt_V (by decide +kernel) rfl
/-! ClaimChains$Lemmas.forgetAll()V -/
set_option maxRecDepth 20000 in
theorem s_X2_forgetAll_0 : Snd mX2_forgetAll 0 (sq (opLdA 0) (sq (opCi (0)) (sq (opPutI 2 3) (sq (opLdA 0) (sq (opCi (65535)) (opPutI 2 4)))))) 11 := (snd_sq (snd_aload_n (k := 0) (by decide +kernel) rfl) (snd_sq (snd_iconst (k := 0) (by decide) (by decide +kernel)) (snd_sq (snd_putI (ci := 2) (k := 3) (by decide +kernel) rfl (by decide) (by decide) (by decide) iw_2 tyX2_ok nmX2 rfl (tyX2_ok 3 (by decide)) w266) (snd_sq (snd_aload_n (k := 0) (by decide +kernel) rfl) (snd_sq (snd_ldc w260 (by decide +kernel)) (snd_putI (ci := 2) (k := 4) (by decide +kernel) rfl (by decide) (by decide) (by decide) iw_2 tyX2_ok nmX2 rfl (tyX2_ok 4 (by decide)) w268))))))
set_option maxRecDepth 20000 in
theorem r_X2_forgetAll_11 : RtV mX2_forgetAll 11 := rt_V (by decide +kernel) rfl
/-! ClaimChains$Lemmas.goodStates()I -/
set_option maxRecDepth 20000 in
theorem s_X2_goodStates_0 : Snd mX2_goodStates 0 (sq (opLdA 0) (sq (opGetI 2 4) (sq (opLdA 0) (sq (opGetR 2 0) (sq (opGetI 3 5) (sq (opCi (-1)) (sq opixor opiand))))))) 14 := (snd_sq (snd_aload_n (k := 0) (by decide +kernel) rfl) (snd_sq (snd_getI (ci := 2) (k := 4) (by decide +kernel) rfl (by decide) (by decide) (by decide) iw_2 w268) (snd_sq (snd_aload_n (k := 0) (by decide +kernel) rfl) (snd_sq (snd_getR (ci := 2) (k := 0) (by decide +kernel) rfl (by decide) (by decide) rfl iw_2 w261) (snd_sq (snd_getIN (ci := 3) (k := 5) (by decide +kernel) rfl (by decide) (by decide) (by decide) iw_3 w206) (snd_sq (snd_iconst (k := -1) (by decide) (by decide +kernel)) (snd_sq (snd_ixor (by decide +kernel)) (snd_iand (by decide +kernel)))))))))
set_option maxRecDepth 20000 in
theorem r_X2_goodStates_14 : RtI mX2_goodStates 14 := rt_I (by decide +kernel) rfl
/-! ClaimChains$Lemmas.threats()I -/
set_option maxRecDepth 20000 in
theorem s_X2_threats_0 : Snd mX2_threats 0 (sq (opLdA 0) (sq (opGetI 2 4) (sq (opLdA 0) (sq (opGetR 2 0) (sq (opGetI 3 5) opiand))))) 12 := (snd_sq (snd_aload_n (k := 0) (by decide +kernel) rfl) (snd_sq (snd_getI (ci := 2) (k := 4) (by decide +kernel) rfl (by decide) (by decide) (by decide) iw_2 w268) (snd_sq (snd_aload_n (k := 0) (by decide +kernel) rfl) (snd_sq (snd_getR (ci := 2) (k := 0) (by decide +kernel) rfl (by decide) (by decide) rfl iw_2 w261) (snd_sq (snd_getIN (ci := 3) (k := 5) (by decide +kernel) rfl (by decide) (by decide) (by decide) iw_3 w206) (snd_iand (by decide +kernel)))))))
set_option maxRecDepth 20000 in
theorem r_X2_threats_12 : RtI mX2_threats 12 := rt_I (by decide +kernel) rfl
/-! ClaimChains$Lemmas.weakStates()I -/
set_option maxRecDepth 20000 in
theorem s_X2_weakStates_0 : Snd mX2_weakStates 0 (opLdA 0) 1 := (snd_aload_n (k := 0) (by decide +kernel) rfl)
set_option maxRecDepth 20000 in
theorem c_X2_weakStates_1 : CallV mX2_weakStates 1 mX2_goodStates 2 1 := kallV (site_V rfl w602 (by decide +kernel) w635 w601 w30 w93 ⟨by decide, by decide, by decide +kernel⟩) (by decide) (by decide) (by unfold clsNo; rfl)
set_option maxRecDepth 20000 in
theorem s_X2_weakStates_4 : Snd mX2_weakStates 4 (sq (opLdA 0) (sq (opGetR 2 0) (opLdA 0))) 9 := (snd_sq (snd_aload_n (k := 0) (by decide +kernel) rfl) (snd_sq (snd_getR (ci := 2) (k := 0) (by decide +kernel) rfl (by decide) (by decide) rfl iw_2 w261) (snd_aload_n (k := 0) (by decide +kernel) rfl)))
set_option maxRecDepth 20000 in
theorem c_X2_weakStates_9 : CallV mX2_weakStates 9 mX2_threats 2 1 := kallV (site_V rfl w606 (by decide +kernel) w636 w605 w31 w93 ⟨by decide, by decide, by decide +kernel⟩) (by decide) (by decide) (by unfold clsNo; rfl)
set_option maxRecDepth 20000 in
theorem c_X2_weakStates_12 : CallV mX2_weakStates 12 mX3_sources 3 2 := kallV (site_VN rfl w493 (by decide +kernel) w637 w492 w17 w92 ⟨by decide, by decide, by decide +kernel⟩) (by decide) (by decide) (by unfold clsNo; rfl)
set_option maxRecDepth 20000 in
theorem s_X2_weakStates_15 : Snd mX2_weakStates 15 opiand 16 := (snd_iand (by decide +kernel))
set_option maxRecDepth 20000 in
theorem r_X2_weakStates_16 : RtI mX2_weakStates 16 := rt_I (by decide +kernel) rfl
/-! ClaimChains$Lemmas.fits(I)Z -/
set_option maxRecDepth 20000 in
theorem s_X2_fits_0 : Snd mX2_fits 0 (sq (opLdA 0) (sq (opGetR 2 0) (sq (opGetI 3 4) (sq (opLdI 1) (sq (opCi (-1)) (sq opixor opiand)))))) 11 := (snd_sq (snd_aload_n (k := 0) (by decide +kernel) rfl) (snd_sq (snd_getR (ci := 2) (k := 0) (by decide +kernel) rfl (by decide) (by decide) rfl iw_2 w261) (snd_sq (snd_getIN (ci := 3) (k := 4) (by decide +kernel) rfl (by decide) (by decide) (by decide) iw_3 w202) (snd_sq (snd_iload_n (k := 1) (by decide +kernel) rfl) (snd_sq (snd_iconst (k := -1) (by decide) (by decide +kernel)) (snd_sq (snd_ixor (by decide +kernel)) (snd_iand (by decide +kernel))))))))
set_option maxRecDepth 20000 in
theorem b_X2_fits_11 : Br_if_eq mX2_fits 11 16 := br_if_eq (off := 5) (by decide +kernel) (by decide)
set_option maxRecDepth 20000 in
theorem s_X2_fits_14 : Snd mX2_fits 14 (opCi (0)) 15 := (snd_iconst (k := 0) (by decide) (by decide +kernel))
set_option maxRecDepth 20000 in
theorem r_X2_fits_15 : RtZ mX2_fits 15 := rt_Z (by decide +kernel) rfl
set_option maxRecDepth 20000 in
theorem s_X2_fits_16 : Snd mX2_fits 16 (sq (opLdA 0) (sq (opGetR 2 0) (opLdA 0))) 21 := (snd_sq (snd_aload_n (k := 0) (by decide +kernel) rfl) (snd_sq (snd_getR (ci := 2) (k := 0) (by decide +kernel) rfl (by decide) (by decide) rfl iw_2 w261) (snd_aload_n (k := 0) (by decide +kernel) rfl)))
set_option maxRecDepth 20000 in
theorem c_X2_fits_21 : CallV mX2_fits 21 mX2_goodStates 2 1 := kallV (site_V rfl w602 (by decide +kernel) w635 w601 w30 w93 ⟨by decide, by decide, by decide +kernel⟩) (by decide) (by decide) (by unfold clsNo; rfl)
set_option maxRecDepth 20000 in
theorem s_X2_fits_24 : Snd mX2_fits 24 (sq (opLdI 1) opiand) 26 := (snd_sq (snd_iload_n (k := 1) (by decide +kernel) rfl) (snd_iand (by decide +kernel)))
set_option maxRecDepth 20000 in
theorem c_X2_fits_26 : CallV mX2_fits 26 mX3_image 3 2 := kallV (site_VN rfl w195 (by decide +kernel) w657 w194 w5 w92 ⟨by decide, by decide, by decide +kernel⟩) (by decide) (by decide) (by unfold clsNo; rfl)
set_option maxRecDepth 20000 in
theorem s_X2_fits_29 : Snd mX2_fits 29 (sq (opLdI 1) (sq (opCi (-1)) (sq opixor opiand))) 33 := (snd_sq (snd_iload_n (k := 1) (by decide +kernel) rfl) (snd_sq (snd_iconst (k := -1) (by decide) (by decide +kernel)) (snd_sq (snd_ixor (by decide +kernel)) (snd_iand (by decide +kernel)))))
set_option maxRecDepth 20000 in
theorem b_X2_fits_33 : Br_if_ne mX2_fits 33 40 := br_if_ne (off := 7) (by decide +kernel) (by decide)
set_option maxRecDepth 20000 in
theorem s_X2_fits_36 : Snd mX2_fits 36 (sq (opCi (1)) opNop) 41 := (snd_sq (snd_iconst (k := 1) (by decide) (by decide +kernel)) (snd_goto (off := 4) (by decide +kernel) (by decide)))
set_option maxRecDepth 20000 in
theorem s_X2_fits_40 : Snd mX2_fits 40 (opCi (0)) 41 := (snd_iconst (k := 0) (by decide) (by decide +kernel))
set_option maxRecDepth 20000 in
theorem r_X2_fits_41 : RtZ mX2_fits 41 := rt_Z (by decide +kernel) rfl
/-! ClaimChains$Lemmas.addIfFitting(I)I -/
set_option maxRecDepth 20000 in
theorem s_X2_addIfFitting_0 : Snd mX2_addIfFitting 0 (sq (opLdA 0) (opLdI 1)) 2 := (snd_sq (snd_aload_n (k := 0) (by decide +kernel) rfl) (snd_iload_n (k := 1) (by decide +kernel) rfl))
set_option maxRecDepth 20000 in
theorem c_X2_addIfFitting_2 : CallV mX2_addIfFitting 2 mX2_fits 2 2 := kallV (site_V rfl w656 (by decide +kernel) w653 w655 w37 w93 ⟨by decide, by decide, by decide +kernel⟩) (by decide) (by decide) (by unfold clsNo; rfl)
set_option maxRecDepth 20000 in
theorem b_X2_addIfFitting_5 : Br_if_ne mX2_addIfFitting 5 11 := br_if_ne (off := 6) (by decide +kernel) (by decide)
set_option maxRecDepth 20000 in
theorem s_X2_addIfFitting_8 : Snd mX2_addIfFitting 8 (opCi (-3)) 10 := (snd_bipush (k := -3) (by decide) (by decide +kernel))
set_option maxRecDepth 20000 in
theorem r_X2_addIfFitting_10 : RtI mX2_addIfFitting 10 := rt_I (by decide +kernel) rfl
set_option maxRecDepth 20000 in
theorem s_X2_addIfFitting_11 : Snd mX2_addIfFitting 11 (sq (opLdA 0) (sq (opLdI 1) (opCi (-9)))) 15 := (snd_sq (snd_aload_n (k := 0) (by decide +kernel) rfl) (snd_sq (snd_iload_n (k := 1) (by decide +kernel) rfl) (snd_bipush (k := -9) (by decide) (by decide +kernel))))
set_option maxRecDepth 20000 in
theorem c_X2_addIfFitting_15 : CallV mX2_addIfFitting 15 mX2_add 2 3 := kallV (site_V rfl w668 (by decide +kernel) w665 w667 w39 w93 ⟨by decide, by decide, by decide +kernel⟩) (by decide) (by decide) (by unfold clsNo; rfl)
set_option maxRecDepth 20000 in
theorem r_X2_addIfFitting_18 : RtI mX2_addIfFitting 18 := rt_I (by decide +kernel) rfl
/-! ClaimChains$Lemmas.add(II)I -/
set_option maxRecDepth 20000 in
theorem s_X2_add_0 : Snd mX2_add 0 (sq (opLdA 0) (sq (opGetI 2 3) (opCi (8)))) 6 := (snd_sq (snd_aload_n (k := 0) (by decide +kernel) rfl) (snd_sq (snd_getI (ci := 2) (k := 3) (by decide +kernel) rfl (by decide) (by decide) (by decide) iw_2 w266) (snd_bipush (k := 8) (by decide) (by decide +kernel))))
set_option maxRecDepth 20000 in
theorem b_X2_add_6 : Br_ic_lt mX2_add 6 12 := br_ic_lt (off := 6) (by decide +kernel) (by decide)
set_option maxRecDepth 20000 in
theorem s_X2_add_9 : Snd mX2_add 9 (opCi (-4)) 11 := (snd_bipush (k := -4) (by decide) (by decide +kernel))
set_option maxRecDepth 20000 in
theorem r_X2_add_11 : RtI mX2_add 11 := rt_I (by decide +kernel) rfl
set_option maxRecDepth 20000 in
theorem s_X2_add_12 : Snd mX2_add 12 (sq (opLdA 0) (sq (opGetR 2 1) (sq (opLdA 0) (sq (opGetI 2 3) (sq (opLdI 1) (sq opIast (sq (opLdA 0) (sq (opGetR 2 2) (sq (opLdA 0) (sq (opGetI 2 3) (sq (opLdI 2) (sq opIast (sq (opLdA 0) (sq opDup (sq (opGetI 2 4) (sq (opLdI 1) (sq opiand (sq (opPutI 2 4) (sq (opLdA 0) (sq opDup (sq (opGetI 2 3) (sq (opCi (1)) (sq opiadd (sq (opPutI 2 3) (sq (opLdA 0) (sq (opGetI 2 3) (sq (opCi (1)) opisub))))))))))))))))))))))))))) 58 := (snd_sq (snd_aload_n (k := 0) (by decide +kernel) rfl) (snd_sq (snd_getR (ci := 2) (k := 1) (by decide +kernel) rfl (by decide) (by decide) rfl iw_2 w262) (snd_sq (snd_aload_n (k := 0) (by decide +kernel) rfl) (snd_sq (snd_getI (ci := 2) (k := 3) (by decide +kernel) rfl (by decide) (by decide) (by decide) iw_2 w266) (snd_sq (snd_iload_n (k := 1) (by decide +kernel) rfl) (snd_sq (snd_iast (by decide +kernel)) (snd_sq (snd_aload_n (k := 0) (by decide +kernel) rfl) (snd_sq (snd_getR (ci := 2) (k := 2) (by decide +kernel) rfl (by decide) (by decide) rfl iw_2 w264) (snd_sq (snd_aload_n (k := 0) (by decide +kernel) rfl) (snd_sq (snd_getI (ci := 2) (k := 3) (by decide +kernel) rfl (by decide) (by decide) (by decide) iw_2 w266) (snd_sq (snd_iload_n (k := 2) (by decide +kernel) rfl) (snd_sq (snd_iast (by decide +kernel)) (snd_sq (snd_aload_n (k := 0) (by decide +kernel) rfl) (snd_sq (snd_dup (by decide +kernel)) (snd_sq (snd_getI (ci := 2) (k := 4) (by decide +kernel) rfl (by decide) (by decide) (by decide) iw_2 w268) (snd_sq (snd_iload_n (k := 1) (by decide +kernel) rfl) (snd_sq (snd_iand (by decide +kernel)) (snd_sq (snd_putI (ci := 2) (k := 4) (by decide +kernel) rfl (by decide) (by decide) (by decide) iw_2 tyX2_ok nmX2 rfl (tyX2_ok 4 (by decide)) w268) (snd_sq (snd_aload_n (k := 0) (by decide +kernel) rfl) (snd_sq (snd_dup (by decide +kernel)) (snd_sq (snd_getI (ci := 2) (k := 3) (by decide +kernel) rfl (by decide) (by decide) (by decide) iw_2 w266) (snd_sq (snd_iconst (k := 1) (by decide) (by decide +kernel)) (snd_sq (snd_iadd (by decide +kernel)) (snd_sq (snd_putI (ci := 2) (k := 3) (by decide +kernel) rfl (by decide) (by decide) (by decide) iw_2 tyX2_ok nmX2 rfl (tyX2_ok 3 (by decide)) w266) (snd_sq (snd_aload_n (k := 0) (by decide +kernel) rfl) (snd_sq (snd_getI (ci := 2) (k := 3) (by decide +kernel) rfl (by decide) (by decide) (by decide) iw_2 w266) (snd_sq (snd_iconst (k := 1) (by decide) (by decide +kernel)) (snd_isub (by decide +kernel)))))))))))))))))))))))))))))
set_option maxRecDepth 20000 in
theorem r_X2_add_58 : RtI mX2_add 58 := rt_I (by decide +kernel) rfl
/-! ClaimChains$Lemmas.removeLast()I -/
set_option maxRecDepth 20000 in
theorem s_X2_removeLast_0 : Snd mX2_removeLast 0 (sq (opLdA 0) (opGetI 2 3)) 4 := (snd_sq (snd_aload_n (k := 0) (by decide +kernel) rfl) (snd_getI (ci := 2) (k := 3) (by decide +kernel) rfl (by decide) (by decide) (by decide) iw_2 w266))
set_option maxRecDepth 20000 in
theorem b_X2_removeLast_4 : Br_if_le mX2_removeLast 4 17 := br_if_le (off := 13) (by decide +kernel) (by decide)
set_option maxRecDepth 20000 in
theorem s_X2_removeLast_7 : Snd mX2_removeLast 7 (sq (opLdA 0) (sq opDup (sq (opGetI 2 3) (sq (opCi (1)) (sq opisub (opPutI 2 3)))))) 17 := (snd_sq (snd_aload_n (k := 0) (by decide +kernel) rfl) (snd_sq (snd_dup (by decide +kernel)) (snd_sq (snd_getI (ci := 2) (k := 3) (by decide +kernel) rfl (by decide) (by decide) (by decide) iw_2 w266) (snd_sq (snd_iconst (k := 1) (by decide) (by decide +kernel)) (snd_sq (snd_isub (by decide +kernel)) (snd_putI (ci := 2) (k := 3) (by decide +kernel) rfl (by decide) (by decide) (by decide) iw_2 tyX2_ok nmX2 rfl (tyX2_ok 3 (by decide)) w266))))))
set_option maxRecDepth 20000 in
theorem s_X2_removeLast_17 : Snd mX2_removeLast 17 (sq (opLdA 0) (sq (opCi (65535)) (sq (opPutI 2 4) (sq (opCi (0)) (opStI 1))))) 25 := (snd_sq (snd_aload_n (k := 0) (by decide +kernel) rfl) (snd_sq (snd_ldc w260 (by decide +kernel)) (snd_sq (snd_putI (ci := 2) (k := 4) (by decide +kernel) rfl (by decide) (by decide) (by decide) iw_2 tyX2_ok nmX2 rfl (tyX2_ok 4 (by decide)) w268) (snd_sq (snd_iconst (k := 0) (by decide) (by decide +kernel)) (snd_istore_n (k := 1) (by decide +kernel) rfl (by decide))))))
set_option maxRecDepth 20000 in
theorem s_X2_removeLast_25 : Snd mX2_removeLast 25 (sq (opLdI 1) (sq (opLdA 0) (opGetI 2 3))) 30 := (snd_sq (snd_iload_n (k := 1) (by decide +kernel) rfl) (snd_sq (snd_aload_n (k := 0) (by decide +kernel) rfl) (snd_getI (ci := 2) (k := 3) (by decide +kernel) rfl (by decide) (by decide) (by decide) iw_2 w266)))
set_option maxRecDepth 20000 in
theorem b_X2_removeLast_30 : Br_ic_ge mX2_removeLast 30 54 := br_ic_ge (off := 24) (by decide +kernel) (by decide)
set_option maxRecDepth 20000 in
theorem s_X2_removeLast_33 : Snd mX2_removeLast 33 (sq (opLdA 0) (sq opDup (sq (opGetI 2 4) (sq (opLdA 0) (sq (opGetR 2 1) (sq (opLdI 1) (sq opIald (sq opiand (sq (opPutI 2 4) (sq (opInc 1 (1)) opNop)))))))))) 25 := (snd_sq (snd_aload_n (k := 0) (by decide +kernel) rfl) (snd_sq (snd_dup (by decide +kernel)) (snd_sq (snd_getI (ci := 2) (k := 4) (by decide +kernel) rfl (by decide) (by decide) (by decide) iw_2 w268) (snd_sq (snd_aload_n (k := 0) (by decide +kernel) rfl) (snd_sq (snd_getR (ci := 2) (k := 1) (by decide +kernel) rfl (by decide) (by decide) rfl iw_2 w262) (snd_sq (snd_iload_n (k := 1) (by decide +kernel) rfl) (snd_sq (snd_iald (by decide +kernel)) (snd_sq (snd_iand (by decide +kernel)) (snd_sq (snd_putI (ci := 2) (k := 4) (by decide +kernel) rfl (by decide) (by decide) (by decide) iw_2 tyX2_ok nmX2 rfl (tyX2_ok 4 (by decide)) w268) (snd_sq (snd_iinc (k := 1) (by decide +kernel) (by decide) (by decide)) (snd_goto (off := -26) (by decide +kernel) (by decide))))))))))))
set_option maxRecDepth 20000 in
theorem s_X2_removeLast_54 : Snd mX2_removeLast 54 (sq (opLdA 0) (opGetI 2 3)) 58 := (snd_sq (snd_aload_n (k := 0) (by decide +kernel) rfl) (snd_getI (ci := 2) (k := 3) (by decide +kernel) rfl (by decide) (by decide) (by decide) iw_2 w266))
set_option maxRecDepth 20000 in
theorem r_X2_removeLast_58 : RtI mX2_removeLast 58 := rt_I (by decide +kernel) rfl
/-! ClaimChains$Lemmas.addByStrengthening()I -/
set_option maxRecDepth 20000 in
theorem s_X2_addByStrengthening_0 : Snd mX2_addByStrengthening 0 (opLdA 0) 1 := (snd_aload_n (k := 0) (by decide +kernel) rfl)
set_option maxRecDepth 20000 in
theorem c_X2_addByStrengthening_1 : CallV mX2_addByStrengthening 1 mX2_weakStates 2 1 := kallV (site_V rfl w634 (by decide +kernel) w647 w633 w34 w93 ⟨by decide, by decide, by decide +kernel⟩) (by decide) (by decide) (by unfold clsNo; rfl)
set_option maxRecDepth 20000 in
theorem b_X2_addByStrengthening_4 : Br_if_ne mX2_addByStrengthening 4 10 := br_if_ne (off := 6) (by decide +kernel) (by decide)
set_option maxRecDepth 20000 in
theorem s_X2_addByStrengthening_7 : Snd mX2_addByStrengthening 7 (opCi (-9)) 9 := (snd_bipush (k := -9) (by decide) (by decide +kernel))
set_option maxRecDepth 20000 in
theorem r_X2_addByStrengthening_9 : RtI mX2_addByStrengthening 9 := rt_I (by decide +kernel) rfl
set_option maxRecDepth 20000 in
theorem s_X2_addByStrengthening_10 : Snd mX2_addByStrengthening 10 (sq (opLdA 0) (opLdA 0)) 12 := (snd_sq (snd_aload_n (k := 0) (by decide +kernel) rfl) (snd_aload_n (k := 0) (by decide +kernel) rfl))
set_option maxRecDepth 20000 in
theorem c_X2_addByStrengthening_12 : CallV mX2_addByStrengthening 12 mX2_weakStates 2 1 := kallV (site_V rfl w634 (by decide +kernel) w647 w633 w34 w93 ⟨by decide, by decide, by decide +kernel⟩) (by decide) (by decide) (by unfold clsNo; rfl)
set_option maxRecDepth 20000 in
theorem c_X2_addByStrengthening_15 : CallV mX2_addByStrengthening 15 mX2_leastThatCanGo 2 2 := kallV (site_V rfl w651 (by decide +kernel) w648 w650 w36 w93 ⟨by decide, by decide, by decide +kernel⟩) (by decide) (by decide) (by unfold clsNo; rfl)
set_option maxRecDepth 20000 in
theorem s_X2_addByStrengthening_18 : Snd mX2_addByStrengthening 18 (sq (opStI 1) (sq (opLdI 1) (opCi (-9)))) 22 := (snd_sq (snd_istore_n (k := 1) (by decide +kernel) rfl (by decide)) (snd_sq (snd_iload_n (k := 1) (by decide +kernel) rfl) (snd_bipush (k := -9) (by decide) (by decide +kernel))))
set_option maxRecDepth 20000 in
theorem b_X2_addByStrengthening_22 : Br_ic_ne mX2_addByStrengthening 22 28 := br_ic_ne (off := 6) (by decide +kernel) (by decide)
set_option maxRecDepth 20000 in
theorem s_X2_addByStrengthening_25 : Snd mX2_addByStrengthening 25 (opCi (-3)) 27 := (snd_bipush (k := -3) (by decide) (by decide +kernel))
set_option maxRecDepth 20000 in
theorem r_X2_addByStrengthening_27 : RtI mX2_addByStrengthening 27 := rt_I (by decide +kernel) rfl
set_option maxRecDepth 20000 in
theorem s_X2_addByStrengthening_28 : Snd mX2_addByStrengthening 28 (sq (opLdA 0) (opLdI 1)) 30 := (snd_sq (snd_aload_n (k := 0) (by decide +kernel) rfl) (snd_iload_n (k := 1) (by decide +kernel) rfl))
set_option maxRecDepth 20000 in
theorem c_X2_addByStrengthening_30 : CallV mX2_addByStrengthening 30 mX2_widestNames 2 2 := kallV (site_V rfl w661 (by decide +kernel) w658 w660 w38 w93 ⟨by decide, by decide, by decide +kernel⟩) (by decide) (by decide) (by unfold clsNo; rfl)
set_option maxRecDepth 20000 in
theorem s_X2_addByStrengthening_33 : Snd mX2_addByStrengthening 33 (sq (opStI 2) (sq (opCi (16)) (sq (opLdI 2) (sq opimul (sq (opLdI 1) (sq (opLdI 2) (sq opiand (sq opiadd (sq (opStI 3) (sq (opLdA 0) (sq (opLdI 2) (opLdI 1)))))))))))) 46 := (snd_sq (snd_istore_n (k := 2) (by decide +kernel) rfl (by decide)) (snd_sq (snd_bipush (k := 16) (by decide) (by decide +kernel)) (snd_sq (snd_iload_n (k := 2) (by decide +kernel) rfl) (snd_sq (snd_imul (by decide +kernel)) (snd_sq (snd_iload_n (k := 1) (by decide +kernel) rfl) (snd_sq (snd_iload_n (k := 2) (by decide +kernel) rfl) (snd_sq (snd_iand (by decide +kernel)) (snd_sq (snd_iadd (by decide +kernel)) (snd_sq (snd_istore_n (k := 3) (by decide +kernel) rfl (by decide)) (snd_sq (snd_aload_n (k := 0) (by decide +kernel) rfl) (snd_sq (snd_iload_n (k := 2) (by decide +kernel) rfl) (snd_iload_n (k := 1) (by decide +kernel) rfl))))))))))))
set_option maxRecDepth 20000 in
theorem c_X2_addByStrengthening_46 : CallS mX2_addByStrengthening 46 mX2_outside 2 := kallS (site_S w664 (by decide +kernel) w662 w663 w93 ⟨by decide, by decide, by decide +kernel⟩) (by decide)
set_option maxRecDepth 20000 in
theorem s_X2_addByStrengthening_49 : Snd mX2_addByStrengthening 49 (opLdI 3) 50 := (snd_iload_n (k := 3) (by decide +kernel) rfl)
set_option maxRecDepth 20000 in
theorem c_X2_addByStrengthening_50 : CallV mX2_addByStrengthening 50 mX2_add 2 3 := kallV (site_V rfl w668 (by decide +kernel) w665 w667 w39 w93 ⟨by decide, by decide, by decide +kernel⟩) (by decide) (by decide) (by unfold clsNo; rfl)
set_option maxRecDepth 20000 in
theorem s_X2_addByStrengthening_53 : Snd mX2_addByStrengthening 53 (opCi (-4)) 55 := (snd_bipush (k := -4) (by decide) (by decide +kernel))
set_option maxRecDepth 20000 in
theorem b_X2_addByStrengthening_55 : Br_ic_ne mX2_addByStrengthening 55 63 := br_ic_ne (off := 8) (by decide +kernel) (by decide)
set_option maxRecDepth 20000 in
theorem s_X2_addByStrengthening_58 : Snd mX2_addByStrengthening 58 (sq (opCi (-4)) opNop) 64 := (snd_sq (snd_bipush (k := -4) (by decide) (by decide +kernel)) (snd_goto (off := 4) (by decide +kernel) (by decide)))
set_option maxRecDepth 20000 in
theorem s_X2_addByStrengthening_63 : Snd mX2_addByStrengthening 63 (opLdI 3) 64 := (snd_iload_n (k := 3) (by decide +kernel) rfl)
set_option maxRecDepth 20000 in
theorem r_X2_addByStrengthening_64 : RtI mX2_addByStrengthening 64 := rt_I (by decide +kernel) rfl
/-! ClaimChains$Lemmas.leastThatCanGo(I)I -/
set_option maxRecDepth 20000 in
theorem s_X2_leastThatCanGo_0 : Snd mX2_leastThatCanGo 0 (sq (opCi (0)) (opStI 2)) 2 := (snd_sq (snd_iconst (k := 0) (by decide) (by decide +kernel)) (snd_istore_n (k := 2) (by decide +kernel) rfl (by decide)))
set_option maxRecDepth 20000 in
theorem s_X2_leastThatCanGo_2 : Snd mX2_leastThatCanGo 2 (sq (opLdI 2) (opCi (16))) 5 := (snd_sq (snd_iload_n (k := 2) (by decide +kernel) rfl) (snd_bipush (k := 16) (by decide) (by decide +kernel)))
set_option maxRecDepth 20000 in
theorem b_X2_leastThatCanGo_5 : Br_ic_ge mX2_leastThatCanGo 5 39 := br_ic_ge (off := 34) (by decide +kernel) (by decide)
set_option maxRecDepth 20000 in
theorem s_X2_leastThatCanGo_8 : Snd mX2_leastThatCanGo 8 (sq (opLdI 2) (opLdI 1)) 10 := (snd_sq (snd_iload_n (k := 2) (by decide +kernel) rfl) (snd_iload_n (k := 1) (by decide +kernel) rfl))
set_option maxRecDepth 20000 in
theorem c_X2_leastThatCanGo_10 : CallS mX2_leastThatCanGo 10 mX6_isIn 2 := kallS (site_SN w191 (by decide +kernel) w652 w190 w90 ⟨by decide, by decide, by decide +kernel⟩) (by decide)
set_option maxRecDepth 20000 in
theorem b_X2_leastThatCanGo_13 : Br_if_eq mX2_leastThatCanGo 13 33 := br_if_eq (off := 20) (by decide +kernel) (by decide)
set_option maxRecDepth 20000 in
theorem s_X2_leastThatCanGo_16 : Snd mX2_leastThatCanGo 16 (sq (opLdA 0) (sq (opCi (65535)) (sq (opCi (1)) (sq (opLdI 2) (sq opishl (sq (opCi (-1)) (sq opixor opiand))))))) 25 := (snd_sq (snd_aload_n (k := 0) (by decide +kernel) rfl) (snd_sq (snd_ldc w260 (by decide +kernel)) (snd_sq (snd_iconst (k := 1) (by decide) (by decide +kernel)) (snd_sq (snd_iload_n (k := 2) (by decide +kernel) rfl) (snd_sq (snd_ishl (by decide +kernel)) (snd_sq (snd_iconst (k := -1) (by decide) (by decide +kernel)) (snd_sq (snd_ixor (by decide +kernel)) (snd_iand (by decide +kernel)))))))))
set_option maxRecDepth 20000 in
theorem c_X2_leastThatCanGo_25 : CallV mX2_leastThatCanGo 25 mX2_fits 2 2 := kallV (site_V rfl w656 (by decide +kernel) w653 w655 w37 w93 ⟨by decide, by decide, by decide +kernel⟩) (by decide) (by decide) (by unfold clsNo; rfl)
set_option maxRecDepth 20000 in
theorem b_X2_leastThatCanGo_28 : Br_if_eq mX2_leastThatCanGo 28 33 := br_if_eq (off := 5) (by decide +kernel) (by decide)
set_option maxRecDepth 20000 in
theorem s_X2_leastThatCanGo_31 : Snd mX2_leastThatCanGo 31 (opLdI 2) 32 := (snd_iload_n (k := 2) (by decide +kernel) rfl)
set_option maxRecDepth 20000 in
theorem r_X2_leastThatCanGo_32 : RtI mX2_leastThatCanGo 32 := rt_I (by decide +kernel) rfl
set_option maxRecDepth 20000 in
theorem s_X2_leastThatCanGo_33 : Snd mX2_leastThatCanGo 33 (sq (opInc 2 (1)) opNop) 2 := (snd_sq (snd_iinc (k := 1) (by decide +kernel) (by decide) (by decide)) (snd_goto (off := -34) (by decide +kernel) (by decide)))
set_option maxRecDepth 20000 in
theorem s_X2_leastThatCanGo_39 : Snd mX2_leastThatCanGo 39 (opCi (-9)) 41 := (snd_bipush (k := -9) (by decide) (by decide +kernel))
set_option maxRecDepth 20000 in
theorem r_X2_leastThatCanGo_41 : RtI mX2_leastThatCanGo 41 := rt_I (by decide +kernel) rfl
/-! ClaimChains$Lemmas.widestNames(I)I -/
set_option maxRecDepth 20000 in
theorem s_X2_widestNames_0 : Snd mX2_widestNames 0 (sq (opCi (15)) (sq (opStI 2) (sq (opCi (0)) (opStI 3)))) 5 := (snd_sq (snd_bipush (k := 15) (by decide) (by decide +kernel)) (snd_sq (snd_istore_n (k := 2) (by decide +kernel) rfl (by decide)) (snd_sq (snd_iconst (k := 0) (by decide) (by decide +kernel)) (snd_istore_n (k := 3) (by decide +kernel) rfl (by decide)))))
set_option maxRecDepth 20000 in
theorem s_X2_widestNames_5 : Snd mX2_widestNames 5 (sq (opLdI 3) (opCi (4))) 7 := (snd_sq (snd_iload_n (k := 3) (by decide +kernel) rfl) (snd_iconst (k := 4) (by decide) (by decide +kernel)))
set_option maxRecDepth 20000 in
theorem b_X2_widestNames_7 : Br_ic_ge mX2_widestNames 7 41 := br_ic_ge (off := 34) (by decide +kernel) (by decide)
set_option maxRecDepth 20000 in
theorem s_X2_widestNames_10 : Snd mX2_widestNames 10 (sq (opLdI 2) (sq (opCi (1)) (sq (opLdI 3) (sq opishl (sq (opCi (-1)) (sq opixor (sq opiand (sq (opStI 4) (sq (opLdA 0) (sq (opLdI 4) (opLdI 1))))))))))) 23 := (snd_sq (snd_iload_n (k := 2) (by decide +kernel) rfl) (snd_sq (snd_iconst (k := 1) (by decide) (by decide +kernel)) (snd_sq (snd_iload_n (k := 3) (by decide +kernel) rfl) (snd_sq (snd_ishl (by decide +kernel)) (snd_sq (snd_iconst (k := -1) (by decide) (by decide +kernel)) (snd_sq (snd_ixor (by decide +kernel)) (snd_sq (snd_iand (by decide +kernel)) (snd_sq (snd_istore (by decide +kernel) (by decide)) (snd_sq (snd_aload_n (k := 0) (by decide +kernel) rfl) (snd_sq (snd_iload (by decide +kernel)) (snd_iload_n (k := 1) (by decide +kernel) rfl)))))))))))
set_option maxRecDepth 20000 in
theorem c_X2_widestNames_23 : CallS mX2_widestNames 23 mX2_outside 2 := kallS (site_S w664 (by decide +kernel) w662 w663 w93 ⟨by decide, by decide, by decide +kernel⟩) (by decide)
set_option maxRecDepth 20000 in
theorem c_X2_widestNames_26 : CallV mX2_widestNames 26 mX2_fits 2 2 := kallV (site_V rfl w656 (by decide +kernel) w653 w655 w37 w93 ⟨by decide, by decide, by decide +kernel⟩) (by decide) (by decide) (by unfold clsNo; rfl)
set_option maxRecDepth 20000 in
theorem b_X2_widestNames_29 : Br_if_eq mX2_widestNames 29 35 := br_if_eq (off := 6) (by decide +kernel) (by decide)
set_option maxRecDepth 20000 in
theorem s_X2_widestNames_32 : Snd mX2_widestNames 32 (sq (opLdI 4) (opStI 2)) 35 := (snd_sq (snd_iload (by decide +kernel)) (snd_istore_n (k := 2) (by decide +kernel) rfl (by decide)))
set_option maxRecDepth 20000 in
theorem s_X2_widestNames_35 : Snd mX2_widestNames 35 (sq (opInc 3 (1)) opNop) 5 := (snd_sq (snd_iinc (k := 1) (by decide +kernel) (by decide) (by decide)) (snd_goto (off := -33) (by decide +kernel) (by decide)))
set_option maxRecDepth 20000 in
theorem s_X2_widestNames_41 : Snd mX2_widestNames 41 (opLdI 2) 42 := (snd_iload_n (k := 2) (by decide +kernel) rfl)
set_option maxRecDepth 20000 in
theorem r_X2_widestNames_42 : RtI mX2_widestNames 42 := rt_I (by decide +kernel) rfl
/-! ClaimChains$Lemmas.outside(II)I -/
set_option maxRecDepth 20000 in
theorem s_X2_outside_0 : Snd mX2_outside 0 (sq (opCi (0)) (sq (opStI 2) (sq (opCi (0)) (opStI 3)))) 4 := (snd_sq (snd_iconst (k := 0) (by decide) (by decide +kernel)) (snd_sq (snd_istore_n (k := 2) (by decide +kernel) rfl (by decide)) (snd_sq (snd_iconst (k := 0) (by decide) (by decide +kernel)) (snd_istore_n (k := 3) (by decide +kernel) rfl (by decide)))))
set_option maxRecDepth 20000 in
theorem s_X2_outside_4 : Snd mX2_outside 4 (sq (opLdI 3) (opCi (16))) 7 := (snd_sq (snd_iload_n (k := 3) (by decide +kernel) rfl) (snd_bipush (k := 16) (by decide) (by decide +kernel)))
set_option maxRecDepth 20000 in
theorem b_X2_outside_7 : Br_ic_ge mX2_outside 7 30 := br_ic_ge (off := 23) (by decide +kernel) (by decide)
set_option maxRecDepth 20000 in
theorem s_X2_outside_10 : Snd mX2_outside 10 (sq (opLdI 3) (sq (opLdI 1) (sq opixor (sq (opLdI 0) opiand)))) 15 := (snd_sq (snd_iload_n (k := 3) (by decide +kernel) rfl) (snd_sq (snd_iload_n (k := 1) (by decide +kernel) rfl) (snd_sq (snd_ixor (by decide +kernel)) (snd_sq (snd_iload_n (k := 0) (by decide +kernel) rfl) (snd_iand (by decide +kernel))))))
set_option maxRecDepth 20000 in
theorem b_X2_outside_15 : Br_if_eq mX2_outside 15 24 := br_if_eq (off := 9) (by decide +kernel) (by decide)
set_option maxRecDepth 20000 in
theorem s_X2_outside_18 : Snd mX2_outside 18 (sq (opLdI 2) (sq (opCi (1)) (sq (opLdI 3) (sq opishl (sq opior (opStI 2)))))) 24 := (snd_sq (snd_iload_n (k := 2) (by decide +kernel) rfl) (snd_sq (snd_iconst (k := 1) (by decide) (by decide +kernel)) (snd_sq (snd_iload_n (k := 3) (by decide +kernel) rfl) (snd_sq (snd_ishl (by decide +kernel)) (snd_sq (snd_ior (by decide +kernel)) (snd_istore_n (k := 2) (by decide +kernel) rfl (by decide)))))))
set_option maxRecDepth 20000 in
theorem s_X2_outside_24 : Snd mX2_outside 24 (sq (opInc 3 (1)) opNop) 4 := (snd_sq (snd_iinc (k := 1) (by decide +kernel) (by decide) (by decide)) (snd_goto (off := -23) (by decide +kernel) (by decide)))
set_option maxRecDepth 20000 in
theorem s_X2_outside_30 : Snd mX2_outside 30 (opLdI 2) 31 := (snd_iload_n (k := 2) (by decide +kernel) rfl)
set_option maxRecDepth 20000 in
theorem r_X2_outside_31 : RtI mX2_outside 31 := rt_I (by decide +kernel) rfl
/-! ClaimChains$Walks.<init>(LClaimChains$Machine;)V -/
set_option maxRecDepth 20000 in
theorem s_X5_init_0 : Snd mX5_init 0 (opLdA 0) 1 := (snd_aload_n (k := 0) (by decide +kernel) rfl)
set_option maxRecDepth 20000 in
theorem o_X5_init_1 : OIn mX5_init 1 := fun h1 h2 => e_oinit (by decide +kernel) w324 w106 w107 h1 h2
set_option maxRecDepth 20000 in
theorem s_X5_init_4 : Snd mX5_init 4 (sq (opLdA 0) (opCi (16))) 7 := (snd_sq (snd_aload_n (k := 0) (by decide +kernel) rfl) (snd_bipush (k := 16) (by decide) (by decide +kernel)))
set_option maxRecDepth 20000 in
theorem n_X5_init_7 : NewA mX5_init 7 2 100 := fun h1 h2 h3 h4 h5 h6 h7 => e_newI (by decide +kernel) w158 h1 h2 h3 h4 h5 h6 h7
set_option maxRecDepth 20000 in
theorem s_X5_init_9 : Snd mX5_init 9 (sq (opPutR 5 1) (sq (opLdA 0) (opCi (16)))) 15 := (snd_sq (snd_putR (ci := 5) (k := 1) (by decide +kernel) rfl (by decide) (by decide) rfl iw_5 tyX5_ok nmX5 rfl rfl rfl (tyX5_ok 1 (by decide)) (fun _ => rfl) (fun _ => rfl) w326) (snd_sq (snd_aload_n (k := 0) (by decide +kernel) rfl) (snd_bipush (k := 16) (by decide) (by decide +kernel))))
set_option maxRecDepth 20000 in
theorem n_X5_init_15 : NewA mX5_init 15 2 100 := fun h1 h2 h3 h4 h5 h6 h7 => e_newI (by decide +kernel) w158 h1 h2 h3 h4 h5 h6 h7
set_option maxRecDepth 20000 in
theorem s_X5_init_17 : Snd mX5_init 17 (sq (opPutR 5 2) (sq (opLdA 0) (sq (opLdA 1) (opPutR 5 0)))) 25 := (snd_sq (snd_putR (ci := 5) (k := 2) (by decide +kernel) rfl (by decide) (by decide) rfl iw_5 tyX5_ok nmX5 rfl rfl rfl (tyX5_ok 2 (by decide)) (fun _ => rfl) (fun _ => rfl) w327) (snd_sq (snd_aload_n (k := 0) (by decide +kernel) rfl) (snd_sq (snd_aload_n (k := 1) (by decide +kernel) rfl) (snd_putR (ci := 5) (k := 0) (by decide +kernel) rfl (by decide) (by decide) rfl iw_5 tyX5_ok nmX5 rfl rfl rfl (tyX5_ok 0 (by decide)) (fun _ => rfl) (fun _ => rfl) w325))))
set_option maxRecDepth 20000 in
theorem r_X5_init_25 : RtV mX5_init 25 := rt_V (by decide +kernel) rfl
/-! ClaimChains$Walks.countSafe(I)I -/
set_option maxRecDepth 20000 in
theorem s_X5_countSafe_0 : Snd mX5_countSafe 0 (sq (opCi (0)) (opStI 2)) 2 := (snd_sq (snd_iconst (k := 0) (by decide) (by decide +kernel)) (snd_istore_n (k := 2) (by decide +kernel) rfl (by decide)))
set_option maxRecDepth 20000 in
theorem s_X5_countSafe_2 : Snd mX5_countSafe 2 (sq (opLdI 2) (opCi (16))) 5 := (snd_sq (snd_iload_n (k := 2) (by decide +kernel) rfl) (snd_bipush (k := 16) (by decide) (by decide +kernel)))
set_option maxRecDepth 20000 in
theorem b_X5_countSafe_5 : Br_ic_ge mX5_countSafe 5 42 := br_ic_ge (off := 37) (by decide +kernel) (by decide)
set_option maxRecDepth 20000 in
theorem s_X5_countSafe_8 : Snd mX5_countSafe 8 (sq (opLdA 0) (sq (opGetR 5 2) (sq (opLdI 2) (sq (opLdI 2) (sq (opLdA 0) (sq (opGetR 5 0) (opGetI 3 5))))))) 21 := (snd_sq (snd_aload_n (k := 0) (by decide +kernel) rfl) (snd_sq (snd_getR (ci := 5) (k := 2) (by decide +kernel) rfl (by decide) (by decide) rfl iw_5 w327) (snd_sq (snd_iload_n (k := 2) (by decide +kernel) rfl) (snd_sq (snd_iload_n (k := 2) (by decide +kernel) rfl) (snd_sq (snd_aload_n (k := 0) (by decide +kernel) rfl) (snd_sq (snd_getR (ci := 5) (k := 0) (by decide +kernel) rfl (by decide) (by decide) rfl iw_5 w325) (snd_getIN (ci := 3) (k := 5) (by decide +kernel) rfl (by decide) (by decide) (by decide) iw_3 w205)))))))
set_option maxRecDepth 20000 in
theorem c_X5_countSafe_21 : CallS mX5_countSafe 21 mX6_isIn 2 := kallS (site_SN w191 (by decide +kernel) w717 w190 w90 ⟨by decide, by decide, by decide +kernel⟩) (by decide)
set_option maxRecDepth 20000 in
theorem b_X5_countSafe_24 : Br_if_ne mX5_countSafe 24 31 := br_if_ne (off := 7) (by decide +kernel) (by decide)
set_option maxRecDepth 20000 in
theorem s_X5_countSafe_27 : Snd mX5_countSafe 27 (sq (opCi (1)) opNop) 32 := (snd_sq (snd_iconst (k := 1) (by decide) (by decide +kernel)) (snd_goto (off := 4) (by decide +kernel) (by decide)))
set_option maxRecDepth 20000 in
theorem s_X5_countSafe_31 : Snd mX5_countSafe 31 (opCi (0)) 32 := (snd_iconst (k := 0) (by decide) (by decide +kernel))
set_option maxRecDepth 20000 in
theorem c_X5_countSafe_32 : CallS mX5_countSafe 32 mX6_bit 1 := kallS (site_SN w468 (by decide +kernel) w718 w467 w90 ⟨by decide, by decide, by decide +kernel⟩) (by decide)
set_option maxRecDepth 20000 in
theorem s_X5_countSafe_35 : Snd mX5_countSafe 35 (sq opIast (sq (opInc 2 (1)) opNop)) 2 := (snd_sq (snd_iast (by decide +kernel)) (snd_sq (snd_iinc (k := 1) (by decide +kernel) (by decide) (by decide)) (snd_goto (off := -37) (by decide +kernel) (by decide))))
set_option maxRecDepth 20000 in
theorem s_X5_countSafe_42 : Snd mX5_countSafe 42 (sq (opCi (0)) (opStI 2)) 44 := (snd_sq (snd_iconst (k := 0) (by decide) (by decide +kernel)) (snd_istore_n (k := 2) (by decide +kernel) rfl (by decide)))
set_option maxRecDepth 20000 in
theorem s_X5_countSafe_44 : Snd mX5_countSafe 44 (sq (opLdI 2) (opLdI 1)) 46 := (snd_sq (snd_iload_n (k := 2) (by decide +kernel) rfl) (snd_iload_n (k := 1) (by decide +kernel) rfl))
set_option maxRecDepth 20000 in
theorem b_X5_countSafe_46 : Br_ic_ge mX5_countSafe 46 59 := br_ic_ge (off := 13) (by decide +kernel) (by decide)
set_option maxRecDepth 20000 in
theorem s_X5_countSafe_49 : Snd mX5_countSafe 49 (opLdA 0) 50 := (snd_aload_n (k := 0) (by decide +kernel) rfl)
set_option maxRecDepth 20000 in
theorem c_X5_countSafe_50 : CallV mX5_countSafe 50 mX5_lengthen 5 1 := kallV (site_V rfl w722 (by decide +kernel) w719 w721 w45 w95 ⟨by decide, by decide, by decide +kernel⟩) (by decide) (by decide) (by unfold clsNo; rfl)
set_option maxRecDepth 20000 in
theorem s_X5_countSafe_53 : Snd mX5_countSafe 53 (sq (opInc 2 (1)) opNop) 44 := (snd_sq (snd_iinc (k := 1) (by decide +kernel) (by decide) (by decide)) (snd_goto (off := -12) (by decide +kernel) (by decide)))
set_option maxRecDepth 20000 in
theorem s_X5_countSafe_59 : Snd mX5_countSafe 59 (sq (opCi (0)) (sq (opStI 2) (sq (opCi (0)) (opStI 3)))) 63 := (snd_sq (snd_iconst (k := 0) (by decide) (by decide +kernel)) (snd_sq (snd_istore_n (k := 2) (by decide +kernel) rfl (by decide)) (snd_sq (snd_iconst (k := 0) (by decide) (by decide +kernel)) (snd_istore_n (k := 3) (by decide +kernel) rfl (by decide)))))
set_option maxRecDepth 20000 in
theorem s_X5_countSafe_63 : Snd mX5_countSafe 63 (sq (opLdI 3) (opCi (16))) 66 := (snd_sq (snd_iload_n (k := 3) (by decide +kernel) rfl) (snd_bipush (k := 16) (by decide) (by decide +kernel)))
set_option maxRecDepth 20000 in
theorem b_X5_countSafe_66 : Br_ic_ge mX5_countSafe 66 98 := br_ic_ge (off := 32) (by decide +kernel) (by decide)
set_option maxRecDepth 20000 in
theorem s_X5_countSafe_69 : Snd mX5_countSafe 69 (sq (opLdI 3) (sq (opLdA 0) (sq (opGetR 5 0) (opGetI 3 4)))) 77 := (snd_sq (snd_iload_n (k := 3) (by decide +kernel) rfl) (snd_sq (snd_aload_n (k := 0) (by decide +kernel) rfl) (snd_sq (snd_getR (ci := 5) (k := 0) (by decide +kernel) rfl (by decide) (by decide) rfl iw_5 w325) (snd_getIN (ci := 3) (k := 4) (by decide +kernel) rfl (by decide) (by decide) (by decide) iw_3 w201))))
set_option maxRecDepth 20000 in
theorem c_X5_countSafe_77 : CallS mX5_countSafe 77 mX6_isIn 2 := kallS (site_SN w191 (by decide +kernel) w717 w190 w90 ⟨by decide, by decide, by decide +kernel⟩) (by decide)
set_option maxRecDepth 20000 in
theorem b_X5_countSafe_80 : Br_if_eq mX5_countSafe 80 92 := br_if_eq (off := 12) (by decide +kernel) (by decide)
set_option maxRecDepth 20000 in
theorem s_X5_countSafe_83 : Snd mX5_countSafe 83 (sq (opLdI 2) (sq (opLdA 0) (sq (opGetR 5 2) (sq (opLdI 3) (sq opIald (sq opiadd (opStI 2))))))) 92 := (snd_sq (snd_iload_n (k := 2) (by decide +kernel) rfl) (snd_sq (snd_aload_n (k := 0) (by decide +kernel) rfl) (snd_sq (snd_getR (ci := 5) (k := 2) (by decide +kernel) rfl (by decide) (by decide) rfl iw_5 w327) (snd_sq (snd_iload_n (k := 3) (by decide +kernel) rfl) (snd_sq (snd_iald (by decide +kernel)) (snd_sq (snd_iadd (by decide +kernel)) (snd_istore_n (k := 2) (by decide +kernel) rfl (by decide))))))))
set_option maxRecDepth 20000 in
theorem s_X5_countSafe_92 : Snd mX5_countSafe 92 (sq (opInc 3 (1)) opNop) 63 := (snd_sq (snd_iinc (k := 1) (by decide +kernel) (by decide) (by decide)) (snd_goto (off := -32) (by decide +kernel) (by decide)))
set_option maxRecDepth 20000 in
theorem s_X5_countSafe_98 : Snd mX5_countSafe 98 (opLdI 2) 99 := (snd_iload_n (k := 2) (by decide +kernel) rfl)
set_option maxRecDepth 20000 in
theorem r_X5_countSafe_99 : RtI mX5_countSafe 99 := rt_I (by decide +kernel) rfl
/-! ClaimChains$Walks.lengthen()V -/
set_option maxRecDepth 20000 in
theorem s_X5_lengthen_0 : Snd mX5_lengthen 0 (sq (opCi (0)) (opStI 1)) 2 := (snd_sq (snd_iconst (k := 0) (by decide) (by decide +kernel)) (snd_istore_n (k := 1) (by decide +kernel) rfl (by decide)))
set_option maxRecDepth 20000 in
theorem s_X5_lengthen_2 : Snd mX5_lengthen 2 (sq (opLdI 1) (opCi (16))) 5 := (snd_sq (snd_iload_n (k := 1) (by decide +kernel) rfl) (snd_bipush (k := 16) (by decide) (by decide +kernel)))
set_option maxRecDepth 20000 in
theorem b_X5_lengthen_5 : Br_ic_ge mX5_lengthen 5 26 := br_ic_ge (off := 21) (by decide +kernel) (by decide)
set_option maxRecDepth 20000 in
theorem s_X5_lengthen_8 : Snd mX5_lengthen 8 (sq (opLdA 0) (sq (opGetR 5 1) (sq (opLdI 1) (sq (opLdA 0) (sq (opGetR 5 2) (sq (opLdI 1) (sq opIald (sq opIast (sq (opInc 1 (1)) opNop))))))))) 2 := (snd_sq (snd_aload_n (k := 0) (by decide +kernel) rfl) (snd_sq (snd_getR (ci := 5) (k := 1) (by decide +kernel) rfl (by decide) (by decide) rfl iw_5 w326) (snd_sq (snd_iload_n (k := 1) (by decide +kernel) rfl) (snd_sq (snd_aload_n (k := 0) (by decide +kernel) rfl) (snd_sq (snd_getR (ci := 5) (k := 2) (by decide +kernel) rfl (by decide) (by decide) rfl iw_5 w327) (snd_sq (snd_iload_n (k := 1) (by decide +kernel) rfl) (snd_sq (snd_iald (by decide +kernel)) (snd_sq (snd_iast (by decide +kernel)) (snd_sq (snd_iinc (k := 1) (by decide +kernel) (by decide) (by decide)) (snd_goto (off := -21) (by decide +kernel) (by decide)))))))))))
set_option maxRecDepth 20000 in
theorem s_X5_lengthen_26 : Snd mX5_lengthen 26 (sq (opCi (0)) (opStI 1)) 28 := (snd_sq (snd_iconst (k := 0) (by decide) (by decide +kernel)) (snd_istore_n (k := 1) (by decide +kernel) rfl (by decide)))
set_option maxRecDepth 20000 in
theorem s_X5_lengthen_28 : Snd mX5_lengthen 28 (sq (opLdI 1) (opCi (16))) 31 := (snd_sq (snd_iload_n (k := 1) (by decide +kernel) rfl) (snd_bipush (k := 16) (by decide) (by decide +kernel)))
set_option maxRecDepth 20000 in
theorem b_X5_lengthen_31 : Br_ic_ge mX5_lengthen 31 100 := br_ic_ge (off := 69) (by decide +kernel) (by decide)
set_option maxRecDepth 20000 in
theorem s_X5_lengthen_34 : Snd mX5_lengthen 34 (sq (opLdA 0) (sq (opGetR 5 2) (sq (opLdI 1) (sq (opCi (0)) (sq opIast (sq (opLdI 1) (sq (opLdA 0) (sq (opGetR 5 0) (opGetI 3 5))))))))) 49 := (snd_sq (snd_aload_n (k := 0) (by decide +kernel) rfl) (snd_sq (snd_getR (ci := 5) (k := 2) (by decide +kernel) rfl (by decide) (by decide) rfl iw_5 w327) (snd_sq (snd_iload_n (k := 1) (by decide +kernel) rfl) (snd_sq (snd_iconst (k := 0) (by decide) (by decide +kernel)) (snd_sq (snd_iast (by decide +kernel)) (snd_sq (snd_iload_n (k := 1) (by decide +kernel) rfl) (snd_sq (snd_aload_n (k := 0) (by decide +kernel) rfl) (snd_sq (snd_getR (ci := 5) (k := 0) (by decide +kernel) rfl (by decide) (by decide) rfl iw_5 w325) (snd_getIN (ci := 3) (k := 5) (by decide +kernel) rfl (by decide) (by decide) (by decide) iw_3 w205)))))))))
set_option maxRecDepth 20000 in
theorem c_X5_lengthen_49 : CallS mX5_lengthen 49 mX6_isIn 2 := kallS (site_SN w191 (by decide +kernel) w717 w190 w90 ⟨by decide, by decide, by decide +kernel⟩) (by decide)
set_option maxRecDepth 20000 in
theorem b_X5_lengthen_52 : Br_if_eq mX5_lengthen 52 58 := br_if_eq (off := 6) (by decide +kernel) (by decide)
set_option maxRecDepth 20000 in
theorem s_X5_lengthen_55 : Snd mX5_lengthen 55 opNop 94 := (snd_goto (off := 39) (by decide +kernel) (by decide))
set_option maxRecDepth 20000 in
theorem s_X5_lengthen_58 : Snd mX5_lengthen 58 (sq (opCi (0)) (opStI 2)) 60 := (snd_sq (snd_iconst (k := 0) (by decide) (by decide +kernel)) (snd_istore_n (k := 2) (by decide +kernel) rfl (by decide)))
set_option maxRecDepth 20000 in
theorem s_X5_lengthen_60 : Snd mX5_lengthen 60 (sq (opLdI 2) (opCi (4))) 62 := (snd_sq (snd_iload_n (k := 2) (by decide +kernel) rfl) (snd_iconst (k := 4) (by decide) (by decide +kernel)))
set_option maxRecDepth 20000 in
theorem b_X5_lengthen_62 : Br_ic_ge mX5_lengthen 62 94 := br_ic_ge (off := 32) (by decide +kernel) (by decide)
set_option maxRecDepth 20000 in
theorem s_X5_lengthen_65 : Snd mX5_lengthen 65 (sq (opLdA 0) (sq (opGetR 5 2) (sq (opLdI 1) (sq opDup2 (sq opIald (sq (opLdA 0) (sq (opGetR 5 1) (sq (opLdA 0) (sq (opGetR 5 0) (sq (opLdI 1) (opLdI 2))))))))))) 82 := (snd_sq (snd_aload_n (k := 0) (by decide +kernel) rfl) (snd_sq (snd_getR (ci := 5) (k := 2) (by decide +kernel) rfl (by decide) (by decide) rfl iw_5 w327) (snd_sq (snd_iload_n (k := 1) (by decide +kernel) rfl) (snd_sq (snd_dup2 (by decide +kernel)) (snd_sq (snd_iald (by decide +kernel)) (snd_sq (snd_aload_n (k := 0) (by decide +kernel) rfl) (snd_sq (snd_getR (ci := 5) (k := 1) (by decide +kernel) rfl (by decide) (by decide) rfl iw_5 w326) (snd_sq (snd_aload_n (k := 0) (by decide +kernel) rfl) (snd_sq (snd_getR (ci := 5) (k := 0) (by decide +kernel) rfl (by decide) (by decide) rfl iw_5 w325) (snd_sq (snd_iload_n (k := 1) (by decide +kernel) rfl) (snd_iload_n (k := 2) (by decide +kernel) rfl)))))))))))
set_option maxRecDepth 20000 in
theorem c_X5_lengthen_82 : CallV mX5_lengthen 82 mX3_target 3 3 := kallV (site_VN rfl w184 (by decide +kernel) w723 w183 w3 w92 ⟨by decide, by decide, by decide +kernel⟩) (by decide) (by decide) (by unfold clsNo; rfl)
set_option maxRecDepth 20000 in
theorem s_X5_lengthen_85 : Snd mX5_lengthen 85 (sq opIald (sq opiadd (sq opIast (sq (opInc 2 (1)) opNop)))) 60 := (snd_sq (snd_iald (by decide +kernel)) (snd_sq (snd_iadd (by decide +kernel)) (snd_sq (snd_iast (by decide +kernel)) (snd_sq (snd_iinc (k := 1) (by decide +kernel) (by decide) (by decide)) (snd_goto (off := -31) (by decide +kernel) (by decide))))))
set_option maxRecDepth 20000 in
theorem s_X5_lengthen_94 : Snd mX5_lengthen 94 (sq (opInc 1 (1)) opNop) 28 := (snd_sq (snd_iinc (k := 1) (by decide +kernel) (by decide) (by decide)) (snd_goto (off := -69) (by decide +kernel) (by decide)))
set_option maxRecDepth 20000 in
theorem r_X5_lengthen_100 : RtV mX5_lengthen 100 := rt_V (by decide +kernel) rfl
/-! java/lang/Integer.bitCount(I)I -/
set_option maxRecDepth 20000 in
theorem s_J6_bitCount_0 : Snd mJ6_bitCount 0 (sq (opLdI 0) (sq (opLdI 0) (sq (opCi (1)) (sq opiushr (sq (opCi (1431655765)) (sq opiand (sq opisub (sq (opStI 0) (sq (opLdI 0) (sq (opCi (858993459)) (sq opiand (sq (opLdI 0) (sq (opCi (2)) (sq opiushr (sq (opCi (858993459)) (sq opiand (sq opiadd (sq (opStI 0) (sq (opLdI 0) (sq (opLdI 0) (sq (opCi (4)) (sq opiushr (sq opiadd (sq (opCi (252645135)) (sq opiand (sq (opStI 0) (sq (opLdI 0) (sq (opLdI 0) (sq (opCi (8)) (sq opiushr (sq opiadd (sq (opStI 0) (sq (opLdI 0) (sq (opLdI 0) (sq (opCi (16)) (sq opiushr (sq opiadd (sq (opStI 0) (sq (opLdI 0) (sq (opCi (63)) opiand)))))))))))))))))))))))))))))))))))))))) 52 := (snd_sq (snd_iload_n (k := 0) (by decide +kernel) rfl) (snd_sq (snd_iload_n (k := 0) (by decide +kernel) rfl) (snd_sq (snd_iconst (k := 1) (by decide) (by decide +kernel)) (snd_sq (snd_iushr (by decide +kernel)) (snd_sq (snd_ldcw w540 (by decide +kernel)) (snd_sq (snd_iand (by decide +kernel)) (snd_sq (snd_isub (by decide +kernel)) (snd_sq (snd_istore_n (k := 0) (by decide +kernel) rfl (by decide)) (snd_sq (snd_iload_n (k := 0) (by decide +kernel) rfl) (snd_sq (snd_ldcw w541 (by decide +kernel)) (snd_sq (snd_iand (by decide +kernel)) (snd_sq (snd_iload_n (k := 0) (by decide +kernel) rfl) (snd_sq (snd_iconst (k := 2) (by decide) (by decide +kernel)) (snd_sq (snd_iushr (by decide +kernel)) (snd_sq (snd_ldcw w541 (by decide +kernel)) (snd_sq (snd_iand (by decide +kernel)) (snd_sq (snd_iadd (by decide +kernel)) (snd_sq (snd_istore_n (k := 0) (by decide +kernel) rfl (by decide)) (snd_sq (snd_iload_n (k := 0) (by decide +kernel) rfl) (snd_sq (snd_iload_n (k := 0) (by decide +kernel) rfl) (snd_sq (snd_iconst (k := 4) (by decide) (by decide +kernel)) (snd_sq (snd_iushr (by decide +kernel)) (snd_sq (snd_iadd (by decide +kernel)) (snd_sq (snd_ldcw w542 (by decide +kernel)) (snd_sq (snd_iand (by decide +kernel)) (snd_sq (snd_istore_n (k := 0) (by decide +kernel) rfl (by decide)) (snd_sq (snd_iload_n (k := 0) (by decide +kernel) rfl) (snd_sq (snd_iload_n (k := 0) (by decide +kernel) rfl) (snd_sq (snd_bipush (k := 8) (by decide) (by decide +kernel)) (snd_sq (snd_iushr (by decide +kernel)) (snd_sq (snd_iadd (by decide +kernel)) (snd_sq (snd_istore_n (k := 0) (by decide +kernel) rfl (by decide)) (snd_sq (snd_iload_n (k := 0) (by decide +kernel) rfl) (snd_sq (snd_iload_n (k := 0) (by decide +kernel) rfl) (snd_sq (snd_bipush (k := 16) (by decide) (by decide +kernel)) (snd_sq (snd_iushr (by decide +kernel)) (snd_sq (snd_iadd (by decide +kernel)) (snd_sq (snd_istore_n (k := 0) (by decide +kernel) rfl (by decide)) (snd_sq (snd_iload_n (k := 0) (by decide +kernel) rfl) (snd_sq (snd_bipush (k := 63) (by decide) (by decide +kernel)) (snd_iand (by decide +kernel))))))))))))))))))))))))))))))))))))))))))
set_option maxRecDepth 20000 in
theorem r_J6_bitCount_52 : RtI mJ6_bitCount 52 := rt_I (by decide +kernel) rfl
/-! java/lang/Math.max(II)I -/
set_option maxRecDepth 20000 in
theorem s_J9_max_0 : Snd mJ9_max 0 (sq (opLdI 0) (opLdI 1)) 2 := (snd_sq (snd_iload_n (k := 0) (by decide +kernel) rfl) (snd_iload_n (k := 1) (by decide +kernel) rfl))
set_option maxRecDepth 20000 in
theorem b_J9_max_2 : Br_ic_lt mJ9_max 2 9 := br_ic_lt (off := 7) (by decide +kernel) (by decide)
set_option maxRecDepth 20000 in
theorem s_J9_max_5 : Snd mJ9_max 5 (sq (opLdI 0) opNop) 10 := (snd_sq (snd_iload_n (k := 0) (by decide +kernel) rfl) (snd_goto (off := 4) (by decide +kernel) (by decide)))
set_option maxRecDepth 20000 in
theorem s_J9_max_9 : Snd mJ9_max 9 (opLdI 1) 10 := (snd_iload_n (k := 1) (by decide +kernel) rfl)
set_option maxRecDepth 20000 in
theorem r_J9_max_10 : RtI mJ9_max 10 := rt_I (by decide +kernel) rfl
