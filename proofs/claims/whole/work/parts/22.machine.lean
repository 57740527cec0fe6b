/-! ClaimChains$Machine.<init>(LClaimChains$Terms;)V -/
set_option maxRecDepth 20000 in
theorem s_X3_init_0 : Snd mX3_init 0 (opLdA 0) 1 := (snd_aload_n (k := 0) (by decide +kernel) rfl)
set_option maxRecDepth 20000 in
theorem o_X3_init_1 : OIn mX3_init 1 := fun h1 h2 => e_oinit (by decide +kernel) w165 w106 w107 h1 h2
set_option maxRecDepth 20000 in
theorem s_X3_init_4 : Snd mX3_init 4 (sq (opLdA 0) (sq (opCi (-9)) (sq (opPutI 3 1) (sq (opLdA 0) (sq (opCi (-9)) (sq (opPutI 3 2) (sq (opLdA 0) (opCi (4))))))))) 18 := (snd_sq (snd_aload_n (k := 0) (by decide +kernel) rfl) (snd_sq (snd_bipush (k := -9) (by decide) (by decide +kernel)) (snd_sq (snd_putI (ci := 3) (k := 1) (by decide +kernel) rfl (by decide) (by decide) (by decide) iw_3 tyX3_ok nmX3 rfl (tyX3_ok 1 (by decide)) w197) (snd_sq (snd_aload_n (k := 0) (by decide +kernel) rfl) (snd_sq (snd_bipush (k := -9) (by decide) (by decide +kernel)) (snd_sq (snd_putI (ci := 3) (k := 2) (by decide +kernel) rfl (by decide) (by decide) (by decide) iw_3 tyX3_ok nmX3 rfl (tyX3_ok 2 (by decide)) w198) (snd_sq (snd_aload_n (k := 0) (by decide +kernel) rfl) (snd_iconst (k := 4) (by decide) (by decide +kernel)))))))))
set_option maxRecDepth 20000 in
theorem n_X3_init_18 : NewA mX3_init 18 2 100 := fun h1 h2 h3 h4 h5 h6 h7 => e_newI (by decide +kernel) w158 h1 h2 h3 h4 h5 h6 h7
set_option maxRecDepth 20000 in
theorem s_X3_init_20 : Snd mX3_init 20 (sq (opPutR 3 3) (sq (opLdA 0) (sq (opCi (65535)) (sq (opPutI 3 4) (sq (opLdA 0) (sq (opCi (0)) (sq (opPutI 3 5) (sq (opLdA 0) (opCi (64)))))))))) 37 := (snd_sq (snd_putR (ci := 3) (k := 3) (by decide +kernel) rfl (by decide) (by decide) rfl iw_3 tyX3_ok nmX3 rfl rfl rfl (tyX3_ok 3 (by decide)) (fun _ => rfl) (fun _ => rfl) w199) (snd_sq (snd_aload_n (k := 0) (by decide +kernel) rfl) (snd_sq (snd_ldc w166 (by decide +kernel)) (snd_sq (snd_putI (ci := 3) (k := 4) (by decide +kernel) rfl (by decide) (by decide) (by decide) iw_3 tyX3_ok nmX3 rfl (tyX3_ok 4 (by decide)) w200) (snd_sq (snd_aload_n (k := 0) (by decide +kernel) rfl) (snd_sq (snd_iconst (k := 0) (by decide) (by decide +kernel)) (snd_sq (snd_putI (ci := 3) (k := 5) (by decide +kernel) rfl (by decide) (by decide) (by decide) iw_3 tyX3_ok nmX3 rfl (tyX3_ok 5 (by decide)) w204) (snd_sq (snd_aload_n (k := 0) (by decide +kernel) rfl) (snd_bipush (k := 64) (by decide) (by decide +kernel))))))))))
set_option maxRecDepth 20000 in
theorem n_X3_init_37 : NewA mX3_init 37 2 100 := fun h1 h2 h3 h4 h5 h6 h7 => e_newI (by decide +kernel) w158 h1 h2 h3 h4 h5 h6 h7
set_option maxRecDepth 20000 in
theorem s_X3_init_39 : Snd mX3_init 39 (sq (opPutR 3 6) (sq (opLdA 0) (opCi (16)))) 45 := (snd_sq (snd_putR (ci := 3) (k := 6) (by decide +kernel) rfl (by decide) (by decide) rfl iw_3 tyX3_ok nmX3 rfl rfl rfl (tyX3_ok 6 (by decide)) (fun _ => rfl) (fun _ => rfl) w208) (snd_sq (snd_aload_n (k := 0) (by decide +kernel) rfl) (snd_bipush (k := 16) (by decide) (by decide +kernel))))
set_option maxRecDepth 20000 in
theorem n_X3_init_45 : NewA mX3_init 45 2 100 := fun h1 h2 h3 h4 h5 h6 h7 => e_newI (by decide +kernel) w158 h1 h2 h3 h4 h5 h6 h7
set_option maxRecDepth 20000 in
theorem s_X3_init_47 : Snd mX3_init 47 (sq (opPutR 3 7) (sq (opLdA 0) (sq (opCi (0)) (sq (opPutI 3 8) (sq (opLdA 0) (opCi (16))))))) 58 := (snd_sq (snd_putR (ci := 3) (k := 7) (by decide +kernel) rfl (by decide) (by decide) rfl iw_3 tyX3_ok nmX3 rfl rfl rfl (tyX3_ok 7 (by decide)) (fun _ => rfl) (fun _ => rfl) w209) (snd_sq (snd_aload_n (k := 0) (by decide +kernel) rfl) (snd_sq (snd_iconst (k := 0) (by decide) (by decide +kernel)) (snd_sq (snd_putI (ci := 3) (k := 8) (by decide +kernel) rfl (by decide) (by decide) (by decide) iw_3 tyX3_ok nmX3 rfl (tyX3_ok 8 (by decide)) w210) (snd_sq (snd_aload_n (k := 0) (by decide +kernel) rfl) (snd_bipush (k := 16) (by decide) (by decide +kernel)))))))
set_option maxRecDepth 20000 in
theorem n_X3_init_58 : NewA mX3_init 58 2 100 := fun h1 h2 h3 h4 h5 h6 h7 => e_newI (by decide +kernel) w158 h1 h2 h3 h4 h5 h6 h7
set_option maxRecDepth 20000 in
theorem s_X3_init_60 : Snd mX3_init 60 (sq (opPutR 3 9) (sq (opLdA 0) (sq (opCi (0)) (sq (opPutI 3 10) (sq (opLdA 0) (sq (opCi (-9)) (sq (opPutI 3 11) (sq (opLdA 0) (opCi (16)))))))))) 77 := (snd_sq (snd_putR (ci := 3) (k := 9) (by decide +kernel) rfl (by decide) (by decide) rfl iw_3 tyX3_ok nmX3 rfl rfl rfl (tyX3_ok 9 (by decide)) (fun _ => rfl) (fun _ => rfl) w212) (snd_sq (snd_aload_n (k := 0) (by decide +kernel) rfl) (snd_sq (snd_iconst (k := 0) (by decide) (by decide +kernel)) (snd_sq (snd_putI (ci := 3) (k := 10) (by decide +kernel) rfl (by decide) (by decide) (by decide) iw_3 tyX3_ok nmX3 rfl (tyX3_ok 10 (by decide)) w214) (snd_sq (snd_aload_n (k := 0) (by decide +kernel) rfl) (snd_sq (snd_bipush (k := -9) (by decide) (by decide +kernel)) (snd_sq (snd_putI (ci := 3) (k := 11) (by decide +kernel) rfl (by decide) (by decide) (by decide) iw_3 tyX3_ok nmX3 rfl (tyX3_ok 11 (by decide)) w216) (snd_sq (snd_aload_n (k := 0) (by decide +kernel) rfl) (snd_bipush (k := 16) (by decide) (by decide +kernel))))))))))
set_option maxRecDepth 20000 in
theorem n_X3_init_77 : NewA mX3_init 77 2 100 := fun h1 h2 h3 h4 h5 h6 h7 => e_newI (by decide +kernel) w158 h1 h2 h3 h4 h5 h6 h7
set_option maxRecDepth 20000 in
theorem s_X3_init_79 : Snd mX3_init 79 (sq (opPutR 3 12) (sq (opLdA 0) (opCi (15)))) 85 := (snd_sq (snd_putR (ci := 3) (k := 12) (by decide +kernel) rfl (by decide) (by decide) rfl iw_3 tyX3_ok nmX3 rfl rfl rfl (tyX3_ok 12 (by decide)) (fun _ => rfl) (fun _ => rfl) w218) (snd_sq (snd_aload_n (k := 0) (by decide +kernel) rfl) (snd_bipush (k := 15) (by decide) (by decide +kernel))))
set_option maxRecDepth 20000 in
theorem n_X3_init_85 : NewA mX3_init 85 2 100 := fun h1 h2 h3 h4 h5 h6 h7 => e_newI (by decide +kernel) w158 h1 h2 h3 h4 h5 h6 h7
set_option maxRecDepth 20000 in
theorem s_X3_init_87 : Snd mX3_init 87 (sq (opPutR 3 13) (sq (opLdA 0) (opCi (16)))) 93 := (snd_sq (snd_putR (ci := 3) (k := 13) (by decide +kernel) rfl (by decide) (by decide) rfl iw_3 tyX3_ok nmX3 rfl rfl rfl (tyX3_ok 13 (by decide)) (fun _ => rfl) (fun _ => rfl) w220) (snd_sq (snd_aload_n (k := 0) (by decide +kernel) rfl) (snd_bipush (k := 16) (by decide) (by decide +kernel))))
set_option maxRecDepth 20000 in
theorem n_X3_init_93 : NewA mX3_init 93 2 100 := fun h1 h2 h3 h4 h5 h6 h7 => e_newI (by decide +kernel) w158 h1 h2 h3 h4 h5 h6 h7
set_option maxRecDepth 20000 in
theorem s_X3_init_95 : Snd mX3_init 95 (sq (opPutR 3 14) (sq (opLdA 0) (sq (opLdA 1) (sq (opPutR 3 0) (sq (opCi (0)) (opStI 2)))))) 105 := (snd_sq (snd_putR (ci := 3) (k := 14) (by decide +kernel) rfl (by decide) (by decide) rfl iw_3 tyX3_ok nmX3 rfl rfl rfl (tyX3_ok 14 (by decide)) (fun _ => rfl) (fun _ => rfl) w222) (snd_sq (snd_aload_n (k := 0) (by decide +kernel) rfl) (snd_sq (snd_aload_n (k := 1) (by decide +kernel) rfl) (snd_sq (snd_putR (ci := 3) (k := 0) (by decide +kernel) rfl (by decide) (by decide) rfl iw_3 tyX3_ok nmX3 rfl rfl rfl (tyX3_ok 0 (by decide)) (fun _ => rfl) (fun _ => rfl) w196) (snd_sq (snd_iconst (k := 0) (by decide) (by decide +kernel)) (snd_istore_n (k := 2) (by decide +kernel) rfl (by decide)))))))
set_option maxRecDepth 20000 in
theorem s_X3_init_105 : Snd mX3_init 105 (sq (opLdI 2) (opCi (4))) 107 := (snd_sq (snd_iload_n (k := 2) (by decide +kernel) rfl) (snd_iconst (k := 4) (by decide) (by decide +kernel)))
set_option maxRecDepth 20000 in
theorem b_X3_init_107 : Br_ic_ge mX3_init 107 124 := br_ic_ge (off := 17) (by decide +kernel) (by decide)
set_option maxRecDepth 20000 in
theorem s_X3_init_110 : Snd mX3_init 110 (sq (opLdA 0) (sq (opGetR 3 3) (sq (opLdI 2) (sq (opCi (-9)) (sq opIast (sq (opInc 2 (1)) opNop)))))) 105 := (snd_sq (snd_aload_n (k := 0) (by decide +kernel) rfl) (snd_sq (snd_getR (ci := 3) (k := 3) (by decide +kernel) rfl (by decide) (by decide) rfl iw_3 w199) (snd_sq (snd_iload_n (k := 2) (by decide +kernel) rfl) (snd_sq (snd_bipush (k := -9) (by decide) (by decide +kernel)) (snd_sq (snd_iast (by decide +kernel)) (snd_sq (snd_iinc (k := 1) (by decide +kernel) (by decide) (by decide)) (snd_goto (off := -16) (by decide +kernel) (by decide))))))))
set_option maxRecDepth 20000 in
theorem s_X3_init_124 : Snd mX3_init 124 (opLdA 0) 125 := (snd_aload_n (k := 0) (by decide +kernel) rfl)
set_option maxRecDepth 20000 in
theorem c_X3_init_125 : CallV mX3_init 125 mX3_renewSteps 3 1 := kallV (site_V rfl w170 (by decide +kernel) w167 w169 w0 w92 ⟨by decide, by decide, by decide +kernel⟩) (by decide) (by decide) (by unfold clsNo; rfl)
set_option maxRecDepth 20000 in
theorem s_X3_init_128 : Snd mX3_init 128 (opLdA 0) 129 := (snd_aload_n (k := 0) (by decide +kernel) rfl)
set_option maxRecDepth 20000 in
theorem c_X3_init_129 : CallV mX3_init 129 mX3_renewDistances 3 1 := kallV (site_V rfl w188 (by decide +kernel) w185 w187 w4 w92 ⟨by decide, by decide, by decide +kernel⟩) (by decide) (by decide) (by unfold clsNo; rfl)
set_option maxRecDepth 20000 in
theorem r_X3_init_132 : RtV mX3_init 132 := rt_V (by decide +kernel) rfl
/-! ClaimChains$Machine.tellStarts(I)I -/
set_option maxRecDepth 20000 in
theorem s_X3_tellStarts_0 : Snd mX3_tellStarts 0 (sq (opLdA 0) (sq (opGetI 3 1) (sq (opStI 2) (sq (opLdA 0) (sq (opLdI 1) (sq (opPutI 3 1) (sq (opLdA 0) (sq (opLdA 0) (sq (opGetR 3 0) (sq (opLdI 1) (opCi (0)))))))))))) 17 := (snd_sq (snd_aload_n (k := 0) (by decide +kernel) rfl) (snd_sq (snd_getI (ci := 3) (k := 1) (by decide +kernel) rfl (by decide) (by decide) (by decide) iw_3 w197) (snd_sq (snd_istore_n (k := 2) (by decide +kernel) rfl (by decide)) (snd_sq (snd_aload_n (k := 0) (by decide +kernel) rfl) (snd_sq (snd_iload_n (k := 1) (by decide +kernel) rfl) (snd_sq (snd_putI (ci := 3) (k := 1) (by decide +kernel) rfl (by decide) (by decide) (by decide) iw_3 tyX3_ok nmX3 rfl (tyX3_ok 1 (by decide)) w197) (snd_sq (snd_aload_n (k := 0) (by decide +kernel) rfl) (snd_sq (snd_aload_n (k := 0) (by decide +kernel) rfl) (snd_sq (snd_getR (ci := 3) (k := 0) (by decide +kernel) rfl (by decide) (by decide) rfl iw_3 w196) (snd_sq (snd_iload_n (k := 1) (by decide +kernel) rfl) (snd_iconst (k := 0) (by decide) (by decide +kernel))))))))))))
set_option maxRecDepth 20000 in
theorem c_X3_tellStarts_17 : CallV mX3_tellStarts 17 mX4_trueStates 4 3 := kallV (site_VN rfl w456 (by decide +kernel) w481 w455 w12 w91 ⟨by decide, by decide, by decide +kernel⟩) (by decide) (by decide) (by unfold clsNo; rfl)
set_option maxRecDepth 20000 in
theorem s_X3_tellStarts_20 : Snd mX3_tellStarts 20 (sq (opPutI 3 4) (opLdA 0)) 24 := (snd_sq (snd_putI (ci := 3) (k := 4) (by decide +kernel) rfl (by decide) (by decide) (by decide) iw_3 tyX3_ok nmX3 rfl (tyX3_ok 4 (by decide)) w200) (snd_aload_n (k := 0) (by decide +kernel) rfl))
set_option maxRecDepth 20000 in
theorem c_X3_tellStarts_24 : CallV mX3_tellStarts 24 mX3_renewDistances 3 1 := kallV (site_V rfl w188 (by decide +kernel) w185 w187 w4 w92 ⟨by decide, by decide, by decide +kernel⟩) (by decide) (by decide) (by unfold clsNo; rfl)
set_option maxRecDepth 20000 in
theorem s_X3_tellStarts_27 : Snd mX3_tellStarts 27 (opLdA 0) 28 := (snd_aload_n (k := 0) (by decide +kernel) rfl)
set_option maxRecDepth 20000 in
theorem c_X3_tellStarts_28 : CallV mX3_tellStarts 28 mX3_renewWay 3 1 := kallV (site_V rfl w485 (by decide +kernel) w482 w484 w15 w92 ⟨by decide, by decide, by decide +kernel⟩) (by decide) (by decide) (by unfold clsNo; rfl)
set_option maxRecDepth 20000 in
theorem s_X3_tellStarts_31 : Snd mX3_tellStarts 31 (opLdI 2) 32 := (snd_iload_n (k := 2) (by decide +kernel) rfl)
set_option maxRecDepth 20000 in
theorem r_X3_tellStarts_32 : RtI mX3_tellStarts 32 := rt_I (by decide +kernel) rfl
/-! ClaimChains$Machine.tellNext(II)I -/
set_option maxRecDepth 20000 in
theorem s_X3_tellNext_0 : Snd mX3_tellNext 0 (sq (opLdA 0) (sq (opGetR 3 3) (sq (opLdI 1) (sq opIald (sq (opStI 3) (sq (opLdA 0) (sq (opGetR 3 3) (sq (opLdI 1) (sq (opLdI 2) (sq opIast (opLdA 0))))))))))) 15 := (snd_sq (snd_aload_n (k := 0) (by decide +kernel) rfl) (snd_sq (snd_getR (ci := 3) (k := 3) (by decide +kernel) rfl (by decide) (by decide) rfl iw_3 w199) (snd_sq (snd_iload_n (k := 1) (by decide +kernel) rfl) (snd_sq (snd_iald (by decide +kernel)) (snd_sq (snd_istore_n (k := 3) (by decide +kernel) rfl (by decide)) (snd_sq (snd_aload_n (k := 0) (by decide +kernel) rfl) (snd_sq (snd_getR (ci := 3) (k := 3) (by decide +kernel) rfl (by decide) (by decide) rfl iw_3 w199) (snd_sq (snd_iload_n (k := 1) (by decide +kernel) rfl) (snd_sq (snd_iload_n (k := 2) (by decide +kernel) rfl) (snd_sq (snd_iast (by decide +kernel)) (snd_aload_n (k := 0) (by decide +kernel) rfl)))))))))))
set_option maxRecDepth 20000 in
theorem c_X3_tellNext_15 : CallV mX3_tellNext 15 mX3_renewSteps 3 1 := kallV (site_V rfl w170 (by decide +kernel) w167 w169 w0 w92 ⟨by decide, by decide, by decide +kernel⟩) (by decide) (by decide) (by unfold clsNo; rfl)
set_option maxRecDepth 20000 in
theorem s_X3_tellNext_18 : Snd mX3_tellNext 18 (opLdA 0) 19 := (snd_aload_n (k := 0) (by decide +kernel) rfl)
set_option maxRecDepth 20000 in
theorem c_X3_tellNext_19 : CallV mX3_tellNext 19 mX3_renewDistances 3 1 := kallV (site_V rfl w188 (by decide +kernel) w185 w187 w4 w92 ⟨by decide, by decide, by decide +kernel⟩) (by decide) (by decide) (by unfold clsNo; rfl)
set_option maxRecDepth 20000 in
theorem s_X3_tellNext_22 : Snd mX3_tellNext 22 (opLdA 0) 23 := (snd_aload_n (k := 0) (by decide +kernel) rfl)
set_option maxRecDepth 20000 in
theorem c_X3_tellNext_23 : CallV mX3_tellNext 23 mX3_renewWay 3 1 := kallV (site_V rfl w485 (by decide +kernel) w482 w484 w15 w92 ⟨by decide, by decide, by decide +kernel⟩) (by decide) (by decide) (by unfold clsNo; rfl)
set_option maxRecDepth 20000 in
theorem s_X3_tellNext_26 : Snd mX3_tellNext 26 (opLdI 3) 27 := (snd_iload_n (k := 3) (by decide +kernel) rfl)
set_option maxRecDepth 20000 in
theorem r_X3_tellNext_27 : RtI mX3_tellNext 27 := rt_I (by decide +kernel) rfl
/-! ClaimChains$Machine.tellClaim(I)I -/
set_option maxRecDepth 20000 in
theorem s_X3_tellClaim_0 : Snd mX3_tellClaim 0 (sq (opLdA 0) (sq (opGetI 3 2) (sq (opStI 2) (sq (opLdA 0) (sq (opLdI 1) (sq (opPutI 3 2) (sq (opLdA 0) (sq (opCi (65535)) (sq (opLdA 0) (sq (opGetR 3 0) (sq (opLdI 1) (opCi (0))))))))))))) 19 := (snd_sq (snd_aload_n (k := 0) (by decide +kernel) rfl) (snd_sq (snd_getI (ci := 3) (k := 2) (by decide +kernel) rfl (by decide) (by decide) (by decide) iw_3 w198) (snd_sq (snd_istore_n (k := 2) (by decide +kernel) rfl (by decide)) (snd_sq (snd_aload_n (k := 0) (by decide +kernel) rfl) (snd_sq (snd_iload_n (k := 1) (by decide +kernel) rfl) (snd_sq (snd_putI (ci := 3) (k := 2) (by decide +kernel) rfl (by decide) (by decide) (by decide) iw_3 tyX3_ok nmX3 rfl (tyX3_ok 2 (by decide)) w198) (snd_sq (snd_aload_n (k := 0) (by decide +kernel) rfl) (snd_sq (snd_ldc w166 (by decide +kernel)) (snd_sq (snd_aload_n (k := 0) (by decide +kernel) rfl) (snd_sq (snd_getR (ci := 3) (k := 0) (by decide +kernel) rfl (by decide) (by decide) rfl iw_3 w196) (snd_sq (snd_iload_n (k := 1) (by decide +kernel) rfl) (snd_iconst (k := 0) (by decide) (by decide +kernel)))))))))))))
set_option maxRecDepth 20000 in
theorem c_X3_tellClaim_19 : CallV mX3_tellClaim 19 mX4_trueStates 4 3 := kallV (site_VN rfl w456 (by decide +kernel) w481 w455 w12 w91 ⟨by decide, by decide, by decide +kernel⟩) (by decide) (by decide) (by unfold clsNo; rfl)
set_option maxRecDepth 20000 in
theorem s_X3_tellClaim_22 : Snd mX3_tellClaim 22 (sq (opCi (-1)) (sq opixor (sq opiand (sq (opPutI 3 5) (opLdA 0))))) 29 := (snd_sq (snd_iconst (k := -1) (by decide) (by decide +kernel)) (snd_sq (snd_ixor (by decide +kernel)) (snd_sq (snd_iand (by decide +kernel)) (snd_sq (snd_putI (ci := 3) (k := 5) (by decide +kernel) rfl (by decide) (by decide) (by decide) iw_3 tyX3_ok nmX3 rfl (tyX3_ok 5 (by decide)) w204) (snd_aload_n (k := 0) (by decide +kernel) rfl)))))
set_option maxRecDepth 20000 in
theorem c_X3_tellClaim_29 : CallV mX3_tellClaim 29 mX3_renewWay 3 1 := kallV (site_V rfl w485 (by decide +kernel) w482 w484 w15 w92 ⟨by decide, by decide, by decide +kernel⟩) (by decide) (by decide) (by unfold clsNo; rfl)
set_option maxRecDepth 20000 in
theorem s_X3_tellClaim_32 : Snd mX3_tellClaim 32 (opLdI 2) 33 := (snd_iload_n (k := 2) (by decide +kernel) rfl)
set_option maxRecDepth 20000 in
theorem r_X3_tellClaim_33 : RtI mX3_tellClaim 33 := rt_I (by decide +kernel) rfl
/-! ClaimChains$Machine.target(II)I -/
set_option maxRecDepth 20000 in
theorem s_X3_target_0 : Snd mX3_target 0 (sq (opLdA 0) (sq (opGetR 3 6) (sq (opCi (16)) (sq (opLdI 2) (sq opimul (sq (opLdI 1) (sq opiadd opIald))))))) 11 := (snd_sq (snd_aload_n (k := 0) (by decide +kernel) rfl) (snd_sq (snd_getR (ci := 3) (k := 6) (by decide +kernel) rfl (by decide) (by decide) rfl iw_3 w208) (snd_sq (snd_bipush (k := 16) (by decide) (by decide +kernel)) (snd_sq (snd_iload_n (k := 2) (by decide +kernel) rfl) (snd_sq (snd_imul (by decide +kernel)) (snd_sq (snd_iload_n (k := 1) (by decide +kernel) rfl) (snd_sq (snd_iadd (by decide +kernel)) (snd_iald (by decide +kernel)))))))))
set_option maxRecDepth 20000 in
theorem r_X3_target_11 : RtI mX3_target 11 := rt_I (by decide +kernel) rfl
/-! ClaimChains$Machine.renewSteps()V -/
set_option maxRecDepth 20000 in
theorem s_X3_renewSteps_0 : Snd mX3_renewSteps 0 (sq (opLdA 0) (sq opDup (sq (opGetI 3 8) (sq (opCi (1)) (sq opiadd (sq (opPutI 3 8) (sq (opCi (0)) (opStI 1)))))))) 12 := (snd_sq (snd_aload_n (k := 0) (by decide +kernel) rfl) (snd_sq (snd_dup (by decide +kernel)) (snd_sq (snd_getI (ci := 3) (k := 8) (by decide +kernel) rfl (by decide) (by decide) (by decide) iw_3 w210) (snd_sq (snd_iconst (k := 1) (by decide) (by decide +kernel)) (snd_sq (snd_iadd (by decide +kernel)) (snd_sq (snd_putI (ci := 3) (k := 8) (by decide +kernel) rfl (by decide) (by decide) (by decide) iw_3 tyX3_ok nmX3 rfl (tyX3_ok 8 (by decide)) w210) (snd_sq (snd_iconst (k := 0) (by decide) (by decide +kernel)) (snd_istore_n (k := 1) (by decide +kernel) rfl (by decide)))))))))
set_option maxRecDepth 20000 in
theorem s_X3_renewSteps_12 : Snd mX3_renewSteps 12 (sq (opLdI 1) (opCi (64))) 15 := (snd_sq (snd_iload_n (k := 1) (by decide +kernel) rfl) (snd_bipush (k := 64) (by decide) (by decide +kernel)))
set_option maxRecDepth 20000 in
theorem b_X3_renewSteps_15 : Br_ic_ge mX3_renewSteps 15 61 := br_ic_ge (off := 46) (by decide +kernel) (by decide)
set_option maxRecDepth 20000 in
theorem s_X3_renewSteps_18 : Snd mX3_renewSteps 18 (sq (opCi (0)) (sq (opStI 2) (sq (opCi (0)) (opStI 3)))) 22 := (snd_sq (snd_iconst (k := 0) (by decide) (by decide +kernel)) (snd_sq (snd_istore_n (k := 2) (by decide +kernel) rfl (by decide)) (snd_sq (snd_iconst (k := 0) (by decide) (by decide +kernel)) (snd_istore_n (k := 3) (by decide +kernel) rfl (by decide)))))
set_option maxRecDepth 20000 in
theorem s_X3_renewSteps_22 : Snd mX3_renewSteps 22 (sq (opLdI 3) (opCi (4))) 24 := (snd_sq (snd_iload_n (k := 3) (by decide +kernel) rfl) (snd_iconst (k := 4) (by decide) (by decide +kernel)))
set_option maxRecDepth 20000 in
theorem b_X3_renewSteps_24 : Br_ic_ge mX3_renewSteps 24 48 := br_ic_ge (off := 24) (by decide +kernel) (by decide)
set_option maxRecDepth 20000 in
theorem s_X3_renewSteps_27 : Snd mX3_renewSteps 27 (sq (opLdI 2) (sq (opLdA 0) (opLdI 3))) 30 := (snd_sq (snd_iload_n (k := 2) (by decide +kernel) rfl) (snd_sq (snd_aload_n (k := 0) (by decide +kernel) rfl) (snd_iload_n (k := 3) (by decide +kernel) rfl)))
set_option maxRecDepth 20000 in
theorem c_X3_renewSteps_30 : CallV mX3_renewSteps 30 mX3_nextTable 3 2 := kallV (site_V rfl w174 (by decide +kernel) w171 w173 w1 w92 ⟨by decide, by decide, by decide +kernel⟩) (by decide) (by decide) (by unfold clsNo; rfl)
set_option maxRecDepth 20000 in
theorem s_X3_renewSteps_33 : Snd mX3_renewSteps 33 (sq (opLdI 1) (sq oplushr (sq (opCl (1)) (sq opland (sq opl2i (sq (opLdI 3) (sq opishl (sq opior (sq (opStI 2) (sq (opInc 3 (1)) opNop)))))))))) 22 := (snd_sq (snd_iload_n (k := 1) (by decide +kernel) rfl) (snd_sq (snd_lushr (by decide +kernel)) (snd_sq (snd_lconst (k := 1) (by decide) (by decide +kernel)) (snd_sq (snd_land (by decide +kernel)) (snd_sq (snd_l2i (by decide +kernel)) (snd_sq (snd_iload_n (k := 3) (by decide +kernel) rfl) (snd_sq (snd_ishl (by decide +kernel)) (snd_sq (snd_ior (by decide +kernel)) (snd_sq (snd_istore_n (k := 2) (by decide +kernel) rfl (by decide)) (snd_sq (snd_iinc (k := 1) (by decide +kernel) (by decide) (by decide)) (snd_goto (off := -23) (by decide +kernel) (by decide))))))))))))
set_option maxRecDepth 20000 in
theorem s_X3_renewSteps_48 : Snd mX3_renewSteps 48 (sq (opLdA 0) (sq (opGetR 3 6) (sq (opLdI 1) (sq (opLdI 2) (sq opIast (sq (opInc 1 (1)) opNop)))))) 12 := (snd_sq (snd_aload_n (k := 0) (by decide +kernel) rfl) (snd_sq (snd_getR (ci := 3) (k := 6) (by decide +kernel) rfl (by decide) (by decide) rfl iw_3 w208) (snd_sq (snd_iload_n (k := 1) (by decide +kernel) rfl) (snd_sq (snd_iload_n (k := 2) (by decide +kernel) rfl) (snd_sq (snd_iast (by decide +kernel)) (snd_sq (snd_iinc (k := 1) (by decide +kernel) (by decide) (by decide)) (snd_goto (off := -46) (by decide +kernel) (by decide))))))))
set_option maxRecDepth 20000 in
theorem s_X3_renewSteps_61 : Snd mX3_renewSteps 61 (sq (opCi (0)) (opStI 1)) 63 := (snd_sq (snd_iconst (k := 0) (by decide) (by decide +kernel)) (snd_istore_n (k := 1) (by decide +kernel) rfl (by decide)))
set_option maxRecDepth 20000 in
theorem s_X3_renewSteps_63 : Snd mX3_renewSteps 63 (sq (opLdI 1) (opCi (16))) 66 := (snd_sq (snd_iload_n (k := 1) (by decide +kernel) rfl) (snd_bipush (k := 16) (by decide) (by decide +kernel)))
set_option maxRecDepth 20000 in
theorem b_X3_renewSteps_66 : Br_ic_ge mX3_renewSteps 66 112 := br_ic_ge (off := 46) (by decide +kernel) (by decide)
set_option maxRecDepth 20000 in
theorem s_X3_renewSteps_69 : Snd mX3_renewSteps 69 (sq (opLdA 0) (sq (opGetR 3 7) (sq (opLdI 1) (sq (opCi (0)) (sq opIast (sq (opCi (0)) (opStI 2))))))) 78 := (snd_sq (snd_aload_n (k := 0) (by decide +kernel) rfl) (snd_sq (snd_getR (ci := 3) (k := 7) (by decide +kernel) rfl (by decide) (by decide) rfl iw_3 w209) (snd_sq (snd_iload_n (k := 1) (by decide +kernel) rfl) (snd_sq (snd_iconst (k := 0) (by decide) (by decide +kernel)) (snd_sq (snd_iast (by decide +kernel)) (snd_sq (snd_iconst (k := 0) (by decide) (by decide +kernel)) (snd_istore_n (k := 2) (by decide +kernel) rfl (by decide))))))))
set_option maxRecDepth 20000 in
theorem s_X3_renewSteps_78 : Snd mX3_renewSteps 78 (sq (opLdI 2) (opCi (4))) 80 := (snd_sq (snd_iload_n (k := 2) (by decide +kernel) rfl) (snd_iconst (k := 4) (by decide) (by decide +kernel)))
set_option maxRecDepth 20000 in
theorem b_X3_renewSteps_80 : Br_ic_ge mX3_renewSteps 80 106 := br_ic_ge (off := 26) (by decide +kernel) (by decide)
set_option maxRecDepth 20000 in
theorem s_X3_renewSteps_83 : Snd mX3_renewSteps 83 (sq (opLdA 0) (sq (opGetR 3 7) (sq (opLdI 1) (sq opDup2 (sq opIald (sq (opCi (1)) (sq (opLdA 0) (sq (opLdI 1) (opLdI 2))))))))) 94 := (snd_sq (snd_aload_n (k := 0) (by decide +kernel) rfl) (snd_sq (snd_getR (ci := 3) (k := 7) (by decide +kernel) rfl (by decide) (by decide) rfl iw_3 w209) (snd_sq (snd_iload_n (k := 1) (by decide +kernel) rfl) (snd_sq (snd_dup2 (by decide +kernel)) (snd_sq (snd_iald (by decide +kernel)) (snd_sq (snd_iconst (k := 1) (by decide) (by decide +kernel)) (snd_sq (snd_aload_n (k := 0) (by decide +kernel) rfl) (snd_sq (snd_iload_n (k := 1) (by decide +kernel) rfl) (snd_iload_n (k := 2) (by decide +kernel) rfl)))))))))
set_option maxRecDepth 20000 in
theorem c_X3_renewSteps_94 : CallV mX3_renewSteps 94 mX3_target 3 3 := kallV (site_V rfl w184 (by decide +kernel) w181 w183 w3 w92 ⟨by decide, by decide, by decide +kernel⟩) (by decide) (by decide) (by unfold clsNo; rfl)
set_option maxRecDepth 20000 in
theorem s_X3_renewSteps_97 : Snd mX3_renewSteps 97 (sq opishl (sq opior (sq opIast (sq (opInc 2 (1)) opNop)))) 78 := (snd_sq (snd_ishl (by decide +kernel)) (snd_sq (snd_ior (by decide +kernel)) (snd_sq (snd_iast (by decide +kernel)) (snd_sq (snd_iinc (k := 1) (by decide +kernel) (by decide) (by decide)) (snd_goto (off := -25) (by decide +kernel) (by decide))))))
set_option maxRecDepth 20000 in
theorem s_X3_renewSteps_106 : Snd mX3_renewSteps 106 (sq (opInc 1 (1)) opNop) 63 := (snd_sq (snd_iinc (k := 1) (by decide +kernel) (by decide) (by decide)) (snd_goto (off := -46) (by decide +kernel) (by decide)))
set_option maxRecDepth 20000 in
theorem r_X3_renewSteps_112 : RtV mX3_renewSteps 112 := rt_V (by decide +kernel) rfl
/-! ClaimChains$Machine.nextTable(I)J -/
set_option maxRecDepth 20000 in
theorem s_X3_nextTable_0 : Snd mX3_nextTable 0 (sq (opLdA 0) (sq (opGetR 3 3) (sq (opLdI 1) (sq opIald (sq (opStI 2) (sq (opLdA 0) (sq (opGetR 3 0) (opLdI 2)))))))) 12 := (snd_sq (snd_aload_n (k := 0) (by decide +kernel) rfl) (snd_sq (snd_getR (ci := 3) (k := 3) (by decide +kernel) rfl (by decide) (by decide) rfl iw_3 w199) (snd_sq (snd_iload_n (k := 1) (by decide +kernel) rfl) (snd_sq (snd_iald (by decide +kernel)) (snd_sq (snd_istore_n (k := 2) (by decide +kernel) rfl (by decide)) (snd_sq (snd_aload_n (k := 0) (by decide +kernel) rfl) (snd_sq (snd_getR (ci := 3) (k := 0) (by decide +kernel) rfl (by decide) (by decide) rfl iw_3 w196) (snd_iload_n (k := 2) (by decide +kernel) rfl))))))))
set_option maxRecDepth 20000 in
theorem c_X3_nextTable_12 : CallV mX3_nextTable 12 mX4_has 4 2 := kallV (site_VN rfl w178 (by decide +kernel) w175 w177 w2 w91 ⟨by decide, by decide, by decide +kernel⟩) (by decide) (by decide) (by unfold clsNo; rfl)
set_option maxRecDepth 20000 in
theorem b_X3_nextTable_15 : Br_if_eq mX3_nextTable 15 30 := br_if_eq (off := 15) (by decide +kernel) (by decide)
set_option maxRecDepth 20000 in
theorem s_X3_nextTable_18 : Snd mX3_nextTable 18 (sq (opLdA 0) (sq (opGetR 3 0) (sq (opGetR 4 8) (sq (opLdI 2) (sq opLald opNop))))) 35 := (snd_sq (snd_aload_n (k := 0) (by decide +kernel) rfl) (snd_sq (snd_getR (ci := 3) (k := 0) (by decide +kernel) rfl (by decide) (by decide) rfl iw_3 w196) (snd_sq (snd_getRN (ci := 4) (k := 8) (by decide +kernel) rfl (by decide) (by decide) rfl iw_4 w133) (snd_sq (snd_iload_n (k := 2) (by decide +kernel) rfl) (snd_sq (snd_lald (by decide +kernel)) (snd_goto (off := 8) (by decide +kernel) (by decide)))))))
set_option maxRecDepth 20000 in
theorem s_X3_nextTable_30 : Snd mX3_nextTable 30 (sq (opGets 2) (sq (opLdI 1) (opLaldS 2))) 35 := (snd_sq (snd_getsN (j := 2) (by decide) (by decide +kernel) w179) (snd_sq (snd_iload_n (k := 1) (by decide +kernel) rfl) (snd_laldS (j := 2) (by decide) rfl (by decide) (by decide +kernel))))
set_option maxRecDepth 20000 in
theorem r_X3_nextTable_35 : RtL mX3_nextTable 35 := rt_L (by decide +kernel) rfl
/-! ClaimChains$Machine.image(I)I -/
set_option maxRecDepth 20000 in
theorem s_X3_image_0 : Snd mX3_image 0 (sq (opCi (0)) (sq (opStI 2) (sq (opCi (0)) (opStI 3)))) 4 := (snd_sq (snd_iconst (k := 0) (by decide) (by decide +kernel)) (snd_sq (snd_istore_n (k := 2) (by decide +kernel) rfl (by decide)) (snd_sq (snd_iconst (k := 0) (by decide) (by decide +kernel)) (snd_istore_n (k := 3) (by decide +kernel) rfl (by decide)))))
set_option maxRecDepth 20000 in
theorem s_X3_image_4 : Snd mX3_image 4 (sq (opLdI 3) (opCi (16))) 7 := (snd_sq (snd_iload_n (k := 3) (by decide +kernel) rfl) (snd_bipush (k := 16) (by decide) (by decide +kernel)))
set_option maxRecDepth 20000 in
theorem b_X3_image_7 : Br_ic_ge mX3_image 7 33 := br_ic_ge (off := 26) (by decide +kernel) (by decide)
set_option maxRecDepth 20000 in
theorem s_X3_image_10 : Snd mX3_image 10 (sq (opLdI 3) (opLdI 1)) 12 := (snd_sq (snd_iload_n (k := 3) (by decide +kernel) rfl) (snd_iload_n (k := 1) (by decide +kernel) rfl))
set_option maxRecDepth 20000 in
theorem c_X3_image_12 : CallS mX3_image 12 mX6_isIn 2 := kallS (site_SN w191 (by decide +kernel) w189 w190 w90 ⟨by decide, by decide, by decide +kernel⟩) (by decide)
set_option maxRecDepth 20000 in
theorem b_X3_image_15 : Br_if_eq mX3_image 15 27 := br_if_eq (off := 12) (by decide +kernel) (by decide)
set_option maxRecDepth 20000 in
theorem s_X3_image_18 : Snd mX3_image 18 (sq (opLdI 2) (sq (opLdA 0) (sq (opGetR 3 7) (sq (opLdI 3) (sq opIald (sq opior (opStI 2))))))) 27 := (snd_sq (snd_iload_n (k := 2) (by decide +kernel) rfl) (snd_sq (snd_aload_n (k := 0) (by decide +kernel) rfl) (snd_sq (snd_getR (ci := 3) (k := 7) (by decide +kernel) rfl (by decide) (by decide) rfl iw_3 w209) (snd_sq (snd_iload_n (k := 3) (by decide +kernel) rfl) (snd_sq (snd_iald (by decide +kernel)) (snd_sq (snd_ior (by decide +kernel)) (snd_istore_n (k := 2) (by decide +kernel) rfl (by decide))))))))
set_option maxRecDepth 20000 in
theorem s_X3_image_27 : Snd mX3_image 27 (sq (opInc 3 (1)) opNop) 4 := (snd_sq (snd_iinc (k := 1) (by decide +kernel) (by decide) (by decide)) (snd_goto (off := -26) (by decide +kernel) (by decide)))
set_option maxRecDepth 20000 in
theorem s_X3_image_33 : Snd mX3_image 33 (opLdI 2) 34 := (snd_iload_n (k := 2) (by decide +kernel) rfl)
set_option maxRecDepth 20000 in
theorem r_X3_image_34 : RtI mX3_image 34 := rt_I (by decide +kernel) rfl
/-! ClaimChains$Machine.sources(I)I -/
set_option maxRecDepth 20000 in
theorem s_X3_sources_0 : Snd mX3_sources 0 (sq (opCi (0)) (sq (opStI 2) (sq (opCi (0)) (opStI 3)))) 4 := (snd_sq (snd_iconst (k := 0) (by decide) (by decide +kernel)) (snd_sq (snd_istore_n (k := 2) (by decide +kernel) rfl (by decide)) (snd_sq (snd_iconst (k := 0) (by decide) (by decide +kernel)) (snd_istore_n (k := 3) (by decide +kernel) rfl (by decide)))))
set_option maxRecDepth 20000 in
theorem s_X3_sources_4 : Snd mX3_sources 4 (sq (opLdI 3) (opCi (16))) 7 := (snd_sq (snd_iload_n (k := 3) (by decide +kernel) rfl) (snd_bipush (k := 16) (by decide) (by decide +kernel)))
set_option maxRecDepth 20000 in
theorem b_X3_sources_7 : Br_ic_ge mX3_sources 7 33 := br_ic_ge (off := 26) (by decide +kernel) (by decide)
set_option maxRecDepth 20000 in
theorem s_X3_sources_10 : Snd mX3_sources 10 (sq (opLdA 0) (sq (opGetR 3 7) (sq (opLdI 3) (sq opIald (sq (opLdI 1) opiand))))) 18 := (snd_sq (snd_aload_n (k := 0) (by decide +kernel) rfl) (snd_sq (snd_getR (ci := 3) (k := 7) (by decide +kernel) rfl (by decide) (by decide) rfl iw_3 w209) (snd_sq (snd_iload_n (k := 3) (by decide +kernel) rfl) (snd_sq (snd_iald (by decide +kernel)) (snd_sq (snd_iload_n (k := 1) (by decide +kernel) rfl) (snd_iand (by decide +kernel)))))))
set_option maxRecDepth 20000 in
theorem b_X3_sources_18 : Br_if_eq mX3_sources 18 27 := br_if_eq (off := 9) (by decide +kernel) (by decide)
set_option maxRecDepth 20000 in
theorem s_X3_sources_21 : Snd mX3_sources 21 (sq (opLdI 2) (sq (opCi (1)) (sq (opLdI 3) (sq opishl (sq opior (opStI 2)))))) 27 := (snd_sq (snd_iload_n (k := 2) (by decide +kernel) rfl) (snd_sq (snd_iconst (k := 1) (by decide) (by decide +kernel)) (snd_sq (snd_iload_n (k := 3) (by decide +kernel) rfl) (snd_sq (snd_ishl (by decide +kernel)) (snd_sq (snd_ior (by decide +kernel)) (snd_istore_n (k := 2) (by decide +kernel) rfl (by decide)))))))
set_option maxRecDepth 20000 in
theorem s_X3_sources_27 : Snd mX3_sources 27 (sq (opInc 3 (1)) opNop) 4 := (snd_sq (snd_iinc (k := 1) (by decide +kernel) (by decide) (by decide)) (snd_goto (off := -26) (by decide +kernel) (by decide)))
set_option maxRecDepth 20000 in
theorem s_X3_sources_33 : Snd mX3_sources 33 (opLdI 2) 34 := (snd_iload_n (k := 2) (by decide +kernel) rfl)
set_option maxRecDepth 20000 in
theorem r_X3_sources_34 : RtI mX3_sources 34 := rt_I (by decide +kernel) rfl
/-! ClaimChains$Machine.renewDistances()V -/
set_option maxRecDepth 20000 in
theorem s_X3_renewDistances_0 : Snd mX3_renewDistances 0 (sq (opCi (0)) (opStI 1)) 2 := (snd_sq (snd_iconst (k := 0) (by decide) (by decide +kernel)) (snd_istore_n (k := 1) (by decide +kernel) rfl (by decide)))
set_option maxRecDepth 20000 in
theorem s_X3_renewDistances_2 : Snd mX3_renewDistances 2 (sq (opLdI 1) (opCi (16))) 5 := (snd_sq (snd_iload_n (k := 1) (by decide +kernel) rfl) (snd_bipush (k := 16) (by decide) (by decide +kernel)))
set_option maxRecDepth 20000 in
theorem b_X3_renewDistances_5 : Br_ic_ge mX3_renewDistances 5 22 := br_ic_ge (off := 17) (by decide +kernel) (by decide)
set_option maxRecDepth 20000 in
theorem s_X3_renewDistances_8 : Snd mX3_renewDistances 8 (sq (opLdA 0) (sq (opGetR 3 9) (sq (opLdI 1) (sq (opCi (-9)) (sq opIast (sq (opInc 1 (1)) opNop)))))) 2 := (snd_sq (snd_aload_n (k := 0) (by decide +kernel) rfl) (snd_sq (snd_getR (ci := 3) (k := 9) (by decide +kernel) rfl (by decide) (by decide) rfl iw_3 w212) (snd_sq (snd_iload_n (k := 1) (by decide +kernel) rfl) (snd_sq (snd_bipush (k := -9) (by decide) (by decide +kernel)) (snd_sq (snd_iast (by decide +kernel)) (snd_sq (snd_iinc (k := 1) (by decide +kernel) (by decide) (by decide)) (snd_goto (off := -17) (by decide +kernel) (by decide))))))))
set_option maxRecDepth 20000 in
theorem s_X3_renewDistances_22 : Snd mX3_renewDistances 22 (sq (opLdA 0) (sq (opCi (0)) (sq (opPutI 3 10) (sq (opLdA 0) (sq (opGetI 3 4) (sq (opStI 1) (sq (opCi (0)) (opStI 2)))))))) 34 := (snd_sq (snd_aload_n (k := 0) (by decide +kernel) rfl) (snd_sq (snd_iconst (k := 0) (by decide) (by decide +kernel)) (snd_sq (snd_putI (ci := 3) (k := 10) (by decide +kernel) rfl (by decide) (by decide) (by decide) iw_3 tyX3_ok nmX3 rfl (tyX3_ok 10 (by decide)) w214) (snd_sq (snd_aload_n (k := 0) (by decide +kernel) rfl) (snd_sq (snd_getI (ci := 3) (k := 4) (by decide +kernel) rfl (by decide) (by decide) (by decide) iw_3 w200) (snd_sq (snd_istore_n (k := 1) (by decide +kernel) rfl (by decide)) (snd_sq (snd_iconst (k := 0) (by decide) (by decide +kernel)) (snd_istore_n (k := 2) (by decide +kernel) rfl (by decide)))))))))
set_option maxRecDepth 20000 in
theorem s_X3_renewDistances_34 : Snd mX3_renewDistances 34 (sq (opLdI 2) (opCi (16))) 37 := (snd_sq (snd_iload_n (k := 2) (by decide +kernel) rfl) (snd_bipush (k := 16) (by decide) (by decide +kernel)))
set_option maxRecDepth 20000 in
theorem b_X3_renewDistances_37 : Br_ic_ge mX3_renewDistances 37 102 := br_ic_ge (off := 65) (by decide +kernel) (by decide)
set_option maxRecDepth 20000 in
theorem s_X3_renewDistances_40 : Snd mX3_renewDistances 40 (opLdI 1) 41 := (snd_iload_n (k := 1) (by decide +kernel) rfl)
set_option maxRecDepth 20000 in
theorem b_X3_renewDistances_41 : Br_if_eq mX3_renewDistances 41 102 := br_if_eq (off := 61) (by decide +kernel) (by decide)
set_option maxRecDepth 20000 in
theorem s_X3_renewDistances_44 : Snd mX3_renewDistances 44 (sq (opCi (0)) (opStI 3)) 46 := (snd_sq (snd_iconst (k := 0) (by decide) (by decide +kernel)) (snd_istore_n (k := 3) (by decide +kernel) rfl (by decide)))
set_option maxRecDepth 20000 in
theorem s_X3_renewDistances_46 : Snd mX3_renewDistances 46 (sq (opLdI 3) (opCi (16))) 49 := (snd_sq (snd_iload_n (k := 3) (by decide +kernel) rfl) (snd_bipush (k := 16) (by decide) (by decide +kernel)))
set_option maxRecDepth 20000 in
theorem b_X3_renewDistances_49 : Br_ic_ge mX3_renewDistances 49 73 := br_ic_ge (off := 24) (by decide +kernel) (by decide)
set_option maxRecDepth 20000 in
theorem s_X3_renewDistances_52 : Snd mX3_renewDistances 52 (sq (opLdI 3) (opLdI 1)) 54 := (snd_sq (snd_iload_n (k := 3) (by decide +kernel) rfl) (snd_iload_n (k := 1) (by decide +kernel) rfl))
set_option maxRecDepth 20000 in
theorem c_X3_renewDistances_54 : CallS mX3_renewDistances 54 mX6_isIn 2 := kallS (site_SN w191 (by decide +kernel) w189 w190 w90 ⟨by decide, by decide, by decide +kernel⟩) (by decide)
set_option maxRecDepth 20000 in
theorem b_X3_renewDistances_57 : Br_if_eq mX3_renewDistances 57 67 := br_if_eq (off := 10) (by decide +kernel) (by decide)
set_option maxRecDepth 20000 in
theorem s_X3_renewDistances_60 : Snd mX3_renewDistances 60 (sq (opLdA 0) (sq (opGetR 3 9) (sq (opLdI 3) (sq (opLdI 2) opIast)))) 67 := (snd_sq (snd_aload_n (k := 0) (by decide +kernel) rfl) (snd_sq (snd_getR (ci := 3) (k := 9) (by decide +kernel) rfl (by decide) (by decide) rfl iw_3 w212) (snd_sq (snd_iload_n (k := 3) (by decide +kernel) rfl) (snd_sq (snd_iload_n (k := 2) (by decide +kernel) rfl) (snd_iast (by decide +kernel))))))
set_option maxRecDepth 20000 in
theorem s_X3_renewDistances_67 : Snd mX3_renewDistances 67 (sq (opInc 3 (1)) opNop) 46 := (snd_sq (snd_iinc (k := 1) (by decide +kernel) (by decide) (by decide)) (snd_goto (off := -24) (by decide +kernel) (by decide)))
set_option maxRecDepth 20000 in
theorem s_X3_renewDistances_73 : Snd mX3_renewDistances 73 (sq (opLdA 0) (sq opDup (sq (opGetI 3 10) (sq (opLdI 1) (sq opior (sq (opPutI 3 10) (sq (opLdA 0) (opLdI 1)))))))) 85 := (snd_sq (snd_aload_n (k := 0) (by decide +kernel) rfl) (snd_sq (snd_dup (by decide +kernel)) (snd_sq (snd_getI (ci := 3) (k := 10) (by decide +kernel) rfl (by decide) (by decide) (by decide) iw_3 w214) (snd_sq (snd_iload_n (k := 1) (by decide +kernel) rfl) (snd_sq (snd_ior (by decide +kernel)) (snd_sq (snd_putI (ci := 3) (k := 10) (by decide +kernel) rfl (by decide) (by decide) (by decide) iw_3 tyX3_ok nmX3 rfl (tyX3_ok 10 (by decide)) w214) (snd_sq (snd_aload_n (k := 0) (by decide +kernel) rfl) (snd_iload_n (k := 1) (by decide +kernel) rfl))))))))
set_option maxRecDepth 20000 in
theorem c_X3_renewDistances_85 : CallV mX3_renewDistances 85 mX3_image 3 2 := kallV (site_V rfl w195 (by decide +kernel) w192 w194 w5 w92 ⟨by decide, by decide, by decide +kernel⟩) (by decide) (by decide) (by unfold clsNo; rfl)
set_option maxRecDepth 20000 in
theorem s_X3_renewDistances_88 : Snd mX3_renewDistances 88 (sq (opLdA 0) (sq (opGetI 3 10) (sq (opCi (-1)) (sq opixor (sq opiand (sq (opStI 1) (sq (opInc 2 (1)) opNop))))))) 34 := (snd_sq (snd_aload_n (k := 0) (by decide +kernel) rfl) (snd_sq (snd_getI (ci := 3) (k := 10) (by decide +kernel) rfl (by decide) (by decide) (by decide) iw_3 w214) (snd_sq (snd_iconst (k := -1) (by decide) (by decide +kernel)) (snd_sq (snd_ixor (by decide +kernel)) (snd_sq (snd_iand (by decide +kernel)) (snd_sq (snd_istore_n (k := 1) (by decide +kernel) rfl (by decide)) (snd_sq (snd_iinc (k := 1) (by decide +kernel) (by decide) (by decide)) (snd_goto (off := -65) (by decide +kernel) (by decide)))))))))
set_option maxRecDepth 20000 in
theorem r_X3_renewDistances_102 : RtV mX3_renewDistances 102 := rt_V (by decide +kernel) rfl
/-! ClaimChains$Machine.greatestDistance()I -/
set_option maxRecDepth 20000 in
theorem s_X3_greatestDistance_0 : Snd mX3_greatestDistance 0 (sq (opCi (-9)) (sq (opStI 1) (sq (opCi (0)) (opStI 2)))) 5 := (snd_sq (snd_bipush (k := -9) (by decide) (by decide +kernel)) (snd_sq (snd_istore_n (k := 1) (by decide +kernel) rfl (by decide)) (snd_sq (snd_iconst (k := 0) (by decide) (by decide +kernel)) (snd_istore_n (k := 2) (by decide +kernel) rfl (by decide)))))
set_option maxRecDepth 20000 in
theorem s_X3_greatestDistance_5 : Snd mX3_greatestDistance 5 (sq (opLdI 2) (opCi (16))) 8 := (snd_sq (snd_iload_n (k := 2) (by decide +kernel) rfl) (snd_bipush (k := 16) (by decide) (by decide +kernel)))
set_option maxRecDepth 20000 in
theorem b_X3_greatestDistance_8 : Br_ic_ge mX3_greatestDistance 8 28 := br_ic_ge (off := 20) (by decide +kernel) (by decide)
set_option maxRecDepth 20000 in
theorem s_X3_greatestDistance_11 : Snd mX3_greatestDistance 11 (sq (opLdI 1) (sq (opLdA 0) (sq (opGetR 3 9) (sq (opLdI 2) opIald)))) 18 := (snd_sq (snd_iload_n (k := 1) (by decide +kernel) rfl) (snd_sq (snd_aload_n (k := 0) (by decide +kernel) rfl) (snd_sq (snd_getR (ci := 3) (k := 9) (by decide +kernel) rfl (by decide) (by decide) rfl iw_3 w212) (snd_sq (snd_iload_n (k := 2) (by decide +kernel) rfl) (snd_iald (by decide +kernel))))))
set_option maxRecDepth 20000 in
theorem c_X3_greatestDistance_18 : CallM mX3_greatestDistance 18 := kallM (by decide +kernel) w498 w415 w98 w416
set_option maxRecDepth 20000 in
theorem s_X3_greatestDistance_21 : Snd mX3_greatestDistance 21 (sq (opStI 1) (sq (opInc 2 (1)) opNop)) 5 := (snd_sq (snd_istore_n (k := 1) (by decide +kernel) rfl (by decide)) (snd_sq (snd_iinc (k := 1) (by decide +kernel) (by decide) (by decide)) (snd_goto (off := -20) (by decide +kernel) (by decide))))
set_option maxRecDepth 20000 in
theorem s_X3_greatestDistance_28 : Snd mX3_greatestDistance 28 (opLdI 1) 29 := (snd_iload_n (k := 1) (by decide +kernel) rfl)
set_option maxRecDepth 20000 in
theorem r_X3_greatestDistance_29 : RtI mX3_greatestDistance 29 := rt_I (by decide +kernel) rfl
/-! ClaimChains$Machine.sumOfDistances()I -/
set_option maxRecDepth 20000 in
theorem s_X3_sumOfDistances_0 : Snd mX3_sumOfDistances 0 (sq (opCi (0)) (sq (opStI 1) (sq (opCi (0)) (opStI 2)))) 4 := (snd_sq (snd_iconst (k := 0) (by decide) (by decide +kernel)) (snd_sq (snd_istore_n (k := 1) (by decide +kernel) rfl (by decide)) (snd_sq (snd_iconst (k := 0) (by decide) (by decide +kernel)) (snd_istore_n (k := 2) (by decide +kernel) rfl (by decide)))))
set_option maxRecDepth 20000 in
theorem s_X3_sumOfDistances_4 : Snd mX3_sumOfDistances 4 (sq (opLdI 2) (opCi (16))) 7 := (snd_sq (snd_iload_n (k := 2) (by decide +kernel) rfl) (snd_bipush (k := 16) (by decide) (by decide +kernel)))
set_option maxRecDepth 20000 in
theorem b_X3_sumOfDistances_7 : Br_ic_ge mX3_sumOfDistances 7 36 := br_ic_ge (off := 29) (by decide +kernel) (by decide)
set_option maxRecDepth 20000 in
theorem s_X3_sumOfDistances_10 : Snd mX3_sumOfDistances 10 (sq (opLdI 2) (sq (opLdA 0) (opGetI 3 10))) 15 := (snd_sq (snd_iload_n (k := 2) (by decide +kernel) rfl) (snd_sq (snd_aload_n (k := 0) (by decide +kernel) rfl) (snd_getI (ci := 3) (k := 10) (by decide +kernel) rfl (by decide) (by decide) (by decide) iw_3 w214)))
set_option maxRecDepth 20000 in
theorem c_X3_sumOfDistances_15 : CallS mX3_sumOfDistances 15 mX6_isIn 2 := kallS (site_SN w191 (by decide +kernel) w189 w190 w90 ⟨by decide, by decide, by decide +kernel⟩) (by decide)
set_option maxRecDepth 20000 in
theorem b_X3_sumOfDistances_18 : Br_if_eq mX3_sumOfDistances 18 30 := br_if_eq (off := 12) (by decide +kernel) (by decide)
set_option maxRecDepth 20000 in
theorem s_X3_sumOfDistances_21 : Snd mX3_sumOfDistances 21 (sq (opLdI 1) (sq (opLdA 0) (sq (opGetR 3 9) (sq (opLdI 2) (sq opIald (sq opiadd (opStI 1))))))) 30 := (snd_sq (snd_iload_n (k := 1) (by decide +kernel) rfl) (snd_sq (snd_aload_n (k := 0) (by decide +kernel) rfl) (snd_sq (snd_getR (ci := 3) (k := 9) (by decide +kernel) rfl (by decide) (by decide) rfl iw_3 w212) (snd_sq (snd_iload_n (k := 2) (by decide +kernel) rfl) (snd_sq (snd_iald (by decide +kernel)) (snd_sq (snd_iadd (by decide +kernel)) (snd_istore_n (k := 1) (by decide +kernel) rfl (by decide))))))))
set_option maxRecDepth 20000 in
theorem s_X3_sumOfDistances_30 : Snd mX3_sumOfDistances 30 (sq (opInc 2 (1)) opNop) 4 := (snd_sq (snd_iinc (k := 1) (by decide +kernel) (by decide) (by decide)) (snd_goto (off := -29) (by decide +kernel) (by decide)))
set_option maxRecDepth 20000 in
theorem s_X3_sumOfDistances_36 : Snd mX3_sumOfDistances 36 (opLdI 1) 37 := (snd_iload_n (k := 1) (by decide +kernel) rfl)
set_option maxRecDepth 20000 in
theorem r_X3_sumOfDistances_37 : RtI mX3_sumOfDistances 37 := rt_I (by decide +kernel) rfl
/-! ClaimChains$Machine.leastBrokenDistance()I -/
set_option maxRecDepth 20000 in
theorem s_X3_leastBrokenDistance_0 : Snd mX3_leastBrokenDistance 0 (sq (opCi (-9)) (sq (opStI 1) (sq (opCi (0)) (opStI 2)))) 5 := (snd_sq (snd_bipush (k := -9) (by decide) (by decide +kernel)) (snd_sq (snd_istore_n (k := 1) (by decide +kernel) rfl (by decide)) (snd_sq (snd_iconst (k := 0) (by decide) (by decide +kernel)) (snd_istore_n (k := 2) (by decide +kernel) rfl (by decide)))))
set_option maxRecDepth 20000 in
theorem s_X3_leastBrokenDistance_5 : Snd mX3_leastBrokenDistance 5 (sq (opLdI 2) (opCi (16))) 8 := (snd_sq (snd_iload_n (k := 2) (by decide +kernel) rfl) (snd_bipush (k := 16) (by decide) (by decide +kernel)))
set_option maxRecDepth 20000 in
theorem b_X3_leastBrokenDistance_8 : Br_ic_ge mX3_leastBrokenDistance 8 59 := br_ic_ge (off := 51) (by decide +kernel) (by decide)
set_option maxRecDepth 20000 in
theorem s_X3_leastBrokenDistance_11 : Snd mX3_leastBrokenDistance 11 (sq (opLdI 2) (sq (opLdA 0) (sq (opGetI 3 5) (sq (opLdA 0) (sq (opGetI 3 10) opiand))))) 21 := (snd_sq (snd_iload_n (k := 2) (by decide +kernel) rfl) (snd_sq (snd_aload_n (k := 0) (by decide +kernel) rfl) (snd_sq (snd_getI (ci := 3) (k := 5) (by decide +kernel) rfl (by decide) (by decide) (by decide) iw_3 w204) (snd_sq (snd_aload_n (k := 0) (by decide +kernel) rfl) (snd_sq (snd_getI (ci := 3) (k := 10) (by decide +kernel) rfl (by decide) (by decide) (by decide) iw_3 w214) (snd_iand (by decide +kernel)))))))
set_option maxRecDepth 20000 in
theorem c_X3_leastBrokenDistance_21 : CallS mX3_leastBrokenDistance 21 mX6_isIn 2 := kallS (site_SN w191 (by decide +kernel) w189 w190 w90 ⟨by decide, by decide, by decide +kernel⟩) (by decide)
set_option maxRecDepth 20000 in
theorem b_X3_leastBrokenDistance_24 : Br_if_ne mX3_leastBrokenDistance 24 30 := br_if_ne (off := 6) (by decide +kernel) (by decide)
set_option maxRecDepth 20000 in
theorem s_X3_leastBrokenDistance_27 : Snd mX3_leastBrokenDistance 27 opNop 53 := (snd_goto (off := 26) (by decide +kernel) (by decide))
set_option maxRecDepth 20000 in
theorem s_X3_leastBrokenDistance_30 : Snd mX3_leastBrokenDistance 30 (sq (opLdI 1) (opCi (-9))) 33 := (snd_sq (snd_iload_n (k := 1) (by decide +kernel) rfl) (snd_bipush (k := -9) (by decide) (by decide +kernel)))
set_option maxRecDepth 20000 in
theorem b_X3_leastBrokenDistance_33 : Br_ic_eq mX3_leastBrokenDistance 33 46 := br_ic_eq (off := 13) (by decide +kernel) (by decide)
set_option maxRecDepth 20000 in
theorem s_X3_leastBrokenDistance_36 : Snd mX3_leastBrokenDistance 36 (sq (opLdA 0) (sq (opGetR 3 9) (sq (opLdI 2) (sq opIald (opLdI 1))))) 43 := (snd_sq (snd_aload_n (k := 0) (by decide +kernel) rfl) (snd_sq (snd_getR (ci := 3) (k := 9) (by decide +kernel) rfl (by decide) (by decide) rfl iw_3 w212) (snd_sq (snd_iload_n (k := 2) (by decide +kernel) rfl) (snd_sq (snd_iald (by decide +kernel)) (snd_iload_n (k := 1) (by decide +kernel) rfl)))))
set_option maxRecDepth 20000 in
theorem b_X3_leastBrokenDistance_43 : Br_ic_ge mX3_leastBrokenDistance 43 53 := br_ic_ge (off := 10) (by decide +kernel) (by decide)
set_option maxRecDepth 20000 in
theorem s_X3_leastBrokenDistance_46 : Snd mX3_leastBrokenDistance 46 (sq (opLdA 0) (sq (opGetR 3 9) (sq (opLdI 2) (sq opIald (opStI 1))))) 53 := (snd_sq (snd_aload_n (k := 0) (by decide +kernel) rfl) (snd_sq (snd_getR (ci := 3) (k := 9) (by decide +kernel) rfl (by decide) (by decide) rfl iw_3 w212) (snd_sq (snd_iload_n (k := 2) (by decide +kernel) rfl) (snd_sq (snd_iald (by decide +kernel)) (snd_istore_n (k := 1) (by decide +kernel) rfl (by decide))))))
set_option maxRecDepth 20000 in
theorem s_X3_leastBrokenDistance_53 : Snd mX3_leastBrokenDistance 53 (sq (opInc 2 (1)) opNop) 5 := (snd_sq (snd_iinc (k := 1) (by decide +kernel) (by decide) (by decide)) (snd_goto (off := -51) (by decide +kernel) (by decide)))
set_option maxRecDepth 20000 in
theorem s_X3_leastBrokenDistance_59 : Snd mX3_leastBrokenDistance 59 (opLdI 1) 60 := (snd_iload_n (k := 1) (by decide +kernel) rfl)
set_option maxRecDepth 20000 in
theorem r_X3_leastBrokenDistance_60 : RtI mX3_leastBrokenDistance 60 := rt_I (by decide +kernel) rfl
/-! ClaimChains$Machine.isClear(I)Z -/
set_option maxRecDepth 20000 in
theorem s_X3_isClear_0 : Snd mX3_isClear 0 (opLdA 0) 1 := (snd_aload_n (k := 0) (by decide +kernel) rfl)
set_option maxRecDepth 20000 in
theorem c_X3_isClear_1 : CallV mX3_isClear 1 mX3_leastBrokenDistance 3 1 := kallV (site_V rfl w489 (by decide +kernel) w486 w488 w16 w92 ⟨by decide, by decide, by decide +kernel⟩) (by decide) (by decide) (by unfold clsNo; rfl)
set_option maxRecDepth 20000 in
theorem s_X3_isClear_4 : Snd mX3_isClear 4 (sq (opStI 2) (sq (opLdI 2) (opCi (-9)))) 8 := (snd_sq (snd_istore_n (k := 2) (by decide +kernel) rfl (by decide)) (snd_sq (snd_iload_n (k := 2) (by decide +kernel) rfl) (snd_bipush (k := -9) (by decide) (by decide +kernel))))
set_option maxRecDepth 20000 in
theorem b_X3_isClear_8 : Br_ic_eq mX3_isClear 8 16 := br_ic_eq (off := 8) (by decide +kernel) (by decide)
set_option maxRecDepth 20000 in
theorem s_X3_isClear_11 : Snd mX3_isClear 11 (sq (opLdI 2) (opLdI 1)) 13 := (snd_sq (snd_iload_n (k := 2) (by decide +kernel) rfl) (snd_iload_n (k := 1) (by decide +kernel) rfl))
set_option maxRecDepth 20000 in
theorem b_X3_isClear_13 : Br_ic_lt mX3_isClear 13 20 := br_ic_lt (off := 7) (by decide +kernel) (by decide)
set_option maxRecDepth 20000 in
theorem s_X3_isClear_16 : Snd mX3_isClear 16 (sq (opCi (1)) opNop) 21 := (snd_sq (snd_iconst (k := 1) (by decide) (by decide +kernel)) (snd_goto (off := 4) (by decide +kernel) (by decide)))
set_option maxRecDepth 20000 in
theorem s_X3_isClear_20 : Snd mX3_isClear 20 (opCi (0)) 21 := (snd_iconst (k := 0) (by decide) (by decide +kernel))
set_option maxRecDepth 20000 in
theorem r_X3_isClear_21 : RtZ mX3_isClear 21 := rt_Z (by decide +kernel) rfl
/-! ClaimChains$Machine.renewWay()V -/
set_option maxRecDepth 20000 in
theorem s_X3_renewWay_0 : Snd mX3_renewWay 0 (sq (opLdA 0) (opLdA 0)) 2 := (snd_sq (snd_aload_n (k := 0) (by decide +kernel) rfl) (snd_aload_n (k := 0) (by decide +kernel) rfl))
set_option maxRecDepth 20000 in
theorem c_X3_renewWay_2 : CallV mX3_renewWay 2 mX3_leastBrokenDistance 3 1 := kallV (site_V rfl w489 (by decide +kernel) w486 w488 w16 w92 ⟨by decide, by decide, by decide +kernel⟩) (by decide) (by decide) (by unfold clsNo; rfl)
set_option maxRecDepth 20000 in
theorem s_X3_renewWay_5 : Snd mX3_renewWay 5 (sq (opPutI 3 11) (sq (opLdA 0) (opGetI 3 11))) 12 := (snd_sq (snd_putI (ci := 3) (k := 11) (by decide +kernel) rfl (by decide) (by decide) (by decide) iw_3 tyX3_ok nmX3 rfl (tyX3_ok 11 (by decide)) w216) (snd_sq (snd_aload_n (k := 0) (by decide +kernel) rfl) (snd_getI (ci := 3) (k := 11) (by decide +kernel) rfl (by decide) (by decide) (by decide) iw_3 w216)))
set_option maxRecDepth 20000 in
theorem b_X3_renewWay_12 : Br_if_lt mX3_renewWay 12 24 := br_if_lt (off := 12) (by decide +kernel) (by decide)
set_option maxRecDepth 20000 in
theorem s_X3_renewWay_15 : Snd mX3_renewWay 15 (sq (opLdA 0) (sq (opGetI 3 11) (opCi (15)))) 21 := (snd_sq (snd_aload_n (k := 0) (by decide +kernel) rfl) (snd_sq (snd_getI (ci := 3) (k := 11) (by decide +kernel) rfl (by decide) (by decide) (by decide) iw_3 w216) (snd_bipush (k := 15) (by decide) (by decide +kernel))))
set_option maxRecDepth 20000 in
theorem b_X3_renewWay_21 : Br_ic_le mX3_renewWay 21 25 := br_ic_le (off := 4) (by decide +kernel) (by decide)
set_option maxRecDepth 20000 in
theorem r_X3_renewWay_24 : RtV mX3_renewWay 24 := rt_V (by decide +kernel) rfl
set_option maxRecDepth 20000 in
theorem s_X3_renewWay_25 : Snd mX3_renewWay 25 (sq (opLdA 0) (sq (opGetR 3 14) (sq (opCi (0)) (sq (opLdA 0) (sq (opGetI 3 5) (sq opIast (sq (opCi (1)) (opStI 1)))))))) 37 := (snd_sq (snd_aload_n (k := 0) (by decide +kernel) rfl) (snd_sq (snd_getR (ci := 3) (k := 14) (by decide +kernel) rfl (by decide) (by decide) rfl iw_3 w222) (snd_sq (snd_iconst (k := 0) (by decide) (by decide +kernel)) (snd_sq (snd_aload_n (k := 0) (by decide +kernel) rfl) (snd_sq (snd_getI (ci := 3) (k := 5) (by decide +kernel) rfl (by decide) (by decide) (by decide) iw_3 w204) (snd_sq (snd_iast (by decide +kernel)) (snd_sq (snd_iconst (k := 1) (by decide) (by decide +kernel)) (snd_istore_n (k := 1) (by decide +kernel) rfl (by decide)))))))))
set_option maxRecDepth 20000 in
theorem s_X3_renewWay_37 : Snd mX3_renewWay 37 (sq (opLdI 1) (sq (opLdA 0) (opGetI 3 11))) 42 := (snd_sq (snd_iload_n (k := 1) (by decide +kernel) rfl) (snd_sq (snd_aload_n (k := 0) (by decide +kernel) rfl) (snd_getI (ci := 3) (k := 11) (by decide +kernel) rfl (by decide) (by decide) (by decide) iw_3 w216)))
set_option maxRecDepth 20000 in
theorem b_X3_renewWay_42 : Br_ic_gt mX3_renewWay 42 69 := br_ic_gt (off := 27) (by decide +kernel) (by decide)
set_option maxRecDepth 20000 in
theorem s_X3_renewWay_45 : Snd mX3_renewWay 45 (sq (opLdA 0) (sq (opGetR 3 14) (sq (opLdI 1) (sq (opLdA 0) (sq (opLdA 0) (sq (opGetR 3 14) (sq (opLdI 1) (sq (opCi (1)) (sq opisub opIald))))))))) 59 := (snd_sq (snd_aload_n (k := 0) (by decide +kernel) rfl) (snd_sq (snd_getR (ci := 3) (k := 14) (by decide +kernel) rfl (by decide) (by decide) rfl iw_3 w222) (snd_sq (snd_iload_n (k := 1) (by decide +kernel) rfl) (snd_sq (snd_aload_n (k := 0) (by decide +kernel) rfl) (snd_sq (snd_aload_n (k := 0) (by decide +kernel) rfl) (snd_sq (snd_getR (ci := 3) (k := 14) (by decide +kernel) rfl (by decide) (by decide) rfl iw_3 w222) (snd_sq (snd_iload_n (k := 1) (by decide +kernel) rfl) (snd_sq (snd_iconst (k := 1) (by decide) (by decide +kernel)) (snd_sq (snd_isub (by decide +kernel)) (snd_iald (by decide +kernel)))))))))))
set_option maxRecDepth 20000 in
theorem c_X3_renewWay_59 : CallV mX3_renewWay 59 mX3_sources 3 2 := kallV (site_V rfl w493 (by decide +kernel) w490 w492 w17 w92 ⟨by decide, by decide, by decide +kernel⟩) (by decide) (by decide) (by unfold clsNo; rfl)
set_option maxRecDepth 20000 in
theorem s_X3_renewWay_62 : Snd mX3_renewWay 62 (sq opIast (sq (opInc 1 (1)) opNop)) 37 := (snd_sq (snd_iast (by decide +kernel)) (snd_sq (snd_iinc (k := 1) (by decide +kernel) (by decide) (by decide)) (snd_goto (off := -29) (by decide +kernel) (by decide))))
set_option maxRecDepth 20000 in
theorem s_X3_renewWay_69 : Snd mX3_renewWay 69 (sq (opCi (0)) (sq (opLdA 0) (sq (opGetI 3 4) (sq (opLdA 0) (sq (opGetR 3 14) (sq (opLdA 0) (sq (opGetI 3 11) (sq opIald opiand)))))))) 84 := (snd_sq (snd_iconst (k := 0) (by decide) (by decide +kernel)) (snd_sq (snd_aload_n (k := 0) (by decide +kernel) rfl) (snd_sq (snd_getI (ci := 3) (k := 4) (by decide +kernel) rfl (by decide) (by decide) (by decide) iw_3 w200) (snd_sq (snd_aload_n (k := 0) (by decide +kernel) rfl) (snd_sq (snd_getR (ci := 3) (k := 14) (by decide +kernel) rfl (by decide) (by decide) rfl iw_3 w222) (snd_sq (snd_aload_n (k := 0) (by decide +kernel) rfl) (snd_sq (snd_getI (ci := 3) (k := 11) (by decide +kernel) rfl (by decide) (by decide) (by decide) iw_3 w216) (snd_sq (snd_iald (by decide +kernel)) (snd_iand (by decide +kernel))))))))))
set_option maxRecDepth 20000 in
theorem c_X3_renewWay_84 : CallS mX3_renewWay 84 mX6_leastOf 1 := kallS (site_SN w496 (by decide +kernel) w494 w495 w90 ⟨by decide, by decide, by decide +kernel⟩) (by decide)
set_option maxRecDepth 20000 in
theorem c_X3_renewWay_87 : CallM mX3_renewWay 87 := kallM (by decide +kernel) w498 w415 w98 w416
set_option maxRecDepth 20000 in
theorem s_X3_renewWay_90 : Snd mX3_renewWay 90 (sq (opStI 1) (sq (opLdA 0) (sq (opGetR 3 12) (sq (opCi (0)) (sq (opLdI 1) (sq opIast (sq (opCi (0)) (opStI 2)))))))) 100 := (snd_sq (snd_istore_n (k := 1) (by decide +kernel) rfl (by decide)) (snd_sq (snd_aload_n (k := 0) (by decide +kernel) rfl) (snd_sq (snd_getR (ci := 3) (k := 12) (by decide +kernel) rfl (by decide) (by decide) rfl iw_3 w218) (snd_sq (snd_iconst (k := 0) (by decide) (by decide +kernel)) (snd_sq (snd_iload_n (k := 1) (by decide +kernel) rfl) (snd_sq (snd_iast (by decide +kernel)) (snd_sq (snd_iconst (k := 0) (by decide) (by decide +kernel)) (snd_istore_n (k := 2) (by decide +kernel) rfl (by decide)))))))))
set_option maxRecDepth 20000 in
theorem s_X3_renewWay_100 : Snd mX3_renewWay 100 (sq (opLdI 2) (sq (opLdA 0) (opGetI 3 11))) 105 := (snd_sq (snd_iload_n (k := 2) (by decide +kernel) rfl) (snd_sq (snd_aload_n (k := 0) (by decide +kernel) rfl) (snd_getI (ci := 3) (k := 11) (by decide +kernel) rfl (by decide) (by decide) (by decide) iw_3 w216)))
set_option maxRecDepth 20000 in
theorem b_X3_renewWay_105 : Br_ic_ge mX3_renewWay 105 159 := br_ic_ge (off := 54) (by decide +kernel) (by decide)
set_option maxRecDepth 20000 in
theorem s_X3_renewWay_108 : Snd mX3_renewWay 108 (sq (opLdA 0) (sq (opGetR 3 13) (sq (opLdI 2) (sq (opLdA 0) (sq (opLdI 1) (sq (opLdA 0) (sq (opGetR 3 14) (sq (opLdA 0) (sq (opGetI 3 11) (sq (opCi (1)) (sq opisub (sq (opLdI 2) (sq opisub opIald))))))))))))) 128 := (snd_sq (snd_aload_n (k := 0) (by decide +kernel) rfl) (snd_sq (snd_getR (ci := 3) (k := 13) (by decide +kernel) rfl (by decide) (by decide) rfl iw_3 w220) (snd_sq (snd_iload_n (k := 2) (by decide +kernel) rfl) (snd_sq (snd_aload_n (k := 0) (by decide +kernel) rfl) (snd_sq (snd_iload_n (k := 1) (by decide +kernel) rfl) (snd_sq (snd_aload_n (k := 0) (by decide +kernel) rfl) (snd_sq (snd_getR (ci := 3) (k := 14) (by decide +kernel) rfl (by decide) (by decide) rfl iw_3 w222) (snd_sq (snd_aload_n (k := 0) (by decide +kernel) rfl) (snd_sq (snd_getI (ci := 3) (k := 11) (by decide +kernel) rfl (by decide) (by decide) (by decide) iw_3 w216) (snd_sq (snd_iconst (k := 1) (by decide) (by decide +kernel)) (snd_sq (snd_isub (by decide +kernel)) (snd_sq (snd_iload_n (k := 2) (by decide +kernel) rfl) (snd_sq (snd_isub (by decide +kernel)) (snd_iald (by decide +kernel)))))))))))))))
set_option maxRecDepth 20000 in
theorem c_X3_renewWay_128 : CallV mX3_renewWay 128 mX3_leastRowInto 3 3 := kallV (site_V rfl w502 (by decide +kernel) w499 w501 w18 w92 ⟨by decide, by decide, by decide +kernel⟩) (by decide) (by decide) (by unfold clsNo; rfl)
set_option maxRecDepth 20000 in
theorem s_X3_renewWay_131 : Snd mX3_renewWay 131 (sq opIast (sq (opLdA 0) (sq (opLdI 1) (sq (opLdA 0) (sq (opGetR 3 13) (sq (opLdI 2) opIald)))))) 140 := (snd_sq (snd_iast (by decide +kernel)) (snd_sq (snd_aload_n (k := 0) (by decide +kernel) rfl) (snd_sq (snd_iload_n (k := 1) (by decide +kernel) rfl) (snd_sq (snd_aload_n (k := 0) (by decide +kernel) rfl) (snd_sq (snd_getR (ci := 3) (k := 13) (by decide +kernel) rfl (by decide) (by decide) rfl iw_3 w220) (snd_sq (snd_iload_n (k := 2) (by decide +kernel) rfl) (snd_iald (by decide +kernel))))))))
set_option maxRecDepth 20000 in
theorem c_X3_renewWay_140 : CallV mX3_renewWay 140 mX3_target 3 3 := kallV (site_V rfl w184 (by decide +kernel) w181 w183 w3 w92 ⟨by decide, by decide, by decide +kernel⟩) (by decide) (by decide) (by unfold clsNo; rfl)
set_option maxRecDepth 20000 in
theorem s_X3_renewWay_143 : Snd mX3_renewWay 143 (sq (opStI 1) (sq (opLdA 0) (sq (opGetR 3 12) (sq (opLdI 2) (sq (opCi (1)) (sq opiadd (sq (opLdI 1) (sq opIast (sq (opInc 2 (1)) opNop))))))))) 100 := (snd_sq (snd_istore_n (k := 1) (by decide +kernel) rfl (by decide)) (snd_sq (snd_aload_n (k := 0) (by decide +kernel) rfl) (snd_sq (snd_getR (ci := 3) (k := 12) (by decide +kernel) rfl (by decide) (by decide) rfl iw_3 w218) (snd_sq (snd_iload_n (k := 2) (by decide +kernel) rfl) (snd_sq (snd_iconst (k := 1) (by decide) (by decide +kernel)) (snd_sq (snd_iadd (by decide +kernel)) (snd_sq (snd_iload_n (k := 1) (by decide +kernel) rfl) (snd_sq (snd_iast (by decide +kernel)) (snd_sq (snd_iinc (k := 1) (by decide +kernel) (by decide) (by decide)) (snd_goto (off := -56) (by decide +kernel) (by decide)))))))))))
set_option maxRecDepth 20000 in
theorem r_X3_renewWay_159 : RtV mX3_renewWay 159 := rt_V (by decide +kernel) rfl
/-! ClaimChains$Machine.leastRowInto(II)I -/
set_option maxRecDepth 20000 in
theorem s_X3_leastRowInto_0 : Snd mX3_leastRowInto 0 (sq (opCi (0)) (opStI 3)) 2 := (snd_sq (snd_iconst (k := 0) (by decide) (by decide +kernel)) (snd_istore_n (k := 3) (by decide +kernel) rfl (by decide)))
set_option maxRecDepth 20000 in
theorem s_X3_leastRowInto_2 : Snd mX3_leastRowInto 2 (sq (opLdI 3) (opCi (4))) 4 := (snd_sq (snd_iload_n (k := 3) (by decide +kernel) rfl) (snd_iconst (k := 4) (by decide) (by decide +kernel)))
set_option maxRecDepth 20000 in
theorem b_X3_leastRowInto_4 : Br_ic_ge mX3_leastRowInto 4 28 := br_ic_ge (off := 24) (by decide +kernel) (by decide)
set_option maxRecDepth 20000 in
theorem s_X3_leastRowInto_7 : Snd mX3_leastRowInto 7 (sq (opLdA 0) (sq (opLdI 1) (opLdI 3))) 10 := (snd_sq (snd_aload_n (k := 0) (by decide +kernel) rfl) (snd_sq (snd_iload_n (k := 1) (by decide +kernel) rfl) (snd_iload_n (k := 3) (by decide +kernel) rfl)))
set_option maxRecDepth 20000 in
theorem c_X3_leastRowInto_10 : CallV mX3_leastRowInto 10 mX3_target 3 3 := kallV (site_V rfl w184 (by decide +kernel) w181 w183 w3 w92 ⟨by decide, by decide, by decide +kernel⟩) (by decide) (by decide) (by unfold clsNo; rfl)
set_option maxRecDepth 20000 in
theorem s_X3_leastRowInto_13 : Snd mX3_leastRowInto 13 (opLdI 2) 14 := (snd_iload_n (k := 2) (by decide +kernel) rfl)
set_option maxRecDepth 20000 in
theorem c_X3_leastRowInto_14 : CallS mX3_leastRowInto 14 mX6_isIn 2 := kallS (site_SN w191 (by decide +kernel) w189 w190 w90 ⟨by decide, by decide, by decide +kernel⟩) (by decide)
set_option maxRecDepth 20000 in
theorem b_X3_leastRowInto_17 : Br_if_eq mX3_leastRowInto 17 22 := br_if_eq (off := 5) (by decide +kernel) (by decide)
set_option maxRecDepth 20000 in
theorem s_X3_leastRowInto_20 : Snd mX3_leastRowInto 20 (opLdI 3) 21 := (snd_iload_n (k := 3) (by decide +kernel) rfl)
set_option maxRecDepth 20000 in
theorem r_X3_leastRowInto_21 : RtI mX3_leastRowInto 21 := rt_I (by decide +kernel) rfl
set_option maxRecDepth 20000 in
theorem s_X3_leastRowInto_22 : Snd mX3_leastRowInto 22 (sq (opInc 3 (1)) opNop) 2 := (snd_sq (snd_iinc (k := 1) (by decide +kernel) (by decide) (by decide)) (snd_goto (off := -23) (by decide +kernel) (by decide)))
set_option maxRecDepth 20000 in
theorem s_X3_leastRowInto_28 : Snd mX3_leastRowInto 28 (opCi (0)) 29 := (snd_iconst (k := 0) (by decide) (by decide +kernel))
set_option maxRecDepth 20000 in
theorem r_X3_leastRowInto_29 : RtI mX3_leastRowInto 29 := rt_I (by decide +kernel) rfl
/-! ClaimChains$Machine.looseInStart()I -/
set_option maxRecDepth 20000 in
theorem s_X3_looseInStart_0 : Snd mX3_looseInStart 0 (sq (opCi (0)) (sq (opStI 1) (sq (opCi (0)) (opStI 2)))) 4 := (snd_sq (snd_iconst (k := 0) (by decide) (by decide +kernel)) (snd_sq (snd_istore_n (k := 1) (by decide +kernel) rfl (by decide)) (snd_sq (snd_iconst (k := 0) (by decide) (by decide +kernel)) (snd_istore_n (k := 2) (by decide +kernel) rfl (by decide)))))
set_option maxRecDepth 20000 in
theorem s_X3_looseInStart_4 : Snd mX3_looseInStart 4 (sq (opLdI 2) (opCi (4))) 6 := (snd_sq (snd_iload_n (k := 2) (by decide +kernel) rfl) (snd_iconst (k := 4) (by decide) (by decide +kernel)))
set_option maxRecDepth 20000 in
theorem b_X3_looseInStart_6 : Br_ic_ge mX3_looseInStart 6 54 := br_ic_ge (off := 48) (by decide +kernel) (by decide)
set_option maxRecDepth 20000 in
theorem s_X3_looseInStart_9 : Snd mX3_looseInStart 9 (sq (opLdA 0) (sq (opGetR 3 12) (sq (opCi (0)) (sq opIald (sq (opCi (1)) (sq (opLdI 2) (sq opishl (sq opixor (sq (opStI 3) (sq (opLdI 3) (sq (opLdA 0) (opGetI 3 4)))))))))))) 25 := (snd_sq (snd_aload_n (k := 0) (by decide +kernel) rfl) (snd_sq (snd_getR (ci := 3) (k := 12) (by decide +kernel) rfl (by decide) (by decide) rfl iw_3 w218) (snd_sq (snd_iconst (k := 0) (by decide) (by decide +kernel)) (snd_sq (snd_iald (by decide +kernel)) (snd_sq (snd_iconst (k := 1) (by decide) (by decide +kernel)) (snd_sq (snd_iload_n (k := 2) (by decide +kernel) rfl) (snd_sq (snd_ishl (by decide +kernel)) (snd_sq (snd_ixor (by decide +kernel)) (snd_sq (snd_istore_n (k := 3) (by decide +kernel) rfl (by decide)) (snd_sq (snd_iload_n (k := 3) (by decide +kernel) rfl) (snd_sq (snd_aload_n (k := 0) (by decide +kernel) rfl) (snd_getI (ci := 3) (k := 4) (by decide +kernel) rfl (by decide) (by decide) (by decide) iw_3 w200))))))))))))
set_option maxRecDepth 20000 in
theorem c_X3_looseInStart_25 : CallS mX3_looseInStart 25 mX6_isIn 2 := kallS (site_SN w191 (by decide +kernel) w189 w190 w90 ⟨by decide, by decide, by decide +kernel⟩) (by decide)
set_option maxRecDepth 20000 in
theorem b_X3_looseInStart_28 : Br_if_eq mX3_looseInStart 28 48 := br_if_eq (off := 20) (by decide +kernel) (by decide)
set_option maxRecDepth 20000 in
theorem s_X3_looseInStart_31 : Snd mX3_looseInStart 31 (sq (opLdA 0) (sq (opLdI 3) (sq (opCi (-9)) (opCi (0))))) 36 := (snd_sq (snd_aload_n (k := 0) (by decide +kernel) rfl) (snd_sq (snd_iload_n (k := 3) (by decide +kernel) rfl) (snd_sq (snd_bipush (k := -9) (by decide) (by decide +kernel)) (snd_iconst (k := 0) (by decide) (by decide +kernel)))))
set_option maxRecDepth 20000 in
theorem c_X3_looseInStart_36 : CallV mX3_looseInStart 36 mX3_endsBroken 3 4 := kallV (site_V rfl w562 (by decide +kernel) w559 w561 w23 w92 ⟨by decide, by decide, by decide +kernel⟩) (by decide) (by decide) (by unfold clsNo; rfl)
set_option maxRecDepth 20000 in
theorem b_X3_looseInStart_39 : Br_if_eq mX3_looseInStart 39 48 := br_if_eq (off := 9) (by decide +kernel) (by decide)
set_option maxRecDepth 20000 in
theorem s_X3_looseInStart_42 : Snd mX3_looseInStart 42 (sq (opLdI 1) (sq (opCi (1)) (sq (opLdI 2) (sq opishl (sq opior (opStI 1)))))) 48 := (snd_sq (snd_iload_n (k := 1) (by decide +kernel) rfl) (snd_sq (snd_iconst (k := 1) (by decide) (by decide +kernel)) (snd_sq (snd_iload_n (k := 2) (by decide +kernel) rfl) (snd_sq (snd_ishl (by decide +kernel)) (snd_sq (snd_ior (by decide +kernel)) (snd_istore_n (k := 1) (by decide +kernel) rfl (by decide)))))))
set_option maxRecDepth 20000 in
theorem s_X3_looseInStart_48 : Snd mX3_looseInStart 48 (sq (opInc 2 (1)) opNop) 4 := (snd_sq (snd_iinc (k := 1) (by decide +kernel) (by decide) (by decide)) (snd_goto (off := -47) (by decide +kernel) (by decide)))
set_option maxRecDepth 20000 in
theorem s_X3_looseInStart_54 : Snd mX3_looseInStart 54 (opLdI 1) 55 := (snd_iload_n (k := 1) (by decide +kernel) rfl)
set_option maxRecDepth 20000 in
theorem r_X3_looseInStart_55 : RtI mX3_looseInStart 55 := rt_I (by decide +kernel) rfl
/-! ClaimChains$Machine.looseInRow(I)I -/
set_option maxRecDepth 20000 in
theorem s_X3_looseInRow_0 : Snd mX3_looseInRow 0 (sq (opCi (0)) (sq (opStI 2) (sq (opCi (0)) (opStI 3)))) 4 := (snd_sq (snd_iconst (k := 0) (by decide) (by decide +kernel)) (snd_sq (snd_istore_n (k := 2) (by decide +kernel) rfl (by decide)) (snd_sq (snd_iconst (k := 0) (by decide) (by decide +kernel)) (snd_istore_n (k := 3) (by decide +kernel) rfl (by decide)))))
set_option maxRecDepth 20000 in
theorem s_X3_looseInRow_4 : Snd mX3_looseInRow 4 (sq (opLdI 3) (opCi (2))) 6 := (snd_sq (snd_iload_n (k := 3) (by decide +kernel) rfl) (snd_iconst (k := 2) (by decide) (by decide +kernel)))
set_option maxRecDepth 20000 in
theorem b_X3_looseInRow_6 : Br_ic_ge mX3_looseInRow 6 38 := br_ic_ge (off := 32) (by decide +kernel) (by decide)
set_option maxRecDepth 20000 in
theorem s_X3_looseInRow_9 : Snd mX3_looseInRow 9 (sq (opLdA 0) (sq (opLdA 0) (sq (opGetR 3 12) (sq (opCi (0)) (sq opIald (sq (opLdI 1) (sq (opCi (1)) (sq (opLdI 3) opishl)))))))) 20 := (snd_sq (snd_aload_n (k := 0) (by decide +kernel) rfl) (snd_sq (snd_aload_n (k := 0) (by decide +kernel) rfl) (snd_sq (snd_getR (ci := 3) (k := 12) (by decide +kernel) rfl (by decide) (by decide) rfl iw_3 w218) (snd_sq (snd_iconst (k := 0) (by decide) (by decide +kernel)) (snd_sq (snd_iald (by decide +kernel)) (snd_sq (snd_iload_n (k := 1) (by decide +kernel) rfl) (snd_sq (snd_iconst (k := 1) (by decide) (by decide +kernel)) (snd_sq (snd_iload_n (k := 3) (by decide +kernel) rfl) (snd_ishl (by decide +kernel))))))))))
set_option maxRecDepth 20000 in
theorem c_X3_looseInRow_20 : CallV mX3_looseInRow 20 mX3_endsBroken 3 4 := kallV (site_V rfl w562 (by decide +kernel) w559 w561 w23 w92 ⟨by decide, by decide, by decide +kernel⟩) (by decide) (by decide) (by unfold clsNo; rfl)
set_option maxRecDepth 20000 in
theorem b_X3_looseInRow_23 : Br_if_eq mX3_looseInRow 23 32 := br_if_eq (off := 9) (by decide +kernel) (by decide)
set_option maxRecDepth 20000 in
theorem s_X3_looseInRow_26 : Snd mX3_looseInRow 26 (sq (opLdI 2) (sq (opCi (1)) (sq (opLdI 3) (sq opishl (sq opior (opStI 2)))))) 32 := (snd_sq (snd_iload_n (k := 2) (by decide +kernel) rfl) (snd_sq (snd_iconst (k := 1) (by decide) (by decide +kernel)) (snd_sq (snd_iload_n (k := 3) (by decide +kernel) rfl) (snd_sq (snd_ishl (by decide +kernel)) (snd_sq (snd_ior (by decide +kernel)) (snd_istore_n (k := 2) (by decide +kernel) rfl (by decide)))))))
set_option maxRecDepth 20000 in
theorem s_X3_looseInRow_32 : Snd mX3_looseInRow 32 (sq (opInc 3 (1)) opNop) 4 := (snd_sq (snd_iinc (k := 1) (by decide +kernel) (by decide) (by decide)) (snd_goto (off := -31) (by decide +kernel) (by decide)))
set_option maxRecDepth 20000 in
theorem s_X3_looseInRow_38 : Snd mX3_looseInRow 38 (opLdI 2) 39 := (snd_iload_n (k := 2) (by decide +kernel) rfl)
set_option maxRecDepth 20000 in
theorem r_X3_looseInRow_39 : RtI mX3_looseInRow 39 := rt_I (by decide +kernel) rfl
/-! ClaimChains$Machine.endsBroken(III)Z -/
set_option maxRecDepth 20000 in
theorem s_X3_endsBroken_0 : Snd mX3_endsBroken 0 (sq (opLdI 1) (sq (opStI 4) (sq (opCi (0)) (opStI 5)))) 6 := (snd_sq (snd_iload_n (k := 1) (by decide +kernel) rfl) (snd_sq (snd_istore (by decide +kernel) (by decide)) (snd_sq (snd_iconst (k := 0) (by decide) (by decide +kernel)) (snd_istore (by decide +kernel) (by decide)))))
set_option maxRecDepth 20000 in
theorem s_X3_endsBroken_6 : Snd mX3_endsBroken 6 (sq (opLdI 5) (sq (opLdA 0) (opGetI 3 11))) 12 := (snd_sq (snd_iload (by decide +kernel)) (snd_sq (snd_aload_n (k := 0) (by decide +kernel) rfl) (snd_getI (ci := 3) (k := 11) (by decide +kernel) rfl (by decide) (by decide) (by decide) iw_3 w216)))
set_option maxRecDepth 20000 in
theorem b_X3_endsBroken_12 : Br_ic_ge mX3_endsBroken 12 58 := br_ic_ge (off := 46) (by decide +kernel) (by decide)
set_option maxRecDepth 20000 in
theorem s_X3_endsBroken_15 : Snd mX3_endsBroken 15 (sq (opLdI 5) (opLdI 2)) 18 := (snd_sq (snd_iload (by decide +kernel)) (snd_iload_n (k := 2) (by decide +kernel) rfl))
set_option maxRecDepth 20000 in
theorem b_X3_endsBroken_18 : Br_ic_ne mX3_endsBroken 18 33 := br_ic_ne (off := 15) (by decide +kernel) (by decide)
set_option maxRecDepth 20000 in
theorem s_X3_endsBroken_21 : Snd mX3_endsBroken 21 (sq (opLdA 0) (sq (opGetR 3 13) (sq (opLdI 5) (sq opIald (sq (opLdI 3) (sq opixor opNop)))))) 40 := (snd_sq (snd_aload_n (k := 0) (by decide +kernel) rfl) (snd_sq (snd_getR (ci := 3) (k := 13) (by decide +kernel) rfl (by decide) (by decide) rfl iw_3 w220) (snd_sq (snd_iload (by decide +kernel)) (snd_sq (snd_iald (by decide +kernel)) (snd_sq (snd_iload_n (k := 3) (by decide +kernel) rfl) (snd_sq (snd_ixor (by decide +kernel)) (snd_goto (off := 10) (by decide +kernel) (by decide))))))))
set_option maxRecDepth 20000 in
theorem s_X3_endsBroken_33 : Snd mX3_endsBroken 33 (sq (opLdA 0) (sq (opGetR 3 13) (sq (opLdI 5) opIald))) 40 := (snd_sq (snd_aload_n (k := 0) (by decide +kernel) rfl) (snd_sq (snd_getR (ci := 3) (k := 13) (by decide +kernel) rfl (by decide) (by decide) rfl iw_3 w220) (snd_sq (snd_iload (by decide +kernel)) (snd_iald (by decide +kernel)))))
set_option maxRecDepth 20000 in
theorem s_X3_endsBroken_40 : Snd mX3_endsBroken 40 (sq (opStI 6) (sq (opLdA 0) (sq (opLdI 4) (opLdI 6)))) 47 := (snd_sq (snd_istore (by decide +kernel) (by decide)) (snd_sq (snd_aload_n (k := 0) (by decide +kernel) rfl) (snd_sq (snd_iload (by decide +kernel)) (snd_iload (by decide +kernel)))))
set_option maxRecDepth 20000 in
theorem c_X3_endsBroken_47 : CallV mX3_endsBroken 47 mX3_target 3 3 := kallV (site_V rfl w184 (by decide +kernel) w181 w183 w3 w92 ⟨by decide, by decide, by decide +kernel⟩) (by decide) (by decide) (by unfold clsNo; rfl)
set_option maxRecDepth 20000 in
theorem s_X3_endsBroken_50 : Snd mX3_endsBroken 50 (sq (opStI 4) (sq (opInc 5 (1)) opNop)) 6 := (snd_sq (snd_istore (by decide +kernel) (by decide)) (snd_sq (snd_iinc (k := 1) (by decide +kernel) (by decide) (by decide)) (snd_goto (off := -49) (by decide +kernel) (by decide))))
set_option maxRecDepth 20000 in
theorem s_X3_endsBroken_58 : Snd mX3_endsBroken 58 (sq (opLdI 4) (sq (opLdA 0) (opGetI 3 5))) 64 := (snd_sq (snd_iload (by decide +kernel)) (snd_sq (snd_aload_n (k := 0) (by decide +kernel) rfl) (snd_getI (ci := 3) (k := 5) (by decide +kernel) rfl (by decide) (by decide) (by decide) iw_3 w204)))
set_option maxRecDepth 20000 in
theorem c_X3_endsBroken_64 : CallS mX3_endsBroken 64 mX6_isIn 2 := kallS (site_SN w191 (by decide +kernel) w189 w190 w90 ⟨by decide, by decide, by decide +kernel⟩) (by decide)
set_option maxRecDepth 20000 in
theorem r_X3_endsBroken_67 : RtZ mX3_endsBroken 67 := rt_Z (by decide +kernel) rfl
/-! ClaimChains$Machine.coneVariables()I -/
set_option maxRecDepth 20000 in
theorem s_X3_coneVariables_0 : Snd mX3_coneVariables 0 (sq (opLdA 0) (sq (opGetR 3 0) (sq (opLdA 0) (opGetI 3 2)))) 8 := (snd_sq (snd_aload_n (k := 0) (by decide +kernel) rfl) (snd_sq (snd_getR (ci := 3) (k := 0) (by decide +kernel) rfl (by decide) (by decide) rfl iw_3 w196) (snd_sq (snd_aload_n (k := 0) (by decide +kernel) rfl) (snd_getI (ci := 3) (k := 2) (by decide +kernel) rfl (by decide) (by decide) (by decide) iw_3 w198))))
set_option maxRecDepth 20000 in
theorem c_X3_coneVariables_8 : CallV mX3_coneVariables 8 mX4_has 4 2 := kallV (site_VN rfl w178 (by decide +kernel) w175 w177 w2 w91 ⟨by decide, by decide, by decide +kernel⟩) (by decide) (by decide) (by unfold clsNo; rfl)
set_option maxRecDepth 20000 in
theorem b_X3_coneVariables_11 : Br_if_eq mX3_coneVariables 11 29 := br_if_eq (off := 18) (by decide +kernel) (by decide)
set_option maxRecDepth 20000 in
theorem s_X3_coneVariables_14 : Snd mX3_coneVariables 14 (sq (opLdA 0) (sq (opGetR 3 0) (sq (opGetR 4 4) (sq (opLdA 0) (sq (opGetI 3 2) (sq opIald opNop)))))) 30 := (snd_sq (snd_aload_n (k := 0) (by decide +kernel) rfl) (snd_sq (snd_getR (ci := 3) (k := 0) (by decide +kernel) rfl (by decide) (by decide) rfl iw_3 w196) (snd_sq (snd_getRN (ci := 4) (k := 4) (by decide +kernel) rfl (by decide) (by decide) rfl iw_4 w124) (snd_sq (snd_aload_n (k := 0) (by decide +kernel) rfl) (snd_sq (snd_getI (ci := 3) (k := 2) (by decide +kernel) rfl (by decide) (by decide) (by decide) iw_3 w198) (snd_sq (snd_iald (by decide +kernel)) (snd_goto (off := 4) (by decide +kernel) (by decide))))))))
set_option maxRecDepth 20000 in
theorem s_X3_coneVariables_29 : Snd mX3_coneVariables 29 (opCi (0)) 30 := (snd_iconst (k := 0) (by decide) (by decide +kernel))
set_option maxRecDepth 20000 in
theorem s_X3_coneVariables_30 : Snd mX3_coneVariables 30 (sq (opStI 1) (sq (opCi (0)) (opStI 2))) 33 := (snd_sq (snd_istore_n (k := 1) (by decide +kernel) rfl (by decide)) (snd_sq (snd_iconst (k := 0) (by decide) (by decide +kernel)) (snd_istore_n (k := 2) (by decide +kernel) rfl (by decide))))
set_option maxRecDepth 20000 in
theorem s_X3_coneVariables_33 : Snd mX3_coneVariables 33 (sq (opLdI 2) (opCi (4))) 35 := (snd_sq (snd_iload_n (k := 2) (by decide +kernel) rfl) (snd_iconst (k := 4) (by decide) (by decide +kernel)))
set_option maxRecDepth 20000 in
theorem b_X3_coneVariables_35 : Br_ic_ge mX3_coneVariables 35 98 := br_ic_ge (off := 63) (by decide +kernel) (by decide)
set_option maxRecDepth 20000 in
theorem s_X3_coneVariables_38 : Snd mX3_coneVariables 38 (sq (opCi (0)) (opStI 3)) 40 := (snd_sq (snd_iconst (k := 0) (by decide) (by decide +kernel)) (snd_istore_n (k := 3) (by decide +kernel) rfl (by decide)))
set_option maxRecDepth 20000 in
theorem s_X3_coneVariables_40 : Snd mX3_coneVariables 40 (sq (opLdI 3) (opCi (4))) 42 := (snd_sq (snd_iload_n (k := 3) (by decide +kernel) rfl) (snd_iconst (k := 4) (by decide) (by decide +kernel)))
set_option maxRecDepth 20000 in
theorem b_X3_coneVariables_42 : Br_ic_ge mX3_coneVariables 42 92 := br_ic_ge (off := 50) (by decide +kernel) (by decide)
set_option maxRecDepth 20000 in
theorem s_X3_coneVariables_45 : Snd mX3_coneVariables 45 (sq (opLdI 3) (opLdI 1)) 47 := (snd_sq (snd_iload_n (k := 3) (by decide +kernel) rfl) (snd_iload_n (k := 1) (by decide +kernel) rfl))
set_option maxRecDepth 20000 in
theorem c_X3_coneVariables_47 : CallS mX3_coneVariables 47 mX6_isIn 2 := kallS (site_SN w191 (by decide +kernel) w189 w190 w90 ⟨by decide, by decide, by decide +kernel⟩) (by decide)
set_option maxRecDepth 20000 in
theorem b_X3_coneVariables_50 : Br_if_eq mX3_coneVariables 50 86 := br_if_eq (off := 36) (by decide +kernel) (by decide)
set_option maxRecDepth 20000 in
theorem s_X3_coneVariables_53 : Snd mX3_coneVariables 53 (sq (opLdA 0) (sq (opGetR 3 0) (sq (opLdA 0) (sq (opGetR 3 3) (sq (opLdI 3) opIald))))) 63 := (snd_sq (snd_aload_n (k := 0) (by decide +kernel) rfl) (snd_sq (snd_getR (ci := 3) (k := 0) (by decide +kernel) rfl (by decide) (by decide) rfl iw_3 w196) (snd_sq (snd_aload_n (k := 0) (by decide +kernel) rfl) (snd_sq (snd_getR (ci := 3) (k := 3) (by decide +kernel) rfl (by decide) (by decide) rfl iw_3 w199) (snd_sq (snd_iload_n (k := 3) (by decide +kernel) rfl) (snd_iald (by decide +kernel)))))))
set_option maxRecDepth 20000 in
theorem c_X3_coneVariables_63 : CallV mX3_coneVariables 63 mX4_has 4 2 := kallV (site_VN rfl w178 (by decide +kernel) w175 w177 w2 w91 ⟨by decide, by decide, by decide +kernel⟩) (by decide) (by decide) (by unfold clsNo; rfl)
set_option maxRecDepth 20000 in
theorem b_X3_coneVariables_66 : Br_if_eq mX3_coneVariables 66 86 := br_if_eq (off := 20) (by decide +kernel) (by decide)
set_option maxRecDepth 20000 in
theorem s_X3_coneVariables_69 : Snd mX3_coneVariables 69 (sq (opLdI 1) (sq (opLdA 0) (sq (opGetR 3 0) (sq (opGetR 4 4) (sq (opLdA 0) (sq (opGetR 3 3) (sq (opLdI 3) (sq opIald (sq opIald (sq opior (opStI 1))))))))))) 86 := (snd_sq (snd_iload_n (k := 1) (by decide +kernel) rfl) (snd_sq (snd_aload_n (k := 0) (by decide +kernel) rfl) (snd_sq (snd_getR (ci := 3) (k := 0) (by decide +kernel) rfl (by decide) (by decide) rfl iw_3 w196) (snd_sq (snd_getRN (ci := 4) (k := 4) (by decide +kernel) rfl (by decide) (by decide) rfl iw_4 w124) (snd_sq (snd_aload_n (k := 0) (by decide +kernel) rfl) (snd_sq (snd_getR (ci := 3) (k := 3) (by decide +kernel) rfl (by decide) (by decide) rfl iw_3 w199) (snd_sq (snd_iload_n (k := 3) (by decide +kernel) rfl) (snd_sq (snd_iald (by decide +kernel)) (snd_sq (snd_iald (by decide +kernel)) (snd_sq (snd_ior (by decide +kernel)) (snd_istore_n (k := 1) (by decide +kernel) rfl (by decide))))))))))))
set_option maxRecDepth 20000 in
theorem s_X3_coneVariables_86 : Snd mX3_coneVariables 86 (sq (opInc 3 (1)) opNop) 40 := (snd_sq (snd_iinc (k := 1) (by decide +kernel) (by decide) (by decide)) (snd_goto (off := -49) (by decide +kernel) (by decide)))
set_option maxRecDepth 20000 in
theorem s_X3_coneVariables_92 : Snd mX3_coneVariables 92 (sq (opInc 2 (1)) opNop) 33 := (snd_sq (snd_iinc (k := 1) (by decide +kernel) (by decide) (by decide)) (snd_goto (off := -62) (by decide +kernel) (by decide)))
set_option maxRecDepth 20000 in
theorem s_X3_coneVariables_98 : Snd mX3_coneVariables 98 (opLdI 1) 99 := (snd_iload_n (k := 1) (by decide +kernel) rfl)
set_option maxRecDepth 20000 in
theorem r_X3_coneVariables_99 : RtI mX3_coneVariables 99 := rt_I (by decide +kernel) rfl
/-! ClaimChains$Machine.inputsOf(I)I -/
set_option maxRecDepth 20000 in
theorem s_X3_inputsOf_0 : Snd mX3_inputsOf 0 (sq (opCi (0)) (sq (opStI 2) (sq (opCi (0)) (opStI 3)))) 4 := (snd_sq (snd_iconst (k := 0) (by decide) (by decide +kernel)) (snd_sq (snd_istore_n (k := 2) (by decide +kernel) rfl (by decide)) (snd_sq (snd_iconst (k := 0) (by decide) (by decide +kernel)) (snd_istore_n (k := 3) (by decide +kernel) rfl (by decide)))))
set_option maxRecDepth 20000 in
theorem s_X3_inputsOf_4 : Snd mX3_inputsOf 4 (sq (opLdI 3) (opCi (4))) 6 := (snd_sq (snd_iload_n (k := 3) (by decide +kernel) rfl) (snd_iconst (k := 4) (by decide) (by decide +kernel)))
set_option maxRecDepth 20000 in
theorem b_X3_inputsOf_6 : Br_ic_ge mX3_inputsOf 6 56 := br_ic_ge (off := 50) (by decide +kernel) (by decide)
set_option maxRecDepth 20000 in
theorem s_X3_inputsOf_9 : Snd mX3_inputsOf 9 (sq (opLdI 3) (opLdI 1)) 11 := (snd_sq (snd_iload_n (k := 3) (by decide +kernel) rfl) (snd_iload_n (k := 1) (by decide +kernel) rfl))
set_option maxRecDepth 20000 in
theorem c_X3_inputsOf_11 : CallS mX3_inputsOf 11 mX6_isIn 2 := kallS (site_SN w191 (by decide +kernel) w189 w190 w90 ⟨by decide, by decide, by decide +kernel⟩) (by decide)
set_option maxRecDepth 20000 in
theorem b_X3_inputsOf_14 : Br_if_eq mX3_inputsOf 14 50 := br_if_eq (off := 36) (by decide +kernel) (by decide)
set_option maxRecDepth 20000 in
theorem s_X3_inputsOf_17 : Snd mX3_inputsOf 17 (sq (opLdA 0) (sq (opGetR 3 0) (sq (opLdA 0) (sq (opGetR 3 3) (sq (opLdI 3) opIald))))) 27 := (snd_sq (snd_aload_n (k := 0) (by decide +kernel) rfl) (snd_sq (snd_getR (ci := 3) (k := 0) (by decide +kernel) rfl (by decide) (by decide) rfl iw_3 w196) (snd_sq (snd_aload_n (k := 0) (by decide +kernel) rfl) (snd_sq (snd_getR (ci := 3) (k := 3) (by decide +kernel) rfl (by decide) (by decide) rfl iw_3 w199) (snd_sq (snd_iload_n (k := 3) (by decide +kernel) rfl) (snd_iald (by decide +kernel)))))))
set_option maxRecDepth 20000 in
theorem c_X3_inputsOf_27 : CallV mX3_inputsOf 27 mX4_has 4 2 := kallV (site_VN rfl w178 (by decide +kernel) w175 w177 w2 w91 ⟨by decide, by decide, by decide +kernel⟩) (by decide) (by decide) (by unfold clsNo; rfl)
set_option maxRecDepth 20000 in
theorem b_X3_inputsOf_30 : Br_if_eq mX3_inputsOf 30 50 := br_if_eq (off := 20) (by decide +kernel) (by decide)
set_option maxRecDepth 20000 in
theorem s_X3_inputsOf_33 : Snd mX3_inputsOf 33 (sq (opLdI 2) (sq (opLdA 0) (sq (opGetR 3 0) (sq (opGetR 4 5) (sq (opLdA 0) (sq (opGetR 3 3) (sq (opLdI 3) (sq opIald (sq opIald (sq opior (opStI 2))))))))))) 50 := (snd_sq (snd_iload_n (k := 2) (by decide +kernel) rfl) (snd_sq (snd_aload_n (k := 0) (by decide +kernel) rfl) (snd_sq (snd_getR (ci := 3) (k := 0) (by decide +kernel) rfl (by decide) (by decide) rfl iw_3 w196) (snd_sq (snd_getRN (ci := 4) (k := 5) (by decide +kernel) rfl (by decide) (by decide) rfl iw_4 w127) (snd_sq (snd_aload_n (k := 0) (by decide +kernel) rfl) (snd_sq (snd_getR (ci := 3) (k := 3) (by decide +kernel) rfl (by decide) (by decide) rfl iw_3 w199) (snd_sq (snd_iload_n (k := 3) (by decide +kernel) rfl) (snd_sq (snd_iald (by decide +kernel)) (snd_sq (snd_iald (by decide +kernel)) (snd_sq (snd_ior (by decide +kernel)) (snd_istore_n (k := 2) (by decide +kernel) rfl (by decide))))))))))))
set_option maxRecDepth 20000 in
theorem s_X3_inputsOf_50 : Snd mX3_inputsOf 50 (sq (opInc 3 (1)) opNop) 4 := (snd_sq (snd_iinc (k := 1) (by decide +kernel) (by decide) (by decide)) (snd_goto (off := -49) (by decide +kernel) (by decide)))
set_option maxRecDepth 20000 in
theorem s_X3_inputsOf_56 : Snd mX3_inputsOf 56 (opLdI 2) 57 := (snd_iload_n (k := 2) (by decide +kernel) rfl)
set_option maxRecDepth 20000 in
theorem r_X3_inputsOf_57 : RtI mX3_inputsOf 57 := rt_I (by decide +kernel) rfl
