/-! ClaimChainsModel.<init>()V -/
set_option maxRecDepth 20000 in
theorem s_X7_init_0 : Snd mX7_init 0 (opLdA 0) 1 := (snd_aload_n (k := 0) (by decide +kernel) rfl)
set_option maxRecDepth 20000 in
theorem o_X7_init_1 : OIn mX7_init 1 := fun h1 h2 => e_oinit (by decide +kernel) w805 w106 w107 h1 h2
set_option maxRecDepth 20000 in
theorem s_X7_init_4 : Snd mX7_init 4 (sq (opLdA 0) (opCi (40))) 7 := (snd_sq (snd_aload_n (k := 0) (by decide +kernel) rfl) (snd_bipush (k := 40) (by decide) (by decide +kernel)))
set_option maxRecDepth 20000 in
theorem n_X7_init_7 : NewA mX7_init 7 2 100 := fun h1 h2 h3 h4 h5 h6 h7 => e_newI (by decide +kernel) w158 h1 h2 h3 h4 h5 h6 h7
set_option maxRecDepth 20000 in
theorem s_X7_init_9 : Snd mX7_init 9 (sq (opPutR 7 2) (sq (opLdA 0) (opCi (120)))) 15 := (snd_sq (snd_putR (ci := 7) (k := 2) (by decide +kernel) rfl (by decide) (by decide) rfl iw_7 tyX7_ok nmX7 rfl rfl rfl (tyX7_ok 2 (by decide)) (fun _ => rfl) (fun _ => rfl) w808) (snd_sq (snd_aload_n (k := 0) (by decide +kernel) rfl) (snd_bipush (k := 120) (by decide) (by decide +kernel))))
set_option maxRecDepth 20000 in
theorem n_X7_init_15 : NewA mX7_init 15 2 100 := fun h1 h2 h3 h4 h5 h6 h7 => e_newI (by decide +kernel) w158 h1 h2 h3 h4 h5 h6 h7
set_option maxRecDepth 20000 in
theorem s_X7_init_17 : Snd mX7_init 17 (sq (opPutR 7 3) (sq (opLdA 0) (opCi (40)))) 23 := (snd_sq (snd_putR (ci := 7) (k := 3) (by decide +kernel) rfl (by decide) (by decide) rfl iw_7 tyX7_ok nmX7 rfl rfl rfl (tyX7_ok 3 (by decide)) (fun _ => rfl) (fun _ => rfl) w809) (snd_sq (snd_aload_n (k := 0) (by decide +kernel) rfl) (snd_bipush (k := 40) (by decide) (by decide +kernel))))
set_option maxRecDepth 20000 in
theorem n_X7_init_23 : NewA mX7_init 23 2 100 := fun h1 h2 h3 h4 h5 h6 h7 => e_newI (by decide +kernel) w158 h1 h2 h3 h4 h5 h6 h7
set_option maxRecDepth 20000 in
theorem s_X7_init_25 : Snd mX7_init 25 (sq (opPutR 7 4) (sq (opLdA 0) (opCi (40)))) 31 := (snd_sq (snd_putR (ci := 7) (k := 4) (by decide +kernel) rfl (by decide) (by decide) rfl iw_7 tyX7_ok nmX7 rfl rfl rfl (tyX7_ok 4 (by decide)) (fun _ => rfl) (fun _ => rfl) w810) (snd_sq (snd_aload_n (k := 0) (by decide +kernel) rfl) (snd_bipush (k := 40) (by decide) (by decide +kernel))))
set_option maxRecDepth 20000 in
theorem n_X7_init_31 : NewA mX7_init 31 2 100 := fun h1 h2 h3 h4 h5 h6 h7 => e_newI (by decide +kernel) w158 h1 h2 h3 h4 h5 h6 h7
set_option maxRecDepth 20000 in
theorem s_X7_init_33 : Snd mX7_init 33 (sq (opPutR 7 5) (sq (opLdA 0) (opCi (40)))) 39 := (snd_sq (snd_putR (ci := 7) (k := 5) (by decide +kernel) rfl (by decide) (by decide) rfl iw_7 tyX7_ok nmX7 rfl rfl rfl (tyX7_ok 5 (by decide)) (fun _ => rfl) (fun _ => rfl) w811) (snd_sq (snd_aload_n (k := 0) (by decide +kernel) rfl) (snd_bipush (k := 40) (by decide) (by decide +kernel))))
set_option maxRecDepth 20000 in
theorem n_X7_init_39 : NewA mX7_init 39 2 100 := fun h1 h2 h3 h4 h5 h6 h7 => e_newI (by decide +kernel) w158 h1 h2 h3 h4 h5 h6 h7
set_option maxRecDepth 20000 in
theorem s_X7_init_41 : Snd mX7_init 41 (sq (opPutR 7 6) (sq (opLdA 0) (opCi (40)))) 47 := (snd_sq (snd_putR (ci := 7) (k := 6) (by decide +kernel) rfl (by decide) (by decide) rfl iw_7 tyX7_ok nmX7 rfl rfl rfl (tyX7_ok 6 (by decide)) (fun _ => rfl) (fun _ => rfl) w812) (snd_sq (snd_aload_n (k := 0) (by decide +kernel) rfl) (snd_bipush (k := 40) (by decide) (by decide +kernel))))
set_option maxRecDepth 20000 in
theorem n_X7_init_47 : NewA mX7_init 47 2 101 := fun h1 h2 h3 h4 h5 h6 h7 => e_newL (by decide +kernel) w159 h1 h2 h3 h4 h5 h6 h7
set_option maxRecDepth 20000 in
theorem s_X7_init_49 : Snd mX7_init 49 (sq (opPutR 7 7) (sq (opLdA 0) (opCi (2560)))) 56 := (snd_sq (snd_putR (ci := 7) (k := 7) (by decide +kernel) rfl (by decide) (by decide) rfl iw_7 tyX7_ok nmX7 rfl rfl rfl (tyX7_ok 7 (by decide)) (fun _ => rfl) (fun _ => rfl) w813) (snd_sq (snd_aload_n (k := 0) (by decide +kernel) rfl) (snd_sipush (k := 2560) (by decide) (by decide +kernel))))
set_option maxRecDepth 20000 in
theorem n_X7_init_56 : NewA mX7_init 56 2 100 := fun h1 h2 h3 h4 h5 h6 h7 => e_newI (by decide +kernel) w158 h1 h2 h3 h4 h5 h6 h7
set_option maxRecDepth 20000 in
theorem s_X7_init_58 : Snd mX7_init 58 (sq (opPutR 7 8) (sq (opLdA 0) (sq (opCi (-9)) (sq (opPutI 7 9) (sq (opLdA 0) (sq (opCi (-9)) (sq (opPutI 7 10) (sq (opLdA 0) (opCi (4)))))))))) 75 := (snd_sq (snd_putR (ci := 7) (k := 8) (by decide +kernel) rfl (by decide) (by decide) rfl iw_7 tyX7_ok nmX7 rfl rfl rfl (tyX7_ok 8 (by decide)) (fun _ => rfl) (fun _ => rfl) w814) (snd_sq (snd_aload_n (k := 0) (by decide +kernel) rfl) (snd_sq (snd_bipush (k := -9) (by decide) (by decide +kernel)) (snd_sq (snd_putI (ci := 7) (k := 9) (by decide +kernel) rfl (by decide) (by decide) (by decide) iw_7 tyX7_ok nmX7 rfl (tyX7_ok 9 (by decide)) w815) (snd_sq (snd_aload_n (k := 0) (by decide +kernel) rfl) (snd_sq (snd_bipush (k := -9) (by decide) (by decide +kernel)) (snd_sq (snd_putI (ci := 7) (k := 10) (by decide +kernel) rfl (by decide) (by decide) (by decide) iw_7 tyX7_ok nmX7 rfl (tyX7_ok 10 (by decide)) w816) (snd_sq (snd_aload_n (k := 0) (by decide +kernel) rfl) (snd_iconst (k := 4) (by decide) (by decide +kernel))))))))))
set_option maxRecDepth 20000 in
theorem n_X7_init_75 : NewA mX7_init 75 2 100 := fun h1 h2 h3 h4 h5 h6 h7 => e_newI (by decide +kernel) w158 h1 h2 h3 h4 h5 h6 h7
set_option maxRecDepth 20000 in
theorem s_X7_init_77 : Snd mX7_init 77 (sq opDup (sq (opCi (0)) (sq (opCi (-9)) (sq opIast (sq opDup (sq (opCi (1)) (sq (opCi (-9)) (sq opIast (sq opDup (sq (opCi (2)) (sq (opCi (-9)) (sq opIast (sq opDup (sq (opCi (3)) (sq (opCi (-9)) (sq opIast (sq (opPutR 7 11) (sq (opLdA 0) (opCi (16)))))))))))))))))))) 103 := (snd_sq (snd_dup (by decide +kernel)) (snd_sq (snd_iconst (k := 0) (by decide) (by decide +kernel)) (snd_sq (snd_bipush (k := -9) (by decide) (by decide +kernel)) (snd_sq (snd_iast (by decide +kernel)) (snd_sq (snd_dup (by decide +kernel)) (snd_sq (snd_iconst (k := 1) (by decide) (by decide +kernel)) (snd_sq (snd_bipush (k := -9) (by decide) (by decide +kernel)) (snd_sq (snd_iast (by decide +kernel)) (snd_sq (snd_dup (by decide +kernel)) (snd_sq (snd_iconst (k := 2) (by decide) (by decide +kernel)) (snd_sq (snd_bipush (k := -9) (by decide) (by decide +kernel)) (snd_sq (snd_iast (by decide +kernel)) (snd_sq (snd_dup (by decide +kernel)) (snd_sq (snd_iconst (k := 3) (by decide) (by decide +kernel)) (snd_sq (snd_bipush (k := -9) (by decide) (by decide +kernel)) (snd_sq (snd_iast (by decide +kernel)) (snd_sq (snd_putR (ci := 7) (k := 11) (by decide +kernel) rfl (by decide) (by decide) rfl iw_7 tyX7_ok nmX7 rfl rfl rfl (tyX7_ok 11 (by decide)) (fun _ => rfl) (fun _ => rfl) w817) (snd_sq (snd_aload_n (k := 0) (by decide +kernel) rfl) (snd_bipush (k := 16) (by decide) (by decide +kernel))))))))))))))))))))
set_option maxRecDepth 20000 in
theorem n_X7_init_103 : NewA mX7_init 103 2 100 := fun h1 h2 h3 h4 h5 h6 h7 => e_newI (by decide +kernel) w158 h1 h2 h3 h4 h5 h6 h7
set_option maxRecDepth 20000 in
theorem s_X7_init_105 : Snd mX7_init 105 (sq (opPutR 7 12) (sq (opLdA 0) (opCi (17)))) 111 := (snd_sq (snd_putR (ci := 7) (k := 12) (by decide +kernel) rfl (by decide) (by decide) rfl iw_7 tyX7_ok nmX7 rfl rfl rfl (tyX7_ok 12 (by decide)) (fun _ => rfl) (fun _ => rfl) w818) (snd_sq (snd_aload_n (k := 0) (by decide +kernel) rfl) (snd_bipush (k := 17) (by decide) (by decide +kernel))))
set_option maxRecDepth 20000 in
theorem n_X7_init_111 : NewA mX7_init 111 2 100 := fun h1 h2 h3 h4 h5 h6 h7 => e_newI (by decide +kernel) w158 h1 h2 h3 h4 h5 h6 h7
set_option maxRecDepth 20000 in
theorem s_X7_init_113 : Snd mX7_init 113 (sq (opPutR 7 14) (sq (opLdA 0) (opCi (16)))) 119 := (snd_sq (snd_putR (ci := 7) (k := 14) (by decide +kernel) rfl (by decide) (by decide) rfl iw_7 tyX7_ok nmX7 rfl rfl rfl (tyX7_ok 14 (by decide)) (fun _ => rfl) (fun _ => rfl) w820) (snd_sq (snd_aload_n (k := 0) (by decide +kernel) rfl) (snd_bipush (k := 16) (by decide) (by decide +kernel))))
set_option maxRecDepth 20000 in
theorem n_X7_init_119 : NewA mX7_init 119 2 100 := fun h1 h2 h3 h4 h5 h6 h7 => e_newI (by decide +kernel) w158 h1 h2 h3 h4 h5 h6 h7
set_option maxRecDepth 20000 in
theorem s_X7_init_121 : Snd mX7_init 121 (sq (opPutR 7 15) (sq (opLdA 0) (opCi (8)))) 127 := (snd_sq (snd_putR (ci := 7) (k := 15) (by decide +kernel) rfl (by decide) (by decide) rfl iw_7 tyX7_ok nmX7 rfl rfl rfl (tyX7_ok 15 (by decide)) (fun _ => rfl) (fun _ => rfl) w821) (snd_sq (snd_aload_n (k := 0) (by decide +kernel) rfl) (snd_bipush (k := 8) (by decide) (by decide +kernel))))
set_option maxRecDepth 20000 in
theorem n_X7_init_127 : NewA mX7_init 127 2 100 := fun h1 h2 h3 h4 h5 h6 h7 => e_newI (by decide +kernel) w158 h1 h2 h3 h4 h5 h6 h7
set_option maxRecDepth 20000 in
theorem s_X7_init_129 : Snd mX7_init 129 (sq (opPutR 7 17) (sq (opLdA 0) (opCi (8)))) 135 := (snd_sq (snd_putR (ci := 7) (k := 17) (by decide +kernel) rfl (by decide) (by decide) rfl iw_7 tyX7_ok nmX7 rfl rfl rfl (tyX7_ok 17 (by decide)) (fun _ => rfl) (fun _ => rfl) w823) (snd_sq (snd_aload_n (k := 0) (by decide +kernel) rfl) (snd_bipush (k := 8) (by decide) (by decide +kernel))))
set_option maxRecDepth 20000 in
theorem n_X7_init_135 : NewA mX7_init 135 2 100 := fun h1 h2 h3 h4 h5 h6 h7 => e_newI (by decide +kernel) w158 h1 h2 h3 h4 h5 h6 h7
set_option maxRecDepth 20000 in
theorem s_X7_init_137 : Snd mX7_init 137 (sq (opPutR 7 18) (sq (opLdA 0) (opCi (9)))) 143 := (snd_sq (snd_putR (ci := 7) (k := 18) (by decide +kernel) rfl (by decide) (by decide) rfl iw_7 tyX7_ok nmX7 rfl rfl rfl (tyX7_ok 18 (by decide)) (fun _ => rfl) (fun _ => rfl) w824) (snd_sq (snd_aload_n (k := 0) (by decide +kernel) rfl) (snd_bipush (k := 9) (by decide) (by decide +kernel))))
set_option maxRecDepth 20000 in
theorem n_X7_init_143 : NewA mX7_init 143 2 100 := fun h1 h2 h3 h4 h5 h6 h7 => e_newI (by decide +kernel) w158 h1 h2 h3 h4 h5 h6 h7
set_option maxRecDepth 20000 in
theorem s_X7_init_145 : Snd mX7_init 145 (sq (opPutR 7 19) (sq (opLdA 0) (opCi (9)))) 151 := (snd_sq (snd_putR (ci := 7) (k := 19) (by decide +kernel) rfl (by decide) (by decide) rfl iw_7 tyX7_ok nmX7 rfl rfl rfl (tyX7_ok 19 (by decide)) (fun _ => rfl) (fun _ => rfl) w825) (snd_sq (snd_aload_n (k := 0) (by decide +kernel) rfl) (snd_bipush (k := 9) (by decide) (by decide +kernel))))
set_option maxRecDepth 20000 in
theorem n_X7_init_151 : NewA mX7_init 151 2 100 := fun h1 h2 h3 h4 h5 h6 h7 => e_newI (by decide +kernel) w158 h1 h2 h3 h4 h5 h6 h7
set_option maxRecDepth 20000 in
theorem s_X7_init_153 : Snd mX7_init 153 (sq (opPutR 7 20) (sq (opLdA 0) (opCi (64)))) 159 := (snd_sq (snd_putR (ci := 7) (k := 20) (by decide +kernel) rfl (by decide) (by decide) rfl iw_7 tyX7_ok nmX7 rfl rfl rfl (tyX7_ok 20 (by decide)) (fun _ => rfl) (fun _ => rfl) w826) (snd_sq (snd_aload_n (k := 0) (by decide +kernel) rfl) (snd_bipush (k := 64) (by decide) (by decide +kernel))))
set_option maxRecDepth 20000 in
theorem n_X7_init_159 : NewA mX7_init 159 2 100 := fun h1 h2 h3 h4 h5 h6 h7 => e_newI (by decide +kernel) w158 h1 h2 h3 h4 h5 h6 h7
set_option maxRecDepth 20000 in
theorem s_X7_init_161 : Snd mX7_init 161 (sq (opPutR 7 21) (sq (opLdA 0) (opCi (16)))) 167 := (snd_sq (snd_putR (ci := 7) (k := 21) (by decide +kernel) rfl (by decide) (by decide) rfl iw_7 tyX7_ok nmX7 rfl rfl rfl (tyX7_ok 21 (by decide)) (fun _ => rfl) (fun _ => rfl) w827) (snd_sq (snd_aload_n (k := 0) (by decide +kernel) rfl) (snd_bipush (k := 16) (by decide) (by decide +kernel))))
set_option maxRecDepth 20000 in
theorem n_X7_init_167 : NewA mX7_init 167 2 100 := fun h1 h2 h3 h4 h5 h6 h7 => e_newI (by decide +kernel) w158 h1 h2 h3 h4 h5 h6 h7
set_option maxRecDepth 20000 in
theorem s_X7_init_169 : Snd mX7_init 169 (sq (opPutR 7 24) (sq (opLdA 0) (opCi (16)))) 175 := (snd_sq (snd_putR (ci := 7) (k := 24) (by decide +kernel) rfl (by decide) (by decide) rfl iw_7 tyX7_ok nmX7 rfl rfl rfl (tyX7_ok 24 (by decide)) (fun _ => rfl) (fun _ => rfl) w830) (snd_sq (snd_aload_n (k := 0) (by decide +kernel) rfl) (snd_bipush (k := 16) (by decide) (by decide +kernel))))
set_option maxRecDepth 20000 in
theorem n_X7_init_175 : NewA mX7_init 175 2 100 := fun h1 h2 h3 h4 h5 h6 h7 => e_newI (by decide +kernel) w158 h1 h2 h3 h4 h5 h6 h7
set_option maxRecDepth 20000 in
theorem s_X7_init_177 : Snd mX7_init 177 (sq (opPutR 7 25) (sq (opLdA 0) (opCi (4)))) 182 := (snd_sq (snd_putR (ci := 7) (k := 25) (by decide +kernel) rfl (by decide) (by decide) rfl iw_7 tyX7_ok nmX7 rfl rfl rfl (tyX7_ok 25 (by decide)) (fun _ => rfl) (fun _ => rfl) w831) (snd_sq (snd_aload_n (k := 0) (by decide +kernel) rfl) (snd_iconst (k := 4) (by decide) (by decide +kernel))))
set_option maxRecDepth 20000 in
theorem n_X7_init_182 : NewA mX7_init 182 2 100 := fun h1 h2 h3 h4 h5 h6 h7 => e_newI (by decide +kernel) w158 h1 h2 h3 h4 h5 h6 h7
set_option maxRecDepth 20000 in
theorem s_X7_init_184 : Snd mX7_init 184 (sq opDup (sq (opCi (0)) (sq (opCi (-9)) (sq opIast (sq opDup (sq (opCi (1)) (sq (opCi (-9)) (sq opIast (sq opDup (sq (opCi (2)) (sq (opCi (-9)) (sq opIast (sq opDup (sq (opCi (3)) (sq (opCi (-9)) (sq opIast (sq (opPutR 7 26) (sq (opLdA 0) (opCi (4)))))))))))))))))))) 209 := (snd_sq (snd_dup (by decide +kernel)) (snd_sq (snd_iconst (k := 0) (by decide) (by decide +kernel)) (snd_sq (snd_bipush (k := -9) (by decide) (by decide +kernel)) (snd_sq (snd_iast (by decide +kernel)) (snd_sq (snd_dup (by decide +kernel)) (snd_sq (snd_iconst (k := 1) (by decide) (by decide +kernel)) (snd_sq (snd_bipush (k := -9) (by decide) (by decide +kernel)) (snd_sq (snd_iast (by decide +kernel)) (snd_sq (snd_dup (by decide +kernel)) (snd_sq (snd_iconst (k := 2) (by decide) (by decide +kernel)) (snd_sq (snd_bipush (k := -9) (by decide) (by decide +kernel)) (snd_sq (snd_iast (by decide +kernel)) (snd_sq (snd_dup (by decide +kernel)) (snd_sq (snd_iconst (k := 3) (by decide) (by decide +kernel)) (snd_sq (snd_bipush (k := -9) (by decide) (by decide +kernel)) (snd_sq (snd_iast (by decide +kernel)) (snd_sq (snd_putR (ci := 7) (k := 26) (by decide +kernel) rfl (by decide) (by decide) rfl iw_7 tyX7_ok nmX7 rfl rfl rfl (tyX7_ok 26 (by decide)) (fun _ => rfl) (fun _ => rfl) w832) (snd_sq (snd_aload_n (k := 0) (by decide +kernel) rfl) (snd_iconst (k := 4) (by decide) (by decide +kernel))))))))))))))))))))
set_option maxRecDepth 20000 in
theorem n_X7_init_209 : NewA mX7_init 209 2 100 := fun h1 h2 h3 h4 h5 h6 h7 => e_newI (by decide +kernel) w158 h1 h2 h3 h4 h5 h6 h7
set_option maxRecDepth 20000 in
theorem s_X7_init_211 : Snd mX7_init 211 (sq (opPutR 7 27) (sq (opLdA 0) (opCi (32)))) 217 := (snd_sq (snd_putR (ci := 7) (k := 27) (by decide +kernel) rfl (by decide) (by decide) rfl iw_7 tyX7_ok nmX7 rfl rfl rfl (tyX7_ok 27 (by decide)) (fun _ => rfl) (fun _ => rfl) w833) (snd_sq (snd_aload_n (k := 0) (by decide +kernel) rfl) (snd_bipush (k := 32) (by decide) (by decide +kernel))))
set_option maxRecDepth 20000 in
theorem n_X7_init_217 : NewA mX7_init 217 2 100 := fun h1 h2 h3 h4 h5 h6 h7 => e_newI (by decide +kernel) w158 h1 h2 h3 h4 h5 h6 h7
set_option maxRecDepth 20000 in
theorem s_X7_init_219 : Snd mX7_init 219 (sq (opPutR 7 28) (sq (opLdA 0) (opCi (8)))) 225 := (snd_sq (snd_putR (ci := 7) (k := 28) (by decide +kernel) rfl (by decide) (by decide) rfl iw_7 tyX7_ok nmX7 rfl rfl rfl (tyX7_ok 28 (by decide)) (fun _ => rfl) (fun _ => rfl) w834) (snd_sq (snd_aload_n (k := 0) (by decide +kernel) rfl) (snd_bipush (k := 8) (by decide) (by decide +kernel))))
set_option maxRecDepth 20000 in
theorem n_X7_init_225 : NewA mX7_init 225 2 100 := fun h1 h2 h3 h4 h5 h6 h7 => e_newI (by decide +kernel) w158 h1 h2 h3 h4 h5 h6 h7
set_option maxRecDepth 20000 in
theorem s_X7_init_227 : Snd mX7_init 227 (opPutR 7 29) 230 := (snd_putR (ci := 7) (k := 29) (by decide +kernel) rfl (by decide) (by decide) rfl iw_7 tyX7_ok nmX7 rfl rfl rfl (tyX7_ok 29 (by decide)) (fun _ => rfl) (fun _ => rfl) w835)
set_option maxRecDepth 20000 in
theorem r_X7_init_230 : RtV mX7_init 230 := rt_V (by decide +kernel) rfl
/-! ClaimChainsModel.fails(I)I -/
set_option maxRecDepth 20000 in
theorem s_X7_fails_0 : Snd mX7_fails 0 (sq (opLdA 0) (sq (opLdI 1) (sq (opPutI 7 0) (sq (opCi (-10)) (sq (opLdI 1) opisub))))) 9 := (snd_sq (snd_aload_n (k := 0) (by decide +kernel) rfl) (snd_sq (snd_iload_n (k := 1) (by decide +kernel) rfl) (snd_sq (snd_putI (ci := 7) (k := 0) (by decide +kernel) rfl (by decide) (by decide) (by decide) iw_7 tyX7_ok nmX7 rfl (tyX7_ok 0 (by decide)) w806) (snd_sq (snd_bipush (k := -10) (by decide) (by decide +kernel)) (snd_sq (snd_iload_n (k := 1) (by decide +kernel) rfl) (snd_isub (by decide +kernel)))))))
set_option maxRecDepth 20000 in
theorem r_X7_fails_9 : RtI mX7_fails 9 := rt_I (by decide +kernel) rfl
/-! ClaimChainsModel.within(III)Z -/
set_option maxRecDepth 20000 in
theorem s_X7_within_0 : Snd mX7_within 0 (sq (opLdI 0) (opLdI 1)) 2 := (snd_sq (snd_iload_n (k := 0) (by decide +kernel) rfl) (snd_iload_n (k := 1) (by decide +kernel) rfl))
set_option maxRecDepth 20000 in
theorem b_X7_within_2 : Br_ic_lt mX7_within 2 14 := br_ic_lt (off := 12) (by decide +kernel) (by decide)
set_option maxRecDepth 20000 in
theorem s_X7_within_5 : Snd mX7_within 5 (sq (opLdI 0) (opLdI 2)) 7 := (snd_sq (snd_iload_n (k := 0) (by decide +kernel) rfl) (snd_iload_n (k := 2) (by decide +kernel) rfl))
set_option maxRecDepth 20000 in
theorem b_X7_within_7 : Br_ic_gt mX7_within 7 14 := br_ic_gt (off := 7) (by decide +kernel) (by decide)
set_option maxRecDepth 20000 in
theorem s_X7_within_10 : Snd mX7_within 10 (sq (opCi (1)) opNop) 15 := (snd_sq (snd_iconst (k := 1) (by decide) (by decide +kernel)) (snd_goto (off := 4) (by decide +kernel) (by decide)))
set_option maxRecDepth 20000 in
theorem s_X7_within_14 : Snd mX7_within 14 (opCi (0)) 15 := (snd_iconst (k := 0) (by decide) (by decide +kernel))
set_option maxRecDepth 20000 in
theorem r_X7_within_15 : RtZ mX7_within 15 := rt_Z (by decide +kernel) rfl
/-! ClaimChainsModel.isIn(II)I -/
set_option maxRecDepth 20000 in
theorem s_X7_isIn_0 : Snd mX7_isIn 0 (sq (opLdI 0) (sq (opLdI 1) (sq opishr (sq (opCi (1)) opiand)))) 5 := (snd_sq (snd_iload_n (k := 0) (by decide +kernel) rfl) (snd_sq (snd_iload_n (k := 1) (by decide +kernel) rfl) (snd_sq (snd_ishr (by decide +kernel)) (snd_sq (snd_iconst (k := 1) (by decide) (by decide +kernel)) (snd_iand (by decide +kernel))))))
set_option maxRecDepth 20000 in
theorem r_X7_isIn_5 : RtI mX7_isIn 5 := rt_I (by decide +kernel) rfl
/-! ClaimChainsModel.sizeOf(I)I -/
set_option maxRecDepth 20000 in
theorem s_X7_sizeOf_0 : Snd mX7_sizeOf 0 (sq (opCi (0)) (sq (opStI 1) (sq (opCi (0)) (opStI 2)))) 4 := (snd_sq (snd_iconst (k := 0) (by decide) (by decide +kernel)) (snd_sq (snd_istore_n (k := 1) (by decide +kernel) rfl (by decide)) (snd_sq (snd_iconst (k := 0) (by decide) (by decide +kernel)) (snd_istore_n (k := 2) (by decide +kernel) rfl (by decide)))))
set_option maxRecDepth 20000 in
theorem s_X7_sizeOf_4 : Snd mX7_sizeOf 4 (sq (opLdI 2) (opCi (16))) 7 := (snd_sq (snd_iload_n (k := 2) (by decide +kernel) rfl) (snd_bipush (k := 16) (by decide) (by decide +kernel)))
set_option maxRecDepth 20000 in
theorem b_X7_sizeOf_7 : Br_ic_ge mX7_sizeOf 7 24 := br_ic_ge (off := 17) (by decide +kernel) (by decide)
set_option maxRecDepth 20000 in
theorem s_X7_sizeOf_10 : Snd mX7_sizeOf 10 (sq (opLdI 1) (sq (opLdI 0) (opLdI 2))) 13 := (snd_sq (snd_iload_n (k := 1) (by decide +kernel) rfl) (snd_sq (snd_iload_n (k := 0) (by decide +kernel) rfl) (snd_iload_n (k := 2) (by decide +kernel) rfl)))
set_option maxRecDepth 20000 in
theorem c_X7_sizeOf_13 : CallS mX7_sizeOf 13 mX7_isIn 2 := kallS (site_S w926 (by decide +kernel) w924 w925 w97 ⟨by decide, by decide, by decide +kernel⟩) (by decide)
set_option maxRecDepth 20000 in
theorem s_X7_sizeOf_16 : Snd mX7_sizeOf 16 (sq opiadd (sq (opStI 1) (sq (opInc 2 (1)) opNop))) 4 := (snd_sq (snd_iadd (by decide +kernel)) (snd_sq (snd_istore_n (k := 1) (by decide +kernel) rfl (by decide)) (snd_sq (snd_iinc (k := 1) (by decide +kernel) (by decide) (by decide)) (snd_goto (off := -17) (by decide +kernel) (by decide)))))
set_option maxRecDepth 20000 in
theorem s_X7_sizeOf_24 : Snd mX7_sizeOf 24 (opLdI 1) 25 := (snd_iload_n (k := 1) (by decide +kernel) rfl)
set_option maxRecDepth 20000 in
theorem r_X7_sizeOf_25 : RtI mX7_sizeOf 25 := rt_I (by decide +kernel) rfl
/-! ClaimChainsModel.isTerm(I)Z -/
set_option maxRecDepth 20000 in
theorem s_X7_isTerm_0 : Snd mX7_isTerm 0 (sq (opLdI 1) (sq (opCi (0)) (sq (opLdA 0) (sq (opGetI 7 1) (sq (opCi (1)) opisub))))) 8 := (snd_sq (snd_iload_n (k := 1) (by decide +kernel) rfl) (snd_sq (snd_iconst (k := 0) (by decide) (by decide +kernel)) (snd_sq (snd_aload_n (k := 0) (by decide +kernel) rfl) (snd_sq (snd_getI (ci := 7) (k := 1) (by decide +kernel) rfl (by decide) (by decide) (by decide) iw_7 w807) (snd_sq (snd_iconst (k := 1) (by decide) (by decide +kernel)) (snd_isub (by decide +kernel)))))))
set_option maxRecDepth 20000 in
theorem c_X7_isTerm_8 : CallS mX7_isTerm 8 mX7_within 3 := kallS (site_S w903 (by decide +kernel) w901 w902 w97 ⟨by decide, by decide, by decide +kernel⟩) (by decide)
set_option maxRecDepth 20000 in
theorem r_X7_isTerm_11 : RtZ mX7_isTerm 11 := rt_Z (by decide +kernel) rfl
/-! ClaimChainsModel.isState(I)Z -/
set_option maxRecDepth 20000 in
theorem s_X7_isState_0 : Snd mX7_isState 0 (sq (opLdI 0) (sq (opCi (0)) (opCi (15)))) 4 := (snd_sq (snd_iload_n (k := 0) (by decide +kernel) rfl) (snd_sq (snd_iconst (k := 0) (by decide) (by decide +kernel)) (snd_bipush (k := 15) (by decide) (by decide +kernel))))
set_option maxRecDepth 20000 in
theorem c_X7_isState_4 : CallS mX7_isState 4 mX7_within 3 := kallS (site_S w903 (by decide +kernel) w901 w902 w97 ⟨by decide, by decide, by decide +kernel⟩) (by decide)
set_option maxRecDepth 20000 in
theorem r_X7_isState_7 : RtZ mX7_isState 7 := rt_Z (by decide +kernel) rfl
/-! ClaimChainsModel.isRow(I)Z -/
set_option maxRecDepth 20000 in
theorem s_X7_isRow_0 : Snd mX7_isRow 0 (sq (opLdI 0) (sq (opCi (0)) (opCi (3)))) 3 := (snd_sq (snd_iload_n (k := 0) (by decide +kernel) rfl) (snd_sq (snd_iconst (k := 0) (by decide) (by decide +kernel)) (snd_iconst (k := 3) (by decide) (by decide +kernel))))
set_option maxRecDepth 20000 in
theorem c_X7_isRow_3 : CallS mX7_isRow 3 mX7_within 3 := kallS (site_S w903 (by decide +kernel) w901 w902 w97 ⟨by decide, by decide, by decide +kernel⟩) (by decide)
set_option maxRecDepth 20000 in
theorem r_X7_isRow_6 : RtZ mX7_isRow 6 := rt_Z (by decide +kernel) rfl
/-! ClaimChainsModel.valueIn(III)I -/
set_option maxRecDepth 20000 in
theorem s_X7_valueIn_0 : Snd mX7_valueIn 0 (sq (opLdA 0) (sq (opGetR 7 8) (sq (opCi (64)) (sq (opLdI 1) (sq opimul (sq (opCi (4)) (sq (opLdI 2) (sq opimul (sq opiadd (sq (opLdI 3) (sq opiadd opIald))))))))))) 15 := (snd_sq (snd_aload_n (k := 0) (by decide +kernel) rfl) (snd_sq (snd_getR (ci := 7) (k := 8) (by decide +kernel) rfl (by decide) (by decide) rfl iw_7 w814) (snd_sq (snd_bipush (k := 64) (by decide) (by decide +kernel)) (snd_sq (snd_iload_n (k := 1) (by decide +kernel) rfl) (snd_sq (snd_imul (by decide +kernel)) (snd_sq (snd_iconst (k := 4) (by decide) (by decide +kernel)) (snd_sq (snd_iload_n (k := 2) (by decide +kernel) rfl) (snd_sq (snd_imul (by decide +kernel)) (snd_sq (snd_iadd (by decide +kernel)) (snd_sq (snd_iload_n (k := 3) (by decide +kernel) rfl) (snd_sq (snd_iadd (by decide +kernel)) (snd_iald (by decide +kernel)))))))))))))
set_option maxRecDepth 20000 in
theorem r_X7_valueIn_15 : RtI mX7_valueIn 15 := rt_I (by decide +kernel) rfl
/-! ClaimChainsModel.find(IIII)I -/
set_option maxRecDepth 20000 in
theorem s_X7_find_0 : Snd mX7_find 0 (sq (opCi (0)) (opStI 5)) 3 := (snd_sq (snd_iconst (k := 0) (by decide) (by decide +kernel)) (snd_istore (by decide +kernel) (by decide)))
set_option maxRecDepth 20000 in
theorem s_X7_find_3 : Snd mX7_find 3 (sq (opLdI 5) (sq (opLdA 0) (opGetI 7 1))) 9 := (snd_sq (snd_iload (by decide +kernel)) (snd_sq (snd_aload_n (k := 0) (by decide +kernel) rfl) (snd_getI (ci := 7) (k := 1) (by decide +kernel) rfl (by decide) (by decide) (by decide) iw_7 w807)))
set_option maxRecDepth 20000 in
theorem b_X7_find_9 : Br_ic_ge mX7_find 9 88 := br_ic_ge (off := 79) (by decide +kernel) (by decide)
set_option maxRecDepth 20000 in
theorem s_X7_find_12 : Snd mX7_find 12 (sq (opLdA 0) (sq (opGetR 7 2) (sq (opLdI 5) (sq opIald (opLdI 1))))) 20 := (snd_sq (snd_aload_n (k := 0) (by decide +kernel) rfl) (snd_sq (snd_getR (ci := 7) (k := 2) (by decide +kernel) rfl (by decide) (by decide) rfl iw_7 w808) (snd_sq (snd_iload (by decide +kernel)) (snd_sq (snd_iald (by decide +kernel)) (snd_iload_n (k := 1) (by decide +kernel) rfl)))))
set_option maxRecDepth 20000 in
theorem b_X7_find_20 : Br_ic_ne mX7_find 20 71 := br_ic_ne (off := 51) (by decide +kernel) (by decide)
set_option maxRecDepth 20000 in
theorem s_X7_find_23 : Snd mX7_find 23 (sq (opLdA 0) (sq (opGetR 7 3) (sq (opCi (3)) (sq (opLdI 5) (sq opimul (sq opIald (opLdI 2))))))) 33 := (snd_sq (snd_aload_n (k := 0) (by decide +kernel) rfl) (snd_sq (snd_getR (ci := 7) (k := 3) (by decide +kernel) rfl (by decide) (by decide) rfl iw_7 w809) (snd_sq (snd_iconst (k := 3) (by decide) (by decide +kernel)) (snd_sq (snd_iload (by decide +kernel)) (snd_sq (snd_imul (by decide +kernel)) (snd_sq (snd_iald (by decide +kernel)) (snd_iload_n (k := 2) (by decide +kernel) rfl)))))))
set_option maxRecDepth 20000 in
theorem b_X7_find_33 : Br_ic_ne mX7_find 33 71 := br_ic_ne (off := 38) (by decide +kernel) (by decide)
set_option maxRecDepth 20000 in
theorem s_X7_find_36 : Snd mX7_find 36 (sq (opLdA 0) (sq (opGetR 7 3) (sq (opCi (3)) (sq (opLdI 5) (sq opimul (sq (opCi (1)) (sq opiadd (sq opIald (opLdI 3))))))))) 48 := (snd_sq (snd_aload_n (k := 0) (by decide +kernel) rfl) (snd_sq (snd_getR (ci := 7) (k := 3) (by decide +kernel) rfl (by decide) (by decide) rfl iw_7 w809) (snd_sq (snd_iconst (k := 3) (by decide) (by decide +kernel)) (snd_sq (snd_iload (by decide +kernel)) (snd_sq (snd_imul (by decide +kernel)) (snd_sq (snd_iconst (k := 1) (by decide) (by decide +kernel)) (snd_sq (snd_iadd (by decide +kernel)) (snd_sq (snd_iald (by decide +kernel)) (snd_iload_n (k := 3) (by decide +kernel) rfl)))))))))
set_option maxRecDepth 20000 in
theorem b_X7_find_48 : Br_ic_ne mX7_find 48 71 := br_ic_ne (off := 23) (by decide +kernel) (by decide)
set_option maxRecDepth 20000 in
theorem s_X7_find_51 : Snd mX7_find 51 (sq (opLdA 0) (sq (opGetR 7 3) (sq (opCi (3)) (sq (opLdI 5) (sq opimul (sq (opCi (2)) (sq opiadd (sq opIald (opLdI 4))))))))) 64 := (snd_sq (snd_aload_n (k := 0) (by decide +kernel) rfl) (snd_sq (snd_getR (ci := 7) (k := 3) (by decide +kernel) rfl (by decide) (by decide) rfl iw_7 w809) (snd_sq (snd_iconst (k := 3) (by decide) (by decide +kernel)) (snd_sq (snd_iload (by decide +kernel)) (snd_sq (snd_imul (by decide +kernel)) (snd_sq (snd_iconst (k := 2) (by decide) (by decide +kernel)) (snd_sq (snd_iadd (by decide +kernel)) (snd_sq (snd_iald (by decide +kernel)) (snd_iload (by decide +kernel))))))))))
set_option maxRecDepth 20000 in
theorem b_X7_find_64 : Br_ic_ne mX7_find 64 71 := br_ic_ne (off := 7) (by decide +kernel) (by decide)
set_option maxRecDepth 20000 in
theorem s_X7_find_67 : Snd mX7_find 67 (sq (opCi (1)) opNop) 72 := (snd_sq (snd_iconst (k := 1) (by decide) (by decide +kernel)) (snd_goto (off := 4) (by decide +kernel) (by decide)))
set_option maxRecDepth 20000 in
theorem s_X7_find_71 : Snd mX7_find 71 (opCi (0)) 72 := (snd_iconst (k := 0) (by decide) (by decide +kernel))
set_option maxRecDepth 20000 in
theorem s_X7_find_72 : Snd mX7_find 72 (sq (opStI 6) (opLdI 6)) 76 := (snd_sq (snd_istore (by decide +kernel) (by decide)) (snd_iload (by decide +kernel)))
set_option maxRecDepth 20000 in
theorem b_X7_find_76 : Br_if_eq mX7_find 76 82 := br_if_eq (off := 6) (by decide +kernel) (by decide)
set_option maxRecDepth 20000 in
theorem s_X7_find_79 : Snd mX7_find 79 (opLdI 5) 81 := (snd_iload (by decide +kernel))
set_option maxRecDepth 20000 in
theorem r_X7_find_81 : RtI mX7_find 81 := rt_I (by decide +kernel) rfl
set_option maxRecDepth 20000 in
theorem s_X7_find_82 : Snd mX7_find 82 (sq (opInc 5 (1)) opNop) 3 := (snd_sq (snd_iinc (k := 1) (by decide +kernel) (by decide) (by decide)) (snd_goto (off := -82) (by decide +kernel) (by decide)))
set_option maxRecDepth 20000 in
theorem s_X7_find_88 : Snd mX7_find 88 (opCi (-9)) 90 := (snd_bipush (k := -9) (by decide) (by decide +kernel))
set_option maxRecDepth 20000 in
theorem r_X7_find_90 : RtI mX7_find 90 := rt_I (by decide +kernel) rfl
/-! ClaimChainsModel.evaluated(III)I -/
set_option maxRecDepth 20000 in
theorem s_X7_evaluated_0 : Snd mX7_evaluated 0 (sq (opLdA 0) (sq (opGetR 7 3) (sq (opCi (3)) (sq (opLdI 1) (sq opimul (sq opIald (sq (opStI 4) (sq (opLdA 0) (sq (opGetR 7 2) (sq (opLdI 1) (sq opIald (opCi (2))))))))))))) 17 := (snd_sq (snd_aload_n (k := 0) (by decide +kernel) rfl) (snd_sq (snd_getR (ci := 7) (k := 3) (by decide +kernel) rfl (by decide) (by decide) rfl iw_7 w809) (snd_sq (snd_iconst (k := 3) (by decide) (by decide +kernel)) (snd_sq (snd_iload_n (k := 1) (by decide +kernel) rfl) (snd_sq (snd_imul (by decide +kernel)) (snd_sq (snd_iald (by decide +kernel)) (snd_sq (snd_istore (by decide +kernel) (by decide)) (snd_sq (snd_aload_n (k := 0) (by decide +kernel) rfl) (snd_sq (snd_getR (ci := 7) (k := 2) (by decide +kernel) rfl (by decide) (by decide) rfl iw_7 w808) (snd_sq (snd_iload_n (k := 1) (by decide +kernel) rfl) (snd_sq (snd_iald (by decide +kernel)) (snd_iconst (k := 2) (by decide) (by decide +kernel)))))))))))))
set_option maxRecDepth 20000 in
theorem b_X7_evaluated_17 : Br_ic_le mX7_evaluated 17 31 := br_ic_le (off := 14) (by decide +kernel) (by decide)
set_option maxRecDepth 20000 in
theorem s_X7_evaluated_20 : Snd mX7_evaluated 20 (sq (opLdA 0) (sq (opLdI 4) (sq (opLdI 2) (opLdI 3)))) 25 := (snd_sq (snd_aload_n (k := 0) (by decide +kernel) rfl) (snd_sq (snd_iload (by decide +kernel)) (snd_sq (snd_iload_n (k := 2) (by decide +kernel) rfl) (snd_iload_n (k := 3) (by decide +kernel) rfl))))
set_option maxRecDepth 20000 in
theorem c_X7_evaluated_25 : CallV mX7_evaluated 25 mX7_valueIn 7 4 := kallV (site_V rfl w923 (by decide +kernel) w920 w922 w58 w97 ⟨by decide, by decide, by decide +kernel⟩) (by decide) (by decide) (by unfold clsNo; rfl)
set_option maxRecDepth 20000 in
theorem s_X7_evaluated_28 : Snd mX7_evaluated 28 opNop 32 := (snd_goto (off := 4) (by decide +kernel) (by decide))
set_option maxRecDepth 20000 in
theorem s_X7_evaluated_31 : Snd mX7_evaluated 31 (opCi (0)) 32 := (snd_iconst (k := 0) (by decide) (by decide +kernel))
set_option maxRecDepth 20000 in
theorem s_X7_evaluated_32 : Snd mX7_evaluated 32 (sq (opStI 5) (sq (opLdA 0) (sq (opGetR 7 2) (sq (opLdI 1) (sq opIald (opCi (3))))))) 41 := (snd_sq (snd_istore (by decide +kernel) (by decide)) (snd_sq (snd_aload_n (k := 0) (by decide +kernel) rfl) (snd_sq (snd_getR (ci := 7) (k := 2) (by decide +kernel) rfl (by decide) (by decide) rfl iw_7 w808) (snd_sq (snd_iload_n (k := 1) (by decide +kernel) rfl) (snd_sq (snd_iald (by decide +kernel)) (snd_iconst (k := 3) (by decide) (by decide +kernel)))))))
set_option maxRecDepth 20000 in
theorem b_X7_evaluated_41 : Br_ic_le mX7_evaluated 41 63 := br_ic_le (off := 22) (by decide +kernel) (by decide)
set_option maxRecDepth 20000 in
theorem s_X7_evaluated_44 : Snd mX7_evaluated 44 (sq (opLdA 0) (sq (opLdA 0) (sq (opGetR 7 3) (sq (opCi (3)) (sq (opLdI 1) (sq opimul (sq (opCi (1)) (sq opiadd (sq opIald (sq (opLdI 2) (opLdI 3))))))))))) 57 := (snd_sq (snd_aload_n (k := 0) (by decide +kernel) rfl) (snd_sq (snd_aload_n (k := 0) (by decide +kernel) rfl) (snd_sq (snd_getR (ci := 7) (k := 3) (by decide +kernel) rfl (by decide) (by decide) rfl iw_7 w809) (snd_sq (snd_iconst (k := 3) (by decide) (by decide +kernel)) (snd_sq (snd_iload_n (k := 1) (by decide +kernel) rfl) (snd_sq (snd_imul (by decide +kernel)) (snd_sq (snd_iconst (k := 1) (by decide) (by decide +kernel)) (snd_sq (snd_iadd (by decide +kernel)) (snd_sq (snd_iald (by decide +kernel)) (snd_sq (snd_iload_n (k := 2) (by decide +kernel) rfl) (snd_iload_n (k := 3) (by decide +kernel) rfl)))))))))))
set_option maxRecDepth 20000 in
theorem c_X7_evaluated_57 : CallV mX7_evaluated 57 mX7_valueIn 7 4 := kallV (site_V rfl w923 (by decide +kernel) w920 w922 w58 w97 ⟨by decide, by decide, by decide +kernel⟩) (by decide) (by decide) (by unfold clsNo; rfl)
set_option maxRecDepth 20000 in
theorem s_X7_evaluated_60 : Snd mX7_evaluated 60 opNop 64 := (snd_goto (off := 4) (by decide +kernel) (by decide))
set_option maxRecDepth 20000 in
theorem s_X7_evaluated_63 : Snd mX7_evaluated 63 (opCi (0)) 64 := (snd_iconst (k := 0) (by decide) (by decide +kernel))
set_option maxRecDepth 20000 in
theorem s_X7_evaluated_64 : Snd mX7_evaluated 64 (sq (opStI 6) (sq (opLdA 0) (sq (opGetR 7 2) (sq (opLdI 1) opIald)))) 72 := (snd_sq (snd_istore (by decide +kernel) (by decide)) (snd_sq (snd_aload_n (k := 0) (by decide +kernel) rfl) (snd_sq (snd_getR (ci := 7) (k := 2) (by decide +kernel) rfl (by decide) (by decide) rfl iw_7 w808) (snd_sq (snd_iload_n (k := 1) (by decide +kernel) rfl) (snd_iald (by decide +kernel))))))
set_option maxRecDepth 20000 in
theorem hw_X7_evaluated_72 : decode (MI.bytes mX7_evaluated) 72 = .ok (.tableswitch 99 0 6 #[44, 47, 54, 61, 66, 72, 86], 44) := by decide +kernel
set_option maxRecDepth 20000 in
theorem w_X7_evaluated_72 {d cap : Nat} {L : LT} {x : Int32} {st : List Value} {n : Nat} {R : RT} {I : IT} {J : JT} {Q : QT} (k0 : x = 0 → Ends mX7_evaluated d cap 116 L st n R I J Q) (k1 : x = 1 → Ends mX7_evaluated d cap 119 L st n R I J Q) (k2 : x = 2 → Ends mX7_evaluated d cap 126 L st n R I J Q) (k3 : x = 3 → Ends mX7_evaluated d cap 133 L st n R I J Q) (k4 : x = 4 → Ends mX7_evaluated d cap 138 L st n R I J Q) (k5 : x = 5 → Ends mX7_evaluated d cap 144 L st n R I J Q) (k6 : x = 6 → Ends mX7_evaluated d cap 158 L st n R I J Q) (kd : ¬ x = 0 → ¬ x = 1 → ¬ x = 2 → ¬ x = 3 → ¬ x = 4 → ¬ x = 5 → ¬ x = 6 → Ends mX7_evaluated d cap 171 L st n R I J Q) : Ends mX7_evaluated d cap 72 L (.int x :: st) n R I J Q := by
  by_cases h0 : x.toInt < 0 ∨ 6 < x.toInt
  · exact sw_out hw_X7_evaluated_72 h0 (by decide) (kd (fun h => by subst h; revert h0; decide) (fun h => by subst h; revert h0; decide) (fun h => by subst h; revert h0; decide) (fun h => by subst h; revert h0; decide) (fun h => by subst h; revert h0; decide) (fun h => by subst h; revert h0; decide) (fun h => by subst h; revert h0; decide))
  · have h1 : x.toInt = 0 ∨ x.toInt = 1 ∨ x.toInt = 2 ∨ x.toInt = 3 ∨ x.toInt = 4 ∨ x.toInt = 5 ∨ x.toInt = 6 := by omega
    rcases h1 with h1 | h1 | h1 | h1 | h1 | h1 | h1
    · have h2 : x = 0 := i32_of h1 (by decide)
      subst h2
      exact sw_in (off := 44) hw_X7_evaluated_72 (by decide) (by decide) (by decide +kernel) (by decide) (k0 rfl)
    · have h2 : x = 1 := i32_of h1 (by decide)
      subst h2
      exact sw_in (off := 47) hw_X7_evaluated_72 (by decide) (by decide) (by decide +kernel) (by decide) (k1 rfl)
    · have h2 : x = 2 := i32_of h1 (by decide)
      subst h2
      exact sw_in (off := 54) hw_X7_evaluated_72 (by decide) (by decide) (by decide +kernel) (by decide) (k2 rfl)
    · have h2 : x = 3 := i32_of h1 (by decide)
      subst h2
      exact sw_in (off := 61) hw_X7_evaluated_72 (by decide) (by decide) (by decide +kernel) (by decide) (k3 rfl)
    · have h2 : x = 4 := i32_of h1 (by decide)
      subst h2
      exact sw_in (off := 66) hw_X7_evaluated_72 (by decide) (by decide) (by decide +kernel) (by decide) (k4 rfl)
    · have h2 : x = 5 := i32_of h1 (by decide)
      subst h2
      exact sw_in (off := 72) hw_X7_evaluated_72 (by decide) (by decide) (by decide +kernel) (by decide) (k5 rfl)
    · have h2 : x = 6 := i32_of h1 (by decide)
      subst h2
      exact sw_in (off := 86) hw_X7_evaluated_72 (by decide) (by decide) (by decide +kernel) (by decide) (k6 rfl)
set_option maxRecDepth 20000 in
theorem s_X7_evaluated_116 : Snd mX7_evaluated 116 (opLdI 4) 118 := (snd_iload (by decide +kernel))
set_option maxRecDepth 20000 in
theorem r_X7_evaluated_118 : RtI mX7_evaluated 118 := rt_I (by decide +kernel) rfl
set_option maxRecDepth 20000 in
theorem s_X7_evaluated_119 : Snd mX7_evaluated 119 (sq (opLdI 2) (opLdI 4)) 122 := (snd_sq (snd_iload_n (k := 2) (by decide +kernel) rfl) (snd_iload (by decide +kernel)))
set_option maxRecDepth 20000 in
theorem c_X7_evaluated_122 : CallS mX7_evaluated 122 mX7_isIn 2 := kallS (site_S w926 (by decide +kernel) w924 w925 w97 ⟨by decide, by decide, by decide +kernel⟩) (by decide)
set_option maxRecDepth 20000 in
theorem r_X7_evaluated_125 : RtI mX7_evaluated 125 := rt_I (by decide +kernel) rfl
set_option maxRecDepth 20000 in
theorem s_X7_evaluated_126 : Snd mX7_evaluated 126 (sq (opLdI 3) (opLdI 4)) 129 := (snd_sq (snd_iload_n (k := 3) (by decide +kernel) rfl) (snd_iload (by decide +kernel)))
set_option maxRecDepth 20000 in
theorem c_X7_evaluated_129 : CallS mX7_evaluated 129 mX7_isIn 2 := kallS (site_S w926 (by decide +kernel) w924 w925 w97 ⟨by decide, by decide, by decide +kernel⟩) (by decide)
set_option maxRecDepth 20000 in
theorem r_X7_evaluated_132 : RtI mX7_evaluated 132 := rt_I (by decide +kernel) rfl
set_option maxRecDepth 20000 in
theorem s_X7_evaluated_133 : Snd mX7_evaluated 133 (sq (opCi (1)) (sq (opLdI 5) opisub)) 137 := (snd_sq (snd_iconst (k := 1) (by decide) (by decide +kernel)) (snd_sq (snd_iload (by decide +kernel)) (snd_isub (by decide +kernel))))
set_option maxRecDepth 20000 in
theorem r_X7_evaluated_137 : RtI mX7_evaluated 137 := rt_I (by decide +kernel) rfl
set_option maxRecDepth 20000 in
theorem s_X7_evaluated_138 : Snd mX7_evaluated 138 (sq (opLdI 5) (sq (opLdI 6) opimul)) 143 := (snd_sq (snd_iload (by decide +kernel)) (snd_sq (snd_iload (by decide +kernel)) (snd_imul (by decide +kernel))))
set_option maxRecDepth 20000 in
theorem r_X7_evaluated_143 : RtI mX7_evaluated 143 := rt_I (by decide +kernel) rfl
set_option maxRecDepth 20000 in
theorem s_X7_evaluated_144 : Snd mX7_evaluated 144 (sq (opLdI 5) (sq (opLdI 6) opiadd)) 149 := (snd_sq (snd_iload (by decide +kernel)) (snd_sq (snd_iload (by decide +kernel)) (snd_iadd (by decide +kernel))))
set_option maxRecDepth 20000 in
theorem b_X7_evaluated_149 : Br_if_le mX7_evaluated 149 156 := br_if_le (off := 7) (by decide +kernel) (by decide)
set_option maxRecDepth 20000 in
theorem s_X7_evaluated_152 : Snd mX7_evaluated 152 (sq (opCi (1)) opNop) 157 := (snd_sq (snd_iconst (k := 1) (by decide) (by decide +kernel)) (snd_goto (off := 4) (by decide +kernel) (by decide)))
set_option maxRecDepth 20000 in
theorem s_X7_evaluated_156 : Snd mX7_evaluated 156 (opCi (0)) 157 := (snd_iconst (k := 0) (by decide) (by decide +kernel))
set_option maxRecDepth 20000 in
theorem r_X7_evaluated_157 : RtI mX7_evaluated 157 := rt_I (by decide +kernel) rfl
set_option maxRecDepth 20000 in
theorem s_X7_evaluated_158 : Snd mX7_evaluated 158 (sq (opLdI 5) (opLdI 6)) 162 := (snd_sq (snd_iload (by decide +kernel)) (snd_iload (by decide +kernel)))
set_option maxRecDepth 20000 in
theorem b_X7_evaluated_162 : Br_ic_ne mX7_evaluated 162 169 := br_ic_ne (off := 7) (by decide +kernel) (by decide)
set_option maxRecDepth 20000 in
theorem s_X7_evaluated_165 : Snd mX7_evaluated 165 (sq (opCi (0)) opNop) 170 := (snd_sq (snd_iconst (k := 0) (by decide) (by decide +kernel)) (snd_goto (off := 4) (by decide +kernel) (by decide)))
set_option maxRecDepth 20000 in
theorem s_X7_evaluated_169 : Snd mX7_evaluated 169 (opCi (1)) 170 := (snd_iconst (k := 1) (by decide) (by decide +kernel))
set_option maxRecDepth 20000 in
theorem r_X7_evaluated_170 : RtI mX7_evaluated 170 := rt_I (by decide +kernel) rfl
set_option maxRecDepth 20000 in
theorem s_X7_evaluated_171 : Snd mX7_evaluated 171 (sq (opLdI 5) (opCi (1))) 174 := (snd_sq (snd_iload (by decide +kernel)) (snd_iconst (k := 1) (by decide) (by decide +kernel)))
set_option maxRecDepth 20000 in
theorem b_X7_evaluated_174 : Br_ic_ne mX7_evaluated 174 182 := br_ic_ne (off := 8) (by decide +kernel) (by decide)
set_option maxRecDepth 20000 in
theorem s_X7_evaluated_177 : Snd mX7_evaluated 177 (sq (opLdI 6) opNop) 198 := (snd_sq (snd_iload (by decide +kernel)) (snd_goto (off := 19) (by decide +kernel) (by decide)))
set_option maxRecDepth 20000 in
theorem s_X7_evaluated_182 : Snd mX7_evaluated 182 (sq (opLdA 0) (sq (opLdA 0) (sq (opGetR 7 3) (sq (opCi (3)) (sq (opLdI 1) (sq opimul (sq (opCi (2)) (sq opiadd (sq opIald (sq (opLdI 2) (opLdI 3))))))))))) 195 := (snd_sq (snd_aload_n (k := 0) (by decide +kernel) rfl) (snd_sq (snd_aload_n (k := 0) (by decide +kernel) rfl) (snd_sq (snd_getR (ci := 7) (k := 3) (by decide +kernel) rfl (by decide) (by decide) rfl iw_7 w809) (snd_sq (snd_iconst (k := 3) (by decide) (by decide +kernel)) (snd_sq (snd_iload_n (k := 1) (by decide +kernel) rfl) (snd_sq (snd_imul (by decide +kernel)) (snd_sq (snd_iconst (k := 2) (by decide) (by decide +kernel)) (snd_sq (snd_iadd (by decide +kernel)) (snd_sq (snd_iald (by decide +kernel)) (snd_sq (snd_iload_n (k := 2) (by decide +kernel) rfl) (snd_iload_n (k := 3) (by decide +kernel) rfl)))))))))))
set_option maxRecDepth 20000 in
theorem c_X7_evaluated_195 : CallV mX7_evaluated 195 mX7_valueIn 7 4 := kallV (site_V rfl w923 (by decide +kernel) w920 w922 w58 w97 ⟨by decide, by decide, by decide +kernel⟩) (by decide) (by decide) (by unfold clsNo; rfl)
set_option maxRecDepth 20000 in
theorem r_X7_evaluated_198 : RtI mX7_evaluated 198 := rt_I (by decide +kernel) rfl
/-! ClaimChainsModel.takes(II)V -/
set_option maxRecDepth 20000 in
theorem s_X7_takes_0 : Snd mX7_takes 0 (sq (opLdI 2) (opCi (-9))) 3 := (snd_sq (snd_iload_n (k := 2) (by decide +kernel) rfl) (snd_bipush (k := -9) (by decide) (by decide +kernel)))
set_option maxRecDepth 20000 in
theorem b_X7_takes_3 : Br_ic_eq mX7_takes 3 91 := br_ic_eq (off := 88) (by decide +kernel) (by decide)
set_option maxRecDepth 20000 in
theorem s_X7_takes_6 : Snd mX7_takes 6 (sq (opLdA 0) (sq (opGetR 7 4) (sq (opLdI 1) (sq opDup2 (sq opIald (sq (opLdA 0) (sq (opGetR 7 4) (sq (opLdI 2) (sq opIald (sq opior (sq opIast (sq (opLdA 0) (sq (opGetR 7 5) (sq (opLdI 1) (sq opDup2 (sq opIald (sq (opLdA 0) (sq (opGetR 7 5) (sq (opLdI 2) (sq opIald (sq opior (sq opIast (sq (opLdA 0) (sq (opGetR 7 6) (sq (opLdI 1) (sq (opLdA 0) (sq (opGetR 7 6) (sq (opLdI 2) (sq opIald (sq (opCi (1)) (sq opiadd (sq (opLdA 0) (sq (opGetR 7 6) (sq (opLdI 1) opIald)))))))))))))))))))))))))))))))))) 55 := (snd_sq (snd_aload_n (k := 0) (by decide +kernel) rfl) (snd_sq (snd_getR (ci := 7) (k := 4) (by decide +kernel) rfl (by decide) (by decide) rfl iw_7 w810) (snd_sq (snd_iload_n (k := 1) (by decide +kernel) rfl) (snd_sq (snd_dup2 (by decide +kernel)) (snd_sq (snd_iald (by decide +kernel)) (snd_sq (snd_aload_n (k := 0) (by decide +kernel) rfl) (snd_sq (snd_getR (ci := 7) (k := 4) (by decide +kernel) rfl (by decide) (by decide) rfl iw_7 w810) (snd_sq (snd_iload_n (k := 2) (by decide +kernel) rfl) (snd_sq (snd_iald (by decide +kernel)) (snd_sq (snd_ior (by decide +kernel)) (snd_sq (snd_iast (by decide +kernel)) (snd_sq (snd_aload_n (k := 0) (by decide +kernel) rfl) (snd_sq (snd_getR (ci := 7) (k := 5) (by decide +kernel) rfl (by decide) (by decide) rfl iw_7 w811) (snd_sq (snd_iload_n (k := 1) (by decide +kernel) rfl) (snd_sq (snd_dup2 (by decide +kernel)) (snd_sq (snd_iald (by decide +kernel)) (snd_sq (snd_aload_n (k := 0) (by decide +kernel) rfl) (snd_sq (snd_getR (ci := 7) (k := 5) (by decide +kernel) rfl (by decide) (by decide) rfl iw_7 w811) (snd_sq (snd_iload_n (k := 2) (by decide +kernel) rfl) (snd_sq (snd_iald (by decide +kernel)) (snd_sq (snd_ior (by decide +kernel)) (snd_sq (snd_iast (by decide +kernel)) (snd_sq (snd_aload_n (k := 0) (by decide +kernel) rfl) (snd_sq (snd_getR (ci := 7) (k := 6) (by decide +kernel) rfl (by decide) (by decide) rfl iw_7 w812) (snd_sq (snd_iload_n (k := 1) (by decide +kernel) rfl) (snd_sq (snd_aload_n (k := 0) (by decide +kernel) rfl) (snd_sq (snd_getR (ci := 7) (k := 6) (by decide +kernel) rfl (by decide) (by decide) rfl iw_7 w812) (snd_sq (snd_iload_n (k := 2) (by decide +kernel) rfl) (snd_sq (snd_iald (by decide +kernel)) (snd_sq (snd_iconst (k := 1) (by decide) (by decide +kernel)) (snd_sq (snd_iadd (by decide +kernel)) (snd_sq (snd_aload_n (k := 0) (by decide +kernel) rfl) (snd_sq (snd_getR (ci := 7) (k := 6) (by decide +kernel) rfl (by decide) (by decide) rfl iw_7 w812) (snd_sq (snd_iload_n (k := 1) (by decide +kernel) rfl) (snd_iald (by decide +kernel))))))))))))))))))))))))))))))))))))
set_option maxRecDepth 20000 in
theorem b_X7_takes_55 : Br_ic_le mX7_takes 55 69 := br_ic_le (off := 14) (by decide +kernel) (by decide)
set_option maxRecDepth 20000 in
theorem s_X7_takes_58 : Snd mX7_takes 58 (sq (opLdA 0) (sq (opGetR 7 6) (sq (opLdI 2) (sq opIald (sq (opCi (1)) (sq opiadd opNop)))))) 75 := (snd_sq (snd_aload_n (k := 0) (by decide +kernel) rfl) (snd_sq (snd_getR (ci := 7) (k := 6) (by decide +kernel) rfl (by decide) (by decide) rfl iw_7 w812) (snd_sq (snd_iload_n (k := 2) (by decide +kernel) rfl) (snd_sq (snd_iald (by decide +kernel)) (snd_sq (snd_iconst (k := 1) (by decide) (by decide +kernel)) (snd_sq (snd_iadd (by decide +kernel)) (snd_goto (off := 9) (by decide +kernel) (by decide))))))))
set_option maxRecDepth 20000 in
theorem s_X7_takes_69 : Snd mX7_takes 69 (sq (opLdA 0) (sq (opGetR 7 6) (sq (opLdI 1) opIald))) 75 := (snd_sq (snd_aload_n (k := 0) (by decide +kernel) rfl) (snd_sq (snd_getR (ci := 7) (k := 6) (by decide +kernel) rfl (by decide) (by decide) rfl iw_7 w812) (snd_sq (snd_iload_n (k := 1) (by decide +kernel) rfl) (snd_iald (by decide +kernel)))))
set_option maxRecDepth 20000 in
theorem s_X7_takes_75 : Snd mX7_takes 75 (sq opIast (sq (opLdA 0) (sq (opGetR 7 7) (sq (opLdI 1) (sq opDup2 (sq opLald (sq (opLdA 0) (sq (opGetR 7 7) (sq (opLdI 2) (sq opLald (sq opladd opLast))))))))))) 91 := (snd_sq (snd_iast (by decide +kernel)) (snd_sq (snd_aload_n (k := 0) (by decide +kernel) rfl) (snd_sq (snd_getR (ci := 7) (k := 7) (by decide +kernel) rfl (by decide) (by decide) rfl iw_7 w813) (snd_sq (snd_iload_n (k := 1) (by decide +kernel) rfl) (snd_sq (snd_dup2 (by decide +kernel)) (snd_sq (snd_lald (by decide +kernel)) (snd_sq (snd_aload_n (k := 0) (by decide +kernel) rfl) (snd_sq (snd_getR (ci := 7) (k := 7) (by decide +kernel) rfl (by decide) (by decide) rfl iw_7 w813) (snd_sq (snd_iload_n (k := 2) (by decide +kernel) rfl) (snd_sq (snd_lald (by decide +kernel)) (snd_sq (snd_ladd (by decide +kernel)) (snd_last (by decide +kernel)))))))))))))
set_option maxRecDepth 20000 in
theorem r_X7_takes_91 : RtV mX7_takes 91 := rt_V (by decide +kernel) rfl
/-! ClaimChainsModel.comes(IIII)I -/
set_option maxRecDepth 20000 in
theorem s_X7_comes_0 : Snd mX7_comes 0 (sq (opLdA 0) (sq (opLdI 1) (sq (opLdI 2) (sq (opLdI 3) (opLdI 4))))) 6 := (snd_sq (snd_aload_n (k := 0) (by decide +kernel) rfl) (snd_sq (snd_iload_n (k := 1) (by decide +kernel) rfl) (snd_sq (snd_iload_n (k := 2) (by decide +kernel) rfl) (snd_sq (snd_iload_n (k := 3) (by decide +kernel) rfl) (snd_iload (by decide +kernel))))))
set_option maxRecDepth 20000 in
theorem c_X7_comes_6 : CallV mX7_comes 6 mX7_find 7 5 := kallV (site_V rfl w911 (by decide +kernel) w908 w910 w55 w97 ⟨by decide, by decide, by decide +kernel⟩) (by decide) (by decide) (by unfold clsNo; rfl)
set_option maxRecDepth 20000 in
theorem s_X7_comes_9 : Snd mX7_comes 9 (sq (opStI 5) (sq (opLdI 5) (opCi (-9)))) 15 := (snd_sq (snd_istore (by decide +kernel) (by decide)) (snd_sq (snd_iload (by decide +kernel)) (snd_bipush (k := -9) (by decide) (by decide +kernel))))
set_option maxRecDepth 20000 in
theorem b_X7_comes_15 : Br_ic_ne mX7_comes 15 27 := br_ic_ne (off := 12) (by decide +kernel) (by decide)
set_option maxRecDepth 20000 in
theorem s_X7_comes_18 : Snd mX7_comes 18 (sq (opLdA 0) (sq (opGetI 7 1) (opCi (40)))) 24 := (snd_sq (snd_aload_n (k := 0) (by decide +kernel) rfl) (snd_sq (snd_getI (ci := 7) (k := 1) (by decide +kernel) rfl (by decide) (by decide) (by decide) iw_7 w807) (snd_bipush (k := 40) (by decide) (by decide +kernel))))
set_option maxRecDepth 20000 in
theorem b_X7_comes_24 : Br_ic_ne mX7_comes 24 42 := br_ic_ne (off := 18) (by decide +kernel) (by decide)
set_option maxRecDepth 20000 in
theorem s_X7_comes_27 : Snd mX7_comes 27 (sq (opLdI 5) (opCi (-9))) 31 := (snd_sq (snd_iload (by decide +kernel)) (snd_bipush (k := -9) (by decide) (by decide +kernel)))
set_option maxRecDepth 20000 in
theorem b_X7_comes_31 : Br_ic_eq mX7_comes 31 39 := br_ic_eq (off := 8) (by decide +kernel) (by decide)
set_option maxRecDepth 20000 in
theorem s_X7_comes_34 : Snd mX7_comes 34 (sq (opLdI 5) opNop) 41 := (snd_sq (snd_iload (by decide +kernel)) (snd_goto (off := 5) (by decide +kernel) (by decide)))
set_option maxRecDepth 20000 in
theorem s_X7_comes_39 : Snd mX7_comes 39 (opCi (-4)) 41 := (snd_bipush (k := -4) (by decide) (by decide +kernel))
set_option maxRecDepth 20000 in
theorem r_X7_comes_41 : RtI mX7_comes 41 := rt_I (by decide +kernel) rfl
set_option maxRecDepth 20000 in
theorem s_X7_comes_42 : Snd mX7_comes 42 (sq (opLdA 0) (sq (opGetI 7 1) (sq (opStI 6) (sq (opLdA 0) (sq (opGetR 7 2) (sq (opLdI 6) (sq (opLdI 1) (sq opIast (sq (opLdA 0) (sq (opGetR 7 3) (sq (opCi (3)) (sq (opLdI 6) (sq opimul (sq (opLdI 2) (sq opIast (sq (opLdA 0) (sq (opGetR 7 3) (sq (opCi (3)) (sq (opLdI 6) (sq opimul (sq (opCi (1)) (sq opiadd (sq (opLdI 3) (sq opIast (sq (opLdA 0) (sq (opGetR 7 3) (sq (opCi (3)) (sq (opLdI 6) (sq opimul (sq (opCi (2)) (sq opiadd (sq (opLdI 4) (sq opIast (sq (opLdA 0) (sq (opGetR 7 4) (sq (opLdI 6) (sq (opLdI 1) (opCi (1))))))))))))))))))))))))))))))))))))))) 99 := (snd_sq (snd_aload_n (k := 0) (by decide +kernel) rfl) (snd_sq (snd_getI (ci := 7) (k := 1) (by decide +kernel) rfl (by decide) (by decide) (by decide) iw_7 w807) (snd_sq (snd_istore (by decide +kernel) (by decide)) (snd_sq (snd_aload_n (k := 0) (by decide +kernel) rfl) (snd_sq (snd_getR (ci := 7) (k := 2) (by decide +kernel) rfl (by decide) (by decide) rfl iw_7 w808) (snd_sq (snd_iload (by decide +kernel)) (snd_sq (snd_iload_n (k := 1) (by decide +kernel) rfl) (snd_sq (snd_iast (by decide +kernel)) (snd_sq (snd_aload_n (k := 0) (by decide +kernel) rfl) (snd_sq (snd_getR (ci := 7) (k := 3) (by decide +kernel) rfl (by decide) (by decide) rfl iw_7 w809) (snd_sq (snd_iconst (k := 3) (by decide) (by decide +kernel)) (snd_sq (snd_iload (by decide +kernel)) (snd_sq (snd_imul (by decide +kernel)) (snd_sq (snd_iload_n (k := 2) (by decide +kernel) rfl) (snd_sq (snd_iast (by decide +kernel)) (snd_sq (snd_aload_n (k := 0) (by decide +kernel) rfl) (snd_sq (snd_getR (ci := 7) (k := 3) (by decide +kernel) rfl (by decide) (by decide) rfl iw_7 w809) (snd_sq (snd_iconst (k := 3) (by decide) (by decide +kernel)) (snd_sq (snd_iload (by decide +kernel)) (snd_sq (snd_imul (by decide +kernel)) (snd_sq (snd_iconst (k := 1) (by decide) (by decide +kernel)) (snd_sq (snd_iadd (by decide +kernel)) (snd_sq (snd_iload_n (k := 3) (by decide +kernel) rfl) (snd_sq (snd_iast (by decide +kernel)) (snd_sq (snd_aload_n (k := 0) (by decide +kernel) rfl) (snd_sq (snd_getR (ci := 7) (k := 3) (by decide +kernel) rfl (by decide) (by decide) rfl iw_7 w809) (snd_sq (snd_iconst (k := 3) (by decide) (by decide +kernel)) (snd_sq (snd_iload (by decide +kernel)) (snd_sq (snd_imul (by decide +kernel)) (snd_sq (snd_iconst (k := 2) (by decide) (by decide +kernel)) (snd_sq (snd_iadd (by decide +kernel)) (snd_sq (snd_iload (by decide +kernel)) (snd_sq (snd_iast (by decide +kernel)) (snd_sq (snd_aload_n (k := 0) (by decide +kernel) rfl) (snd_sq (snd_getR (ci := 7) (k := 4) (by decide +kernel) rfl (by decide) (by decide) rfl iw_7 w810) (snd_sq (snd_iload (by decide +kernel)) (snd_sq (snd_iload_n (k := 1) (by decide +kernel) rfl) (snd_iconst (k := 1) (by decide) (by decide +kernel)))))))))))))))))))))))))))))))))))))))
set_option maxRecDepth 20000 in
theorem b_X7_comes_99 : Br_ic_ne mX7_comes 99 108 := br_ic_ne (off := 9) (by decide +kernel) (by decide)
set_option maxRecDepth 20000 in
theorem s_X7_comes_102 : Snd mX7_comes 102 (sq (opCi (1)) (sq (opLdI 2) (sq opishl opNop))) 109 := (snd_sq (snd_iconst (k := 1) (by decide) (by decide +kernel)) (snd_sq (snd_iload_n (k := 2) (by decide +kernel) rfl) (snd_sq (snd_ishl (by decide +kernel)) (snd_goto (off := 4) (by decide +kernel) (by decide)))))
set_option maxRecDepth 20000 in
theorem s_X7_comes_108 : Snd mX7_comes 108 (opCi (0)) 109 := (snd_iconst (k := 0) (by decide) (by decide +kernel))
set_option maxRecDepth 20000 in
theorem s_X7_comes_109 : Snd mX7_comes 109 (sq opIast (sq (opLdA 0) (sq (opGetR 7 5) (sq (opLdI 6) (sq (opLdI 1) (opCi (2))))))) 118 := (snd_sq (snd_iast (by decide +kernel)) (snd_sq (snd_aload_n (k := 0) (by decide +kernel) rfl) (snd_sq (snd_getR (ci := 7) (k := 5) (by decide +kernel) rfl (by decide) (by decide) rfl iw_7 w811) (snd_sq (snd_iload (by decide +kernel)) (snd_sq (snd_iload_n (k := 1) (by decide +kernel) rfl) (snd_iconst (k := 2) (by decide) (by decide +kernel)))))))
set_option maxRecDepth 20000 in
theorem b_X7_comes_118 : Br_ic_ne mX7_comes 118 127 := br_ic_ne (off := 9) (by decide +kernel) (by decide)
set_option maxRecDepth 20000 in
theorem s_X7_comes_121 : Snd mX7_comes 121 (sq (opCi (1)) (sq (opLdI 2) (sq opishl opNop))) 128 := (snd_sq (snd_iconst (k := 1) (by decide) (by decide +kernel)) (snd_sq (snd_iload_n (k := 2) (by decide +kernel) rfl) (snd_sq (snd_ishl (by decide +kernel)) (snd_goto (off := 4) (by decide +kernel) (by decide)))))
set_option maxRecDepth 20000 in
theorem s_X7_comes_127 : Snd mX7_comes 127 (opCi (0)) 128 := (snd_iconst (k := 0) (by decide) (by decide +kernel))
set_option maxRecDepth 20000 in
theorem s_X7_comes_128 : Snd mX7_comes 128 (sq opIast (sq (opLdA 0) (sq (opGetR 7 6) (sq (opLdI 6) (sq (opCi (0)) (sq opIast (sq (opLdA 0) (sq (opGetR 7 7) (sq (opLdI 6) (sq (opLdI 1) (opCi (2)))))))))))) 145 := (snd_sq (snd_iast (by decide +kernel)) (snd_sq (snd_aload_n (k := 0) (by decide +kernel) rfl) (snd_sq (snd_getR (ci := 7) (k := 6) (by decide +kernel) rfl (by decide) (by decide) rfl iw_7 w812) (snd_sq (snd_iload (by decide +kernel)) (snd_sq (snd_iconst (k := 0) (by decide) (by decide +kernel)) (snd_sq (snd_iast (by decide +kernel)) (snd_sq (snd_aload_n (k := 0) (by decide +kernel) rfl) (snd_sq (snd_getR (ci := 7) (k := 7) (by decide +kernel) rfl (by decide) (by decide) rfl iw_7 w813) (snd_sq (snd_iload (by decide +kernel)) (snd_sq (snd_iload_n (k := 1) (by decide +kernel) rfl) (snd_iconst (k := 2) (by decide) (by decide +kernel))))))))))))
set_option maxRecDepth 20000 in
theorem b_X7_comes_145 : Br_ic_gt mX7_comes 145 152 := br_ic_gt (off := 7) (by decide +kernel) (by decide)
set_option maxRecDepth 20000 in
theorem s_X7_comes_148 : Snd mX7_comes 148 (sq (opCl (1)) opNop) 153 := (snd_sq (snd_lconst (k := 1) (by decide) (by decide +kernel)) (snd_goto (off := 4) (by decide +kernel) (by decide)))
set_option maxRecDepth 20000 in
theorem s_X7_comes_152 : Snd mX7_comes 152 (opCl (0)) 153 := (snd_lconst (k := 0) (by decide) (by decide +kernel))
set_option maxRecDepth 20000 in
theorem s_X7_comes_153 : Snd mX7_comes 153 (sq opLast (sq (opLdI 1) (opCi (2)))) 156 := (snd_sq (snd_last (by decide +kernel)) (snd_sq (snd_iload_n (k := 1) (by decide +kernel) rfl) (snd_iconst (k := 2) (by decide) (by decide +kernel))))
set_option maxRecDepth 20000 in
theorem b_X7_comes_156 : Br_ic_le mX7_comes 156 181 := br_ic_le (off := 25) (by decide +kernel) (by decide)
set_option maxRecDepth 20000 in
theorem s_X7_comes_159 : Snd mX7_comes 159 (sq (opLdA 0) (sq (opLdI 6) (opLdI 2))) 163 := (snd_sq (snd_aload_n (k := 0) (by decide +kernel) rfl) (snd_sq (snd_iload (by decide +kernel)) (snd_iload_n (k := 2) (by decide +kernel) rfl)))
set_option maxRecDepth 20000 in
theorem c_X7_comes_163 : CallV mX7_comes 163 mX7_takes 7 3 := kallV (site_V rfl w915 (by decide +kernel) w912 w914 w56 w97 ⟨by decide, by decide, by decide +kernel⟩) (by decide) (by decide) (by unfold clsNo; rfl)
set_option maxRecDepth 20000 in
theorem s_X7_comes_166 : Snd mX7_comes 166 (sq (opLdA 0) (sq (opLdI 6) (opLdI 3))) 170 := (snd_sq (snd_aload_n (k := 0) (by decide +kernel) rfl) (snd_sq (snd_iload (by decide +kernel)) (snd_iload_n (k := 3) (by decide +kernel) rfl)))
set_option maxRecDepth 20000 in
theorem c_X7_comes_170 : CallV mX7_comes 170 mX7_takes 7 3 := kallV (site_V rfl w915 (by decide +kernel) w912 w914 w56 w97 ⟨by decide, by decide, by decide +kernel⟩) (by decide) (by decide) (by unfold clsNo; rfl)
set_option maxRecDepth 20000 in
theorem s_X7_comes_173 : Snd mX7_comes 173 (sq (opLdA 0) (sq (opLdI 6) (opLdI 4))) 178 := (snd_sq (snd_aload_n (k := 0) (by decide +kernel) rfl) (snd_sq (snd_iload (by decide +kernel)) (snd_iload (by decide +kernel))))
set_option maxRecDepth 20000 in
theorem c_X7_comes_178 : CallV mX7_comes 178 mX7_takes 7 3 := kallV (site_V rfl w915 (by decide +kernel) w912 w914 w56 w97 ⟨by decide, by decide, by decide +kernel⟩) (by decide) (by decide) (by unfold clsNo; rfl)
set_option maxRecDepth 20000 in
theorem s_X7_comes_181 : Snd mX7_comes 181 (sq (opLdA 0) (sq opDup (sq (opGetI 7 1) (sq (opCi (1)) (sq opiadd (sq (opPutI 7 1) (sq (opCi (0)) (opStI 7)))))))) 194 := (snd_sq (snd_aload_n (k := 0) (by decide +kernel) rfl) (snd_sq (snd_dup (by decide +kernel)) (snd_sq (snd_getI (ci := 7) (k := 1) (by decide +kernel) rfl (by decide) (by decide) (by decide) iw_7 w807) (snd_sq (snd_iconst (k := 1) (by decide) (by decide +kernel)) (snd_sq (snd_iadd (by decide +kernel)) (snd_sq (snd_putI (ci := 7) (k := 1) (by decide +kernel) rfl (by decide) (by decide) (by decide) iw_7 tyX7_ok nmX7 rfl (tyX7_ok 1 (by decide)) w807) (snd_sq (snd_iconst (k := 0) (by decide) (by decide +kernel)) (snd_istore (by decide +kernel) (by decide)))))))))
set_option maxRecDepth 20000 in
theorem s_X7_comes_194 : Snd mX7_comes 194 (sq (opLdI 7) (opCi (16))) 198 := (snd_sq (snd_iload (by decide +kernel)) (snd_bipush (k := 16) (by decide) (by decide +kernel)))
set_option maxRecDepth 20000 in
theorem b_X7_comes_198 : Br_ic_ge mX7_comes 198 250 := br_ic_ge (off := 52) (by decide +kernel) (by decide)
set_option maxRecDepth 20000 in
theorem s_X7_comes_201 : Snd mX7_comes 201 (sq (opCi (0)) (opStI 8)) 204 := (snd_sq (snd_iconst (k := 0) (by decide) (by decide +kernel)) (snd_istore (by decide +kernel) (by decide)))
set_option maxRecDepth 20000 in
theorem s_X7_comes_204 : Snd mX7_comes 204 (sq (opLdI 8) (opCi (4))) 207 := (snd_sq (snd_iload (by decide +kernel)) (snd_iconst (k := 4) (by decide) (by decide +kernel)))
set_option maxRecDepth 20000 in
theorem b_X7_comes_207 : Br_ic_ge mX7_comes 207 244 := br_ic_ge (off := 37) (by decide +kernel) (by decide)
set_option maxRecDepth 20000 in
theorem s_X7_comes_210 : Snd mX7_comes 210 (sq (opLdA 0) (sq (opGetR 7 8) (sq (opCi (64)) (sq (opLdI 6) (sq opimul (sq (opCi (4)) (sq (opLdI 7) (sq opimul (sq opiadd (sq (opLdI 8) (sq opiadd (sq (opLdA 0) (sq (opLdI 6) (sq (opLdI 7) (opLdI 8))))))))))))))) 234 := (snd_sq (snd_aload_n (k := 0) (by decide +kernel) rfl) (snd_sq (snd_getR (ci := 7) (k := 8) (by decide +kernel) rfl (by decide) (by decide) rfl iw_7 w814) (snd_sq (snd_bipush (k := 64) (by decide) (by decide +kernel)) (snd_sq (snd_iload (by decide +kernel)) (snd_sq (snd_imul (by decide +kernel)) (snd_sq (snd_iconst (k := 4) (by decide) (by decide +kernel)) (snd_sq (snd_iload (by decide +kernel)) (snd_sq (snd_imul (by decide +kernel)) (snd_sq (snd_iadd (by decide +kernel)) (snd_sq (snd_iload (by decide +kernel)) (snd_sq (snd_iadd (by decide +kernel)) (snd_sq (snd_aload_n (k := 0) (by decide +kernel) rfl) (snd_sq (snd_iload (by decide +kernel)) (snd_sq (snd_iload (by decide +kernel)) (snd_iload (by decide +kernel))))))))))))))))
set_option maxRecDepth 20000 in
theorem c_X7_comes_234 : CallV mX7_comes 234 mX7_evaluated 7 4 := kallV (site_V rfl w919 (by decide +kernel) w916 w918 w57 w97 ⟨by decide, by decide, by decide +kernel⟩) (by decide) (by decide) (by unfold clsNo; rfl)
set_option maxRecDepth 20000 in
theorem s_X7_comes_237 : Snd mX7_comes 237 (sq opIast (sq (opInc 8 (1)) opNop)) 204 := (snd_sq (snd_iast (by decide +kernel)) (snd_sq (snd_iinc (k := 1) (by decide +kernel) (by decide) (by decide)) (snd_goto (off := -37) (by decide +kernel) (by decide))))
set_option maxRecDepth 20000 in
theorem s_X7_comes_244 : Snd mX7_comes 244 (sq (opInc 7 (1)) opNop) 194 := (snd_sq (snd_iinc (k := 1) (by decide +kernel) (by decide) (by decide)) (snd_goto (off := -53) (by decide +kernel) (by decide)))
set_option maxRecDepth 20000 in
theorem s_X7_comes_250 : Snd mX7_comes 250 (opLdI 6) 252 := (snd_iload (by decide +kernel))
set_option maxRecDepth 20000 in
theorem r_X7_comes_252 : RtI mX7_comes 252 := rt_I (by decide +kernel) rfl
/-! ClaimChainsModel.leaf(II)I -/
set_option maxRecDepth 20000 in
theorem s_X7_leaf_0 : Snd mX7_leaf 0 (sq (opLdI 1) (sq (opCi (0)) (opCi (2)))) 3 := (snd_sq (snd_iload_n (k := 1) (by decide +kernel) rfl) (snd_sq (snd_iconst (k := 0) (by decide) (by decide +kernel)) (snd_iconst (k := 2) (by decide) (by decide +kernel))))
set_option maxRecDepth 20000 in
theorem c_X7_leaf_3 : CallS mX7_leaf 3 mX7_within 3 := kallS (site_S w903 (by decide +kernel) w901 w902 w97 ⟨by decide, by decide, by decide +kernel⟩) (by decide)
set_option maxRecDepth 20000 in
theorem b_X7_leaf_6 : Br_if_eq mX7_leaf 6 27 := br_if_eq (off := 21) (by decide +kernel) (by decide)
set_option maxRecDepth 20000 in
theorem s_X7_leaf_9 : Snd mX7_leaf 9 (sq (opLdI 2) (sq (opCi (0)) (sq (opLdI 1) (opCi (1))))) 13 := (snd_sq (snd_iload_n (k := 2) (by decide +kernel) rfl) (snd_sq (snd_iconst (k := 0) (by decide) (by decide +kernel)) (snd_sq (snd_iload_n (k := 1) (by decide +kernel) rfl) (snd_iconst (k := 1) (by decide) (by decide +kernel)))))
set_option maxRecDepth 20000 in
theorem b_X7_leaf_13 : Br_ic_ne mX7_leaf 13 20 := br_ic_ne (off := 7) (by decide +kernel) (by decide)
set_option maxRecDepth 20000 in
theorem s_X7_leaf_16 : Snd mX7_leaf 16 (sq (opCi (3)) opNop) 21 := (snd_sq (snd_iconst (k := 3) (by decide) (by decide +kernel)) (snd_goto (off := 4) (by decide +kernel) (by decide)))
set_option maxRecDepth 20000 in
theorem s_X7_leaf_20 : Snd mX7_leaf 20 (opCi (1)) 21 := (snd_iconst (k := 1) (by decide) (by decide +kernel))
set_option maxRecDepth 20000 in
theorem c_X7_leaf_21 : CallS mX7_leaf 21 mX7_within 3 := kallS (site_S w903 (by decide +kernel) w901 w902 w97 ⟨by decide, by decide, by decide +kernel⟩) (by decide)
set_option maxRecDepth 20000 in
theorem b_X7_leaf_24 : Br_if_ne mX7_leaf 24 30 := br_if_ne (off := 6) (by decide +kernel) (by decide)
set_option maxRecDepth 20000 in
theorem s_X7_leaf_27 : Snd mX7_leaf 27 (opCi (-2)) 29 := (snd_bipush (k := -2) (by decide) (by decide +kernel))
set_option maxRecDepth 20000 in
theorem r_X7_leaf_29 : RtI mX7_leaf 29 := rt_I (by decide +kernel) rfl
set_option maxRecDepth 20000 in
theorem s_X7_leaf_30 : Snd mX7_leaf 30 (sq (opLdA 0) (sq (opLdI 1) (sq (opLdI 2) (sq (opCi (-9)) (opCi (-9)))))) 37 := (snd_sq (snd_aload_n (k := 0) (by decide +kernel) rfl) (snd_sq (snd_iload_n (k := 1) (by decide +kernel) rfl) (snd_sq (snd_iload_n (k := 2) (by decide +kernel) rfl) (snd_sq (snd_bipush (k := -9) (by decide) (by decide +kernel)) (snd_bipush (k := -9) (by decide) (by decide +kernel))))))
set_option maxRecDepth 20000 in
theorem c_X7_leaf_37 : CallV mX7_leaf 37 mX7_comes 7 5 := kallV (site_V rfl w907 (by decide +kernel) w904 w906 w54 w97 ⟨by decide, by decide, by decide +kernel⟩) (by decide) (by decide) (by unfold clsNo; rfl)
set_option maxRecDepth 20000 in
theorem r_X7_leaf_40 : RtI mX7_leaf 40 := rt_I (by decide +kernel) rfl
/-! ClaimChainsModel.gate(III)I -/
set_option maxRecDepth 20000 in
theorem s_X7_gate_0 : Snd mX7_gate 0 (sq (opLdI 1) (sq (opCi (3)) (opCi (6)))) 4 := (snd_sq (snd_iload_n (k := 1) (by decide +kernel) rfl) (snd_sq (snd_iconst (k := 3) (by decide) (by decide +kernel)) (snd_bipush (k := 6) (by decide) (by decide +kernel))))
set_option maxRecDepth 20000 in
theorem c_X7_gate_4 : CallS mX7_gate 4 mX7_within 3 := kallS (site_S w903 (by decide +kernel) w901 w902 w97 ⟨by decide, by decide, by decide +kernel⟩) (by decide)
set_option maxRecDepth 20000 in
theorem b_X7_gate_7 : Br_if_ne mX7_gate 7 13 := br_if_ne (off := 6) (by decide +kernel) (by decide)
set_option maxRecDepth 20000 in
theorem s_X7_gate_10 : Snd mX7_gate 10 (opCi (-2)) 12 := (snd_bipush (k := -2) (by decide) (by decide +kernel))
set_option maxRecDepth 20000 in
theorem r_X7_gate_12 : RtI mX7_gate 12 := rt_I (by decide +kernel) rfl
set_option maxRecDepth 20000 in
theorem s_X7_gate_13 : Snd mX7_gate 13 (sq (opLdA 0) (opLdI 2)) 15 := (snd_sq (snd_aload_n (k := 0) (by decide +kernel) rfl) (snd_iload_n (k := 2) (by decide +kernel) rfl))
set_option maxRecDepth 20000 in
theorem c_X7_gate_15 : CallV mX7_gate 15 mX7_isTerm 7 2 := kallV (site_V rfl w934 (by decide +kernel) w931 w933 w59 w97 ⟨by decide, by decide, by decide +kernel⟩) (by decide) (by decide) (by unfold clsNo; rfl)
set_option maxRecDepth 20000 in
theorem b_X7_gate_18 : Br_if_eq mX7_gate 18 34 := br_if_eq (off := 16) (by decide +kernel) (by decide)
set_option maxRecDepth 20000 in
theorem s_X7_gate_21 : Snd mX7_gate 21 (sq (opLdI 1) (opCi (3))) 23 := (snd_sq (snd_iload_n (k := 1) (by decide +kernel) rfl) (snd_iconst (k := 3) (by decide) (by decide +kernel)))
set_option maxRecDepth 20000 in
theorem b_X7_gate_23 : Br_ic_eq mX7_gate 23 36 := br_ic_eq (off := 13) (by decide +kernel) (by decide)
set_option maxRecDepth 20000 in
theorem s_X7_gate_26 : Snd mX7_gate 26 (sq (opLdA 0) (opLdI 3)) 28 := (snd_sq (snd_aload_n (k := 0) (by decide +kernel) rfl) (snd_iload_n (k := 3) (by decide +kernel) rfl))
set_option maxRecDepth 20000 in
theorem c_X7_gate_28 : CallV mX7_gate 28 mX7_isTerm 7 2 := kallV (site_V rfl w934 (by decide +kernel) w931 w933 w59 w97 ⟨by decide, by decide, by decide +kernel⟩) (by decide) (by decide) (by unfold clsNo; rfl)
set_option maxRecDepth 20000 in
theorem b_X7_gate_31 : Br_if_ne mX7_gate 31 36 := br_if_ne (off := 5) (by decide +kernel) (by decide)
set_option maxRecDepth 20000 in
theorem s_X7_gate_34 : Snd mX7_gate 34 (opCi (-1)) 35 := (snd_iconst (k := -1) (by decide) (by decide +kernel))
set_option maxRecDepth 20000 in
theorem r_X7_gate_35 : RtI mX7_gate 35 := rt_I (by decide +kernel) rfl
set_option maxRecDepth 20000 in
theorem s_X7_gate_36 : Snd mX7_gate 36 (sq (opLdA 0) (sq (opLdI 1) (sq (opLdI 2) (sq (opLdI 1) (opCi (3)))))) 41 := (snd_sq (snd_aload_n (k := 0) (by decide +kernel) rfl) (snd_sq (snd_iload_n (k := 1) (by decide +kernel) rfl) (snd_sq (snd_iload_n (k := 2) (by decide +kernel) rfl) (snd_sq (snd_iload_n (k := 1) (by decide +kernel) rfl) (snd_iconst (k := 3) (by decide) (by decide +kernel))))))
set_option maxRecDepth 20000 in
theorem b_X7_gate_41 : Br_ic_ne mX7_gate 41 49 := br_ic_ne (off := 8) (by decide +kernel) (by decide)
set_option maxRecDepth 20000 in
theorem s_X7_gate_44 : Snd mX7_gate 44 (sq (opCi (-9)) opNop) 50 := (snd_sq (snd_bipush (k := -9) (by decide) (by decide +kernel)) (snd_goto (off := 4) (by decide +kernel) (by decide)))
set_option maxRecDepth 20000 in
theorem s_X7_gate_49 : Snd mX7_gate 49 (opLdI 3) 50 := (snd_iload_n (k := 3) (by decide +kernel) rfl)
set_option maxRecDepth 20000 in
theorem s_X7_gate_50 : Snd mX7_gate 50 (opCi (-9)) 52 := (snd_bipush (k := -9) (by decide) (by decide +kernel))
set_option maxRecDepth 20000 in
theorem c_X7_gate_52 : CallV mX7_gate 52 mX7_comes 7 5 := kallV (site_V rfl w907 (by decide +kernel) w904 w906 w54 w97 ⟨by decide, by decide, by decide +kernel⟩) (by decide) (by decide) (by unfold clsNo; rfl)
set_option maxRecDepth 20000 in
theorem r_X7_gate_55 : RtI mX7_gate 55 := rt_I (by decide +kernel) rfl
/-! ClaimChainsModel.choice(III)I -/
set_option maxRecDepth 20000 in
theorem s_X7_choice_0 : Snd mX7_choice 0 (sq (opLdA 0) (opLdI 1)) 2 := (snd_sq (snd_aload_n (k := 0) (by decide +kernel) rfl) (snd_iload_n (k := 1) (by decide +kernel) rfl))
set_option maxRecDepth 20000 in
theorem c_X7_choice_2 : CallV mX7_choice 2 mX7_isTerm 7 2 := kallV (site_V rfl w934 (by decide +kernel) w931 w933 w59 w97 ⟨by decide, by decide, by decide +kernel⟩) (by decide) (by decide) (by unfold clsNo; rfl)
set_option maxRecDepth 20000 in
theorem b_X7_choice_5 : Br_if_eq mX7_choice 5 24 := br_if_eq (off := 19) (by decide +kernel) (by decide)
set_option maxRecDepth 20000 in
theorem s_X7_choice_8 : Snd mX7_choice 8 (sq (opLdA 0) (opLdI 2)) 10 := (snd_sq (snd_aload_n (k := 0) (by decide +kernel) rfl) (snd_iload_n (k := 2) (by decide +kernel) rfl))
set_option maxRecDepth 20000 in
theorem c_X7_choice_10 : CallV mX7_choice 10 mX7_isTerm 7 2 := kallV (site_V rfl w934 (by decide +kernel) w931 w933 w59 w97 ⟨by decide, by decide, by decide +kernel⟩) (by decide) (by decide) (by unfold clsNo; rfl)
set_option maxRecDepth 20000 in
theorem b_X7_choice_13 : Br_if_eq mX7_choice 13 24 := br_if_eq (off := 11) (by decide +kernel) (by decide)
set_option maxRecDepth 20000 in
theorem s_X7_choice_16 : Snd mX7_choice 16 (sq (opLdA 0) (opLdI 3)) 18 := (snd_sq (snd_aload_n (k := 0) (by decide +kernel) rfl) (snd_iload_n (k := 3) (by decide +kernel) rfl))
set_option maxRecDepth 20000 in
theorem c_X7_choice_18 : CallV mX7_choice 18 mX7_isTerm 7 2 := kallV (site_V rfl w934 (by decide +kernel) w931 w933 w59 w97 ⟨by decide, by decide, by decide +kernel⟩) (by decide) (by decide) (by unfold clsNo; rfl)
set_option maxRecDepth 20000 in
theorem b_X7_choice_21 : Br_if_ne mX7_choice 21 26 := br_if_ne (off := 5) (by decide +kernel) (by decide)
set_option maxRecDepth 20000 in
theorem s_X7_choice_24 : Snd mX7_choice 24 (opCi (-1)) 25 := (snd_iconst (k := -1) (by decide) (by decide +kernel))
set_option maxRecDepth 20000 in
theorem r_X7_choice_25 : RtI mX7_choice 25 := rt_I (by decide +kernel) rfl
set_option maxRecDepth 20000 in
theorem s_X7_choice_26 : Snd mX7_choice 26 (sq (opLdA 0) (sq (opCi (7)) (sq (opLdI 1) (sq (opLdI 2) (opLdI 3))))) 32 := (snd_sq (snd_aload_n (k := 0) (by decide +kernel) rfl) (snd_sq (snd_bipush (k := 7) (by decide) (by decide +kernel)) (snd_sq (snd_iload_n (k := 1) (by decide +kernel) rfl) (snd_sq (snd_iload_n (k := 2) (by decide +kernel) rfl) (snd_iload_n (k := 3) (by decide +kernel) rfl)))))
set_option maxRecDepth 20000 in
theorem c_X7_choice_32 : CallV mX7_choice 32 mX7_comes 7 5 := kallV (site_V rfl w907 (by decide +kernel) w904 w906 w54 w97 ⟨by decide, by decide, by decide +kernel⟩) (by decide) (by decide) (by unfold clsNo; rfl)
set_option maxRecDepth 20000 in
theorem r_X7_choice_35 : RtI mX7_choice 35 := rt_I (by decide +kernel) rfl
/-! ClaimChainsModel.ofTerm(II)I -/
set_option maxRecDepth 20000 in
theorem s_X7_ofTerm_0 : Snd mX7_ofTerm 0 (sq (opLdA 0) (opLdI 1)) 2 := (snd_sq (snd_aload_n (k := 0) (by decide +kernel) rfl) (snd_iload_n (k := 1) (by decide +kernel) rfl))
set_option maxRecDepth 20000 in
theorem c_X7_ofTerm_2 : CallV mX7_ofTerm 2 mX7_isTerm 7 2 := kallV (site_V rfl w934 (by decide +kernel) w931 w933 w59 w97 ⟨by decide, by decide, by decide +kernel⟩) (by decide) (by decide) (by unfold clsNo; rfl)
set_option maxRecDepth 20000 in
theorem b_X7_ofTerm_5 : Br_if_ne mX7_ofTerm 5 10 := br_if_ne (off := 5) (by decide +kernel) (by decide)
set_option maxRecDepth 20000 in
theorem s_X7_ofTerm_8 : Snd mX7_ofTerm 8 (opCi (-1)) 9 := (snd_iconst (k := -1) (by decide) (by decide +kernel))
set_option maxRecDepth 20000 in
theorem r_X7_ofTerm_9 : RtI mX7_ofTerm 9 := rt_I (by decide +kernel) rfl
set_option maxRecDepth 20000 in
theorem s_X7_ofTerm_10 : Snd mX7_ofTerm 10 (opLdI 2) 11 := (snd_iload_n (k := 2) (by decide +kernel) rfl)
set_option maxRecDepth 20000 in
theorem hw_X7_ofTerm_11 : decode (MI.bytes mX7_ofTerm) 11 = .ok (.tableswitch 100 0 6 #[41, 48, 57, 68, 79, 86, 93], 41) := by decide +kernel
set_option maxRecDepth 20000 in
theorem w_X7_ofTerm_11 {d cap : Nat} {L : LT} {x : Int32} {st : List Value} {n : Nat} {R : RT} {I : IT} {J : JT} {Q : QT} (k0 : x = 0 → Ends mX7_ofTerm d cap 52 L st n R I J Q) (k1 : x = 1 → Ends mX7_ofTerm d cap 59 L st n R I J Q) (k2 : x = 2 → Ends mX7_ofTerm d cap 68 L st n R I J Q) (k3 : x = 3 → Ends mX7_ofTerm d cap 79 L st n R I J Q) (k4 : x = 4 → Ends mX7_ofTerm d cap 90 L st n R I J Q) (k5 : x = 5 → Ends mX7_ofTerm d cap 97 L st n R I J Q) (k6 : x = 6 → Ends mX7_ofTerm d cap 104 L st n R I J Q) (kd : ¬ x = 0 → ¬ x = 1 → ¬ x = 2 → ¬ x = 3 → ¬ x = 4 → ¬ x = 5 → ¬ x = 6 → Ends mX7_ofTerm d cap 111 L st n R I J Q) : Ends mX7_ofTerm d cap 11 L (.int x :: st) n R I J Q := by
  by_cases h0 : x.toInt < 0 ∨ 6 < x.toInt
  · exact sw_out hw_X7_ofTerm_11 h0 (by decide) (kd (fun h => by subst h; revert h0; decide) (fun h => by subst h; revert h0; decide) (fun h => by subst h; revert h0; decide) (fun h => by subst h; revert h0; decide) (fun h => by subst h; revert h0; decide) (fun h => by subst h; revert h0; decide) (fun h => by subst h; revert h0; decide))
  · have h1 : x.toInt = 0 ∨ x.toInt = 1 ∨ x.toInt = 2 ∨ x.toInt = 3 ∨ x.toInt = 4 ∨ x.toInt = 5 ∨ x.toInt = 6 := by omega
    rcases h1 with h1 | h1 | h1 | h1 | h1 | h1 | h1
    · have h2 : x = 0 := i32_of h1 (by decide)
      subst h2
      exact sw_in (off := 41) hw_X7_ofTerm_11 (by decide) (by decide) (by decide +kernel) (by decide) (k0 rfl)
    · have h2 : x = 1 := i32_of h1 (by decide)
      subst h2
      exact sw_in (off := 48) hw_X7_ofTerm_11 (by decide) (by decide) (by decide +kernel) (by decide) (k1 rfl)
    · have h2 : x = 2 := i32_of h1 (by decide)
      subst h2
      exact sw_in (off := 57) hw_X7_ofTerm_11 (by decide) (by decide) (by decide +kernel) (by decide) (k2 rfl)
    · have h2 : x = 3 := i32_of h1 (by decide)
      subst h2
      exact sw_in (off := 68) hw_X7_ofTerm_11 (by decide) (by decide) (by decide +kernel) (by decide) (k3 rfl)
    · have h2 : x = 4 := i32_of h1 (by decide)
      subst h2
      exact sw_in (off := 79) hw_X7_ofTerm_11 (by decide) (by decide) (by decide +kernel) (by decide) (k4 rfl)
    · have h2 : x = 5 := i32_of h1 (by decide)
      subst h2
      exact sw_in (off := 86) hw_X7_ofTerm_11 (by decide) (by decide) (by decide +kernel) (by decide) (k5 rfl)
    · have h2 : x = 6 := i32_of h1 (by decide)
      subst h2
      exact sw_in (off := 93) hw_X7_ofTerm_11 (by decide) (by decide) (by decide +kernel) (by decide) (k6 rfl)
set_option maxRecDepth 20000 in
theorem s_X7_ofTerm_52 : Snd mX7_ofTerm 52 (sq (opLdA 0) (sq (opGetR 7 2) (sq (opLdI 1) opIald))) 58 := (snd_sq (snd_aload_n (k := 0) (by decide +kernel) rfl) (snd_sq (snd_getR (ci := 7) (k := 2) (by decide +kernel) rfl (by decide) (by decide) rfl iw_7 w808) (snd_sq (snd_iload_n (k := 1) (by decide +kernel) rfl) (snd_iald (by decide +kernel)))))
set_option maxRecDepth 20000 in
theorem r_X7_ofTerm_58 : RtI mX7_ofTerm 58 := rt_I (by decide +kernel) rfl
set_option maxRecDepth 20000 in
theorem s_X7_ofTerm_59 : Snd mX7_ofTerm 59 (sq (opLdA 0) (sq (opGetR 7 3) (sq (opCi (3)) (sq (opLdI 1) (sq opimul opIald))))) 67 := (snd_sq (snd_aload_n (k := 0) (by decide +kernel) rfl) (snd_sq (snd_getR (ci := 7) (k := 3) (by decide +kernel) rfl (by decide) (by decide) rfl iw_7 w809) (snd_sq (snd_iconst (k := 3) (by decide) (by decide +kernel)) (snd_sq (snd_iload_n (k := 1) (by decide +kernel) rfl) (snd_sq (snd_imul (by decide +kernel)) (snd_iald (by decide +kernel)))))))
set_option maxRecDepth 20000 in
theorem r_X7_ofTerm_67 : RtI mX7_ofTerm 67 := rt_I (by decide +kernel) rfl
set_option maxRecDepth 20000 in
theorem s_X7_ofTerm_68 : Snd mX7_ofTerm 68 (sq (opLdA 0) (sq (opGetR 7 3) (sq (opCi (3)) (sq (opLdI 1) (sq opimul (sq (opCi (1)) (sq opiadd opIald))))))) 78 := (snd_sq (snd_aload_n (k := 0) (by decide +kernel) rfl) (snd_sq (snd_getR (ci := 7) (k := 3) (by decide +kernel) rfl (by decide) (by decide) rfl iw_7 w809) (snd_sq (snd_iconst (k := 3) (by decide) (by decide +kernel)) (snd_sq (snd_iload_n (k := 1) (by decide +kernel) rfl) (snd_sq (snd_imul (by decide +kernel)) (snd_sq (snd_iconst (k := 1) (by decide) (by decide +kernel)) (snd_sq (snd_iadd (by decide +kernel)) (snd_iald (by decide +kernel)))))))))
set_option maxRecDepth 20000 in
theorem r_X7_ofTerm_78 : RtI mX7_ofTerm 78 := rt_I (by decide +kernel) rfl
set_option maxRecDepth 20000 in
theorem s_X7_ofTerm_79 : Snd mX7_ofTerm 79 (sq (opLdA 0) (sq (opGetR 7 3) (sq (opCi (3)) (sq (opLdI 1) (sq opimul (sq (opCi (2)) (sq opiadd opIald))))))) 89 := (snd_sq (snd_aload_n (k := 0) (by decide +kernel) rfl) (snd_sq (snd_getR (ci := 7) (k := 3) (by decide +kernel) rfl (by decide) (by decide) rfl iw_7 w809) (snd_sq (snd_iconst (k := 3) (by decide) (by decide +kernel)) (snd_sq (snd_iload_n (k := 1) (by decide +kernel) rfl) (snd_sq (snd_imul (by decide +kernel)) (snd_sq (snd_iconst (k := 2) (by decide) (by decide +kernel)) (snd_sq (snd_iadd (by decide +kernel)) (snd_iald (by decide +kernel)))))))))
set_option maxRecDepth 20000 in
theorem r_X7_ofTerm_89 : RtI mX7_ofTerm 89 := rt_I (by decide +kernel) rfl
set_option maxRecDepth 20000 in
theorem s_X7_ofTerm_90 : Snd mX7_ofTerm 90 (sq (opLdA 0) (sq (opGetR 7 4) (sq (opLdI 1) opIald))) 96 := (snd_sq (snd_aload_n (k := 0) (by decide +kernel) rfl) (snd_sq (snd_getR (ci := 7) (k := 4) (by decide +kernel) rfl (by decide) (by decide) rfl iw_7 w810) (snd_sq (snd_iload_n (k := 1) (by decide +kernel) rfl) (snd_iald (by decide +kernel)))))
set_option maxRecDepth 20000 in
theorem r_X7_ofTerm_96 : RtI mX7_ofTerm 96 := rt_I (by decide +kernel) rfl
set_option maxRecDepth 20000 in
theorem s_X7_ofTerm_97 : Snd mX7_ofTerm 97 (sq (opLdA 0) (sq (opGetR 7 5) (sq (opLdI 1) opIald))) 103 := (snd_sq (snd_aload_n (k := 0) (by decide +kernel) rfl) (snd_sq (snd_getR (ci := 7) (k := 5) (by decide +kernel) rfl (by decide) (by decide) rfl iw_7 w811) (snd_sq (snd_iload_n (k := 1) (by decide +kernel) rfl) (snd_iald (by decide +kernel)))))
set_option maxRecDepth 20000 in
theorem r_X7_ofTerm_103 : RtI mX7_ofTerm 103 := rt_I (by decide +kernel) rfl
set_option maxRecDepth 20000 in
theorem s_X7_ofTerm_104 : Snd mX7_ofTerm 104 (sq (opLdA 0) (sq (opGetR 7 6) (sq (opLdI 1) opIald))) 110 := (snd_sq (snd_aload_n (k := 0) (by decide +kernel) rfl) (snd_sq (snd_getR (ci := 7) (k := 6) (by decide +kernel) rfl (by decide) (by decide) rfl iw_7 w812) (snd_sq (snd_iload_n (k := 1) (by decide +kernel) rfl) (snd_iald (by decide +kernel)))))
set_option maxRecDepth 20000 in
theorem r_X7_ofTerm_110 : RtI mX7_ofTerm 110 := rt_I (by decide +kernel) rfl
set_option maxRecDepth 20000 in
theorem s_X7_ofTerm_111 : Snd mX7_ofTerm 111 (opCi (-2)) 113 := (snd_bipush (k := -2) (by decide) (by decide +kernel))
set_option maxRecDepth 20000 in
theorem r_X7_ofTerm_113 : RtI mX7_ofTerm 113 := rt_I (by decide +kernel) rfl
/-! ClaimChainsModel.leaves(I)J -/
set_option maxRecDepth 20000 in
theorem s_X7_leaves_0 : Snd mX7_leaves 0 (sq (opLdA 0) (opLdI 1)) 2 := (snd_sq (snd_aload_n (k := 0) (by decide +kernel) rfl) (snd_iload_n (k := 1) (by decide +kernel) rfl))
set_option maxRecDepth 20000 in
theorem c_X7_leaves_2 : CallV mX7_leaves 2 mX7_isTerm 7 2 := kallV (site_V rfl w934 (by decide +kernel) w931 w933 w59 w97 ⟨by decide, by decide, by decide +kernel⟩) (by decide) (by decide) (by unfold clsNo; rfl)
set_option maxRecDepth 20000 in
theorem b_X7_leaves_5 : Br_if_eq mX7_leaves 5 17 := br_if_eq (off := 12) (by decide +kernel) (by decide)
set_option maxRecDepth 20000 in
theorem s_X7_leaves_8 : Snd mX7_leaves 8 (sq (opLdA 0) (sq (opGetR 7 7) (sq (opLdI 1) (sq opLald opNop)))) 20 := (snd_sq (snd_aload_n (k := 0) (by decide +kernel) rfl) (snd_sq (snd_getR (ci := 7) (k := 7) (by decide +kernel) rfl (by decide) (by decide) rfl iw_7 w813) (snd_sq (snd_iload_n (k := 1) (by decide +kernel) rfl) (snd_sq (snd_lald (by decide +kernel)) (snd_goto (off := 6) (by decide +kernel) (by decide))))))
set_option maxRecDepth 20000 in
theorem s_X7_leaves_17 : Snd mX7_leaves 17 (opCl (-9223372036854775808)) 20 := (snd_ldc2 w947 (by decide +kernel))
set_option maxRecDepth 20000 in
theorem r_X7_leaves_20 : RtL mX7_leaves 20 := rt_L (by decide +kernel) rfl
/-! ClaimChainsModel.value(III)I -/
set_option maxRecDepth 20000 in
theorem s_X7_value_0 : Snd mX7_value 0 (sq (opLdA 0) (opLdI 1)) 2 := (snd_sq (snd_aload_n (k := 0) (by decide +kernel) rfl) (snd_iload_n (k := 1) (by decide +kernel) rfl))
set_option maxRecDepth 20000 in
theorem c_X7_value_2 : CallV mX7_value 2 mX7_isTerm 7 2 := kallV (site_V rfl w934 (by decide +kernel) w931 w933 w59 w97 ⟨by decide, by decide, by decide +kernel⟩) (by decide) (by decide) (by unfold clsNo; rfl)
set_option maxRecDepth 20000 in
theorem b_X7_value_5 : Br_if_ne mX7_value 5 10 := br_if_ne (off := 5) (by decide +kernel) (by decide)
set_option maxRecDepth 20000 in
theorem s_X7_value_8 : Snd mX7_value 8 (opCi (-1)) 9 := (snd_iconst (k := -1) (by decide) (by decide +kernel))
set_option maxRecDepth 20000 in
theorem r_X7_value_9 : RtI mX7_value 9 := rt_I (by decide +kernel) rfl
set_option maxRecDepth 20000 in
theorem s_X7_value_10 : Snd mX7_value 10 (opLdI 2) 11 := (snd_iload_n (k := 2) (by decide +kernel) rfl)
set_option maxRecDepth 20000 in
theorem c_X7_value_11 : CallS mX7_value 11 mX7_isState 1 := kallS (site_S w954 (by decide +kernel) w952 w953 w97 ⟨by decide, by decide, by decide +kernel⟩) (by decide)
set_option maxRecDepth 20000 in
theorem b_X7_value_14 : Br_if_eq mX7_value 14 34 := br_if_eq (off := 20) (by decide +kernel) (by decide)
set_option maxRecDepth 20000 in
theorem s_X7_value_17 : Snd mX7_value 17 (opLdI 3) 18 := (snd_iload_n (k := 3) (by decide +kernel) rfl)
set_option maxRecDepth 20000 in
theorem c_X7_value_18 : CallS mX7_value 18 mX7_isRow 1 := kallS (site_S w957 (by decide +kernel) w955 w956 w97 ⟨by decide, by decide, by decide +kernel⟩) (by decide)
set_option maxRecDepth 20000 in
theorem b_X7_value_21 : Br_if_eq mX7_value 21 34 := br_if_eq (off := 13) (by decide +kernel) (by decide)
set_option maxRecDepth 20000 in
theorem s_X7_value_24 : Snd mX7_value 24 (sq (opLdA 0) (sq (opLdI 1) (sq (opLdI 2) (opLdI 3)))) 28 := (snd_sq (snd_aload_n (k := 0) (by decide +kernel) rfl) (snd_sq (snd_iload_n (k := 1) (by decide +kernel) rfl) (snd_sq (snd_iload_n (k := 2) (by decide +kernel) rfl) (snd_iload_n (k := 3) (by decide +kernel) rfl))))
set_option maxRecDepth 20000 in
theorem c_X7_value_28 : CallV mX7_value 28 mX7_valueIn 7 4 := kallV (site_V rfl w923 (by decide +kernel) w920 w922 w58 w97 ⟨by decide, by decide, by decide +kernel⟩) (by decide) (by decide) (by unfold clsNo; rfl)
set_option maxRecDepth 20000 in
theorem s_X7_value_31 : Snd mX7_value 31 opNop 36 := (snd_goto (off := 5) (by decide +kernel) (by decide))
set_option maxRecDepth 20000 in
theorem s_X7_value_34 : Snd mX7_value 34 (opCi (-2)) 36 := (snd_bipush (k := -2) (by decide) (by decide +kernel))
set_option maxRecDepth 20000 in
theorem r_X7_value_36 : RtI mX7_value 36 := rt_I (by decide +kernel) rfl
/-! ClaimChainsModel.holdsOf(II)I -/
set_option maxRecDepth 20000 in
theorem s_X7_holdsOf_0 : Snd mX7_holdsOf 0 (sq (opCi (0)) (sq (opStI 3) (sq (opCi (0)) (opStI 4)))) 5 := (snd_sq (snd_iconst (k := 0) (by decide) (by decide +kernel)) (snd_sq (snd_istore_n (k := 3) (by decide +kernel) rfl (by decide)) (snd_sq (snd_iconst (k := 0) (by decide) (by decide +kernel)) (snd_istore (by decide +kernel) (by decide)))))
set_option maxRecDepth 20000 in
theorem s_X7_holdsOf_5 : Snd mX7_holdsOf 5 (sq (opLdI 4) (opCi (16))) 9 := (snd_sq (snd_iload (by decide +kernel)) (snd_bipush (k := 16) (by decide) (by decide +kernel)))
set_option maxRecDepth 20000 in
theorem b_X7_holdsOf_9 : Br_ic_ge mX7_holdsOf 9 32 := br_ic_ge (off := 23) (by decide +kernel) (by decide)
set_option maxRecDepth 20000 in
theorem s_X7_holdsOf_12 : Snd mX7_holdsOf 12 (sq (opLdI 3) (sq (opLdA 0) (sq (opLdI 1) (sq (opLdI 4) (opLdI 2))))) 18 := (snd_sq (snd_iload_n (k := 3) (by decide +kernel) rfl) (snd_sq (snd_aload_n (k := 0) (by decide +kernel) rfl) (snd_sq (snd_iload_n (k := 1) (by decide +kernel) rfl) (snd_sq (snd_iload (by decide +kernel)) (snd_iload_n (k := 2) (by decide +kernel) rfl)))))
set_option maxRecDepth 20000 in
theorem c_X7_holdsOf_18 : CallV mX7_holdsOf 18 mX7_valueIn 7 4 := kallV (site_V rfl w923 (by decide +kernel) w920 w922 w58 w97 ⟨by decide, by decide, by decide +kernel⟩) (by decide) (by decide) (by unfold clsNo; rfl)
set_option maxRecDepth 20000 in
theorem s_X7_holdsOf_21 : Snd mX7_holdsOf 21 (sq (opLdI 4) (sq opishl (sq opior (sq (opStI 3) (sq (opInc 4 (1)) opNop))))) 5 := (snd_sq (snd_iload (by decide +kernel)) (snd_sq (snd_ishl (by decide +kernel)) (snd_sq (snd_ior (by decide +kernel)) (snd_sq (snd_istore_n (k := 3) (by decide +kernel) rfl (by decide)) (snd_sq (snd_iinc (k := 1) (by decide +kernel) (by decide) (by decide)) (snd_goto (off := -24) (by decide +kernel) (by decide)))))))
set_option maxRecDepth 20000 in
theorem s_X7_holdsOf_32 : Snd mX7_holdsOf 32 (opLdI 3) 33 := (snd_iload_n (k := 3) (by decide +kernel) rfl)
set_option maxRecDepth 20000 in
theorem r_X7_holdsOf_33 : RtI mX7_holdsOf 33 := rt_I (by decide +kernel) rfl
/-! ClaimChainsModel.holds(II)I -/
set_option maxRecDepth 20000 in
theorem s_X7_holds_0 : Snd mX7_holds 0 (sq (opLdA 0) (opLdI 1)) 2 := (snd_sq (snd_aload_n (k := 0) (by decide +kernel) rfl) (snd_iload_n (k := 1) (by decide +kernel) rfl))
set_option maxRecDepth 20000 in
theorem c_X7_holds_2 : CallV mX7_holds 2 mX7_isTerm 7 2 := kallV (site_V rfl w934 (by decide +kernel) w931 w933 w59 w97 ⟨by decide, by decide, by decide +kernel⟩) (by decide) (by decide) (by unfold clsNo; rfl)
set_option maxRecDepth 20000 in
theorem b_X7_holds_5 : Br_if_ne mX7_holds 5 10 := br_if_ne (off := 5) (by decide +kernel) (by decide)
set_option maxRecDepth 20000 in
theorem s_X7_holds_8 : Snd mX7_holds 8 (opCi (-1)) 9 := (snd_iconst (k := -1) (by decide) (by decide +kernel))
set_option maxRecDepth 20000 in
theorem r_X7_holds_9 : RtI mX7_holds 9 := rt_I (by decide +kernel) rfl
set_option maxRecDepth 20000 in
theorem s_X7_holds_10 : Snd mX7_holds 10 (opLdI 2) 11 := (snd_iload_n (k := 2) (by decide +kernel) rfl)
set_option maxRecDepth 20000 in
theorem c_X7_holds_11 : CallS mX7_holds 11 mX7_isRow 1 := kallS (site_S w957 (by decide +kernel) w955 w956 w97 ⟨by decide, by decide, by decide +kernel⟩) (by decide)
set_option maxRecDepth 20000 in
theorem b_X7_holds_14 : Br_if_eq mX7_holds 14 26 := br_if_eq (off := 12) (by decide +kernel) (by decide)
set_option maxRecDepth 20000 in
theorem s_X7_holds_17 : Snd mX7_holds 17 (sq (opLdA 0) (sq (opLdI 1) (opLdI 2))) 20 := (snd_sq (snd_aload_n (k := 0) (by decide +kernel) rfl) (snd_sq (snd_iload_n (k := 1) (by decide +kernel) rfl) (snd_iload_n (k := 2) (by decide +kernel) rfl)))
set_option maxRecDepth 20000 in
theorem c_X7_holds_20 : CallV mX7_holds 20 mX7_holdsOf 7 3 := kallV (site_V rfl w965 (by decide +kernel) w962 w964 w60 w97 ⟨by decide, by decide, by decide +kernel⟩) (by decide) (by decide) (by unfold clsNo; rfl)
set_option maxRecDepth 20000 in
theorem s_X7_holds_23 : Snd mX7_holds 23 opNop 28 := (snd_goto (off := 5) (by decide +kernel) (by decide))
set_option maxRecDepth 20000 in
theorem s_X7_holds_26 : Snd mX7_holds 26 (opCi (-2)) 28 := (snd_bipush (k := -2) (by decide) (by decide +kernel))
set_option maxRecDepth 20000 in
theorem r_X7_holds_28 : RtI mX7_holds 28 := rt_I (by decide +kernel) rfl
/-! ClaimChainsModel.alike(II)I -/
set_option maxRecDepth 20000 in
theorem s_X7_alike_0 : Snd mX7_alike 0 (sq (opLdA 0) (opLdI 1)) 2 := (snd_sq (snd_aload_n (k := 0) (by decide +kernel) rfl) (snd_iload_n (k := 1) (by decide +kernel) rfl))
set_option maxRecDepth 20000 in
theorem c_X7_alike_2 : CallV mX7_alike 2 mX7_isTerm 7 2 := kallV (site_V rfl w934 (by decide +kernel) w931 w933 w59 w97 ⟨by decide, by decide, by decide +kernel⟩) (by decide) (by decide) (by unfold clsNo; rfl)
set_option maxRecDepth 20000 in
theorem b_X7_alike_5 : Br_if_eq mX7_alike 5 16 := br_if_eq (off := 11) (by decide +kernel) (by decide)
set_option maxRecDepth 20000 in
theorem s_X7_alike_8 : Snd mX7_alike 8 (sq (opLdA 0) (opLdI 2)) 10 := (snd_sq (snd_aload_n (k := 0) (by decide +kernel) rfl) (snd_iload_n (k := 2) (by decide +kernel) rfl))
set_option maxRecDepth 20000 in
theorem c_X7_alike_10 : CallV mX7_alike 10 mX7_isTerm 7 2 := kallV (site_V rfl w934 (by decide +kernel) w931 w933 w59 w97 ⟨by decide, by decide, by decide +kernel⟩) (by decide) (by decide) (by unfold clsNo; rfl)
set_option maxRecDepth 20000 in
theorem b_X7_alike_13 : Br_if_ne mX7_alike 13 18 := br_if_ne (off := 5) (by decide +kernel) (by decide)
set_option maxRecDepth 20000 in
theorem s_X7_alike_16 : Snd mX7_alike 16 (opCi (-1)) 17 := (snd_iconst (k := -1) (by decide) (by decide +kernel))
set_option maxRecDepth 20000 in
theorem r_X7_alike_17 : RtI mX7_alike 17 := rt_I (by decide +kernel) rfl
set_option maxRecDepth 20000 in
theorem s_X7_alike_18 : Snd mX7_alike 18 (sq (opCi (0)) (opStI 3)) 20 := (snd_sq (snd_iconst (k := 0) (by decide) (by decide +kernel)) (snd_istore_n (k := 3) (by decide +kernel) rfl (by decide)))
set_option maxRecDepth 20000 in
theorem s_X7_alike_20 : Snd mX7_alike 20 (sq (opLdI 3) (opCi (64))) 23 := (snd_sq (snd_iload_n (k := 3) (by decide +kernel) rfl) (snd_bipush (k := 64) (by decide) (by decide +kernel)))
set_option maxRecDepth 20000 in
theorem b_X7_alike_23 : Br_ic_ge mX7_alike 23 59 := br_ic_ge (off := 36) (by decide +kernel) (by decide)
set_option maxRecDepth 20000 in
theorem s_X7_alike_26 : Snd mX7_alike 26 (sq (opLdA 0) (sq (opGetR 7 8) (sq (opCi (64)) (sq (opLdI 1) (sq opimul (sq (opLdI 3) (sq opiadd (sq opIald (sq (opLdA 0) (sq (opGetR 7 8) (sq (opCi (64)) (sq (opLdI 2) (sq opimul (sq (opLdI 3) (sq opiadd opIald))))))))))))))) 48 := (snd_sq (snd_aload_n (k := 0) (by decide +kernel) rfl) (snd_sq (snd_getR (ci := 7) (k := 8) (by decide +kernel) rfl (by decide) (by decide) rfl iw_7 w814) (snd_sq (snd_bipush (k := 64) (by decide) (by decide +kernel)) (snd_sq (snd_iload_n (k := 1) (by decide +kernel) rfl) (snd_sq (snd_imul (by decide +kernel)) (snd_sq (snd_iload_n (k := 3) (by decide +kernel) rfl) (snd_sq (snd_iadd (by decide +kernel)) (snd_sq (snd_iald (by decide +kernel)) (snd_sq (snd_aload_n (k := 0) (by decide +kernel) rfl) (snd_sq (snd_getR (ci := 7) (k := 8) (by decide +kernel) rfl (by decide) (by decide) rfl iw_7 w814) (snd_sq (snd_bipush (k := 64) (by decide) (by decide +kernel)) (snd_sq (snd_iload_n (k := 2) (by decide +kernel) rfl) (snd_sq (snd_imul (by decide +kernel)) (snd_sq (snd_iload_n (k := 3) (by decide +kernel) rfl) (snd_sq (snd_iadd (by decide +kernel)) (snd_iald (by decide +kernel)))))))))))))))))
set_option maxRecDepth 20000 in
theorem b_X7_alike_48 : Br_ic_eq mX7_alike 48 53 := br_ic_eq (off := 5) (by decide +kernel) (by decide)
set_option maxRecDepth 20000 in
theorem s_X7_alike_51 : Snd mX7_alike 51 (opCi (0)) 52 := (snd_iconst (k := 0) (by decide) (by decide +kernel))
set_option maxRecDepth 20000 in
theorem r_X7_alike_52 : RtI mX7_alike 52 := rt_I (by decide +kernel) rfl
set_option maxRecDepth 20000 in
theorem s_X7_alike_53 : Snd mX7_alike 53 (sq (opInc 3 (1)) opNop) 20 := (snd_sq (snd_iinc (k := 1) (by decide +kernel) (by decide) (by decide)) (snd_goto (off := -36) (by decide +kernel) (by decide)))
set_option maxRecDepth 20000 in
theorem s_X7_alike_59 : Snd mX7_alike 59 (opCi (1)) 60 := (snd_iconst (k := 1) (by decide) (by decide +kernel))
set_option maxRecDepth 20000 in
theorem r_X7_alike_60 : RtI mX7_alike 60 := rt_I (by decide +kernel) rfl
/-! ClaimChainsModel.startSet()I -/
set_option maxRecDepth 20000 in
theorem s_X7_startSet_0 : Snd mX7_startSet 0 (sq (opLdA 0) (sq (opGetI 7 9) (opCi (-9)))) 6 := (snd_sq (snd_aload_n (k := 0) (by decide +kernel) rfl) (snd_sq (snd_getI (ci := 7) (k := 9) (by decide +kernel) rfl (by decide) (by decide) (by decide) iw_7 w815) (snd_bipush (k := -9) (by decide) (by decide +kernel))))
set_option maxRecDepth 20000 in
theorem b_X7_startSet_6 : Br_ic_ne mX7_startSet 6 14 := br_ic_ne (off := 8) (by decide +kernel) (by decide)
set_option maxRecDepth 20000 in
theorem s_X7_startSet_9 : Snd mX7_startSet 9 (sq (opCi (65535)) opNop) 23 := (snd_sq (snd_ldc w1014 (by decide +kernel)) (snd_goto (off := 12) (by decide +kernel) (by decide)))
set_option maxRecDepth 20000 in
theorem s_X7_startSet_14 : Snd mX7_startSet 14 (sq (opLdA 0) (sq (opLdA 0) (sq (opGetI 7 9) (opCi (0))))) 20 := (snd_sq (snd_aload_n (k := 0) (by decide +kernel) rfl) (snd_sq (snd_aload_n (k := 0) (by decide +kernel) rfl) (snd_sq (snd_getI (ci := 7) (k := 9) (by decide +kernel) rfl (by decide) (by decide) (by decide) iw_7 w815) (snd_iconst (k := 0) (by decide) (by decide +kernel)))))
set_option maxRecDepth 20000 in
theorem c_X7_startSet_20 : CallV mX7_startSet 20 mX7_holdsOf 7 3 := kallV (site_V rfl w965 (by decide +kernel) w962 w964 w60 w97 ⟨by decide, by decide, by decide +kernel⟩) (by decide) (by decide) (by unfold clsNo; rfl)
set_option maxRecDepth 20000 in
theorem r_X7_startSet_23 : RtI mX7_startSet 23 := rt_I (by decide +kernel) rfl
/-! ClaimChainsModel.brokenSet()I -/
set_option maxRecDepth 20000 in
theorem s_X7_brokenSet_0 : Snd mX7_brokenSet 0 (sq (opLdA 0) (sq (opGetI 7 10) (opCi (-9)))) 6 := (snd_sq (snd_aload_n (k := 0) (by decide +kernel) rfl) (snd_sq (snd_getI (ci := 7) (k := 10) (by decide +kernel) rfl (by decide) (by decide) (by decide) iw_7 w816) (snd_bipush (k := -9) (by decide) (by decide +kernel))))
set_option maxRecDepth 20000 in
theorem b_X7_brokenSet_6 : Br_ic_ne mX7_brokenSet 6 13 := br_ic_ne (off := 7) (by decide +kernel) (by decide)
set_option maxRecDepth 20000 in
theorem s_X7_brokenSet_9 : Snd mX7_brokenSet 9 (sq (opCi (0)) opNop) 27 := (snd_sq (snd_iconst (k := 0) (by decide) (by decide +kernel)) (snd_goto (off := 17) (by decide +kernel) (by decide)))
set_option maxRecDepth 20000 in
theorem s_X7_brokenSet_13 : Snd mX7_brokenSet 13 (sq (opCi (65535)) (sq (opLdA 0) (sq (opLdA 0) (sq (opGetI 7 10) (opCi (0)))))) 21 := (snd_sq (snd_ldc w1014 (by decide +kernel)) (snd_sq (snd_aload_n (k := 0) (by decide +kernel) rfl) (snd_sq (snd_aload_n (k := 0) (by decide +kernel) rfl) (snd_sq (snd_getI (ci := 7) (k := 10) (by decide +kernel) rfl (by decide) (by decide) (by decide) iw_7 w816) (snd_iconst (k := 0) (by decide) (by decide +kernel))))))
set_option maxRecDepth 20000 in
theorem c_X7_brokenSet_21 : CallV mX7_brokenSet 21 mX7_holdsOf 7 3 := kallV (site_V rfl w965 (by decide +kernel) w962 w964 w60 w97 ⟨by decide, by decide, by decide +kernel⟩) (by decide) (by decide) (by unfold clsNo; rfl)
set_option maxRecDepth 20000 in
theorem s_X7_brokenSet_24 : Snd mX7_brokenSet 24 (sq (opCi (-1)) (sq opixor opiand)) 27 := (snd_sq (snd_iconst (k := -1) (by decide) (by decide +kernel)) (snd_sq (snd_ixor (by decide +kernel)) (snd_iand (by decide +kernel))))
set_option maxRecDepth 20000 in
theorem r_X7_brokenSet_27 : RtI mX7_brokenSet 27 := rt_I (by decide +kernel) rfl
/-! ClaimChainsModel.againstStates(I)I -/
set_option maxRecDepth 20000 in
theorem s_X7_againstStates_0 : Snd mX7_againstStates 0 (sq (opLdA 0) (opLdI 1)) 2 := (snd_sq (snd_aload_n (k := 0) (by decide +kernel) rfl) (snd_iload_n (k := 1) (by decide +kernel) rfl))
set_option maxRecDepth 20000 in
theorem c_X7_againstStates_2 : CallV mX7_againstStates 2 mX7_isTerm 7 2 := kallV (site_V rfl w934 (by decide +kernel) w931 w933 w59 w97 ⟨by decide, by decide, by decide +kernel⟩) (by decide) (by decide) (by unfold clsNo; rfl)
set_option maxRecDepth 20000 in
theorem b_X7_againstStates_5 : Br_if_ne mX7_againstStates 5 12 := br_if_ne (off := 7) (by decide +kernel) (by decide)
set_option maxRecDepth 20000 in
theorem s_X7_againstStates_8 : Snd mX7_againstStates 8 (sq (opCi (-1)) opNop) 27 := (snd_sq (snd_iconst (k := -1) (by decide) (by decide +kernel)) (snd_goto (off := 18) (by decide +kernel) (by decide)))
set_option maxRecDepth 20000 in
theorem s_X7_againstStates_12 : Snd mX7_againstStates 12 (sq (opLdA 0) (sq (opGetR 7 5) (sq (opLdI 1) opIald))) 18 := (snd_sq (snd_aload_n (k := 0) (by decide +kernel) rfl) (snd_sq (snd_getR (ci := 7) (k := 5) (by decide +kernel) rfl (by decide) (by decide) rfl iw_7 w811) (snd_sq (snd_iload_n (k := 1) (by decide +kernel) rfl) (snd_iald (by decide +kernel)))))
set_option maxRecDepth 20000 in
theorem b_X7_againstStates_18 : Br_if_eq mX7_againstStates 18 26 := br_if_eq (off := 8) (by decide +kernel) (by decide)
set_option maxRecDepth 20000 in
theorem s_X7_againstStates_21 : Snd mX7_againstStates 21 (sq (opCi (-2)) opNop) 27 := (snd_sq (snd_bipush (k := -2) (by decide) (by decide +kernel)) (snd_goto (off := 4) (by decide +kernel) (by decide)))
set_option maxRecDepth 20000 in
theorem s_X7_againstStates_26 : Snd mX7_againstStates 26 (opCi (0)) 27 := (snd_iconst (k := 0) (by decide) (by decide +kernel))
set_option maxRecDepth 20000 in
theorem r_X7_againstStates_27 : RtI mX7_againstStates 27 := rt_I (by decide +kernel) rfl
/-! ClaimChainsModel.starts(I)I -/
set_option maxRecDepth 20000 in
theorem s_X7_starts_0 : Snd mX7_starts 0 (sq (opLdA 0) (opLdI 1)) 2 := (snd_sq (snd_aload_n (k := 0) (by decide +kernel) rfl) (snd_iload_n (k := 1) (by decide +kernel) rfl))
set_option maxRecDepth 20000 in
theorem c_X7_starts_2 : CallV mX7_starts 2 mX7_againstStates 7 2 := kallV (site_V rfl w977 (by decide +kernel) w974 w976 w61 w97 ⟨by decide, by decide, by decide +kernel⟩) (by decide) (by decide) (by unfold clsNo; rfl)
set_option maxRecDepth 20000 in
theorem s_X7_starts_5 : Snd mX7_starts 5 (sq (opStI 2) (opLdI 2)) 7 := (snd_sq (snd_istore_n (k := 2) (by decide +kernel) rfl (by decide)) (snd_iload_n (k := 2) (by decide +kernel) rfl))
set_option maxRecDepth 20000 in
theorem b_X7_starts_7 : Br_if_eq mX7_starts 7 12 := br_if_eq (off := 5) (by decide +kernel) (by decide)
set_option maxRecDepth 20000 in
theorem s_X7_starts_10 : Snd mX7_starts 10 (opLdI 2) 11 := (snd_iload_n (k := 2) (by decide +kernel) rfl)
set_option maxRecDepth 20000 in
theorem r_X7_starts_11 : RtI mX7_starts 11 := rt_I (by decide +kernel) rfl
set_option maxRecDepth 20000 in
theorem s_X7_starts_12 : Snd mX7_starts 12 (sq (opLdA 0) (sq (opGetI 7 9) (sq (opStI 3) (sq (opLdA 0) (sq (opLdI 1) (sq (opPutI 7 9) (sq (opLdA 0) (sq (opCi (0)) (sq (opPutI 7 16) (opLdI 3)))))))))) 28 := (snd_sq (snd_aload_n (k := 0) (by decide +kernel) rfl) (snd_sq (snd_getI (ci := 7) (k := 9) (by decide +kernel) rfl (by decide) (by decide) (by decide) iw_7 w815) (snd_sq (snd_istore_n (k := 3) (by decide +kernel) rfl (by decide)) (snd_sq (snd_aload_n (k := 0) (by decide +kernel) rfl) (snd_sq (snd_iload_n (k := 1) (by decide +kernel) rfl) (snd_sq (snd_putI (ci := 7) (k := 9) (by decide +kernel) rfl (by decide) (by decide) (by decide) iw_7 tyX7_ok nmX7 rfl (tyX7_ok 9 (by decide)) w815) (snd_sq (snd_aload_n (k := 0) (by decide +kernel) rfl) (snd_sq (snd_iconst (k := 0) (by decide) (by decide +kernel)) (snd_sq (snd_putI (ci := 7) (k := 16) (by decide +kernel) rfl (by decide) (by decide) (by decide) iw_7 tyX7_ok nmX7 rfl (tyX7_ok 16 (by decide)) w822) (snd_iload_n (k := 3) (by decide +kernel) rfl))))))))))
set_option maxRecDepth 20000 in
theorem r_X7_starts_28 : RtI mX7_starts 28 := rt_I (by decide +kernel) rfl
/-! ClaimChainsModel.next(II)I -/
set_option maxRecDepth 20000 in
theorem s_X7_next_0 : Snd mX7_next 0 (sq (opLdI 1) (sq (opCi (0)) (opCi (3)))) 3 := (snd_sq (snd_iload_n (k := 1) (by decide +kernel) rfl) (snd_sq (snd_iconst (k := 0) (by decide) (by decide +kernel)) (snd_iconst (k := 3) (by decide) (by decide +kernel))))
set_option maxRecDepth 20000 in
theorem c_X7_next_3 : CallS mX7_next 3 mX7_within 3 := kallS (site_S w903 (by decide +kernel) w901 w902 w97 ⟨by decide, by decide, by decide +kernel⟩) (by decide)
set_option maxRecDepth 20000 in
theorem b_X7_next_6 : Br_if_eq mX7_next 6 17 := br_if_eq (off := 11) (by decide +kernel) (by decide)
set_option maxRecDepth 20000 in
theorem s_X7_next_9 : Snd mX7_next 9 (sq (opLdA 0) (opLdI 2)) 11 := (snd_sq (snd_aload_n (k := 0) (by decide +kernel) rfl) (snd_iload_n (k := 2) (by decide +kernel) rfl))
set_option maxRecDepth 20000 in
theorem c_X7_next_11 : CallV mX7_next 11 mX7_isTerm 7 2 := kallV (site_V rfl w934 (by decide +kernel) w931 w933 w59 w97 ⟨by decide, by decide, by decide +kernel⟩) (by decide) (by decide) (by unfold clsNo; rfl)
set_option maxRecDepth 20000 in
theorem b_X7_next_14 : Br_if_ne mX7_next 14 19 := br_if_ne (off := 5) (by decide +kernel) (by decide)
set_option maxRecDepth 20000 in
theorem s_X7_next_17 : Snd mX7_next 17 (opCi (-1)) 18 := (snd_iconst (k := -1) (by decide) (by decide +kernel))
set_option maxRecDepth 20000 in
theorem r_X7_next_18 : RtI mX7_next 18 := rt_I (by decide +kernel) rfl
set_option maxRecDepth 20000 in
theorem s_X7_next_19 : Snd mX7_next 19 (sq (opLdA 0) (sq (opGetR 7 11) (sq (opLdI 1) (sq opIald (sq (opStI 3) (sq (opLdA 0) (sq (opGetR 7 11) (sq (opLdI 1) (sq (opLdI 2) (sq opIast (sq (opLdA 0) (sq (opCi (0)) (sq (opPutI 7 16) (opLdI 3)))))))))))))) 39 := (snd_sq (snd_aload_n (k := 0) (by decide +kernel) rfl) (snd_sq (snd_getR (ci := 7) (k := 11) (by decide +kernel) rfl (by decide) (by decide) rfl iw_7 w817) (snd_sq (snd_iload_n (k := 1) (by decide +kernel) rfl) (snd_sq (snd_iald (by decide +kernel)) (snd_sq (snd_istore_n (k := 3) (by decide +kernel) rfl (by decide)) (snd_sq (snd_aload_n (k := 0) (by decide +kernel) rfl) (snd_sq (snd_getR (ci := 7) (k := 11) (by decide +kernel) rfl (by decide) (by decide) rfl iw_7 w817) (snd_sq (snd_iload_n (k := 1) (by decide +kernel) rfl) (snd_sq (snd_iload_n (k := 2) (by decide +kernel) rfl) (snd_sq (snd_iast (by decide +kernel)) (snd_sq (snd_aload_n (k := 0) (by decide +kernel) rfl) (snd_sq (snd_iconst (k := 0) (by decide) (by decide +kernel)) (snd_sq (snd_putI (ci := 7) (k := 16) (by decide +kernel) rfl (by decide) (by decide) (by decide) iw_7 tyX7_ok nmX7 rfl (tyX7_ok 16 (by decide)) w822) (snd_iload_n (k := 3) (by decide +kernel) rfl))))))))))))))
set_option maxRecDepth 20000 in
theorem r_X7_next_39 : RtI mX7_next 39 := rt_I (by decide +kernel) rfl
/-! ClaimChainsModel.claim(I)I -/
set_option maxRecDepth 20000 in
theorem s_X7_claim_0 : Snd mX7_claim 0 (sq (opLdA 0) (opLdI 1)) 2 := (snd_sq (snd_aload_n (k := 0) (by decide +kernel) rfl) (snd_iload_n (k := 1) (by decide +kernel) rfl))
set_option maxRecDepth 20000 in
theorem c_X7_claim_2 : CallV mX7_claim 2 mX7_againstStates 7 2 := kallV (site_V rfl w977 (by decide +kernel) w974 w976 w61 w97 ⟨by decide, by decide, by decide +kernel⟩) (by decide) (by decide) (by unfold clsNo; rfl)
set_option maxRecDepth 20000 in
theorem s_X7_claim_5 : Snd mX7_claim 5 (sq (opStI 2) (opLdI 2)) 7 := (snd_sq (snd_istore_n (k := 2) (by decide +kernel) rfl (by decide)) (snd_iload_n (k := 2) (by decide +kernel) rfl))
set_option maxRecDepth 20000 in
theorem b_X7_claim_7 : Br_if_eq mX7_claim 7 12 := br_if_eq (off := 5) (by decide +kernel) (by decide)
set_option maxRecDepth 20000 in
theorem s_X7_claim_10 : Snd mX7_claim 10 (opLdI 2) 11 := (snd_iload_n (k := 2) (by decide +kernel) rfl)
set_option maxRecDepth 20000 in
theorem r_X7_claim_11 : RtI mX7_claim 11 := rt_I (by decide +kernel) rfl
set_option maxRecDepth 20000 in
theorem s_X7_claim_12 : Snd mX7_claim 12 (sq (opLdA 0) (sq (opGetI 7 10) (sq (opStI 3) (sq (opLdA 0) (sq (opLdI 1) (sq (opPutI 7 10) (sq (opLdA 0) (sq (opCi (0)) (sq (opPutI 7 16) (opLdI 3)))))))))) 28 := (snd_sq (snd_aload_n (k := 0) (by decide +kernel) rfl) (snd_sq (snd_getI (ci := 7) (k := 10) (by decide +kernel) rfl (by decide) (by decide) (by decide) iw_7 w816) (snd_sq (snd_istore_n (k := 3) (by decide +kernel) rfl (by decide)) (snd_sq (snd_aload_n (k := 0) (by decide +kernel) rfl) (snd_sq (snd_iload_n (k := 1) (by decide +kernel) rfl) (snd_sq (snd_putI (ci := 7) (k := 10) (by decide +kernel) rfl (by decide) (by decide) (by decide) iw_7 tyX7_ok nmX7 rfl (tyX7_ok 10 (by decide)) w816) (snd_sq (snd_aload_n (k := 0) (by decide +kernel) rfl) (snd_sq (snd_iconst (k := 0) (by decide) (by decide +kernel)) (snd_sq (snd_putI (ci := 7) (k := 16) (by decide +kernel) rfl (by decide) (by decide) (by decide) iw_7 tyX7_ok nmX7 rfl (tyX7_ok 16 (by decide)) w822) (snd_iload_n (k := 3) (by decide +kernel) rfl))))))))))
set_option maxRecDepth 20000 in
theorem r_X7_claim_28 : RtI mX7_claim 28 := rt_I (by decide +kernel) rfl
/-! ClaimChainsModel.stepOf(II)I -/
set_option maxRecDepth 20000 in
theorem s_X7_stepOf_0 : Snd mX7_stepOf 0 (sq (opCi (0)) (sq (opStI 3) (sq (opCi (0)) (opStI 4)))) 5 := (snd_sq (snd_iconst (k := 0) (by decide) (by decide +kernel)) (snd_sq (snd_istore_n (k := 3) (by decide +kernel) rfl (by decide)) (snd_sq (snd_iconst (k := 0) (by decide) (by decide +kernel)) (snd_istore (by decide +kernel) (by decide)))))
set_option maxRecDepth 20000 in
theorem s_X7_stepOf_5 : Snd mX7_stepOf 5 (sq (opLdI 4) (opCi (4))) 8 := (snd_sq (snd_iload (by decide +kernel)) (snd_iconst (k := 4) (by decide) (by decide +kernel)))
set_option maxRecDepth 20000 in
theorem b_X7_stepOf_8 : Br_ic_ge mX7_stepOf 8 57 := br_ic_ge (off := 49) (by decide +kernel) (by decide)
set_option maxRecDepth 20000 in
theorem s_X7_stepOf_11 : Snd mX7_stepOf 11 (sq (opLdI 3) (sq (opLdA 0) (sq (opGetR 7 11) (sq (opLdI 4) (sq opIald (opCi (-9))))))) 21 := (snd_sq (snd_iload_n (k := 3) (by decide +kernel) rfl) (snd_sq (snd_aload_n (k := 0) (by decide +kernel) rfl) (snd_sq (snd_getR (ci := 7) (k := 11) (by decide +kernel) rfl (by decide) (by decide) rfl iw_7 w817) (snd_sq (snd_iload (by decide +kernel)) (snd_sq (snd_iald (by decide +kernel)) (snd_bipush (k := -9) (by decide) (by decide +kernel)))))))
set_option maxRecDepth 20000 in
theorem b_X7_stepOf_21 : Br_ic_ne mX7_stepOf 21 33 := br_ic_ne (off := 12) (by decide +kernel) (by decide)
set_option maxRecDepth 20000 in
theorem s_X7_stepOf_24 : Snd mX7_stepOf 24 (sq (opLdI 1) (opLdI 4)) 27 := (snd_sq (snd_iload_n (k := 1) (by decide +kernel) rfl) (snd_iload (by decide +kernel)))
set_option maxRecDepth 20000 in
theorem c_X7_stepOf_27 : CallS mX7_stepOf 27 mX7_isIn 2 := kallS (site_S w926 (by decide +kernel) w924 w925 w97 ⟨by decide, by decide, by decide +kernel⟩) (by decide)
set_option maxRecDepth 20000 in
theorem s_X7_stepOf_30 : Snd mX7_stepOf 30 opNop 46 := (snd_goto (off := 16) (by decide +kernel) (by decide))
set_option maxRecDepth 20000 in
theorem s_X7_stepOf_33 : Snd mX7_stepOf 33 (sq (opLdA 0) (sq (opLdA 0) (sq (opGetR 7 11) (sq (opLdI 4) (sq opIald (sq (opLdI 1) (opLdI 2))))))) 43 := (snd_sq (snd_aload_n (k := 0) (by decide +kernel) rfl) (snd_sq (snd_aload_n (k := 0) (by decide +kernel) rfl) (snd_sq (snd_getR (ci := 7) (k := 11) (by decide +kernel) rfl (by decide) (by decide) rfl iw_7 w817) (snd_sq (snd_iload (by decide +kernel)) (snd_sq (snd_iald (by decide +kernel)) (snd_sq (snd_iload_n (k := 1) (by decide +kernel) rfl) (snd_iload_n (k := 2) (by decide +kernel) rfl)))))))
set_option maxRecDepth 20000 in
theorem c_X7_stepOf_43 : CallV mX7_stepOf 43 mX7_valueIn 7 4 := kallV (site_V rfl w923 (by decide +kernel) w920 w922 w58 w97 ⟨by decide, by decide, by decide +kernel⟩) (by decide) (by decide) (by unfold clsNo; rfl)
set_option maxRecDepth 20000 in
theorem s_X7_stepOf_46 : Snd mX7_stepOf 46 (sq (opLdI 4) (sq opishl (sq opior (sq (opStI 3) (sq (opInc 4 (1)) opNop))))) 5 := (snd_sq (snd_iload (by decide +kernel)) (snd_sq (snd_ishl (by decide +kernel)) (snd_sq (snd_ior (by decide +kernel)) (snd_sq (snd_istore_n (k := 3) (by decide +kernel) rfl (by decide)) (snd_sq (snd_iinc (k := 1) (by decide +kernel) (by decide) (by decide)) (snd_goto (off := -49) (by decide +kernel) (by decide)))))))
set_option maxRecDepth 20000 in
theorem s_X7_stepOf_57 : Snd mX7_stepOf 57 (opLdI 3) 58 := (snd_iload_n (k := 3) (by decide +kernel) rfl)
set_option maxRecDepth 20000 in
theorem r_X7_stepOf_58 : RtI mX7_stepOf 58 := rt_I (by decide +kernel) rfl
/-! ClaimChainsModel.step(II)I -/
set_option maxRecDepth 20000 in
theorem s_X7_step_0 : Snd mX7_step 0 (opLdI 1) 1 := (snd_iload_n (k := 1) (by decide +kernel) rfl)
set_option maxRecDepth 20000 in
theorem c_X7_step_1 : CallS mX7_step 1 mX7_isState 1 := kallS (site_S w954 (by decide +kernel) w952 w953 w97 ⟨by decide, by decide, by decide +kernel⟩) (by decide)
set_option maxRecDepth 20000 in
theorem b_X7_step_4 : Br_if_eq mX7_step 4 23 := br_if_eq (off := 19) (by decide +kernel) (by decide)
set_option maxRecDepth 20000 in
theorem s_X7_step_7 : Snd mX7_step 7 (opLdI 2) 8 := (snd_iload_n (k := 2) (by decide +kernel) rfl)
set_option maxRecDepth 20000 in
theorem c_X7_step_8 : CallS mX7_step 8 mX7_isRow 1 := kallS (site_S w957 (by decide +kernel) w955 w956 w97 ⟨by decide, by decide, by decide +kernel⟩) (by decide)
set_option maxRecDepth 20000 in
theorem b_X7_step_11 : Br_if_eq mX7_step 11 23 := br_if_eq (off := 12) (by decide +kernel) (by decide)
set_option maxRecDepth 20000 in
theorem s_X7_step_14 : Snd mX7_step 14 (sq (opLdA 0) (sq (opLdI 1) (opLdI 2))) 17 := (snd_sq (snd_aload_n (k := 0) (by decide +kernel) rfl) (snd_sq (snd_iload_n (k := 1) (by decide +kernel) rfl) (snd_iload_n (k := 2) (by decide +kernel) rfl)))
set_option maxRecDepth 20000 in
theorem c_X7_step_17 : CallV mX7_step 17 mX7_stepOf 7 3 := kallV (site_V rfl w993 (by decide +kernel) w990 w992 w62 w97 ⟨by decide, by decide, by decide +kernel⟩) (by decide) (by decide) (by unfold clsNo; rfl)
set_option maxRecDepth 20000 in
theorem s_X7_step_20 : Snd mX7_step 20 opNop 25 := (snd_goto (off := 5) (by decide +kernel) (by decide))
set_option maxRecDepth 20000 in
theorem s_X7_step_23 : Snd mX7_step 23 (opCi (-2)) 25 := (snd_bipush (k := -2) (by decide) (by decide +kernel))
set_option maxRecDepth 20000 in
theorem r_X7_step_25 : RtI mX7_step 25 := rt_I (by decide +kernel) rfl
/-! ClaimChainsModel.beforeOf(I)I -/
set_option maxRecDepth 20000 in
theorem s_X7_beforeOf_0 : Snd mX7_beforeOf 0 (sq (opCi (0)) (sq (opStI 2) (sq (opCi (0)) (opStI 3)))) 4 := (snd_sq (snd_iconst (k := 0) (by decide) (by decide +kernel)) (snd_sq (snd_istore_n (k := 2) (by decide +kernel) rfl (by decide)) (snd_sq (snd_iconst (k := 0) (by decide) (by decide +kernel)) (snd_istore_n (k := 3) (by decide +kernel) rfl (by decide)))))
set_option maxRecDepth 20000 in
theorem s_X7_beforeOf_4 : Snd mX7_beforeOf 4 (sq (opLdI 3) (opCi (16))) 7 := (snd_sq (snd_iload_n (k := 3) (by decide +kernel) rfl) (snd_bipush (k := 16) (by decide) (by decide +kernel)))
set_option maxRecDepth 20000 in
theorem b_X7_beforeOf_7 : Br_ic_ge mX7_beforeOf 7 52 := br_ic_ge (off := 45) (by decide +kernel) (by decide)
set_option maxRecDepth 20000 in
theorem s_X7_beforeOf_10 : Snd mX7_beforeOf 10 (sq (opCi (0)) (opStI 4)) 13 := (snd_sq (snd_iconst (k := 0) (by decide) (by decide +kernel)) (snd_istore (by decide +kernel) (by decide)))
set_option maxRecDepth 20000 in
theorem s_X7_beforeOf_13 : Snd mX7_beforeOf 13 (sq (opLdI 4) (opCi (4))) 16 := (snd_sq (snd_iload (by decide +kernel)) (snd_iconst (k := 4) (by decide) (by decide +kernel)))
set_option maxRecDepth 20000 in
theorem b_X7_beforeOf_16 : Br_ic_ge mX7_beforeOf 16 46 := br_ic_ge (off := 30) (by decide +kernel) (by decide)
set_option maxRecDepth 20000 in
theorem s_X7_beforeOf_19 : Snd mX7_beforeOf 19 (sq (opLdI 2) (sq (opLdA 0) (sq (opLdI 3) (opLdI 4)))) 24 := (snd_sq (snd_iload_n (k := 2) (by decide +kernel) rfl) (snd_sq (snd_aload_n (k := 0) (by decide +kernel) rfl) (snd_sq (snd_iload_n (k := 3) (by decide +kernel) rfl) (snd_iload (by decide +kernel)))))
set_option maxRecDepth 20000 in
theorem c_X7_beforeOf_24 : CallV mX7_beforeOf 24 mX7_stepOf 7 3 := kallV (site_V rfl w993 (by decide +kernel) w990 w992 w62 w97 ⟨by decide, by decide, by decide +kernel⟩) (by decide) (by decide) (by unfold clsNo; rfl)
set_option maxRecDepth 20000 in
theorem s_X7_beforeOf_27 : Snd mX7_beforeOf 27 (opLdI 1) 28 := (snd_iload_n (k := 1) (by decide +kernel) rfl)
set_option maxRecDepth 20000 in
theorem b_X7_beforeOf_28 : Br_ic_ne mX7_beforeOf 28 37 := br_ic_ne (off := 9) (by decide +kernel) (by decide)
set_option maxRecDepth 20000 in
theorem s_X7_beforeOf_31 : Snd mX7_beforeOf 31 (sq (opCi (1)) (sq (opLdI 3) (sq opishl opNop))) 38 := (snd_sq (snd_iconst (k := 1) (by decide) (by decide +kernel)) (snd_sq (snd_iload_n (k := 3) (by decide +kernel) rfl) (snd_sq (snd_ishl (by decide +kernel)) (snd_goto (off := 4) (by decide +kernel) (by decide)))))
set_option maxRecDepth 20000 in
theorem s_X7_beforeOf_37 : Snd mX7_beforeOf 37 (opCi (0)) 38 := (snd_iconst (k := 0) (by decide) (by decide +kernel))
set_option maxRecDepth 20000 in
theorem s_X7_beforeOf_38 : Snd mX7_beforeOf 38 (sq opior (sq (opStI 2) (sq (opInc 4 (1)) opNop))) 13 := (snd_sq (snd_ior (by decide +kernel)) (snd_sq (snd_istore_n (k := 2) (by decide +kernel) rfl (by decide)) (snd_sq (snd_iinc (k := 1) (by decide +kernel) (by decide) (by decide)) (snd_goto (off := -30) (by decide +kernel) (by decide)))))
set_option maxRecDepth 20000 in
theorem s_X7_beforeOf_46 : Snd mX7_beforeOf 46 (sq (opInc 3 (1)) opNop) 4 := (snd_sq (snd_iinc (k := 1) (by decide +kernel) (by decide) (by decide)) (snd_goto (off := -45) (by decide +kernel) (by decide)))
set_option maxRecDepth 20000 in
theorem s_X7_beforeOf_52 : Snd mX7_beforeOf 52 (opLdI 2) 53 := (snd_iload_n (k := 2) (by decide +kernel) rfl)
set_option maxRecDepth 20000 in
theorem r_X7_beforeOf_53 : RtI mX7_beforeOf 53 := rt_I (by decide +kernel) rfl
/-! ClaimChainsModel.before(I)I -/
set_option maxRecDepth 20000 in
theorem s_X7_before_0 : Snd mX7_before 0 (opLdI 1) 1 := (snd_iload_n (k := 1) (by decide +kernel) rfl)
set_option maxRecDepth 20000 in
theorem c_X7_before_1 : CallS mX7_before 1 mX7_isState 1 := kallS (site_S w954 (by decide +kernel) w952 w953 w97 ⟨by decide, by decide, by decide +kernel⟩) (by decide)
set_option maxRecDepth 20000 in
theorem b_X7_before_4 : Br_if_eq mX7_before 4 15 := br_if_eq (off := 11) (by decide +kernel) (by decide)
set_option maxRecDepth 20000 in
theorem s_X7_before_7 : Snd mX7_before 7 (sq (opLdA 0) (opLdI 1)) 9 := (snd_sq (snd_aload_n (k := 0) (by decide +kernel) rfl) (snd_iload_n (k := 1) (by decide +kernel) rfl))
set_option maxRecDepth 20000 in
theorem c_X7_before_9 : CallV mX7_before 9 mX7_beforeOf 7 2 := kallV (site_V rfl w1001 (by decide +kernel) w998 w1000 w63 w97 ⟨by decide, by decide, by decide +kernel⟩) (by decide) (by decide) (by unfold clsNo; rfl)
set_option maxRecDepth 20000 in
theorem s_X7_before_12 : Snd mX7_before 12 opNop 17 := (snd_goto (off := 5) (by decide +kernel) (by decide))
set_option maxRecDepth 20000 in
theorem s_X7_before_15 : Snd mX7_before 15 (opCi (-2)) 17 := (snd_bipush (k := -2) (by decide) (by decide +kernel))
set_option maxRecDepth 20000 in
theorem r_X7_before_17 : RtI mX7_before 17 := rt_I (by decide +kernel) rfl
/-! ClaimChainsModel.findFar()V -/
set_option maxRecDepth 20000 in
theorem s_X7_findFar_0 : Snd mX7_findFar 0 (sq (opCi (0)) (opStI 1)) 2 := (snd_sq (snd_iconst (k := 0) (by decide) (by decide +kernel)) (snd_istore_n (k := 1) (by decide +kernel) rfl (by decide)))
set_option maxRecDepth 20000 in
theorem s_X7_findFar_2 : Snd mX7_findFar 2 (sq (opLdI 1) (opCi (16))) 5 := (snd_sq (snd_iload_n (k := 1) (by decide +kernel) rfl) (snd_bipush (k := 16) (by decide) (by decide +kernel)))
set_option maxRecDepth 20000 in
theorem b_X7_findFar_5 : Br_ic_ge mX7_findFar 5 38 := br_ic_ge (off := 33) (by decide +kernel) (by decide)
set_option maxRecDepth 20000 in
theorem s_X7_findFar_8 : Snd mX7_findFar 8 (sq (opLdA 0) (sq (opGetR 7 12) (sq (opLdI 1) (opLdA 0)))) 14 := (snd_sq (snd_aload_n (k := 0) (by decide +kernel) rfl) (snd_sq (snd_getR (ci := 7) (k := 12) (by decide +kernel) rfl (by decide) (by decide) rfl iw_7 w818) (snd_sq (snd_iload_n (k := 1) (by decide +kernel) rfl) (snd_aload_n (k := 0) (by decide +kernel) rfl))))
set_option maxRecDepth 20000 in
theorem c_X7_findFar_14 : CallV mX7_findFar 14 mX7_startSet 7 1 := kallV (site_V rfl w1013 (by decide +kernel) w1010 w1012 w65 w97 ⟨by decide, by decide, by decide +kernel⟩) (by decide) (by decide) (by unfold clsNo; rfl)
set_option maxRecDepth 20000 in
theorem s_X7_findFar_17 : Snd mX7_findFar 17 (opLdI 1) 18 := (snd_iload_n (k := 1) (by decide +kernel) rfl)
set_option maxRecDepth 20000 in
theorem c_X7_findFar_18 : CallS mX7_findFar 18 mX7_isIn 2 := kallS (site_S w926 (by decide +kernel) w924 w925 w97 ⟨by decide, by decide, by decide +kernel⟩) (by decide)
set_option maxRecDepth 20000 in
theorem s_X7_findFar_21 : Snd mX7_findFar 21 (opCi (1)) 22 := (snd_iconst (k := 1) (by decide) (by decide +kernel))
set_option maxRecDepth 20000 in
theorem b_X7_findFar_22 : Br_ic_ne mX7_findFar 22 29 := br_ic_ne (off := 7) (by decide +kernel) (by decide)
set_option maxRecDepth 20000 in
theorem s_X7_findFar_25 : Snd mX7_findFar 25 (sq (opCi (0)) opNop) 31 := (snd_sq (snd_iconst (k := 0) (by decide) (by decide +kernel)) (snd_goto (off := 5) (by decide +kernel) (by decide)))
set_option maxRecDepth 20000 in
theorem s_X7_findFar_29 : Snd mX7_findFar 29 (opCi (-9)) 31 := (snd_bipush (k := -9) (by decide) (by decide +kernel))
set_option maxRecDepth 20000 in
theorem s_X7_findFar_31 : Snd mX7_findFar 31 (sq opIast (sq (opInc 1 (1)) opNop)) 2 := (snd_sq (snd_iast (by decide +kernel)) (snd_sq (snd_iinc (k := 1) (by decide +kernel) (by decide) (by decide)) (snd_goto (off := -33) (by decide +kernel) (by decide))))
set_option maxRecDepth 20000 in
theorem s_X7_findFar_38 : Snd mX7_findFar 38 (sq (opCi (1)) (opStI 1)) 40 := (snd_sq (snd_iconst (k := 1) (by decide) (by decide +kernel)) (snd_istore_n (k := 1) (by decide +kernel) rfl (by decide)))
set_option maxRecDepth 20000 in
theorem s_X7_findFar_40 : Snd mX7_findFar 40 (sq (opLdI 1) (opCi (16))) 43 := (snd_sq (snd_iload_n (k := 1) (by decide +kernel) rfl) (snd_bipush (k := 16) (by decide) (by decide +kernel)))
set_option maxRecDepth 20000 in
theorem b_X7_findFar_43 : Br_ic_ge mX7_findFar 43 129 := br_ic_ge (off := 86) (by decide +kernel) (by decide)
set_option maxRecDepth 20000 in
theorem s_X7_findFar_46 : Snd mX7_findFar 46 (sq (opCi (0)) (opStI 2)) 48 := (snd_sq (snd_iconst (k := 0) (by decide) (by decide +kernel)) (snd_istore_n (k := 2) (by decide +kernel) rfl (by decide)))
set_option maxRecDepth 20000 in
theorem s_X7_findFar_48 : Snd mX7_findFar 48 (sq (opLdI 2) (opCi (16))) 51 := (snd_sq (snd_iload_n (k := 2) (by decide +kernel) rfl) (snd_bipush (k := 16) (by decide) (by decide +kernel)))
set_option maxRecDepth 20000 in
theorem b_X7_findFar_51 : Br_ic_ge mX7_findFar 51 123 := br_ic_ge (off := 72) (by decide +kernel) (by decide)
set_option maxRecDepth 20000 in
theorem s_X7_findFar_54 : Snd mX7_findFar 54 (sq (opCi (0)) (opStI 3)) 56 := (snd_sq (snd_iconst (k := 0) (by decide) (by decide +kernel)) (snd_istore_n (k := 3) (by decide +kernel) rfl (by decide)))
set_option maxRecDepth 20000 in
theorem s_X7_findFar_56 : Snd mX7_findFar 56 (sq (opLdI 3) (opCi (4))) 58 := (snd_sq (snd_iload_n (k := 3) (by decide +kernel) rfl) (snd_iconst (k := 4) (by decide) (by decide +kernel)))
set_option maxRecDepth 20000 in
theorem b_X7_findFar_58 : Br_ic_ge mX7_findFar 58 117 := br_ic_ge (off := 59) (by decide +kernel) (by decide)
set_option maxRecDepth 20000 in
theorem s_X7_findFar_61 : Snd mX7_findFar 61 (sq (opLdA 0) (sq (opGetR 7 12) (sq (opLdI 2) (sq opIald (sq (opLdI 1) (sq (opCi (1)) opisub)))))) 70 := (snd_sq (snd_aload_n (k := 0) (by decide +kernel) rfl) (snd_sq (snd_getR (ci := 7) (k := 12) (by decide +kernel) rfl (by decide) (by decide) rfl iw_7 w818) (snd_sq (snd_iload_n (k := 2) (by decide +kernel) rfl) (snd_sq (snd_iald (by decide +kernel)) (snd_sq (snd_iload_n (k := 1) (by decide +kernel) rfl) (snd_sq (snd_iconst (k := 1) (by decide) (by decide +kernel)) (snd_isub (by decide +kernel))))))))
set_option maxRecDepth 20000 in
theorem b_X7_findFar_70 : Br_ic_ne mX7_findFar 70 117 := br_ic_ne (off := 47) (by decide +kernel) (by decide)
set_option maxRecDepth 20000 in
theorem s_X7_findFar_73 : Snd mX7_findFar 73 (sq (opLdA 0) (sq (opLdI 2) (opLdI 3))) 76 := (snd_sq (snd_aload_n (k := 0) (by decide +kernel) rfl) (snd_sq (snd_iload_n (k := 2) (by decide +kernel) rfl) (snd_iload_n (k := 3) (by decide +kernel) rfl)))
set_option maxRecDepth 20000 in
theorem c_X7_findFar_76 : CallV mX7_findFar 76 mX7_stepOf 7 3 := kallV (site_V rfl w993 (by decide +kernel) w990 w992 w62 w97 ⟨by decide, by decide, by decide +kernel⟩) (by decide) (by decide) (by unfold clsNo; rfl)
set_option maxRecDepth 20000 in
theorem s_X7_findFar_79 : Snd mX7_findFar 79 (sq (opStI 4) (sq (opLdA 0) (sq (opGetR 7 12) (sq (opLdI 4) (sq (opLdA 0) (sq (opGetR 7 12) (sq (opLdI 4) (sq opIald (opCi (-9)))))))))) 96 := (snd_sq (snd_istore (by decide +kernel) (by decide)) (snd_sq (snd_aload_n (k := 0) (by decide +kernel) rfl) (snd_sq (snd_getR (ci := 7) (k := 12) (by decide +kernel) rfl (by decide) (by decide) rfl iw_7 w818) (snd_sq (snd_iload (by decide +kernel)) (snd_sq (snd_aload_n (k := 0) (by decide +kernel) rfl) (snd_sq (snd_getR (ci := 7) (k := 12) (by decide +kernel) rfl (by decide) (by decide) rfl iw_7 w818) (snd_sq (snd_iload (by decide +kernel)) (snd_sq (snd_iald (by decide +kernel)) (snd_bipush (k := -9) (by decide) (by decide +kernel))))))))))
set_option maxRecDepth 20000 in
theorem b_X7_findFar_96 : Br_ic_ne mX7_findFar 96 103 := br_ic_ne (off := 7) (by decide +kernel) (by decide)
set_option maxRecDepth 20000 in
theorem s_X7_findFar_99 : Snd mX7_findFar 99 (sq (opLdI 1) opNop) 110 := (snd_sq (snd_iload_n (k := 1) (by decide +kernel) rfl) (snd_goto (off := 10) (by decide +kernel) (by decide)))
set_option maxRecDepth 20000 in
theorem s_X7_findFar_103 : Snd mX7_findFar 103 (sq (opLdA 0) (sq (opGetR 7 12) (sq (opLdI 4) opIald))) 110 := (snd_sq (snd_aload_n (k := 0) (by decide +kernel) rfl) (snd_sq (snd_getR (ci := 7) (k := 12) (by decide +kernel) rfl (by decide) (by decide) rfl iw_7 w818) (snd_sq (snd_iload (by decide +kernel)) (snd_iald (by decide +kernel)))))
set_option maxRecDepth 20000 in
theorem s_X7_findFar_110 : Snd mX7_findFar 110 (sq opIast (sq (opInc 3 (1)) opNop)) 56 := (snd_sq (snd_iast (by decide +kernel)) (snd_sq (snd_iinc (k := 1) (by decide +kernel) (by decide) (by decide)) (snd_goto (off := -58) (by decide +kernel) (by decide))))
set_option maxRecDepth 20000 in
theorem s_X7_findFar_117 : Snd mX7_findFar 117 (sq (opInc 2 (1)) opNop) 48 := (snd_sq (snd_iinc (k := 1) (by decide +kernel) (by decide) (by decide)) (snd_goto (off := -72) (by decide +kernel) (by decide)))
set_option maxRecDepth 20000 in
theorem s_X7_findFar_123 : Snd mX7_findFar 123 (sq (opInc 1 (1)) opNop) 40 := (snd_sq (snd_iinc (k := 1) (by decide +kernel) (by decide) (by decide)) (snd_goto (off := -86) (by decide +kernel) (by decide)))
set_option maxRecDepth 20000 in
theorem r_X7_findFar_129 : RtV mX7_findFar 129 := rt_V (by decide +kernel) rfl
/-! ClaimChainsModel.distance(I)I -/
set_option maxRecDepth 20000 in
theorem s_X7_distance_0 : Snd mX7_distance 0 (opLdI 1) 1 := (snd_iload_n (k := 1) (by decide +kernel) rfl)
set_option maxRecDepth 20000 in
theorem c_X7_distance_1 : CallS mX7_distance 1 mX7_isState 1 := kallS (site_S w954 (by decide +kernel) w952 w953 w97 ⟨by decide, by decide, by decide +kernel⟩) (by decide)
set_option maxRecDepth 20000 in
theorem b_X7_distance_4 : Br_if_ne mX7_distance 4 10 := br_if_ne (off := 6) (by decide +kernel) (by decide)
set_option maxRecDepth 20000 in
theorem s_X7_distance_7 : Snd mX7_distance 7 (opCi (-2)) 9 := (snd_bipush (k := -2) (by decide) (by decide +kernel))
set_option maxRecDepth 20000 in
theorem r_X7_distance_9 : RtI mX7_distance 9 := rt_I (by decide +kernel) rfl
set_option maxRecDepth 20000 in
theorem s_X7_distance_10 : Snd mX7_distance 10 (opLdA 0) 11 := (snd_aload_n (k := 0) (by decide +kernel) rfl)
set_option maxRecDepth 20000 in
theorem c_X7_distance_11 : CallV mX7_distance 11 mX7_findFar 7 1 := kallV (site_V rfl w1009 (by decide +kernel) w1006 w1008 w64 w97 ⟨by decide, by decide, by decide +kernel⟩) (by decide) (by decide) (by unfold clsNo; rfl)
set_option maxRecDepth 20000 in
theorem s_X7_distance_14 : Snd mX7_distance 14 (sq (opLdA 0) (sq (opGetR 7 12) (sq (opLdI 1) opIald))) 20 := (snd_sq (snd_aload_n (k := 0) (by decide +kernel) rfl) (snd_sq (snd_getR (ci := 7) (k := 12) (by decide +kernel) rfl (by decide) (by decide) rfl iw_7 w818) (snd_sq (snd_iload_n (k := 1) (by decide +kernel) rfl) (snd_iald (by decide +kernel)))))
set_option maxRecDepth 20000 in
theorem r_X7_distance_20 : RtI mX7_distance 20 := rt_I (by decide +kernel) rfl
/-! ClaimChainsModel.metSet()I -/
set_option maxRecDepth 20000 in
theorem s_X7_metSet_0 : Snd mX7_metSet 0 (sq (opCi (0)) (sq (opStI 1) (sq (opCi (0)) (opStI 2)))) 4 := (snd_sq (snd_iconst (k := 0) (by decide) (by decide +kernel)) (snd_sq (snd_istore_n (k := 1) (by decide +kernel) rfl (by decide)) (snd_sq (snd_iconst (k := 0) (by decide) (by decide +kernel)) (snd_istore_n (k := 2) (by decide +kernel) rfl (by decide)))))
set_option maxRecDepth 20000 in
theorem s_X7_metSet_4 : Snd mX7_metSet 4 (sq (opLdI 2) (opCi (16))) 7 := (snd_sq (snd_iload_n (k := 2) (by decide +kernel) rfl) (snd_bipush (k := 16) (by decide) (by decide +kernel)))
set_option maxRecDepth 20000 in
theorem b_X7_metSet_7 : Br_ic_ge mX7_metSet 7 37 := br_ic_ge (off := 30) (by decide +kernel) (by decide)
set_option maxRecDepth 20000 in
theorem s_X7_metSet_10 : Snd mX7_metSet 10 (sq (opLdI 1) (sq (opLdA 0) (sq (opGetR 7 12) (sq (opLdI 2) (sq opIald (opCi (-9))))))) 19 := (snd_sq (snd_iload_n (k := 1) (by decide +kernel) rfl) (snd_sq (snd_aload_n (k := 0) (by decide +kernel) rfl) (snd_sq (snd_getR (ci := 7) (k := 12) (by decide +kernel) rfl (by decide) (by decide) rfl iw_7 w818) (snd_sq (snd_iload_n (k := 2) (by decide +kernel) rfl) (snd_sq (snd_iald (by decide +kernel)) (snd_bipush (k := -9) (by decide) (by decide +kernel)))))))
set_option maxRecDepth 20000 in
theorem b_X7_metSet_19 : Br_ic_ne mX7_metSet 19 26 := br_ic_ne (off := 7) (by decide +kernel) (by decide)
set_option maxRecDepth 20000 in
theorem s_X7_metSet_22 : Snd mX7_metSet 22 (sq (opCi (0)) opNop) 29 := (snd_sq (snd_iconst (k := 0) (by decide) (by decide +kernel)) (snd_goto (off := 6) (by decide +kernel) (by decide)))
set_option maxRecDepth 20000 in
theorem s_X7_metSet_26 : Snd mX7_metSet 26 (sq (opCi (1)) (sq (opLdI 2) opishl)) 29 := (snd_sq (snd_iconst (k := 1) (by decide) (by decide +kernel)) (snd_sq (snd_iload_n (k := 2) (by decide +kernel) rfl) (snd_ishl (by decide +kernel))))
set_option maxRecDepth 20000 in
theorem s_X7_metSet_29 : Snd mX7_metSet 29 (sq opior (sq (opStI 1) (sq (opInc 2 (1)) opNop))) 4 := (snd_sq (snd_ior (by decide +kernel)) (snd_sq (snd_istore_n (k := 1) (by decide +kernel) rfl (by decide)) (snd_sq (snd_iinc (k := 1) (by decide +kernel) (by decide) (by decide)) (snd_goto (off := -30) (by decide +kernel) (by decide)))))
set_option maxRecDepth 20000 in
theorem s_X7_metSet_37 : Snd mX7_metSet 37 (opLdI 1) 38 := (snd_iload_n (k := 1) (by decide +kernel) rfl)
set_option maxRecDepth 20000 in
theorem r_X7_metSet_38 : RtI mX7_metSet 38 := rt_I (by decide +kernel) rfl
/-! ClaimChainsModel.wayLong()I -/
set_option maxRecDepth 20000 in
theorem s_X7_wayLong_0 : Snd mX7_wayLong 0 (sq (opCi (-9)) (sq (opStI 1) (sq (opCi (0)) (opStI 2)))) 5 := (snd_sq (snd_bipush (k := -9) (by decide) (by decide +kernel)) (snd_sq (snd_istore_n (k := 1) (by decide +kernel) rfl (by decide)) (snd_sq (snd_iconst (k := 0) (by decide) (by decide +kernel)) (snd_istore_n (k := 2) (by decide +kernel) rfl (by decide)))))
set_option maxRecDepth 20000 in
theorem s_X7_wayLong_5 : Snd mX7_wayLong 5 (sq (opLdI 2) (opCi (16))) 8 := (snd_sq (snd_iload_n (k := 2) (by decide +kernel) rfl) (snd_bipush (k := 16) (by decide) (by decide +kernel)))
set_option maxRecDepth 20000 in
theorem b_X7_wayLong_8 : Br_ic_ge mX7_wayLong 8 77 := br_ic_ge (off := 69) (by decide +kernel) (by decide)
set_option maxRecDepth 20000 in
theorem s_X7_wayLong_11 : Snd mX7_wayLong 11 (opLdA 0) 12 := (snd_aload_n (k := 0) (by decide +kernel) rfl)
set_option maxRecDepth 20000 in
theorem c_X7_wayLong_12 : CallV mX7_wayLong 12 mX7_brokenSet 7 1 := kallV (site_V rfl w1037 (by decide +kernel) w1034 w1036 w69 w97 ⟨by decide, by decide, by decide +kernel⟩) (by decide) (by decide) (by unfold clsNo; rfl)
set_option maxRecDepth 20000 in
theorem s_X7_wayLong_15 : Snd mX7_wayLong 15 (opLdI 2) 16 := (snd_iload_n (k := 2) (by decide +kernel) rfl)
set_option maxRecDepth 20000 in
theorem c_X7_wayLong_16 : CallS mX7_wayLong 16 mX7_isIn 2 := kallS (site_S w926 (by decide +kernel) w924 w925 w97 ⟨by decide, by decide, by decide +kernel⟩) (by decide)
set_option maxRecDepth 20000 in
theorem s_X7_wayLong_19 : Snd mX7_wayLong 19 (opCi (1)) 20 := (snd_iconst (k := 1) (by decide) (by decide +kernel))
set_option maxRecDepth 20000 in
theorem b_X7_wayLong_20 : Br_ic_ne mX7_wayLong 20 38 := br_ic_ne (off := 18) (by decide +kernel) (by decide)
set_option maxRecDepth 20000 in
theorem s_X7_wayLong_23 : Snd mX7_wayLong 23 (sq (opLdA 0) (sq (opGetR 7 12) (sq (opLdI 2) (sq opIald (opCi (-9)))))) 31 := (snd_sq (snd_aload_n (k := 0) (by decide +kernel) rfl) (snd_sq (snd_getR (ci := 7) (k := 12) (by decide +kernel) rfl (by decide) (by decide) rfl iw_7 w818) (snd_sq (snd_iload_n (k := 2) (by decide +kernel) rfl) (snd_sq (snd_iald (by decide +kernel)) (snd_bipush (k := -9) (by decide) (by decide +kernel))))))
set_option maxRecDepth 20000 in
theorem b_X7_wayLong_31 : Br_ic_eq mX7_wayLong 31 38 := br_ic_eq (off := 7) (by decide +kernel) (by decide)
set_option maxRecDepth 20000 in
theorem s_X7_wayLong_34 : Snd mX7_wayLong 34 (sq (opCi (1)) opNop) 39 := (snd_sq (snd_iconst (k := 1) (by decide) (by decide +kernel)) (snd_goto (off := 4) (by decide +kernel) (by decide)))
set_option maxRecDepth 20000 in
theorem s_X7_wayLong_38 : Snd mX7_wayLong 38 (opCi (0)) 39 := (snd_iconst (k := 0) (by decide) (by decide +kernel))
set_option maxRecDepth 20000 in
theorem s_X7_wayLong_39 : Snd mX7_wayLong 39 (sq (opStI 3) (opLdI 3)) 41 := (snd_sq (snd_istore_n (k := 3) (by decide +kernel) rfl (by decide)) (snd_iload_n (k := 3) (by decide +kernel) rfl))
set_option maxRecDepth 20000 in
theorem b_X7_wayLong_41 : Br_if_eq mX7_wayLong 41 69 := br_if_eq (off := 28) (by decide +kernel) (by decide)
set_option maxRecDepth 20000 in
theorem s_X7_wayLong_44 : Snd mX7_wayLong 44 (sq (opLdI 1) (opCi (-9))) 47 := (snd_sq (snd_iload_n (k := 1) (by decide +kernel) rfl) (snd_bipush (k := -9) (by decide) (by decide +kernel)))
set_option maxRecDepth 20000 in
theorem b_X7_wayLong_47 : Br_ic_eq mX7_wayLong 47 60 := br_ic_eq (off := 13) (by decide +kernel) (by decide)
set_option maxRecDepth 20000 in
theorem s_X7_wayLong_50 : Snd mX7_wayLong 50 (sq (opLdA 0) (sq (opGetR 7 12) (sq (opLdI 2) (sq opIald (opLdI 1))))) 57 := (snd_sq (snd_aload_n (k := 0) (by decide +kernel) rfl) (snd_sq (snd_getR (ci := 7) (k := 12) (by decide +kernel) rfl (by decide) (by decide) rfl iw_7 w818) (snd_sq (snd_iload_n (k := 2) (by decide +kernel) rfl) (snd_sq (snd_iald (by decide +kernel)) (snd_iload_n (k := 1) (by decide +kernel) rfl)))))
set_option maxRecDepth 20000 in
theorem b_X7_wayLong_57 : Br_ic_ge mX7_wayLong 57 69 := br_ic_ge (off := 12) (by decide +kernel) (by decide)
set_option maxRecDepth 20000 in
theorem s_X7_wayLong_60 : Snd mX7_wayLong 60 (sq (opLdA 0) (sq (opGetR 7 12) (sq (opLdI 2) (sq opIald opNop)))) 70 := (snd_sq (snd_aload_n (k := 0) (by decide +kernel) rfl) (snd_sq (snd_getR (ci := 7) (k := 12) (by decide +kernel) rfl (by decide) (by decide) rfl iw_7 w818) (snd_sq (snd_iload_n (k := 2) (by decide +kernel) rfl) (snd_sq (snd_iald (by decide +kernel)) (snd_goto (off := 4) (by decide +kernel) (by decide))))))
set_option maxRecDepth 20000 in
theorem s_X7_wayLong_69 : Snd mX7_wayLong 69 (opLdI 1) 70 := (snd_iload_n (k := 1) (by decide +kernel) rfl)
set_option maxRecDepth 20000 in
theorem s_X7_wayLong_70 : Snd mX7_wayLong 70 (sq (opStI 1) (sq (opInc 2 (1)) opNop)) 5 := (snd_sq (snd_istore_n (k := 1) (by decide +kernel) rfl (by decide)) (snd_sq (snd_iinc (k := 1) (by decide +kernel) (by decide) (by decide)) (snd_goto (off := -69) (by decide +kernel) (by decide))))
set_option maxRecDepth 20000 in
theorem s_X7_wayLong_77 : Snd mX7_wayLong 77 (opLdI 1) 78 := (snd_iload_n (k := 1) (by decide +kernel) rfl)
set_option maxRecDepth 20000 in
theorem r_X7_wayLong_78 : RtI mX7_wayLong 78 := rt_I (by decide +kernel) rfl
/-! ClaimChainsModel.greatestFar()I -/
set_option maxRecDepth 20000 in
theorem s_X7_greatestFar_0 : Snd mX7_greatestFar 0 (sq (opCi (-9)) (sq (opStI 1) (sq (opCi (0)) (opStI 2)))) 5 := (snd_sq (snd_bipush (k := -9) (by decide) (by decide +kernel)) (snd_sq (snd_istore_n (k := 1) (by decide +kernel) rfl (by decide)) (snd_sq (snd_iconst (k := 0) (by decide) (by decide +kernel)) (snd_istore_n (k := 2) (by decide +kernel) rfl (by decide)))))
set_option maxRecDepth 20000 in
theorem s_X7_greatestFar_5 : Snd mX7_greatestFar 5 (sq (opLdI 2) (opCi (16))) 8 := (snd_sq (snd_iload_n (k := 2) (by decide +kernel) rfl) (snd_bipush (k := 16) (by decide) (by decide +kernel)))
set_option maxRecDepth 20000 in
theorem b_X7_greatestFar_8 : Br_ic_ge mX7_greatestFar 8 38 := br_ic_ge (off := 30) (by decide +kernel) (by decide)
set_option maxRecDepth 20000 in
theorem s_X7_greatestFar_11 : Snd mX7_greatestFar 11 (sq (opLdA 0) (sq (opGetR 7 12) (sq (opLdI 2) (sq opIald (opLdI 1))))) 18 := (snd_sq (snd_aload_n (k := 0) (by decide +kernel) rfl) (snd_sq (snd_getR (ci := 7) (k := 12) (by decide +kernel) rfl (by decide) (by decide) rfl iw_7 w818) (snd_sq (snd_iload_n (k := 2) (by decide +kernel) rfl) (snd_sq (snd_iald (by decide +kernel)) (snd_iload_n (k := 1) (by decide +kernel) rfl)))))
set_option maxRecDepth 20000 in
theorem b_X7_greatestFar_18 : Br_ic_le mX7_greatestFar 18 30 := br_ic_le (off := 12) (by decide +kernel) (by decide)
set_option maxRecDepth 20000 in
theorem s_X7_greatestFar_21 : Snd mX7_greatestFar 21 (sq (opLdA 0) (sq (opGetR 7 12) (sq (opLdI 2) (sq opIald opNop)))) 31 := (snd_sq (snd_aload_n (k := 0) (by decide +kernel) rfl) (snd_sq (snd_getR (ci := 7) (k := 12) (by decide +kernel) rfl (by decide) (by decide) rfl iw_7 w818) (snd_sq (snd_iload_n (k := 2) (by decide +kernel) rfl) (snd_sq (snd_iald (by decide +kernel)) (snd_goto (off := 4) (by decide +kernel) (by decide))))))
set_option maxRecDepth 20000 in
theorem s_X7_greatestFar_30 : Snd mX7_greatestFar 30 (opLdI 1) 31 := (snd_iload_n (k := 1) (by decide +kernel) rfl)
set_option maxRecDepth 20000 in
theorem s_X7_greatestFar_31 : Snd mX7_greatestFar 31 (sq (opStI 1) (sq (opInc 2 (1)) opNop)) 5 := (snd_sq (snd_istore_n (k := 1) (by decide +kernel) rfl (by decide)) (snd_sq (snd_iinc (k := 1) (by decide +kernel) (by decide) (by decide)) (snd_goto (off := -30) (by decide +kernel) (by decide))))
set_option maxRecDepth 20000 in
theorem s_X7_greatestFar_38 : Snd mX7_greatestFar 38 (opLdI 1) 39 := (snd_iload_n (k := 1) (by decide +kernel) rfl)
set_option maxRecDepth 20000 in
theorem r_X7_greatestFar_39 : RtI mX7_greatestFar 39 := rt_I (by decide +kernel) rfl
/-! ClaimChainsModel.met(I)I -/
set_option maxRecDepth 20000 in
theorem s_X7_met_0 : Snd mX7_met 0 (opLdA 0) 1 := (snd_aload_n (k := 0) (by decide +kernel) rfl)
set_option maxRecDepth 20000 in
theorem c_X7_met_1 : CallV mX7_met 1 mX7_findFar 7 1 := kallV (site_V rfl w1009 (by decide +kernel) w1006 w1008 w64 w97 ⟨by decide, by decide, by decide +kernel⟩) (by decide) (by decide) (by unfold clsNo; rfl)
set_option maxRecDepth 20000 in
theorem s_X7_met_4 : Snd mX7_met 4 (opLdI 1) 5 := (snd_iload_n (k := 1) (by decide +kernel) rfl)
set_option maxRecDepth 20000 in
theorem hw_X7_met_5 : decode (MI.bytes mX7_met) 5 = .ok (.tableswitch 72 0 5 #[39, 47, 52, 57, 62, 67], 39) := by decide +kernel
set_option maxRecDepth 20000 in
theorem w_X7_met_5 {d cap : Nat} {L : LT} {x : Int32} {st : List Value} {n : Nat} {R : RT} {I : IT} {J : JT} {Q : QT} (k0 : x = 0 → Ends mX7_met d cap 44 L st n R I J Q) (k1 : x = 1 → Ends mX7_met d cap 52 L st n R I J Q) (k2 : x = 2 → Ends mX7_met d cap 57 L st n R I J Q) (k3 : x = 3 → Ends mX7_met d cap 62 L st n R I J Q) (k4 : x = 4 → Ends mX7_met d cap 67 L st n R I J Q) (k5 : x = 5 → Ends mX7_met d cap 72 L st n R I J Q) (kd : ¬ x = 0 → ¬ x = 1 → ¬ x = 2 → ¬ x = 3 → ¬ x = 4 → ¬ x = 5 → Ends mX7_met d cap 77 L st n R I J Q) : Ends mX7_met d cap 5 L (.int x :: st) n R I J Q := by
  by_cases h0 : x.toInt < 0 ∨ 5 < x.toInt
  · exact sw_out hw_X7_met_5 h0 (by decide) (kd (fun h => by subst h; revert h0; decide) (fun h => by subst h; revert h0; decide) (fun h => by subst h; revert h0; decide) (fun h => by subst h; revert h0; decide) (fun h => by subst h; revert h0; decide) (fun h => by subst h; revert h0; decide))
  · have h1 : x.toInt = 0 ∨ x.toInt = 1 ∨ x.toInt = 2 ∨ x.toInt = 3 ∨ x.toInt = 4 ∨ x.toInt = 5 := by omega
    rcases h1 with h1 | h1 | h1 | h1 | h1 | h1
    · have h2 : x = 0 := i32_of h1 (by decide)
      subst h2
      exact sw_in (off := 39) hw_X7_met_5 (by decide) (by decide) (by decide +kernel) (by decide) (k0 rfl)
    · have h2 : x = 1 := i32_of h1 (by decide)
      subst h2
      exact sw_in (off := 47) hw_X7_met_5 (by decide) (by decide) (by decide +kernel) (by decide) (k1 rfl)
    · have h2 : x = 2 := i32_of h1 (by decide)
      subst h2
      exact sw_in (off := 52) hw_X7_met_5 (by decide) (by decide) (by decide +kernel) (by decide) (k2 rfl)
    · have h2 : x = 3 := i32_of h1 (by decide)
      subst h2
      exact sw_in (off := 57) hw_X7_met_5 (by decide) (by decide) (by decide +kernel) (by decide) (k3 rfl)
    · have h2 : x = 4 := i32_of h1 (by decide)
      subst h2
      exact sw_in (off := 62) hw_X7_met_5 (by decide) (by decide) (by decide +kernel) (by decide) (k4 rfl)
    · have h2 : x = 5 := i32_of h1 (by decide)
      subst h2
      exact sw_in (off := 67) hw_X7_met_5 (by decide) (by decide) (by decide +kernel) (by decide) (k5 rfl)
set_option maxRecDepth 20000 in
theorem s_X7_met_44 : Snd mX7_met 44 (opLdA 0) 45 := (snd_aload_n (k := 0) (by decide +kernel) rfl)
set_option maxRecDepth 20000 in
theorem c_X7_met_45 : CallV mX7_met 45 mX7_metSet 7 1 := kallV (site_V rfl w1022 (by decide +kernel) w1019 w1021 w66 w97 ⟨by decide, by decide, by decide +kernel⟩) (by decide) (by decide) (by unfold clsNo; rfl)
set_option maxRecDepth 20000 in
theorem c_X7_met_48 : CallS mX7_met 48 mX7_sizeOf 1 := kallS (site_S w1025 (by decide +kernel) w1023 w1024 w97 ⟨by decide, by decide, by decide +kernel⟩) (by decide)
set_option maxRecDepth 20000 in
theorem r_X7_met_51 : RtI mX7_met 51 := rt_I (by decide +kernel) rfl
set_option maxRecDepth 20000 in
theorem s_X7_met_52 : Snd mX7_met 52 (opLdA 0) 53 := (snd_aload_n (k := 0) (by decide +kernel) rfl)
set_option maxRecDepth 20000 in
theorem c_X7_met_53 : CallV mX7_met 53 mX7_greatestFar 7 1 := kallV (site_V rfl w1029 (by decide +kernel) w1026 w1028 w67 w97 ⟨by decide, by decide, by decide +kernel⟩) (by decide) (by decide) (by unfold clsNo; rfl)
set_option maxRecDepth 20000 in
theorem r_X7_met_56 : RtI mX7_met 56 := rt_I (by decide +kernel) rfl
set_option maxRecDepth 20000 in
theorem s_X7_met_57 : Snd mX7_met 57 (opLdA 0) 58 := (snd_aload_n (k := 0) (by decide +kernel) rfl)
set_option maxRecDepth 20000 in
theorem c_X7_met_58 : CallV mX7_met 58 mX7_metSet 7 1 := kallV (site_V rfl w1022 (by decide +kernel) w1019 w1021 w66 w97 ⟨by decide, by decide, by decide +kernel⟩) (by decide) (by decide) (by unfold clsNo; rfl)
set_option maxRecDepth 20000 in
theorem r_X7_met_61 : RtI mX7_met 61 := rt_I (by decide +kernel) rfl
set_option maxRecDepth 20000 in
theorem s_X7_met_62 : Snd mX7_met 62 (opLdA 0) 63 := (snd_aload_n (k := 0) (by decide +kernel) rfl)
set_option maxRecDepth 20000 in
theorem c_X7_met_63 : CallV mX7_met 63 mX7_wayLong 7 1 := kallV (site_V rfl w1033 (by decide +kernel) w1030 w1032 w68 w97 ⟨by decide, by decide, by decide +kernel⟩) (by decide) (by decide) (by unfold clsNo; rfl)
set_option maxRecDepth 20000 in
theorem r_X7_met_66 : RtI mX7_met 66 := rt_I (by decide +kernel) rfl
set_option maxRecDepth 20000 in
theorem s_X7_met_67 : Snd mX7_met 67 (opLdA 0) 68 := (snd_aload_n (k := 0) (by decide +kernel) rfl)
set_option maxRecDepth 20000 in
theorem c_X7_met_68 : CallV mX7_met 68 mX7_startSet 7 1 := kallV (site_V rfl w1013 (by decide +kernel) w1010 w1012 w65 w97 ⟨by decide, by decide, by decide +kernel⟩) (by decide) (by decide) (by unfold clsNo; rfl)
set_option maxRecDepth 20000 in
theorem r_X7_met_71 : RtI mX7_met 71 := rt_I (by decide +kernel) rfl
set_option maxRecDepth 20000 in
theorem s_X7_met_72 : Snd mX7_met 72 (opLdA 0) 73 := (snd_aload_n (k := 0) (by decide +kernel) rfl)
set_option maxRecDepth 20000 in
theorem c_X7_met_73 : CallV mX7_met 73 mX7_brokenSet 7 1 := kallV (site_V rfl w1037 (by decide +kernel) w1034 w1036 w69 w97 ⟨by decide, by decide, by decide +kernel⟩) (by decide) (by decide) (by unfold clsNo; rfl)
set_option maxRecDepth 20000 in
theorem r_X7_met_76 : RtI mX7_met 76 := rt_I (by decide +kernel) rfl
set_option maxRecDepth 20000 in
theorem s_X7_met_77 : Snd mX7_met 77 (opCi (-2)) 79 := (snd_bipush (k := -2) (by decide) (by decide +kernel))
set_option maxRecDepth 20000 in
theorem r_X7_met_79 : RtI mX7_met 79 := rt_I (by decide +kernel) rfl
/-! ClaimChainsModel.cameFrom(I)I -/
set_option maxRecDepth 20000 in
theorem s_X7_cameFrom_0 : Snd mX7_cameFrom 0 (opLdA 0) 1 := (snd_aload_n (k := 0) (by decide +kernel) rfl)
set_option maxRecDepth 20000 in
theorem c_X7_cameFrom_1 : CallV mX7_cameFrom 1 mX7_brokenSet 7 1 := kallV (site_V rfl w1037 (by decide +kernel) w1034 w1036 w69 w97 ⟨by decide, by decide, by decide +kernel⟩) (by decide) (by decide) (by unfold clsNo; rfl)
set_option maxRecDepth 20000 in
theorem s_X7_cameFrom_4 : Snd mX7_cameFrom 4 (sq (opStI 2) (sq (opCi (0)) (opStI 3))) 7 := (snd_sq (snd_istore_n (k := 2) (by decide +kernel) rfl (by decide)) (snd_sq (snd_iconst (k := 0) (by decide) (by decide +kernel)) (snd_istore_n (k := 3) (by decide +kernel) rfl (by decide))))
set_option maxRecDepth 20000 in
theorem s_X7_cameFrom_7 : Snd mX7_cameFrom 7 (sq (opLdI 3) (opLdI 1)) 9 := (snd_sq (snd_iload_n (k := 3) (by decide +kernel) rfl) (snd_iload_n (k := 1) (by decide +kernel) rfl))
set_option maxRecDepth 20000 in
theorem b_X7_cameFrom_9 : Br_ic_ge mX7_cameFrom 9 65 := br_ic_ge (off := 56) (by decide +kernel) (by decide)
set_option maxRecDepth 20000 in
theorem s_X7_cameFrom_12 : Snd mX7_cameFrom 12 (sq (opCi (0)) (sq (opStI 4) (sq (opCi (0)) (opStI 5)))) 18 := (snd_sq (snd_iconst (k := 0) (by decide) (by decide +kernel)) (snd_sq (snd_istore (by decide +kernel) (by decide)) (snd_sq (snd_iconst (k := 0) (by decide) (by decide +kernel)) (snd_istore (by decide +kernel) (by decide)))))
set_option maxRecDepth 20000 in
theorem s_X7_cameFrom_18 : Snd mX7_cameFrom 18 (sq (opLdI 5) (opCi (16))) 22 := (snd_sq (snd_iload (by decide +kernel)) (snd_bipush (k := 16) (by decide) (by decide +kernel)))
set_option maxRecDepth 20000 in
theorem b_X7_cameFrom_22 : Br_ic_ge mX7_cameFrom 22 56 := br_ic_ge (off := 34) (by decide +kernel) (by decide)
set_option maxRecDepth 20000 in
theorem s_X7_cameFrom_25 : Snd mX7_cameFrom 25 (sq (opLdI 4) (sq (opLdI 2) (opLdI 5))) 30 := (snd_sq (snd_iload (by decide +kernel)) (snd_sq (snd_iload_n (k := 2) (by decide +kernel) rfl) (snd_iload (by decide +kernel))))
set_option maxRecDepth 20000 in
theorem c_X7_cameFrom_30 : CallS mX7_cameFrom 30 mX7_isIn 2 := kallS (site_S w926 (by decide +kernel) w924 w925 w97 ⟨by decide, by decide, by decide +kernel⟩) (by decide)
set_option maxRecDepth 20000 in
theorem s_X7_cameFrom_33 : Snd mX7_cameFrom 33 (opCi (1)) 34 := (snd_iconst (k := 1) (by decide) (by decide +kernel))
set_option maxRecDepth 20000 in
theorem b_X7_cameFrom_34 : Br_ic_ne mX7_cameFrom 34 46 := br_ic_ne (off := 12) (by decide +kernel) (by decide)
set_option maxRecDepth 20000 in
theorem s_X7_cameFrom_37 : Snd mX7_cameFrom 37 (sq (opLdA 0) (opLdI 5)) 40 := (snd_sq (snd_aload_n (k := 0) (by decide +kernel) rfl) (snd_iload (by decide +kernel)))
set_option maxRecDepth 20000 in
theorem c_X7_cameFrom_40 : CallV mX7_cameFrom 40 mX7_beforeOf 7 2 := kallV (site_V rfl w1001 (by decide +kernel) w998 w1000 w63 w97 ⟨by decide, by decide, by decide +kernel⟩) (by decide) (by decide) (by unfold clsNo; rfl)
set_option maxRecDepth 20000 in
theorem s_X7_cameFrom_43 : Snd mX7_cameFrom 43 opNop 47 := (snd_goto (off := 4) (by decide +kernel) (by decide))
set_option maxRecDepth 20000 in
theorem s_X7_cameFrom_46 : Snd mX7_cameFrom 46 (opCi (0)) 47 := (snd_iconst (k := 0) (by decide) (by decide +kernel))
set_option maxRecDepth 20000 in
theorem s_X7_cameFrom_47 : Snd mX7_cameFrom 47 (sq opior (sq (opStI 4) (sq (opInc 5 (1)) opNop))) 18 := (snd_sq (snd_ior (by decide +kernel)) (snd_sq (snd_istore (by decide +kernel) (by decide)) (snd_sq (snd_iinc (k := 1) (by decide +kernel) (by decide) (by decide)) (snd_goto (off := -35) (by decide +kernel) (by decide)))))
set_option maxRecDepth 20000 in
theorem s_X7_cameFrom_56 : Snd mX7_cameFrom 56 (sq (opLdI 4) (sq (opStI 2) (sq (opInc 3 (1)) opNop))) 7 := (snd_sq (snd_iload (by decide +kernel)) (snd_sq (snd_istore_n (k := 2) (by decide +kernel) rfl (by decide)) (snd_sq (snd_iinc (k := 1) (by decide +kernel) (by decide) (by decide)) (snd_goto (off := -55) (by decide +kernel) (by decide)))))
set_option maxRecDepth 20000 in
theorem s_X7_cameFrom_65 : Snd mX7_cameFrom 65 (opLdI 2) 66 := (snd_iload_n (k := 2) (by decide +kernel) rfl)
set_option maxRecDepth 20000 in
theorem r_X7_cameFrom_66 : RtI mX7_cameFrom 66 := rt_I (by decide +kernel) rfl
/-! ClaimChainsModel.findWay()V -/
set_option maxRecDepth 20000 in
theorem s_X7_findWay_0 : Snd mX7_findWay 0 (opLdA 0) 1 := (snd_aload_n (k := 0) (by decide +kernel) rfl)
set_option maxRecDepth 20000 in
theorem c_X7_findWay_1 : CallV mX7_findWay 1 mX7_findFar 7 1 := kallV (site_V rfl w1009 (by decide +kernel) w1006 w1008 w64 w97 ⟨by decide, by decide, by decide +kernel⟩) (by decide) (by decide) (by unfold clsNo; rfl)
set_option maxRecDepth 20000 in
theorem s_X7_findWay_4 : Snd mX7_findWay 4 (sq (opLdA 0) (opLdA 0)) 6 := (snd_sq (snd_aload_n (k := 0) (by decide +kernel) rfl) (snd_aload_n (k := 0) (by decide +kernel) rfl))
set_option maxRecDepth 20000 in
theorem c_X7_findWay_6 : CallV mX7_findWay 6 mX7_wayLong 7 1 := kallV (site_V rfl w1033 (by decide +kernel) w1030 w1032 w68 w97 ⟨by decide, by decide, by decide +kernel⟩) (by decide) (by decide) (by unfold clsNo; rfl)
set_option maxRecDepth 20000 in
theorem s_X7_findWay_9 : Snd mX7_findWay 9 (sq (opPutI 7 13) (sq (opLdA 0) (sq (opGetI 7 13) (opCi (-9))))) 18 := (snd_sq (snd_putI (ci := 7) (k := 13) (by decide +kernel) rfl (by decide) (by decide) (by decide) iw_7 tyX7_ok nmX7 rfl (tyX7_ok 13 (by decide)) w819) (snd_sq (snd_aload_n (k := 0) (by decide +kernel) rfl) (snd_sq (snd_getI (ci := 7) (k := 13) (by decide +kernel) rfl (by decide) (by decide) (by decide) iw_7 w819) (snd_bipush (k := -9) (by decide) (by decide +kernel)))))
set_option maxRecDepth 20000 in
theorem b_X7_findWay_18 : Br_ic_ne mX7_findWay 18 22 := br_ic_ne (off := 4) (by decide +kernel) (by decide)
set_option maxRecDepth 20000 in
theorem r_X7_findWay_21 : RtV mX7_findWay 21 := rt_V (by decide +kernel) rfl
set_option maxRecDepth 20000 in
theorem s_X7_findWay_22 : Snd mX7_findWay 22 (opLdA 0) 23 := (snd_aload_n (k := 0) (by decide +kernel) rfl)
set_option maxRecDepth 20000 in
theorem c_X7_findWay_23 : CallV mX7_findWay 23 mX7_startSet 7 1 := kallV (site_V rfl w1013 (by decide +kernel) w1010 w1012 w65 w97 ⟨by decide, by decide, by decide +kernel⟩) (by decide) (by decide) (by unfold clsNo; rfl)
set_option maxRecDepth 20000 in
theorem s_X7_findWay_26 : Snd mX7_findWay 26 (sq (opLdA 0) (sq (opLdA 0) (opGetI 7 13))) 31 := (snd_sq (snd_aload_n (k := 0) (by decide +kernel) rfl) (snd_sq (snd_aload_n (k := 0) (by decide +kernel) rfl) (snd_getI (ci := 7) (k := 13) (by decide +kernel) rfl (by decide) (by decide) (by decide) iw_7 w819)))
set_option maxRecDepth 20000 in
theorem c_X7_findWay_31 : CallV mX7_findWay 31 mX7_cameFrom 7 2 := kallV (site_V rfl w1049 (by decide +kernel) w1046 w1048 w71 w97 ⟨by decide, by decide, by decide +kernel⟩) (by decide) (by decide) (by unfold clsNo; rfl)
set_option maxRecDepth 20000 in
theorem s_X7_findWay_34 : Snd mX7_findWay 34 (sq opiand (sq (opStI 1) (sq (opCi (0)) (opStI 2)))) 38 := (snd_sq (snd_iand (by decide +kernel)) (snd_sq (snd_istore_n (k := 1) (by decide +kernel) rfl (by decide)) (snd_sq (snd_iconst (k := 0) (by decide) (by decide +kernel)) (snd_istore_n (k := 2) (by decide +kernel) rfl (by decide)))))
set_option maxRecDepth 20000 in
theorem s_X7_findWay_38 : Snd mX7_findWay 38 (sq (opLdI 1) (opLdI 2)) 40 := (snd_sq (snd_iload_n (k := 1) (by decide +kernel) rfl) (snd_iload_n (k := 2) (by decide +kernel) rfl))
set_option maxRecDepth 20000 in
theorem c_X7_findWay_40 : CallS mX7_findWay 40 mX7_isIn 2 := kallS (site_S w926 (by decide +kernel) w924 w925 w97 ⟨by decide, by decide, by decide +kernel⟩) (by decide)
set_option maxRecDepth 20000 in
theorem b_X7_findWay_43 : Br_if_ne mX7_findWay 43 52 := br_if_ne (off := 9) (by decide +kernel) (by decide)
set_option maxRecDepth 20000 in
theorem s_X7_findWay_46 : Snd mX7_findWay 46 (sq (opInc 2 (1)) opNop) 38 := (snd_sq (snd_iinc (k := 1) (by decide +kernel) (by decide) (by decide)) (snd_goto (off := -11) (by decide +kernel) (by decide)))
set_option maxRecDepth 20000 in
theorem s_X7_findWay_52 : Snd mX7_findWay 52 (sq (opLdA 0) (sq (opGetR 7 14) (sq (opCi (0)) (sq (opLdI 2) (sq opIast (sq (opCi (0)) (opStI 3))))))) 61 := (snd_sq (snd_aload_n (k := 0) (by decide +kernel) rfl) (snd_sq (snd_getR (ci := 7) (k := 14) (by decide +kernel) rfl (by decide) (by decide) rfl iw_7 w820) (snd_sq (snd_iconst (k := 0) (by decide) (by decide +kernel)) (snd_sq (snd_iload_n (k := 2) (by decide +kernel) rfl) (snd_sq (snd_iast (by decide +kernel)) (snd_sq (snd_iconst (k := 0) (by decide) (by decide +kernel)) (snd_istore_n (k := 3) (by decide +kernel) rfl (by decide))))))))
set_option maxRecDepth 20000 in
theorem s_X7_findWay_61 : Snd mX7_findWay 61 (sq (opLdI 3) (sq (opLdA 0) (opGetI 7 13))) 66 := (snd_sq (snd_iload_n (k := 3) (by decide +kernel) rfl) (snd_sq (snd_aload_n (k := 0) (by decide +kernel) rfl) (snd_getI (ci := 7) (k := 13) (by decide +kernel) rfl (by decide) (by decide) (by decide) iw_7 w819)))
set_option maxRecDepth 20000 in
theorem b_X7_findWay_66 : Br_ic_ge mX7_findWay 66 146 := br_ic_ge (off := 80) (by decide +kernel) (by decide)
set_option maxRecDepth 20000 in
theorem s_X7_findWay_69 : Snd mX7_findWay 69 (sq (opLdA 0) (sq (opLdA 0) (sq (opGetI 7 13) (sq (opLdI 3) (sq opisub (sq (opCi (1)) opisub)))))) 78 := (snd_sq (snd_aload_n (k := 0) (by decide +kernel) rfl) (snd_sq (snd_aload_n (k := 0) (by decide +kernel) rfl) (snd_sq (snd_getI (ci := 7) (k := 13) (by decide +kernel) rfl (by decide) (by decide) (by decide) iw_7 w819) (snd_sq (snd_iload_n (k := 3) (by decide +kernel) rfl) (snd_sq (snd_isub (by decide +kernel)) (snd_sq (snd_iconst (k := 1) (by decide) (by decide +kernel)) (snd_isub (by decide +kernel))))))))
set_option maxRecDepth 20000 in
theorem c_X7_findWay_78 : CallV mX7_findWay 78 mX7_cameFrom 7 2 := kallV (site_V rfl w1049 (by decide +kernel) w1046 w1048 w71 w97 ⟨by decide, by decide, by decide +kernel⟩) (by decide) (by decide) (by unfold clsNo; rfl)
set_option maxRecDepth 20000 in
theorem s_X7_findWay_81 : Snd mX7_findWay 81 (sq (opStI 4) (sq (opCi (0)) (opStI 5))) 86 := (snd_sq (snd_istore (by decide +kernel) (by decide)) (snd_sq (snd_iconst (k := 0) (by decide) (by decide +kernel)) (snd_istore (by decide +kernel) (by decide))))
set_option maxRecDepth 20000 in
theorem s_X7_findWay_86 : Snd mX7_findWay 86 (sq (opLdI 4) (sq (opLdA 0) (sq (opLdA 0) (sq (opGetR 7 14) (sq (opLdI 3) (sq opIald (opLdI 5))))))) 97 := (snd_sq (snd_iload (by decide +kernel)) (snd_sq (snd_aload_n (k := 0) (by decide +kernel) rfl) (snd_sq (snd_aload_n (k := 0) (by decide +kernel) rfl) (snd_sq (snd_getR (ci := 7) (k := 14) (by decide +kernel) rfl (by decide) (by decide) rfl iw_7 w820) (snd_sq (snd_iload_n (k := 3) (by decide +kernel) rfl) (snd_sq (snd_iald (by decide +kernel)) (snd_iload (by decide +kernel))))))))
set_option maxRecDepth 20000 in
theorem c_X7_findWay_97 : CallV mX7_findWay 97 mX7_stepOf 7 3 := kallV (site_V rfl w993 (by decide +kernel) w990 w992 w62 w97 ⟨by decide, by decide, by decide +kernel⟩) (by decide) (by decide) (by unfold clsNo; rfl)
set_option maxRecDepth 20000 in
theorem c_X7_findWay_100 : CallS mX7_findWay 100 mX7_isIn 2 := kallS (site_S w926 (by decide +kernel) w924 w925 w97 ⟨by decide, by decide, by decide +kernel⟩) (by decide)
set_option maxRecDepth 20000 in
theorem b_X7_findWay_103 : Br_if_ne mX7_findWay 103 112 := br_if_ne (off := 9) (by decide +kernel) (by decide)
set_option maxRecDepth 20000 in
theorem s_X7_findWay_106 : Snd mX7_findWay 106 (sq (opInc 5 (1)) opNop) 86 := (snd_sq (snd_iinc (k := 1) (by decide +kernel) (by decide) (by decide)) (snd_goto (off := -23) (by decide +kernel) (by decide)))
set_option maxRecDepth 20000 in
theorem s_X7_findWay_112 : Snd mX7_findWay 112 (sq (opLdA 0) (sq (opGetR 7 15) (sq (opLdI 3) (sq (opLdI 5) (sq opIast (sq (opLdA 0) (sq (opGetR 7 14) (sq (opLdI 3) (sq (opCi (1)) (sq opiadd (sq (opLdA 0) (sq (opLdA 0) (sq (opGetR 7 14) (sq (opLdI 3) (sq opIald (opLdI 5)))))))))))))))) 136 := (snd_sq (snd_aload_n (k := 0) (by decide +kernel) rfl) (snd_sq (snd_getR (ci := 7) (k := 15) (by decide +kernel) rfl (by decide) (by decide) rfl iw_7 w821) (snd_sq (snd_iload_n (k := 3) (by decide +kernel) rfl) (snd_sq (snd_iload (by decide +kernel)) (snd_sq (snd_iast (by decide +kernel)) (snd_sq (snd_aload_n (k := 0) (by decide +kernel) rfl) (snd_sq (snd_getR (ci := 7) (k := 14) (by decide +kernel) rfl (by decide) (by decide) rfl iw_7 w820) (snd_sq (snd_iload_n (k := 3) (by decide +kernel) rfl) (snd_sq (snd_iconst (k := 1) (by decide) (by decide +kernel)) (snd_sq (snd_iadd (by decide +kernel)) (snd_sq (snd_aload_n (k := 0) (by decide +kernel) rfl) (snd_sq (snd_aload_n (k := 0) (by decide +kernel) rfl) (snd_sq (snd_getR (ci := 7) (k := 14) (by decide +kernel) rfl (by decide) (by decide) rfl iw_7 w820) (snd_sq (snd_iload_n (k := 3) (by decide +kernel) rfl) (snd_sq (snd_iald (by decide +kernel)) (snd_iload (by decide +kernel)))))))))))))))))
set_option maxRecDepth 20000 in
theorem c_X7_findWay_136 : CallV mX7_findWay 136 mX7_stepOf 7 3 := kallV (site_V rfl w993 (by decide +kernel) w990 w992 w62 w97 ⟨by decide, by decide, by decide +kernel⟩) (by decide) (by decide) (by unfold clsNo; rfl)
set_option maxRecDepth 20000 in
theorem s_X7_findWay_139 : Snd mX7_findWay 139 (sq opIast (sq (opInc 3 (1)) opNop)) 61 := (snd_sq (snd_iast (by decide +kernel)) (snd_sq (snd_iinc (k := 1) (by decide +kernel) (by decide) (by decide)) (snd_goto (off := -82) (by decide +kernel) (by decide))))
set_option maxRecDepth 20000 in
theorem r_X7_findWay_146 : RtV mX7_findWay 146 := rt_V (by decide +kernel) rfl
/-! ClaimChainsModel.way(II)I -/
set_option maxRecDepth 20000 in
theorem s_X7_way_0 : Snd mX7_way 0 (sq (opLdI 1) (sq (opCi (0)) (opCi (15)))) 4 := (snd_sq (snd_iload_n (k := 1) (by decide +kernel) rfl) (snd_sq (snd_iconst (k := 0) (by decide) (by decide +kernel)) (snd_bipush (k := 15) (by decide) (by decide +kernel))))
set_option maxRecDepth 20000 in
theorem c_X7_way_4 : CallS mX7_way 4 mX7_within 3 := kallS (site_S w903 (by decide +kernel) w901 w902 w97 ⟨by decide, by decide, by decide +kernel⟩) (by decide)
set_option maxRecDepth 20000 in
theorem b_X7_way_7 : Br_if_eq mX7_way 7 19 := br_if_eq (off := 12) (by decide +kernel) (by decide)
set_option maxRecDepth 20000 in
theorem s_X7_way_10 : Snd mX7_way 10 (sq (opLdI 2) (sq (opCi (0)) (opCi (1)))) 13 := (snd_sq (snd_iload_n (k := 2) (by decide +kernel) rfl) (snd_sq (snd_iconst (k := 0) (by decide) (by decide +kernel)) (snd_iconst (k := 1) (by decide) (by decide +kernel))))
set_option maxRecDepth 20000 in
theorem c_X7_way_13 : CallS mX7_way 13 mX7_within 3 := kallS (site_S w903 (by decide +kernel) w901 w902 w97 ⟨by decide, by decide, by decide +kernel⟩) (by decide)
set_option maxRecDepth 20000 in
theorem b_X7_way_16 : Br_if_ne mX7_way 16 22 := br_if_ne (off := 6) (by decide +kernel) (by decide)
set_option maxRecDepth 20000 in
theorem s_X7_way_19 : Snd mX7_way 19 (opCi (-2)) 21 := (snd_bipush (k := -2) (by decide) (by decide +kernel))
set_option maxRecDepth 20000 in
theorem r_X7_way_21 : RtI mX7_way 21 := rt_I (by decide +kernel) rfl
set_option maxRecDepth 20000 in
theorem s_X7_way_22 : Snd mX7_way 22 (opLdA 0) 23 := (snd_aload_n (k := 0) (by decide +kernel) rfl)
set_option maxRecDepth 20000 in
theorem c_X7_way_23 : CallV mX7_way 23 mX7_findWay 7 1 := kallV (site_V rfl w1045 (by decide +kernel) w1042 w1044 w70 w97 ⟨by decide, by decide, by decide +kernel⟩) (by decide) (by decide) (by unfold clsNo; rfl)
set_option maxRecDepth 20000 in
theorem s_X7_way_26 : Snd mX7_way 26 (sq (opLdA 0) (sq (opGetI 7 13) (opCi (-9)))) 32 := (snd_sq (snd_aload_n (k := 0) (by decide +kernel) rfl) (snd_sq (snd_getI (ci := 7) (k := 13) (by decide +kernel) rfl (by decide) (by decide) (by decide) iw_7 w819) (snd_bipush (k := -9) (by decide) (by decide +kernel))))
set_option maxRecDepth 20000 in
theorem b_X7_way_32 : Br_ic_eq mX7_way 32 56 := br_ic_eq (off := 24) (by decide +kernel) (by decide)
set_option maxRecDepth 20000 in
theorem s_X7_way_35 : Snd mX7_way 35 (sq (opLdI 1) (sq (opLdA 0) (opGetI 7 13))) 40 := (snd_sq (snd_iload_n (k := 1) (by decide +kernel) rfl) (snd_sq (snd_aload_n (k := 0) (by decide +kernel) rfl) (snd_getI (ci := 7) (k := 13) (by decide +kernel) rfl (by decide) (by decide) (by decide) iw_7 w819)))
set_option maxRecDepth 20000 in
theorem b_X7_way_40 : Br_ic_gt mX7_way 40 56 := br_ic_gt (off := 16) (by decide +kernel) (by decide)
set_option maxRecDepth 20000 in
theorem s_X7_way_43 : Snd mX7_way 43 (sq (opLdI 2) (opCi (1))) 45 := (snd_sq (snd_iload_n (k := 2) (by decide +kernel) rfl) (snd_iconst (k := 1) (by decide) (by decide +kernel)))
set_option maxRecDepth 20000 in
theorem b_X7_way_45 : Br_ic_ne mX7_way 45 59 := br_ic_ne (off := 14) (by decide +kernel) (by decide)
set_option maxRecDepth 20000 in
theorem s_X7_way_48 : Snd mX7_way 48 (sq (opLdI 1) (sq (opLdA 0) (opGetI 7 13))) 53 := (snd_sq (snd_iload_n (k := 1) (by decide +kernel) rfl) (snd_sq (snd_aload_n (k := 0) (by decide +kernel) rfl) (snd_getI (ci := 7) (k := 13) (by decide +kernel) rfl (by decide) (by decide) (by decide) iw_7 w819)))
set_option maxRecDepth 20000 in
theorem b_X7_way_53 : Br_ic_ne mX7_way 53 59 := br_ic_ne (off := 6) (by decide +kernel) (by decide)
set_option maxRecDepth 20000 in
theorem s_X7_way_56 : Snd mX7_way 56 (opCi (-9)) 58 := (snd_bipush (k := -9) (by decide) (by decide +kernel))
set_option maxRecDepth 20000 in
theorem r_X7_way_58 : RtI mX7_way 58 := rt_I (by decide +kernel) rfl
set_option maxRecDepth 20000 in
theorem s_X7_way_59 : Snd mX7_way 59 (opLdI 2) 60 := (snd_iload_n (k := 2) (by decide +kernel) rfl)
set_option maxRecDepth 20000 in
theorem b_X7_way_60 : Br_if_ne mX7_way 60 72 := br_if_ne (off := 12) (by decide +kernel) (by decide)
set_option maxRecDepth 20000 in
theorem s_X7_way_63 : Snd mX7_way 63 (sq (opLdA 0) (sq (opGetR 7 14) (sq (opLdI 1) (sq opIald opNop)))) 78 := (snd_sq (snd_aload_n (k := 0) (by decide +kernel) rfl) (snd_sq (snd_getR (ci := 7) (k := 14) (by decide +kernel) rfl (by decide) (by decide) rfl iw_7 w820) (snd_sq (snd_iload_n (k := 1) (by decide +kernel) rfl) (snd_sq (snd_iald (by decide +kernel)) (snd_goto (off := 9) (by decide +kernel) (by decide))))))
set_option maxRecDepth 20000 in
theorem s_X7_way_72 : Snd mX7_way 72 (sq (opLdA 0) (sq (opGetR 7 15) (sq (opLdI 1) opIald))) 78 := (snd_sq (snd_aload_n (k := 0) (by decide +kernel) rfl) (snd_sq (snd_getR (ci := 7) (k := 15) (by decide +kernel) rfl (by decide) (by decide) rfl iw_7 w821) (snd_sq (snd_iload_n (k := 1) (by decide +kernel) rfl) (snd_iald (by decide +kernel)))))
set_option maxRecDepth 20000 in
theorem r_X7_way_78 : RtI mX7_way 78 := rt_I (by decide +kernel) rfl
/-! ClaimChainsModel.isStillBroken(III)Z -/
set_option maxRecDepth 20000 in
theorem s_X7_isStillBroken_0 : Snd mX7_isStillBroken 0 (sq (opLdI 1) (sq (opStI 4) (sq (opCi (0)) (opStI 5)))) 6 := (snd_sq (snd_iload_n (k := 1) (by decide +kernel) rfl) (snd_sq (snd_istore (by decide +kernel) (by decide)) (snd_sq (snd_iconst (k := 0) (by decide) (by decide +kernel)) (snd_istore (by decide +kernel) (by decide)))))
set_option maxRecDepth 20000 in
theorem s_X7_isStillBroken_6 : Snd mX7_isStillBroken 6 (sq (opLdI 5) (sq (opLdA 0) (opGetI 7 13))) 12 := (snd_sq (snd_iload (by decide +kernel)) (snd_sq (snd_aload_n (k := 0) (by decide +kernel) rfl) (snd_getI (ci := 7) (k := 13) (by decide +kernel) rfl (by decide) (by decide) (by decide) iw_7 w819)))
set_option maxRecDepth 20000 in
theorem b_X7_isStillBroken_12 : Br_ic_ge mX7_isStillBroken 12 46 := br_ic_ge (off := 34) (by decide +kernel) (by decide)
set_option maxRecDepth 20000 in
theorem s_X7_isStillBroken_15 : Snd mX7_isStillBroken 15 (sq (opLdA 0) (sq (opLdI 4) (sq (opLdI 5) (opLdI 2)))) 21 := (snd_sq (snd_aload_n (k := 0) (by decide +kernel) rfl) (snd_sq (snd_iload (by decide +kernel)) (snd_sq (snd_iload (by decide +kernel)) (snd_iload_n (k := 2) (by decide +kernel) rfl))))
set_option maxRecDepth 20000 in
theorem b_X7_isStillBroken_21 : Br_ic_ne mX7_isStillBroken 21 28 := br_ic_ne (off := 7) (by decide +kernel) (by decide)
set_option maxRecDepth 20000 in
theorem s_X7_isStillBroken_24 : Snd mX7_isStillBroken 24 (sq (opLdI 3) opNop) 35 := (snd_sq (snd_iload_n (k := 3) (by decide +kernel) rfl) (snd_goto (off := 10) (by decide +kernel) (by decide)))
set_option maxRecDepth 20000 in
theorem s_X7_isStillBroken_28 : Snd mX7_isStillBroken 28 (sq (opLdA 0) (sq (opGetR 7 15) (sq (opLdI 5) opIald))) 35 := (snd_sq (snd_aload_n (k := 0) (by decide +kernel) rfl) (snd_sq (snd_getR (ci := 7) (k := 15) (by decide +kernel) rfl (by decide) (by decide) rfl iw_7 w821) (snd_sq (snd_iload (by decide +kernel)) (snd_iald (by decide +kernel)))))
set_option maxRecDepth 20000 in
theorem c_X7_isStillBroken_35 : CallV mX7_isStillBroken 35 mX7_stepOf 7 3 := kallV (site_V rfl w993 (by decide +kernel) w990 w992 w62 w97 ⟨by decide, by decide, by decide +kernel⟩) (by decide) (by decide) (by unfold clsNo; rfl)
set_option maxRecDepth 20000 in
theorem s_X7_isStillBroken_38 : Snd mX7_isStillBroken 38 (sq (opStI 4) (sq (opInc 5 (1)) opNop)) 6 := (snd_sq (snd_istore (by decide +kernel) (by decide)) (snd_sq (snd_iinc (k := 1) (by decide +kernel) (by decide) (by decide)) (snd_goto (off := -37) (by decide +kernel) (by decide))))
set_option maxRecDepth 20000 in
theorem s_X7_isStillBroken_46 : Snd mX7_isStillBroken 46 (opLdA 0) 47 := (snd_aload_n (k := 0) (by decide +kernel) rfl)
set_option maxRecDepth 20000 in
theorem c_X7_isStillBroken_47 : CallV mX7_isStillBroken 47 mX7_brokenSet 7 1 := kallV (site_V rfl w1037 (by decide +kernel) w1034 w1036 w69 w97 ⟨by decide, by decide, by decide +kernel⟩) (by decide) (by decide) (by unfold clsNo; rfl)
set_option maxRecDepth 20000 in
theorem s_X7_isStillBroken_50 : Snd mX7_isStillBroken 50 (opLdI 4) 52 := (snd_iload (by decide +kernel))
set_option maxRecDepth 20000 in
theorem c_X7_isStillBroken_52 : CallS mX7_isStillBroken 52 mX7_isIn 2 := kallS (site_S w926 (by decide +kernel) w924 w925 w97 ⟨by decide, by decide, by decide +kernel⟩) (by decide)
set_option maxRecDepth 20000 in
theorem s_X7_isStillBroken_55 : Snd mX7_isStillBroken 55 (opCi (1)) 56 := (snd_iconst (k := 1) (by decide) (by decide +kernel))
set_option maxRecDepth 20000 in
theorem b_X7_isStillBroken_56 : Br_ic_ne mX7_isStillBroken 56 63 := br_ic_ne (off := 7) (by decide +kernel) (by decide)
set_option maxRecDepth 20000 in
theorem s_X7_isStillBroken_59 : Snd mX7_isStillBroken 59 (sq (opCi (1)) opNop) 64 := (snd_sq (snd_iconst (k := 1) (by decide) (by decide +kernel)) (snd_goto (off := 4) (by decide +kernel) (by decide)))
set_option maxRecDepth 20000 in
theorem s_X7_isStillBroken_63 : Snd mX7_isStillBroken 63 (opCi (0)) 64 := (snd_iconst (k := 0) (by decide) (by decide +kernel))
set_option maxRecDepth 20000 in
theorem r_X7_isStillBroken_64 : RtZ mX7_isStillBroken 64 := rt_Z (by decide +kernel) rfl
/-! ClaimChainsModel.loose(I)I -/
set_option maxRecDepth 20000 in
theorem s_X7_loose_0 : Snd mX7_loose 0 (opLdA 0) 1 := (snd_aload_n (k := 0) (by decide +kernel) rfl)
set_option maxRecDepth 20000 in
theorem c_X7_loose_1 : CallV mX7_loose 1 mX7_findWay 7 1 := kallV (site_V rfl w1045 (by decide +kernel) w1042 w1044 w70 w97 ⟨by decide, by decide, by decide +kernel⟩) (by decide) (by decide) (by unfold clsNo; rfl)
set_option maxRecDepth 20000 in
theorem s_X7_loose_4 : Snd mX7_loose 4 (sq (opLdA 0) (sq (opGetI 7 13) (opCi (-9)))) 10 := (snd_sq (snd_aload_n (k := 0) (by decide +kernel) rfl) (snd_sq (snd_getI (ci := 7) (k := 13) (by decide +kernel) rfl (by decide) (by decide) (by decide) iw_7 w819) (snd_bipush (k := -9) (by decide) (by decide +kernel))))
set_option maxRecDepth 20000 in
theorem b_X7_loose_10 : Br_ic_ne mX7_loose 10 16 := br_ic_ne (off := 6) (by decide +kernel) (by decide)
set_option maxRecDepth 20000 in
theorem s_X7_loose_13 : Snd mX7_loose 13 (opCi (-3)) 15 := (snd_bipush (k := -3) (by decide) (by decide +kernel))
set_option maxRecDepth 20000 in
theorem r_X7_loose_15 : RtI mX7_loose 15 := rt_I (by decide +kernel) rfl
set_option maxRecDepth 20000 in
theorem s_X7_loose_16 : Snd mX7_loose 16 (sq (opLdI 1) (sq (opCi (-1)) (sq (opLdA 0) (sq (opGetI 7 13) (sq (opCi (1)) opisub))))) 24 := (snd_sq (snd_iload_n (k := 1) (by decide +kernel) rfl) (snd_sq (snd_iconst (k := -1) (by decide) (by decide +kernel)) (snd_sq (snd_aload_n (k := 0) (by decide +kernel) rfl) (snd_sq (snd_getI (ci := 7) (k := 13) (by decide +kernel) rfl (by decide) (by decide) (by decide) iw_7 w819) (snd_sq (snd_iconst (k := 1) (by decide) (by decide +kernel)) (snd_isub (by decide +kernel)))))))
set_option maxRecDepth 20000 in
theorem c_X7_loose_24 : CallS mX7_loose 24 mX7_within 3 := kallS (site_S w903 (by decide +kernel) w901 w902 w97 ⟨by decide, by decide, by decide +kernel⟩) (by decide)
set_option maxRecDepth 20000 in
theorem b_X7_loose_27 : Br_if_ne mX7_loose 27 33 := br_if_ne (off := 6) (by decide +kernel) (by decide)
set_option maxRecDepth 20000 in
theorem s_X7_loose_30 : Snd mX7_loose 30 (opCi (-2)) 32 := (snd_bipush (k := -2) (by decide) (by decide +kernel))
set_option maxRecDepth 20000 in
theorem r_X7_loose_32 : RtI mX7_loose 32 := rt_I (by decide +kernel) rfl
set_option maxRecDepth 20000 in
theorem s_X7_loose_33 : Snd mX7_loose 33 (sq (opCi (0)) (sq (opStI 2) (sq (opCi (0)) (opStI 3)))) 37 := (snd_sq (snd_iconst (k := 0) (by decide) (by decide +kernel)) (snd_sq (snd_istore_n (k := 2) (by decide +kernel) rfl (by decide)) (snd_sq (snd_iconst (k := 0) (by decide) (by decide +kernel)) (snd_istore_n (k := 3) (by decide +kernel) rfl (by decide)))))
set_option maxRecDepth 20000 in
theorem s_X7_loose_37 : Snd mX7_loose 37 (sq (opLdI 3) (opLdI 1)) 39 := (snd_sq (snd_iload_n (k := 3) (by decide +kernel) rfl) (snd_iload_n (k := 1) (by decide +kernel) rfl))
set_option maxRecDepth 20000 in
theorem b_X7_loose_39 : Br_if_ge mX7_loose 39 46 := br_if_ge (off := 7) (by decide +kernel) (by decide)
set_option maxRecDepth 20000 in
theorem s_X7_loose_42 : Snd mX7_loose 42 (sq (opCi (4)) opNop) 47 := (snd_sq (snd_iconst (k := 4) (by decide) (by decide +kernel)) (snd_goto (off := 4) (by decide +kernel) (by decide)))
set_option maxRecDepth 20000 in
theorem s_X7_loose_46 : Snd mX7_loose 46 (opCi (2)) 47 := (snd_iconst (k := 2) (by decide) (by decide +kernel))
set_option maxRecDepth 20000 in
theorem b_X7_loose_47 : Br_ic_ge mX7_loose 47 148 := br_ic_ge (off := 101) (by decide +kernel) (by decide)
set_option maxRecDepth 20000 in
theorem s_X7_loose_50 : Snd mX7_loose 50 (opLdI 1) 51 := (snd_iload_n (k := 1) (by decide +kernel) rfl)
set_option maxRecDepth 20000 in
theorem b_X7_loose_51 : Br_if_ge mX7_loose 51 67 := br_if_ge (off := 16) (by decide +kernel) (by decide)
set_option maxRecDepth 20000 in
theorem s_X7_loose_54 : Snd mX7_loose 54 (sq (opLdA 0) (sq (opGetR 7 14) (sq (opCi (0)) (sq opIald (sq (opCi (1)) (sq (opLdI 3) (sq opishl (sq opixor opNop)))))))) 73 := (snd_sq (snd_aload_n (k := 0) (by decide +kernel) rfl) (snd_sq (snd_getR (ci := 7) (k := 14) (by decide +kernel) rfl (by decide) (by decide) rfl iw_7 w820) (snd_sq (snd_iconst (k := 0) (by decide) (by decide +kernel)) (snd_sq (snd_iald (by decide +kernel)) (snd_sq (snd_iconst (k := 1) (by decide) (by decide +kernel)) (snd_sq (snd_iload_n (k := 3) (by decide +kernel) rfl) (snd_sq (snd_ishl (by decide +kernel)) (snd_sq (snd_ixor (by decide +kernel)) (snd_goto (off := 9) (by decide +kernel) (by decide))))))))))
set_option maxRecDepth 20000 in
theorem s_X7_loose_67 : Snd mX7_loose 67 (sq (opLdA 0) (sq (opGetR 7 14) (sq (opCi (0)) opIald))) 73 := (snd_sq (snd_aload_n (k := 0) (by decide +kernel) rfl) (snd_sq (snd_getR (ci := 7) (k := 14) (by decide +kernel) rfl (by decide) (by decide) rfl iw_7 w820) (snd_sq (snd_iconst (k := 0) (by decide) (by decide +kernel)) (snd_iald (by decide +kernel)))))
set_option maxRecDepth 20000 in
theorem s_X7_loose_73 : Snd mX7_loose 73 (sq (opStI 4) (opLdI 1)) 76 := (snd_sq (snd_istore (by decide +kernel) (by decide)) (snd_iload_n (k := 1) (by decide +kernel) rfl))
set_option maxRecDepth 20000 in
theorem b_X7_loose_76 : Br_if_ge mX7_loose 76 83 := br_if_ge (off := 7) (by decide +kernel) (by decide)
set_option maxRecDepth 20000 in
theorem s_X7_loose_79 : Snd mX7_loose 79 (sq (opCi (0)) opNop) 93 := (snd_sq (snd_iconst (k := 0) (by decide) (by decide +kernel)) (snd_goto (off := 13) (by decide +kernel) (by decide)))
set_option maxRecDepth 20000 in
theorem s_X7_loose_83 : Snd mX7_loose 83 (sq (opLdA 0) (sq (opGetR 7 15) (sq (opLdI 1) (sq opIald (sq (opCi (1)) (sq (opLdI 3) (sq opishl opixor))))))) 93 := (snd_sq (snd_aload_n (k := 0) (by decide +kernel) rfl) (snd_sq (snd_getR (ci := 7) (k := 15) (by decide +kernel) rfl (by decide) (by decide) rfl iw_7 w821) (snd_sq (snd_iload_n (k := 1) (by decide +kernel) rfl) (snd_sq (snd_iald (by decide +kernel)) (snd_sq (snd_iconst (k := 1) (by decide) (by decide +kernel)) (snd_sq (snd_iload_n (k := 3) (by decide +kernel) rfl) (snd_sq (snd_ishl (by decide +kernel)) (snd_ixor (by decide +kernel)))))))))
set_option maxRecDepth 20000 in
theorem s_X7_loose_93 : Snd mX7_loose 93 (sq (opStI 5) (opLdA 0)) 96 := (snd_sq (snd_istore (by decide +kernel) (by decide)) (snd_aload_n (k := 0) (by decide +kernel) rfl))
set_option maxRecDepth 20000 in
theorem c_X7_loose_96 : CallV mX7_loose 96 mX7_startSet 7 1 := kallV (site_V rfl w1013 (by decide +kernel) w1010 w1012 w65 w97 ⟨by decide, by decide, by decide +kernel⟩) (by decide) (by decide) (by unfold clsNo; rfl)
set_option maxRecDepth 20000 in
theorem s_X7_loose_99 : Snd mX7_loose 99 (opLdI 4) 101 := (snd_iload (by decide +kernel))
set_option maxRecDepth 20000 in
theorem c_X7_loose_101 : CallS mX7_loose 101 mX7_isIn 2 := kallS (site_S w926 (by decide +kernel) w924 w925 w97 ⟨by decide, by decide, by decide +kernel⟩) (by decide)
set_option maxRecDepth 20000 in
theorem s_X7_loose_104 : Snd mX7_loose 104 (opCi (1)) 105 := (snd_iconst (k := 1) (by decide) (by decide +kernel))
set_option maxRecDepth 20000 in
theorem b_X7_loose_105 : Br_ic_ne mX7_loose 105 124 := br_ic_ne (off := 19) (by decide +kernel) (by decide)
set_option maxRecDepth 20000 in
theorem s_X7_loose_108 : Snd mX7_loose 108 (sq (opLdA 0) (sq (opLdI 4) (sq (opLdI 1) (opLdI 5)))) 114 := (snd_sq (snd_aload_n (k := 0) (by decide +kernel) rfl) (snd_sq (snd_iload (by decide +kernel)) (snd_sq (snd_iload_n (k := 1) (by decide +kernel) rfl) (snd_iload (by decide +kernel)))))
set_option maxRecDepth 20000 in
theorem c_X7_loose_114 : CallV mX7_loose 114 mX7_isStillBroken 7 4 := kallV (site_V rfl w1057 (by decide +kernel) w1054 w1056 w72 w97 ⟨by decide, by decide, by decide +kernel⟩) (by decide) (by decide) (by unfold clsNo; rfl)
set_option maxRecDepth 20000 in
theorem b_X7_loose_117 : Br_if_eq mX7_loose 117 124 := br_if_eq (off := 7) (by decide +kernel) (by decide)
set_option maxRecDepth 20000 in
theorem s_X7_loose_120 : Snd mX7_loose 120 (sq (opCi (1)) opNop) 125 := (snd_sq (snd_iconst (k := 1) (by decide) (by decide +kernel)) (snd_goto (off := 4) (by decide +kernel) (by decide)))
set_option maxRecDepth 20000 in
theorem s_X7_loose_124 : Snd mX7_loose 124 (opCi (0)) 125 := (snd_iconst (k := 0) (by decide) (by decide +kernel))
set_option maxRecDepth 20000 in
theorem s_X7_loose_125 : Snd mX7_loose 125 (sq (opStI 6) (sq (opLdI 2) (opLdI 6))) 130 := (snd_sq (snd_istore (by decide +kernel) (by decide)) (snd_sq (snd_iload_n (k := 2) (by decide +kernel) rfl) (snd_iload (by decide +kernel))))
set_option maxRecDepth 20000 in
theorem b_X7_loose_130 : Br_if_eq mX7_loose 130 139 := br_if_eq (off := 9) (by decide +kernel) (by decide)
set_option maxRecDepth 20000 in
theorem s_X7_loose_133 : Snd mX7_loose 133 (sq (opCi (1)) (sq (opLdI 3) (sq opishl opNop))) 140 := (snd_sq (snd_iconst (k := 1) (by decide) (by decide +kernel)) (snd_sq (snd_iload_n (k := 3) (by decide +kernel) rfl) (snd_sq (snd_ishl (by decide +kernel)) (snd_goto (off := 4) (by decide +kernel) (by decide)))))
set_option maxRecDepth 20000 in
theorem s_X7_loose_139 : Snd mX7_loose 139 (opCi (0)) 140 := (snd_iconst (k := 0) (by decide) (by decide +kernel))
set_option maxRecDepth 20000 in
theorem s_X7_loose_140 : Snd mX7_loose 140 (sq opior (sq (opStI 2) (sq (opInc 3 (1)) opNop))) 37 := (snd_sq (snd_ior (by decide +kernel)) (snd_sq (snd_istore_n (k := 2) (by decide +kernel) rfl (by decide)) (snd_sq (snd_iinc (k := 1) (by decide +kernel) (by decide) (by decide)) (snd_goto (off := -108) (by decide +kernel) (by decide)))))
set_option maxRecDepth 20000 in
theorem s_X7_loose_148 : Snd mX7_loose 148 (opLdI 2) 149 := (snd_iload_n (k := 2) (by decide +kernel) rfl)
set_option maxRecDepth 20000 in
theorem r_X7_loose_149 : RtI mX7_loose 149 := rt_I (by decide +kernel) rfl
/-! ClaimChainsModel.cone(I)I -/
set_option maxRecDepth 20000 in
theorem s_X7_cone_0 : Snd mX7_cone 0 (sq (opLdI 1) (sq (opCi (0)) (opCi (1)))) 3 := (snd_sq (snd_iload_n (k := 1) (by decide +kernel) rfl) (snd_sq (snd_iconst (k := 0) (by decide) (by decide +kernel)) (snd_iconst (k := 1) (by decide) (by decide +kernel))))
set_option maxRecDepth 20000 in
theorem c_X7_cone_3 : CallS mX7_cone 3 mX7_within 3 := kallS (site_S w903 (by decide +kernel) w901 w902 w97 ⟨by decide, by decide, by decide +kernel⟩) (by decide)
set_option maxRecDepth 20000 in
theorem b_X7_cone_6 : Br_if_ne mX7_cone 6 12 := br_if_ne (off := 6) (by decide +kernel) (by decide)
set_option maxRecDepth 20000 in
theorem s_X7_cone_9 : Snd mX7_cone 9 (opCi (-2)) 11 := (snd_bipush (k := -2) (by decide) (by decide +kernel))
set_option maxRecDepth 20000 in
theorem r_X7_cone_11 : RtI mX7_cone 11 := rt_I (by decide +kernel) rfl
set_option maxRecDepth 20000 in
theorem s_X7_cone_12 : Snd mX7_cone 12 (sq (opLdA 0) (sq (opGetI 7 10) (opCi (-9)))) 18 := (snd_sq (snd_aload_n (k := 0) (by decide +kernel) rfl) (snd_sq (snd_getI (ci := 7) (k := 10) (by decide +kernel) rfl (by decide) (by decide) (by decide) iw_7 w816) (snd_bipush (k := -9) (by decide) (by decide +kernel))))
set_option maxRecDepth 20000 in
theorem b_X7_cone_18 : Br_ic_ne mX7_cone 18 25 := br_ic_ne (off := 7) (by decide +kernel) (by decide)
set_option maxRecDepth 20000 in
theorem s_X7_cone_21 : Snd mX7_cone 21 (sq (opCi (0)) opNop) 34 := (snd_sq (snd_iconst (k := 0) (by decide) (by decide +kernel)) (snd_goto (off := 12) (by decide +kernel) (by decide)))
set_option maxRecDepth 20000 in
theorem s_X7_cone_25 : Snd mX7_cone 25 (sq (opLdA 0) (sq (opGetR 7 4) (sq (opLdA 0) (sq (opGetI 7 10) opIald)))) 34 := (snd_sq (snd_aload_n (k := 0) (by decide +kernel) rfl) (snd_sq (snd_getR (ci := 7) (k := 4) (by decide +kernel) rfl (by decide) (by decide) rfl iw_7 w810) (snd_sq (snd_aload_n (k := 0) (by decide +kernel) rfl) (snd_sq (snd_getI (ci := 7) (k := 10) (by decide +kernel) rfl (by decide) (by decide) (by decide) iw_7 w816) (snd_iald (by decide +kernel))))))
set_option maxRecDepth 20000 in
theorem s_X7_cone_34 : Snd mX7_cone 34 (sq (opStI 2) (sq (opCi (0)) (sq (opStI 3) (sq (opCi (0)) (opStI 4))))) 40 := (snd_sq (snd_istore_n (k := 2) (by decide +kernel) rfl (by decide)) (snd_sq (snd_iconst (k := 0) (by decide) (by decide +kernel)) (snd_sq (snd_istore_n (k := 3) (by decide +kernel) rfl (by decide)) (snd_sq (snd_iconst (k := 0) (by decide) (by decide +kernel)) (snd_istore (by decide +kernel) (by decide))))))
set_option maxRecDepth 20000 in
theorem s_X7_cone_40 : Snd mX7_cone 40 (sq (opLdI 4) (opCi (4))) 43 := (snd_sq (snd_iload (by decide +kernel)) (snd_iconst (k := 4) (by decide) (by decide +kernel)))
set_option maxRecDepth 20000 in
theorem b_X7_cone_43 : Br_ic_gt mX7_cone 43 144 := br_ic_gt (off := 101) (by decide +kernel) (by decide)
set_option maxRecDepth 20000 in
theorem s_X7_cone_46 : Snd mX7_cone 46 (sq (opCi (0)) (opStI 5)) 49 := (snd_sq (snd_iconst (k := 0) (by decide) (by decide +kernel)) (snd_istore (by decide +kernel) (by decide)))
set_option maxRecDepth 20000 in
theorem s_X7_cone_49 : Snd mX7_cone 49 (sq (opLdI 5) (opCi (4))) 52 := (snd_sq (snd_iload (by decide +kernel)) (snd_iconst (k := 4) (by decide) (by decide +kernel)))
set_option maxRecDepth 20000 in
theorem b_X7_cone_52 : Br_ic_ge mX7_cone 52 138 := br_ic_ge (off := 86) (by decide +kernel) (by decide)
set_option maxRecDepth 20000 in
theorem s_X7_cone_55 : Snd mX7_cone 55 (sq (opLdI 2) (opLdI 5)) 58 := (snd_sq (snd_iload_n (k := 2) (by decide +kernel) rfl) (snd_iload (by decide +kernel)))
set_option maxRecDepth 20000 in
theorem c_X7_cone_58 : CallS mX7_cone 58 mX7_isIn 2 := kallS (site_S w926 (by decide +kernel) w924 w925 w97 ⟨by decide, by decide, by decide +kernel⟩) (by decide)
set_option maxRecDepth 20000 in
theorem s_X7_cone_61 : Snd mX7_cone 61 (opCi (1)) 62 := (snd_iconst (k := 1) (by decide) (by decide +kernel))
set_option maxRecDepth 20000 in
theorem b_X7_cone_62 : Br_ic_ne mX7_cone 62 81 := br_ic_ne (off := 19) (by decide +kernel) (by decide)
set_option maxRecDepth 20000 in
theorem s_X7_cone_65 : Snd mX7_cone 65 (sq (opLdA 0) (sq (opGetR 7 11) (sq (opLdI 5) (sq opIald (opCi (-9)))))) 74 := (snd_sq (snd_aload_n (k := 0) (by decide +kernel) rfl) (snd_sq (snd_getR (ci := 7) (k := 11) (by decide +kernel) rfl (by decide) (by decide) rfl iw_7 w817) (snd_sq (snd_iload (by decide +kernel)) (snd_sq (snd_iald (by decide +kernel)) (snd_bipush (k := -9) (by decide) (by decide +kernel))))))
set_option maxRecDepth 20000 in
theorem b_X7_cone_74 : Br_ic_eq mX7_cone 74 81 := br_ic_eq (off := 7) (by decide +kernel) (by decide)
set_option maxRecDepth 20000 in
theorem s_X7_cone_77 : Snd mX7_cone 77 (sq (opCi (1)) opNop) 82 := (snd_sq (snd_iconst (k := 1) (by decide) (by decide +kernel)) (snd_goto (off := 4) (by decide +kernel) (by decide)))
set_option maxRecDepth 20000 in
theorem s_X7_cone_81 : Snd mX7_cone 81 (opCi (0)) 82 := (snd_iconst (k := 0) (by decide) (by decide +kernel))
set_option maxRecDepth 20000 in
theorem s_X7_cone_82 : Snd mX7_cone 82 (sq (opStI 6) (sq (opLdI 2) (opLdI 6))) 87 := (snd_sq (snd_istore (by decide +kernel) (by decide)) (snd_sq (snd_iload_n (k := 2) (by decide +kernel) rfl) (snd_iload (by decide +kernel))))
set_option maxRecDepth 20000 in
theorem b_X7_cone_87 : Br_if_eq mX7_cone 87 105 := br_if_eq (off := 18) (by decide +kernel) (by decide)
set_option maxRecDepth 20000 in
theorem s_X7_cone_90 : Snd mX7_cone 90 (sq (opLdA 0) (sq (opGetR 7 4) (sq (opLdA 0) (sq (opGetR 7 11) (sq (opLdI 5) (sq opIald (sq opIald opNop))))))) 106 := (snd_sq (snd_aload_n (k := 0) (by decide +kernel) rfl) (snd_sq (snd_getR (ci := 7) (k := 4) (by decide +kernel) rfl (by decide) (by decide) rfl iw_7 w810) (snd_sq (snd_aload_n (k := 0) (by decide +kernel) rfl) (snd_sq (snd_getR (ci := 7) (k := 11) (by decide +kernel) rfl (by decide) (by decide) rfl iw_7 w817) (snd_sq (snd_iload (by decide +kernel)) (snd_sq (snd_iald (by decide +kernel)) (snd_sq (snd_iald (by decide +kernel)) (snd_goto (off := 4) (by decide +kernel) (by decide)))))))))
set_option maxRecDepth 20000 in
theorem s_X7_cone_105 : Snd mX7_cone 105 (opCi (0)) 106 := (snd_iconst (k := 0) (by decide) (by decide +kernel))
set_option maxRecDepth 20000 in
theorem s_X7_cone_106 : Snd mX7_cone 106 (sq opior (sq (opStI 2) (sq (opLdI 3) (opLdI 6)))) 111 := (snd_sq (snd_ior (by decide +kernel)) (snd_sq (snd_istore_n (k := 2) (by decide +kernel) rfl (by decide)) (snd_sq (snd_iload_n (k := 3) (by decide +kernel) rfl) (snd_iload (by decide +kernel)))))
set_option maxRecDepth 20000 in
theorem b_X7_cone_111 : Br_if_eq mX7_cone 111 129 := br_if_eq (off := 18) (by decide +kernel) (by decide)
set_option maxRecDepth 20000 in
theorem s_X7_cone_114 : Snd mX7_cone 114 (sq (opLdA 0) (sq (opGetR 7 5) (sq (opLdA 0) (sq (opGetR 7 11) (sq (opLdI 5) (sq opIald (sq opIald opNop))))))) 130 := (snd_sq (snd_aload_n (k := 0) (by decide +kernel) rfl) (snd_sq (snd_getR (ci := 7) (k := 5) (by decide +kernel) rfl (by decide) (by decide) rfl iw_7 w811) (snd_sq (snd_aload_n (k := 0) (by decide +kernel) rfl) (snd_sq (snd_getR (ci := 7) (k := 11) (by decide +kernel) rfl (by decide) (by decide) rfl iw_7 w817) (snd_sq (snd_iload (by decide +kernel)) (snd_sq (snd_iald (by decide +kernel)) (snd_sq (snd_iald (by decide +kernel)) (snd_goto (off := 4) (by decide +kernel) (by decide)))))))))
set_option maxRecDepth 20000 in
theorem s_X7_cone_129 : Snd mX7_cone 129 (opCi (0)) 130 := (snd_iconst (k := 0) (by decide) (by decide +kernel))
set_option maxRecDepth 20000 in
theorem s_X7_cone_130 : Snd mX7_cone 130 (sq opior (sq (opStI 3) (sq (opInc 5 (1)) opNop))) 49 := (snd_sq (snd_ior (by decide +kernel)) (snd_sq (snd_istore_n (k := 3) (by decide +kernel) rfl (by decide)) (snd_sq (snd_iinc (k := 1) (by decide +kernel) (by decide) (by decide)) (snd_goto (off := -86) (by decide +kernel) (by decide)))))
set_option maxRecDepth 20000 in
theorem s_X7_cone_138 : Snd mX7_cone 138 (sq (opInc 4 (1)) opNop) 40 := (snd_sq (snd_iinc (k := 1) (by decide +kernel) (by decide) (by decide)) (snd_goto (off := -101) (by decide +kernel) (by decide)))
set_option maxRecDepth 20000 in
theorem s_X7_cone_144 : Snd mX7_cone 144 (opLdI 1) 145 := (snd_iload_n (k := 1) (by decide +kernel) rfl)
set_option maxRecDepth 20000 in
theorem b_X7_cone_145 : Br_if_ne mX7_cone 145 152 := br_if_ne (off := 7) (by decide +kernel) (by decide)
set_option maxRecDepth 20000 in
theorem s_X7_cone_148 : Snd mX7_cone 148 (sq (opLdI 2) opNop) 153 := (snd_sq (snd_iload_n (k := 2) (by decide +kernel) rfl) (snd_goto (off := 4) (by decide +kernel) (by decide)))
set_option maxRecDepth 20000 in
theorem s_X7_cone_152 : Snd mX7_cone 152 (opLdI 3) 153 := (snd_iload_n (k := 3) (by decide +kernel) rfl)
set_option maxRecDepth 20000 in
theorem r_X7_cone_153 : RtI mX7_cone 153 := rt_I (by decide +kernel) rfl
/-! ClaimChainsModel.inAll()I -/
set_option maxRecDepth 20000 in
theorem s_X7_inAll_0 : Snd mX7_inAll 0 (sq (opCi (65535)) (sq (opStI 1) (sq (opCi (0)) (opStI 2)))) 5 := (snd_sq (snd_ldc w1014 (by decide +kernel)) (snd_sq (snd_istore_n (k := 1) (by decide +kernel) rfl (by decide)) (snd_sq (snd_iconst (k := 0) (by decide) (by decide +kernel)) (snd_istore_n (k := 2) (by decide +kernel) rfl (by decide)))))
set_option maxRecDepth 20000 in
theorem s_X7_inAll_5 : Snd mX7_inAll 5 (sq (opLdI 2) (sq (opLdA 0) (opGetI 7 16))) 10 := (snd_sq (snd_iload_n (k := 2) (by decide +kernel) rfl) (snd_sq (snd_aload_n (k := 0) (by decide +kernel) rfl) (snd_getI (ci := 7) (k := 16) (by decide +kernel) rfl (by decide) (by decide) (by decide) iw_7 w822)))
set_option maxRecDepth 20000 in
theorem b_X7_inAll_10 : Br_ic_ge mX7_inAll 10 28 := br_ic_ge (off := 18) (by decide +kernel) (by decide)
set_option maxRecDepth 20000 in
theorem s_X7_inAll_13 : Snd mX7_inAll 13 (sq (opLdI 1) (sq (opLdA 0) (sq (opGetR 7 17) (sq (opLdI 2) (sq opIald (sq opiand (sq (opStI 1) (sq (opInc 2 (1)) opNop)))))))) 5 := (snd_sq (snd_iload_n (k := 1) (by decide +kernel) rfl) (snd_sq (snd_aload_n (k := 0) (by decide +kernel) rfl) (snd_sq (snd_getR (ci := 7) (k := 17) (by decide +kernel) rfl (by decide) (by decide) rfl iw_7 w823) (snd_sq (snd_iload_n (k := 2) (by decide +kernel) rfl) (snd_sq (snd_iald (by decide +kernel)) (snd_sq (snd_iand (by decide +kernel)) (snd_sq (snd_istore_n (k := 1) (by decide +kernel) rfl (by decide)) (snd_sq (snd_iinc (k := 1) (by decide +kernel) (by decide) (by decide)) (snd_goto (off := -20) (by decide +kernel) (by decide))))))))))
set_option maxRecDepth 20000 in
theorem s_X7_inAll_28 : Snd mX7_inAll 28 (opLdI 1) 29 := (snd_iload_n (k := 1) (by decide +kernel) rfl)
set_option maxRecDepth 20000 in
theorem r_X7_inAll_29 : RtI mX7_inAll 29 := rt_I (by decide +kernel) rfl
/-! ClaimChainsModel.goodSet()I -/
set_option maxRecDepth 20000 in
theorem s_X7_goodSet_0 : Snd mX7_goodSet 0 (opLdA 0) 1 := (snd_aload_n (k := 0) (by decide +kernel) rfl)
set_option maxRecDepth 20000 in
theorem c_X7_goodSet_1 : CallV mX7_goodSet 1 mX7_inAll 7 1 := kallV (site_V rfl w1085 (by decide +kernel) w1082 w1084 w76 w97 ⟨by decide, by decide, by decide +kernel⟩) (by decide) (by decide) (by unfold clsNo; rfl)
set_option maxRecDepth 20000 in
theorem s_X7_goodSet_4 : Snd mX7_goodSet 4 (opLdA 0) 5 := (snd_aload_n (k := 0) (by decide +kernel) rfl)
set_option maxRecDepth 20000 in
theorem c_X7_goodSet_5 : CallV mX7_goodSet 5 mX7_brokenSet 7 1 := kallV (site_V rfl w1037 (by decide +kernel) w1034 w1036 w69 w97 ⟨by decide, by decide, by decide +kernel⟩) (by decide) (by decide) (by unfold clsNo; rfl)
set_option maxRecDepth 20000 in
theorem s_X7_goodSet_8 : Snd mX7_goodSet 8 (sq (opCi (-1)) (sq opixor opiand)) 11 := (snd_sq (snd_iconst (k := -1) (by decide) (by decide +kernel)) (snd_sq (snd_ixor (by decide +kernel)) (snd_iand (by decide +kernel))))
set_option maxRecDepth 20000 in
theorem r_X7_goodSet_11 : RtI mX7_goodSet 11 := rt_I (by decide +kernel) rfl
/-! ClaimChainsModel.lastSet()I -/
set_option maxRecDepth 20000 in
theorem s_X7_lastSet_0 : Snd mX7_lastSet 0 (opLdA 0) 1 := (snd_aload_n (k := 0) (by decide +kernel) rfl)
set_option maxRecDepth 20000 in
theorem c_X7_lastSet_1 : CallV mX7_lastSet 1 mX7_inAll 7 1 := kallV (site_V rfl w1085 (by decide +kernel) w1082 w1084 w76 w97 ⟨by decide, by decide, by decide +kernel⟩) (by decide) (by decide) (by unfold clsNo; rfl)
set_option maxRecDepth 20000 in
theorem s_X7_lastSet_4 : Snd mX7_lastSet 4 (opLdA 0) 5 := (snd_aload_n (k := 0) (by decide +kernel) rfl)
set_option maxRecDepth 20000 in
theorem c_X7_lastSet_5 : CallV mX7_lastSet 5 mX7_brokenSet 7 1 := kallV (site_V rfl w1037 (by decide +kernel) w1034 w1036 w69 w97 ⟨by decide, by decide, by decide +kernel⟩) (by decide) (by decide) (by unfold clsNo; rfl)
set_option maxRecDepth 20000 in
theorem s_X7_lastSet_8 : Snd mX7_lastSet 8 opiand 9 := (snd_iand (by decide +kernel))
set_option maxRecDepth 20000 in
theorem r_X7_lastSet_9 : RtI mX7_lastSet 9 := rt_I (by decide +kernel) rfl
/-! ClaimChainsModel.isClear(I)Z -/
set_option maxRecDepth 20000 in
theorem s_X7_isClear_0 : Snd mX7_isClear 0 (opLdA 0) 1 := (snd_aload_n (k := 0) (by decide +kernel) rfl)
set_option maxRecDepth 20000 in
theorem c_X7_isClear_1 : CallV mX7_isClear 1 mX7_findFar 7 1 := kallV (site_V rfl w1009 (by decide +kernel) w1006 w1008 w64 w97 ⟨by decide, by decide, by decide +kernel⟩) (by decide) (by decide) (by unfold clsNo; rfl)
set_option maxRecDepth 20000 in
theorem s_X7_isClear_4 : Snd mX7_isClear 4 (opLdA 0) 5 := (snd_aload_n (k := 0) (by decide +kernel) rfl)
set_option maxRecDepth 20000 in
theorem c_X7_isClear_5 : CallV mX7_isClear 5 mX7_wayLong 7 1 := kallV (site_V rfl w1033 (by decide +kernel) w1030 w1032 w68 w97 ⟨by decide, by decide, by decide +kernel⟩) (by decide) (by decide) (by unfold clsNo; rfl)
set_option maxRecDepth 20000 in
theorem s_X7_isClear_8 : Snd mX7_isClear 8 (sq (opStI 2) (sq (opLdI 2) (opCi (-9)))) 12 := (snd_sq (snd_istore_n (k := 2) (by decide +kernel) rfl (by decide)) (snd_sq (snd_iload_n (k := 2) (by decide +kernel) rfl) (snd_bipush (k := -9) (by decide) (by decide +kernel))))
set_option maxRecDepth 20000 in
theorem b_X7_isClear_12 : Br_ic_eq mX7_isClear 12 20 := br_ic_eq (off := 8) (by decide +kernel) (by decide)
set_option maxRecDepth 20000 in
theorem s_X7_isClear_15 : Snd mX7_isClear 15 (sq (opLdI 2) (opLdI 1)) 17 := (snd_sq (snd_iload_n (k := 2) (by decide +kernel) rfl) (snd_iload_n (k := 1) (by decide +kernel) rfl))
set_option maxRecDepth 20000 in
theorem b_X7_isClear_17 : Br_ic_lt mX7_isClear 17 24 := br_ic_lt (off := 7) (by decide +kernel) (by decide)
set_option maxRecDepth 20000 in
theorem s_X7_isClear_20 : Snd mX7_isClear 20 (sq (opCi (1)) opNop) 25 := (snd_sq (snd_iconst (k := 1) (by decide) (by decide +kernel)) (snd_goto (off := 4) (by decide +kernel) (by decide)))
set_option maxRecDepth 20000 in
theorem s_X7_isClear_24 : Snd mX7_isClear 24 (opCi (0)) 25 := (snd_iconst (k := 0) (by decide) (by decide +kernel))
set_option maxRecDepth 20000 in
theorem r_X7_isClear_25 : RtZ mX7_isClear 25 := rt_Z (by decide +kernel) rfl
/-! ClaimChainsModel.clear(I)I -/
set_option maxRecDepth 20000 in
theorem s_X7_clear_0 : Snd mX7_clear 0 (sq (opLdI 1) (sq (opCi (0)) (opCi (16)))) 4 := (snd_sq (snd_iload_n (k := 1) (by decide +kernel) rfl) (snd_sq (snd_iconst (k := 0) (by decide) (by decide +kernel)) (snd_bipush (k := 16) (by decide) (by decide +kernel))))
set_option maxRecDepth 20000 in
theorem c_X7_clear_4 : CallS mX7_clear 4 mX7_within 3 := kallS (site_S w903 (by decide +kernel) w901 w902 w97 ⟨by decide, by decide, by decide +kernel⟩) (by decide)
set_option maxRecDepth 20000 in
theorem b_X7_clear_7 : Br_if_ne mX7_clear 7 13 := br_if_ne (off := 6) (by decide +kernel) (by decide)
set_option maxRecDepth 20000 in
theorem s_X7_clear_10 : Snd mX7_clear 10 (opCi (-2)) 12 := (snd_bipush (k := -2) (by decide) (by decide +kernel))
set_option maxRecDepth 20000 in
theorem r_X7_clear_12 : RtI mX7_clear 12 := rt_I (by decide +kernel) rfl
set_option maxRecDepth 20000 in
theorem s_X7_clear_13 : Snd mX7_clear 13 (sq (opLdA 0) (opLdI 1)) 15 := (snd_sq (snd_aload_n (k := 0) (by decide +kernel) rfl) (snd_iload_n (k := 1) (by decide +kernel) rfl))
set_option maxRecDepth 20000 in
theorem c_X7_clear_15 : CallV mX7_clear 15 mX7_isClear 7 2 := kallV (site_V rfl w1069 (by decide +kernel) w1066 w1068 w73 w97 ⟨by decide, by decide, by decide +kernel⟩) (by decide) (by decide) (by unfold clsNo; rfl)
set_option maxRecDepth 20000 in
theorem b_X7_clear_18 : Br_if_eq mX7_clear 18 25 := br_if_eq (off := 7) (by decide +kernel) (by decide)
set_option maxRecDepth 20000 in
theorem s_X7_clear_21 : Snd mX7_clear 21 (sq (opCi (1)) opNop) 26 := (snd_sq (snd_iconst (k := 1) (by decide) (by decide +kernel)) (snd_goto (off := 4) (by decide +kernel) (by decide)))
set_option maxRecDepth 20000 in
theorem s_X7_clear_25 : Snd mX7_clear 25 (opCi (0)) 26 := (snd_iconst (k := 0) (by decide) (by decide +kernel))
set_option maxRecDepth 20000 in
theorem r_X7_clear_26 : RtI mX7_clear 26 := rt_I (by decide +kernel) rfl
/-! ClaimChainsModel.isNew(II)Z -/
set_option maxRecDepth 20000 in
theorem s_X7_isNew_0 : Snd mX7_isNew 0 (sq (opCi (0)) (opStI 3)) 2 := (snd_sq (snd_iconst (k := 0) (by decide) (by decide +kernel)) (snd_istore_n (k := 3) (by decide +kernel) rfl (by decide)))
set_option maxRecDepth 20000 in
theorem s_X7_isNew_2 : Snd mX7_isNew 2 (sq (opLdI 3) (opLdI 2)) 4 := (snd_sq (snd_iload_n (k := 3) (by decide +kernel) rfl) (snd_iload_n (k := 2) (by decide +kernel) rfl))
set_option maxRecDepth 20000 in
theorem b_X7_isNew_4 : Br_ic_gt mX7_isNew 4 25 := br_ic_gt (off := 21) (by decide +kernel) (by decide)
set_option maxRecDepth 20000 in
theorem s_X7_isNew_7 : Snd mX7_isNew 7 (sq (opLdA 0) (sq (opGetR 7 19) (sq (opLdI 3) (sq opIald (opLdI 1))))) 14 := (snd_sq (snd_aload_n (k := 0) (by decide +kernel) rfl) (snd_sq (snd_getR (ci := 7) (k := 19) (by decide +kernel) rfl (by decide) (by decide) rfl iw_7 w825) (snd_sq (snd_iload_n (k := 3) (by decide +kernel) rfl) (snd_sq (snd_iald (by decide +kernel)) (snd_iload_n (k := 1) (by decide +kernel) rfl)))))
set_option maxRecDepth 20000 in
theorem b_X7_isNew_14 : Br_ic_ne mX7_isNew 14 19 := br_ic_ne (off := 5) (by decide +kernel) (by decide)
set_option maxRecDepth 20000 in
theorem s_X7_isNew_17 : Snd mX7_isNew 17 (opCi (0)) 18 := (snd_iconst (k := 0) (by decide) (by decide +kernel))
set_option maxRecDepth 20000 in
theorem r_X7_isNew_18 : RtZ mX7_isNew 18 := rt_Z (by decide +kernel) rfl
set_option maxRecDepth 20000 in
theorem s_X7_isNew_19 : Snd mX7_isNew 19 (sq (opInc 3 (1)) opNop) 2 := (snd_sq (snd_iinc (k := 1) (by decide +kernel) (by decide) (by decide)) (snd_goto (off := -20) (by decide +kernel) (by decide)))
set_option maxRecDepth 20000 in
theorem s_X7_isNew_25 : Snd mX7_isNew 25 (opCi (1)) 26 := (snd_iconst (k := 1) (by decide) (by decide +kernel))
set_option maxRecDepth 20000 in
theorem r_X7_isNew_26 : RtZ mX7_isNew 26 := rt_Z (by decide +kernel) rfl
/-! ClaimChainsModel.nextRow(II)I -/
set_option maxRecDepth 20000 in
theorem s_X7_nextRow_0 : Snd mX7_nextRow 0 (sq (opLdA 0) (sq (opGetR 7 19) (sq (opLdI 1) (sq opIald (sq (opStI 3) (sq (opLdA 0) (sq (opGetR 7 20) (sq (opLdI 1) (sq opIald (sq (opCi (1)) (sq opiadd (opStI 4)))))))))))) 17 := (snd_sq (snd_aload_n (k := 0) (by decide +kernel) rfl) (snd_sq (snd_getR (ci := 7) (k := 19) (by decide +kernel) rfl (by decide) (by decide) rfl iw_7 w825) (snd_sq (snd_iload_n (k := 1) (by decide +kernel) rfl) (snd_sq (snd_iald (by decide +kernel)) (snd_sq (snd_istore_n (k := 3) (by decide +kernel) rfl (by decide)) (snd_sq (snd_aload_n (k := 0) (by decide +kernel) rfl) (snd_sq (snd_getR (ci := 7) (k := 20) (by decide +kernel) rfl (by decide) (by decide) rfl iw_7 w826) (snd_sq (snd_iload_n (k := 1) (by decide +kernel) rfl) (snd_sq (snd_iald (by decide +kernel)) (snd_sq (snd_iconst (k := 1) (by decide) (by decide +kernel)) (snd_sq (snd_iadd (by decide +kernel)) (snd_istore (by decide +kernel) (by decide)))))))))))))
set_option maxRecDepth 20000 in
theorem s_X7_nextRow_17 : Snd mX7_nextRow 17 (sq (opLdI 4) (opCi (4))) 20 := (snd_sq (snd_iload (by decide +kernel)) (snd_iconst (k := 4) (by decide) (by decide +kernel)))
set_option maxRecDepth 20000 in
theorem b_X7_nextRow_20 : Br_ic_ge mX7_nextRow 20 138 := br_ic_ge (off := 118) (by decide +kernel) (by decide)
set_option maxRecDepth 20000 in
theorem s_X7_nextRow_23 : Snd mX7_nextRow 23 (sq (opLdA 0) (sq (opGetR 7 21) (sq (opCi (4)) (sq (opLdI 3) (sq opimul (sq (opLdI 4) (sq opiadd (sq opIald (sq (opStI 5) (sq (opLdI 1) (sq (opCi (1)) (sq opiadd (opLdI 2))))))))))))) 40 := (snd_sq (snd_aload_n (k := 0) (by decide +kernel) rfl) (snd_sq (snd_getR (ci := 7) (k := 21) (by decide +kernel) rfl (by decide) (by decide) rfl iw_7 w827) (snd_sq (snd_iconst (k := 4) (by decide) (by decide +kernel)) (snd_sq (snd_iload_n (k := 3) (by decide +kernel) rfl) (snd_sq (snd_imul (by decide +kernel)) (snd_sq (snd_iload (by decide +kernel)) (snd_sq (snd_iadd (by decide +kernel)) (snd_sq (snd_iald (by decide +kernel)) (snd_sq (snd_istore (by decide +kernel) (by decide)) (snd_sq (snd_iload_n (k := 1) (by decide +kernel) rfl) (snd_sq (snd_iconst (k := 1) (by decide) (by decide +kernel)) (snd_sq (snd_iadd (by decide +kernel)) (snd_iload_n (k := 2) (by decide +kernel) rfl)))))))))))))
set_option maxRecDepth 20000 in
theorem b_X7_nextRow_40 : Br_ic_ne mX7_nextRow 40 50 := br_ic_ne (off := 10) (by decide +kernel) (by decide)
set_option maxRecDepth 20000 in
theorem s_X7_nextRow_43 : Snd mX7_nextRow 43 (sq (opLdA 0) (sq (opGetI 7 23) opNop)) 54 := (snd_sq (snd_aload_n (k := 0) (by decide +kernel) rfl) (snd_sq (snd_getI (ci := 7) (k := 23) (by decide +kernel) rfl (by decide) (by decide) (by decide) iw_7 w829) (snd_goto (off := 7) (by decide +kernel) (by decide))))
set_option maxRecDepth 20000 in
theorem s_X7_nextRow_50 : Snd mX7_nextRow 50 (sq (opLdA 0) (opGetI 7 22)) 54 := (snd_sq (snd_aload_n (k := 0) (by decide +kernel) rfl) (snd_getI (ci := 7) (k := 22) (by decide +kernel) rfl (by decide) (by decide) (by decide) iw_7 w828))
set_option maxRecDepth 20000 in
theorem s_X7_nextRow_54 : Snd mX7_nextRow 54 (opLdI 5) 56 := (snd_iload (by decide +kernel))
set_option maxRecDepth 20000 in
theorem c_X7_nextRow_56 : CallS mX7_nextRow 56 mX7_isIn 2 := kallS (site_S w926 (by decide +kernel) w924 w925 w97 ⟨by decide, by decide, by decide +kernel⟩) (by decide)
set_option maxRecDepth 20000 in
theorem s_X7_nextRow_59 : Snd mX7_nextRow 59 (opCi (1)) 60 := (snd_iconst (k := 1) (by decide) (by decide +kernel))
set_option maxRecDepth 20000 in
theorem b_X7_nextRow_60 : Br_ic_ne mX7_nextRow 60 77 := br_ic_ne (off := 17) (by decide +kernel) (by decide)
set_option maxRecDepth 20000 in
theorem s_X7_nextRow_63 : Snd mX7_nextRow 63 (sq (opLdA 0) (sq (opLdI 5) (opLdI 1))) 67 := (snd_sq (snd_aload_n (k := 0) (by decide +kernel) rfl) (snd_sq (snd_iload (by decide +kernel)) (snd_iload_n (k := 1) (by decide +kernel) rfl)))
set_option maxRecDepth 20000 in
theorem c_X7_nextRow_67 : CallV mX7_nextRow 67 mX7_isNew 7 3 := kallV (site_V rfl w1101 (by decide +kernel) w1098 w1100 w80 w97 ⟨by decide, by decide, by decide +kernel⟩) (by decide) (by decide) (by unfold clsNo; rfl)
set_option maxRecDepth 20000 in
theorem b_X7_nextRow_70 : Br_if_eq mX7_nextRow 70 77 := br_if_eq (off := 7) (by decide +kernel) (by decide)
set_option maxRecDepth 20000 in
theorem s_X7_nextRow_73 : Snd mX7_nextRow 73 (sq (opCi (1)) opNop) 78 := (snd_sq (snd_iconst (k := 1) (by decide) (by decide +kernel)) (snd_goto (off := 4) (by decide +kernel) (by decide)))
set_option maxRecDepth 20000 in
theorem s_X7_nextRow_77 : Snd mX7_nextRow 77 (opCi (0)) 78 := (snd_iconst (k := 0) (by decide) (by decide +kernel))
set_option maxRecDepth 20000 in
theorem s_X7_nextRow_78 : Snd mX7_nextRow 78 (sq (opStI 6) (sq (opCi (0)) (opStI 7))) 83 := (snd_sq (snd_istore (by decide +kernel) (by decide)) (snd_sq (snd_iconst (k := 0) (by decide) (by decide +kernel)) (snd_istore (by decide +kernel) (by decide))))
set_option maxRecDepth 20000 in
theorem s_X7_nextRow_83 : Snd mX7_nextRow 83 (sq (opLdI 7) (opLdI 4)) 87 := (snd_sq (snd_iload (by decide +kernel)) (snd_iload (by decide +kernel)))
set_option maxRecDepth 20000 in
theorem b_X7_nextRow_87 : Br_ic_ge mX7_nextRow 87 124 := br_ic_ge (off := 37) (by decide +kernel) (by decide)
set_option maxRecDepth 20000 in
theorem s_X7_nextRow_90 : Snd mX7_nextRow 90 (opLdI 6) 92 := (snd_iload (by decide +kernel))
set_option maxRecDepth 20000 in
theorem b_X7_nextRow_92 : Br_if_eq mX7_nextRow 92 115 := br_if_eq (off := 23) (by decide +kernel) (by decide)
set_option maxRecDepth 20000 in
theorem s_X7_nextRow_95 : Snd mX7_nextRow 95 (sq (opLdA 0) (sq (opGetR 7 21) (sq (opCi (4)) (sq (opLdI 3) (sq opimul (sq (opLdI 7) (sq opiadd (sq opIald (opLdI 5))))))))) 108 := (snd_sq (snd_aload_n (k := 0) (by decide +kernel) rfl) (snd_sq (snd_getR (ci := 7) (k := 21) (by decide +kernel) rfl (by decide) (by decide) rfl iw_7 w827) (snd_sq (snd_iconst (k := 4) (by decide) (by decide +kernel)) (snd_sq (snd_iload_n (k := 3) (by decide +kernel) rfl) (snd_sq (snd_imul (by decide +kernel)) (snd_sq (snd_iload (by decide +kernel)) (snd_sq (snd_iadd (by decide +kernel)) (snd_sq (snd_iald (by decide +kernel)) (snd_iload (by decide +kernel))))))))))
set_option maxRecDepth 20000 in
theorem b_X7_nextRow_108 : Br_ic_eq mX7_nextRow 108 115 := br_ic_eq (off := 7) (by decide +kernel) (by decide)
set_option maxRecDepth 20000 in
theorem s_X7_nextRow_111 : Snd mX7_nextRow 111 (sq (opCi (1)) opNop) 116 := (snd_sq (snd_iconst (k := 1) (by decide) (by decide +kernel)) (snd_goto (off := 4) (by decide +kernel) (by decide)))
set_option maxRecDepth 20000 in
theorem s_X7_nextRow_115 : Snd mX7_nextRow 115 (opCi (0)) 116 := (snd_iconst (k := 0) (by decide) (by decide +kernel))
set_option maxRecDepth 20000 in
theorem s_X7_nextRow_116 : Snd mX7_nextRow 116 (sq (opStI 6) (sq (opInc 7 (1)) opNop)) 83 := (snd_sq (snd_istore (by decide +kernel) (by decide)) (snd_sq (snd_iinc (k := 1) (by decide +kernel) (by decide) (by decide)) (snd_goto (off := -38) (by decide +kernel) (by decide))))
set_option maxRecDepth 20000 in
theorem s_X7_nextRow_124 : Snd mX7_nextRow 124 (opLdI 6) 126 := (snd_iload (by decide +kernel))
set_option maxRecDepth 20000 in
theorem b_X7_nextRow_126 : Br_if_eq mX7_nextRow 126 132 := br_if_eq (off := 6) (by decide +kernel) (by decide)
set_option maxRecDepth 20000 in
theorem s_X7_nextRow_129 : Snd mX7_nextRow 129 (opLdI 4) 131 := (snd_iload (by decide +kernel))
set_option maxRecDepth 20000 in
theorem r_X7_nextRow_131 : RtI mX7_nextRow 131 := rt_I (by decide +kernel) rfl
set_option maxRecDepth 20000 in
theorem s_X7_nextRow_132 : Snd mX7_nextRow 132 (sq (opInc 4 (1)) opNop) 17 := (snd_sq (snd_iinc (k := 1) (by decide +kernel) (by decide) (by decide)) (snd_goto (off := -118) (by decide +kernel) (by decide)))
set_option maxRecDepth 20000 in
theorem s_X7_nextRow_138 : Snd mX7_nextRow 138 (opCi (-9)) 140 := (snd_bipush (k := -9) (by decide) (by decide +kernel))
set_option maxRecDepth 20000 in
theorem r_X7_nextRow_140 : RtI mX7_nextRow 140 := rt_I (by decide +kernel) rfl
/-! ClaimChainsModel.extend(I)Z -/
set_option maxRecDepth 20000 in
theorem s_X7_extend_0 : Snd mX7_extend 0 (sq (opCi (0)) (sq (opStI 2) (sq (opLdA 0) (sq (opGetR 7 20) (sq (opCi (0)) (sq (opCi (-1)) opIast)))))) 9 := (snd_sq (snd_iconst (k := 0) (by decide) (by decide +kernel)) (snd_sq (snd_istore_n (k := 2) (by decide +kernel) rfl (by decide)) (snd_sq (snd_aload_n (k := 0) (by decide +kernel) rfl) (snd_sq (snd_getR (ci := 7) (k := 20) (by decide +kernel) rfl (by decide) (by decide) rfl iw_7 w826) (snd_sq (snd_iconst (k := 0) (by decide) (by decide +kernel)) (snd_sq (snd_iconst (k := -1) (by decide) (by decide +kernel)) (snd_iast (by decide +kernel))))))))
set_option maxRecDepth 20000 in
theorem s_X7_extend_9 : Snd mX7_extend 9 (opLdI 2) 10 := (snd_iload_n (k := 2) (by decide +kernel) rfl)
set_option maxRecDepth 20000 in
theorem b_X7_extend_10 : Br_if_lt mX7_extend 10 80 := br_if_lt (off := 70) (by decide +kernel) (by decide)
set_option maxRecDepth 20000 in
theorem s_X7_extend_13 : Snd mX7_extend 13 (sq (opLdI 2) (opLdI 1)) 15 := (snd_sq (snd_iload_n (k := 2) (by decide +kernel) rfl) (snd_iload_n (k := 1) (by decide +kernel) rfl))
set_option maxRecDepth 20000 in
theorem b_X7_extend_15 : Br_ic_ge mX7_extend 15 80 := br_ic_ge (off := 65) (by decide +kernel) (by decide)
set_option maxRecDepth 20000 in
theorem s_X7_extend_18 : Snd mX7_extend 18 (sq (opLdA 0) (sq (opLdI 2) (opLdI 1))) 21 := (snd_sq (snd_aload_n (k := 0) (by decide +kernel) rfl) (snd_sq (snd_iload_n (k := 2) (by decide +kernel) rfl) (snd_iload_n (k := 1) (by decide +kernel) rfl)))
set_option maxRecDepth 20000 in
theorem c_X7_extend_21 : CallV mX7_extend 21 mX7_nextRow 7 3 := kallV (site_V rfl w1097 (by decide +kernel) w1094 w1096 w79 w97 ⟨by decide, by decide, by decide +kernel⟩) (by decide) (by decide) (by unfold clsNo; rfl)
set_option maxRecDepth 20000 in
theorem s_X7_extend_24 : Snd mX7_extend 24 (sq (opStI 3) (sq (opLdI 3) (opCi (-9)))) 28 := (snd_sq (snd_istore_n (k := 3) (by decide +kernel) rfl (by decide)) (snd_sq (snd_iload_n (k := 3) (by decide +kernel) rfl) (snd_bipush (k := -9) (by decide) (by decide +kernel))))
set_option maxRecDepth 20000 in
theorem b_X7_extend_28 : Br_ic_ne mX7_extend 28 37 := br_ic_ne (off := 9) (by decide +kernel) (by decide)
set_option maxRecDepth 20000 in
theorem s_X7_extend_31 : Snd mX7_extend 31 (sq (opInc 2 (-1)) opNop) 77 := (snd_sq (snd_iinc (k := -1) (by decide +kernel) (by decide) (by decide)) (snd_goto (off := 43) (by decide +kernel) (by decide)))
set_option maxRecDepth 20000 in
theorem s_X7_extend_37 : Snd mX7_extend 37 (sq (opLdA 0) (sq (opGetR 7 20) (sq (opLdI 2) (sq (opLdI 3) (sq opIast (sq (opLdA 0) (sq (opGetR 7 19) (sq (opLdI 2) (sq (opCi (1)) (sq opiadd (sq (opLdA 0) (sq (opGetR 7 21) (sq (opCi (4)) (sq (opLdA 0) (sq (opGetR 7 19) (sq (opLdI 2) (sq opIald (sq opimul (sq (opLdI 3) (sq opiadd (sq opIald (sq opIast (sq (opInc 2 (1)) (sq (opLdA 0) (sq (opGetR 7 20) (sq (opLdI 2) (sq (opCi (-1)) opIast))))))))))))))))))))))))))) 77 := (snd_sq (snd_aload_n (k := 0) (by decide +kernel) rfl) (snd_sq (snd_getR (ci := 7) (k := 20) (by decide +kernel) rfl (by decide) (by decide) rfl iw_7 w826) (snd_sq (snd_iload_n (k := 2) (by decide +kernel) rfl) (snd_sq (snd_iload_n (k := 3) (by decide +kernel) rfl) (snd_sq (snd_iast (by decide +kernel)) (snd_sq (snd_aload_n (k := 0) (by decide +kernel) rfl) (snd_sq (snd_getR (ci := 7) (k := 19) (by decide +kernel) rfl (by decide) (by decide) rfl iw_7 w825) (snd_sq (snd_iload_n (k := 2) (by decide +kernel) rfl) (snd_sq (snd_iconst (k := 1) (by decide) (by decide +kernel)) (snd_sq (snd_iadd (by decide +kernel)) (snd_sq (snd_aload_n (k := 0) (by decide +kernel) rfl) (snd_sq (snd_getR (ci := 7) (k := 21) (by decide +kernel) rfl (by decide) (by decide) rfl iw_7 w827) (snd_sq (snd_iconst (k := 4) (by decide) (by decide +kernel)) (snd_sq (snd_aload_n (k := 0) (by decide +kernel) rfl) (snd_sq (snd_getR (ci := 7) (k := 19) (by decide +kernel) rfl (by decide) (by decide) rfl iw_7 w825) (snd_sq (snd_iload_n (k := 2) (by decide +kernel) rfl) (snd_sq (snd_iald (by decide +kernel)) (snd_sq (snd_imul (by decide +kernel)) (snd_sq (snd_iload_n (k := 3) (by decide +kernel) rfl) (snd_sq (snd_iadd (by decide +kernel)) (snd_sq (snd_iald (by decide +kernel)) (snd_sq (snd_iast (by decide +kernel)) (snd_sq (snd_iinc (k := 1) (by decide +kernel) (by decide) (by decide)) (snd_sq (snd_aload_n (k := 0) (by decide +kernel) rfl) (snd_sq (snd_getR (ci := 7) (k := 20) (by decide +kernel) rfl (by decide) (by decide) rfl iw_7 w826) (snd_sq (snd_iload_n (k := 2) (by decide +kernel) rfl) (snd_sq (snd_iconst (k := -1) (by decide) (by decide +kernel)) (snd_iast (by decide +kernel)))))))))))))))))))))))))))))
set_option maxRecDepth 20000 in
theorem s_X7_extend_77 : Snd mX7_extend 77 opNop 9 := (snd_goto (off := -68) (by decide +kernel) (by decide))
set_option maxRecDepth 20000 in
theorem s_X7_extend_80 : Snd mX7_extend 80 (sq (opLdI 2) (opLdI 1)) 82 := (snd_sq (snd_iload_n (k := 2) (by decide +kernel) rfl) (snd_iload_n (k := 1) (by decide +kernel) rfl))
set_option maxRecDepth 20000 in
theorem b_X7_extend_82 : Br_ic_ne mX7_extend 82 89 := br_ic_ne (off := 7) (by decide +kernel) (by decide)
set_option maxRecDepth 20000 in
theorem s_X7_extend_85 : Snd mX7_extend 85 (sq (opCi (1)) opNop) 90 := (snd_sq (snd_iconst (k := 1) (by decide) (by decide +kernel)) (snd_goto (off := 4) (by decide +kernel) (by decide)))
set_option maxRecDepth 20000 in
theorem s_X7_extend_89 : Snd mX7_extend 89 (opCi (0)) 90 := (snd_iconst (k := 0) (by decide) (by decide +kernel))
set_option maxRecDepth 20000 in
theorem r_X7_extend_90 : RtZ mX7_extend 90 := rt_Z (by decide +kernel) rfl
/-! ClaimChainsModel.findChain(I)Z -/
set_option maxRecDepth 20000 in
theorem s_X7_findChain_0 : Snd mX7_findChain 0 (sq (opCi (0)) (opStI 2)) 2 := (snd_sq (snd_iconst (k := 0) (by decide) (by decide +kernel)) (snd_istore_n (k := 2) (by decide +kernel) rfl (by decide)))
set_option maxRecDepth 20000 in
theorem s_X7_findChain_2 : Snd mX7_findChain 2 (sq (opLdI 2) (opCi (16))) 5 := (snd_sq (snd_iload_n (k := 2) (by decide +kernel) rfl) (snd_bipush (k := 16) (by decide) (by decide +kernel)))
set_option maxRecDepth 20000 in
theorem b_X7_findChain_5 : Br_ic_ge mX7_findChain 5 43 := br_ic_ge (off := 38) (by decide +kernel) (by decide)
set_option maxRecDepth 20000 in
theorem s_X7_findChain_8 : Snd mX7_findChain 8 (sq (opCi (0)) (opStI 3)) 10 := (snd_sq (snd_iconst (k := 0) (by decide) (by decide +kernel)) (snd_istore_n (k := 3) (by decide +kernel) rfl (by decide)))
set_option maxRecDepth 20000 in
theorem s_X7_findChain_10 : Snd mX7_findChain 10 (sq (opLdI 3) (opCi (4))) 12 := (snd_sq (snd_iload_n (k := 3) (by decide +kernel) rfl) (snd_iconst (k := 4) (by decide) (by decide +kernel)))
set_option maxRecDepth 20000 in
theorem b_X7_findChain_12 : Br_ic_ge mX7_findChain 12 37 := br_ic_ge (off := 25) (by decide +kernel) (by decide)
set_option maxRecDepth 20000 in
theorem s_X7_findChain_15 : Snd mX7_findChain 15 (sq (opLdA 0) (sq (opGetR 7 21) (sq (opCi (4)) (sq (opLdI 2) (sq opimul (sq (opLdI 3) (sq opiadd (sq (opLdA 0) (sq (opLdI 2) (opLdI 3)))))))))) 27 := (snd_sq (snd_aload_n (k := 0) (by decide +kernel) rfl) (snd_sq (snd_getR (ci := 7) (k := 21) (by decide +kernel) rfl (by decide) (by decide) rfl iw_7 w827) (snd_sq (snd_iconst (k := 4) (by decide) (by decide +kernel)) (snd_sq (snd_iload_n (k := 2) (by decide +kernel) rfl) (snd_sq (snd_imul (by decide +kernel)) (snd_sq (snd_iload_n (k := 3) (by decide +kernel) rfl) (snd_sq (snd_iadd (by decide +kernel)) (snd_sq (snd_aload_n (k := 0) (by decide +kernel) rfl) (snd_sq (snd_iload_n (k := 2) (by decide +kernel) rfl) (snd_iload_n (k := 3) (by decide +kernel) rfl))))))))))
set_option maxRecDepth 20000 in
theorem c_X7_findChain_27 : CallV mX7_findChain 27 mX7_stepOf 7 3 := kallV (site_V rfl w993 (by decide +kernel) w990 w992 w62 w97 ⟨by decide, by decide, by decide +kernel⟩) (by decide) (by decide) (by unfold clsNo; rfl)
set_option maxRecDepth 20000 in
theorem s_X7_findChain_30 : Snd mX7_findChain 30 (sq opIast (sq (opInc 3 (1)) opNop)) 10 := (snd_sq (snd_iast (by decide +kernel)) (snd_sq (snd_iinc (k := 1) (by decide +kernel) (by decide) (by decide)) (snd_goto (off := -24) (by decide +kernel) (by decide))))
set_option maxRecDepth 20000 in
theorem s_X7_findChain_37 : Snd mX7_findChain 37 (sq (opInc 2 (1)) opNop) 2 := (snd_sq (snd_iinc (k := 1) (by decide +kernel) (by decide) (by decide)) (snd_goto (off := -38) (by decide +kernel) (by decide)))
set_option maxRecDepth 20000 in
theorem s_X7_findChain_43 : Snd mX7_findChain 43 (sq (opLdA 0) (opLdA 0)) 45 := (snd_sq (snd_aload_n (k := 0) (by decide +kernel) rfl) (snd_aload_n (k := 0) (by decide +kernel) rfl))
set_option maxRecDepth 20000 in
theorem c_X7_findChain_45 : CallV mX7_findChain 45 mX7_goodSet 7 1 := kallV (site_V rfl w1081 (by decide +kernel) w1078 w1080 w75 w97 ⟨by decide, by decide, by decide +kernel⟩) (by decide) (by decide) (by unfold clsNo; rfl)
set_option maxRecDepth 20000 in
theorem s_X7_findChain_48 : Snd mX7_findChain 48 (sq (opPutI 7 22) (sq (opLdA 0) (opLdA 0))) 53 := (snd_sq (snd_putI (ci := 7) (k := 22) (by decide +kernel) rfl (by decide) (by decide) (by decide) iw_7 tyX7_ok nmX7 rfl (tyX7_ok 22 (by decide)) w828) (snd_sq (snd_aload_n (k := 0) (by decide +kernel) rfl) (snd_aload_n (k := 0) (by decide +kernel) rfl)))
set_option maxRecDepth 20000 in
theorem c_X7_findChain_53 : CallV mX7_findChain 53 mX7_lastSet 7 1 := kallV (site_V rfl w1089 (by decide +kernel) w1086 w1088 w77 w97 ⟨by decide, by decide, by decide +kernel⟩) (by decide) (by decide) (by unfold clsNo; rfl)
set_option maxRecDepth 20000 in
theorem s_X7_findChain_56 : Snd mX7_findChain 56 (sq (opPutI 7 23) (sq (opCi (0)) (opStI 2))) 61 := (snd_sq (snd_putI (ci := 7) (k := 23) (by decide +kernel) rfl (by decide) (by decide) (by decide) iw_7 tyX7_ok nmX7 rfl (tyX7_ok 23 (by decide)) w829) (snd_sq (snd_iconst (k := 0) (by decide) (by decide +kernel)) (snd_istore_n (k := 2) (by decide +kernel) rfl (by decide))))
set_option maxRecDepth 20000 in
theorem s_X7_findChain_61 : Snd mX7_findChain 61 (sq (opLdI 2) (opCi (16))) 64 := (snd_sq (snd_iload_n (k := 2) (by decide +kernel) rfl) (snd_bipush (k := 16) (by decide) (by decide +kernel)))
set_option maxRecDepth 20000 in
theorem b_X7_findChain_64 : Br_ic_ge mX7_findChain 64 113 := br_ic_ge (off := 49) (by decide +kernel) (by decide)
set_option maxRecDepth 20000 in
theorem s_X7_findChain_67 : Snd mX7_findChain 67 (sq (opLdA 0) (sq (opGetR 7 19) (sq (opCi (0)) (sq (opLdI 2) (sq opIast (opLdI 1)))))) 75 := (snd_sq (snd_aload_n (k := 0) (by decide +kernel) rfl) (snd_sq (snd_getR (ci := 7) (k := 19) (by decide +kernel) rfl (by decide) (by decide) rfl iw_7 w825) (snd_sq (snd_iconst (k := 0) (by decide) (by decide +kernel)) (snd_sq (snd_iload_n (k := 2) (by decide +kernel) rfl) (snd_sq (snd_iast (by decide +kernel)) (snd_iload_n (k := 1) (by decide +kernel) rfl))))))
set_option maxRecDepth 20000 in
theorem b_X7_findChain_75 : Br_if_ne mX7_findChain 75 85 := br_if_ne (off := 10) (by decide +kernel) (by decide)
set_option maxRecDepth 20000 in
theorem s_X7_findChain_78 : Snd mX7_findChain 78 (sq (opLdA 0) (sq (opGetI 7 23) opNop)) 89 := (snd_sq (snd_aload_n (k := 0) (by decide +kernel) rfl) (snd_sq (snd_getI (ci := 7) (k := 23) (by decide +kernel) rfl (by decide) (by decide) (by decide) iw_7 w829) (snd_goto (off := 7) (by decide +kernel) (by decide))))
set_option maxRecDepth 20000 in
theorem s_X7_findChain_85 : Snd mX7_findChain 85 (sq (opLdA 0) (opGetI 7 22)) 89 := (snd_sq (snd_aload_n (k := 0) (by decide +kernel) rfl) (snd_getI (ci := 7) (k := 22) (by decide +kernel) rfl (by decide) (by decide) (by decide) iw_7 w828))
set_option maxRecDepth 20000 in
theorem s_X7_findChain_89 : Snd mX7_findChain 89 (opLdI 2) 90 := (snd_iload_n (k := 2) (by decide +kernel) rfl)
set_option maxRecDepth 20000 in
theorem c_X7_findChain_90 : CallS mX7_findChain 90 mX7_isIn 2 := kallS (site_S w926 (by decide +kernel) w924 w925 w97 ⟨by decide, by decide, by decide +kernel⟩) (by decide)
set_option maxRecDepth 20000 in
theorem s_X7_findChain_93 : Snd mX7_findChain 93 (opCi (1)) 94 := (snd_iconst (k := 1) (by decide) (by decide +kernel))
set_option maxRecDepth 20000 in
theorem b_X7_findChain_94 : Br_ic_ne mX7_findChain 94 107 := br_ic_ne (off := 13) (by decide +kernel) (by decide)
set_option maxRecDepth 20000 in
theorem s_X7_findChain_97 : Snd mX7_findChain 97 (sq (opLdA 0) (opLdI 1)) 99 := (snd_sq (snd_aload_n (k := 0) (by decide +kernel) rfl) (snd_iload_n (k := 1) (by decide +kernel) rfl))
set_option maxRecDepth 20000 in
theorem c_X7_findChain_99 : CallV mX7_findChain 99 mX7_extend 7 2 := kallV (site_V rfl w1093 (by decide +kernel) w1090 w1092 w78 w97 ⟨by decide, by decide, by decide +kernel⟩) (by decide) (by decide) (by unfold clsNo; rfl)
set_option maxRecDepth 20000 in
theorem b_X7_findChain_102 : Br_if_eq mX7_findChain 102 107 := br_if_eq (off := 5) (by decide +kernel) (by decide)
set_option maxRecDepth 20000 in
theorem s_X7_findChain_105 : Snd mX7_findChain 105 (opCi (1)) 106 := (snd_iconst (k := 1) (by decide) (by decide +kernel))
set_option maxRecDepth 20000 in
theorem r_X7_findChain_106 : RtZ mX7_findChain 106 := rt_Z (by decide +kernel) rfl
set_option maxRecDepth 20000 in
theorem s_X7_findChain_107 : Snd mX7_findChain 107 (sq (opInc 2 (1)) opNop) 61 := (snd_sq (snd_iinc (k := 1) (by decide +kernel) (by decide) (by decide)) (snd_goto (off := -49) (by decide +kernel) (by decide)))
set_option maxRecDepth 20000 in
theorem s_X7_findChain_113 : Snd mX7_findChain 113 (opCi (0)) 114 := (snd_iconst (k := 0) (by decide) (by decide +kernel))
set_option maxRecDepth 20000 in
theorem r_X7_findChain_114 : RtZ mX7_findChain 114 := rt_Z (by decide +kernel) rfl
/-! ClaimChainsModel.shut(I)I -/
set_option maxRecDepth 20000 in
theorem s_X7_shut_0 : Snd mX7_shut 0 (sq (opLdI 1) (sq (opCi (0)) (opCi (8)))) 4 := (snd_sq (snd_iload_n (k := 1) (by decide +kernel) rfl) (snd_sq (snd_iconst (k := 0) (by decide) (by decide +kernel)) (snd_bipush (k := 8) (by decide) (by decide +kernel))))
set_option maxRecDepth 20000 in
theorem c_X7_shut_4 : CallS mX7_shut 4 mX7_within 3 := kallS (site_S w903 (by decide +kernel) w901 w902 w97 ⟨by decide, by decide, by decide +kernel⟩) (by decide)
set_option maxRecDepth 20000 in
theorem b_X7_shut_7 : Br_if_ne mX7_shut 7 13 := br_if_ne (off := 6) (by decide +kernel) (by decide)
set_option maxRecDepth 20000 in
theorem s_X7_shut_10 : Snd mX7_shut 10 (opCi (-2)) 12 := (snd_bipush (k := -2) (by decide) (by decide +kernel))
set_option maxRecDepth 20000 in
theorem r_X7_shut_12 : RtI mX7_shut 12 := rt_I (by decide +kernel) rfl
set_option maxRecDepth 20000 in
theorem s_X7_shut_13 : Snd mX7_shut 13 (sq (opLdA 0) (opLdI 1)) 15 := (snd_sq (snd_aload_n (k := 0) (by decide +kernel) rfl) (snd_iload_n (k := 1) (by decide +kernel) rfl))
set_option maxRecDepth 20000 in
theorem c_X7_shut_15 : CallV mX7_shut 15 mX7_findChain 7 2 := kallV (site_V rfl w1077 (by decide +kernel) w1074 w1076 w74 w97 ⟨by decide, by decide, by decide +kernel⟩) (by decide) (by decide) (by unfold clsNo; rfl)
set_option maxRecDepth 20000 in
theorem b_X7_shut_18 : Br_if_eq mX7_shut 18 25 := br_if_eq (off := 7) (by decide +kernel) (by decide)
set_option maxRecDepth 20000 in
theorem s_X7_shut_21 : Snd mX7_shut 21 (sq (opCi (0)) opNop) 26 := (snd_sq (snd_iconst (k := 0) (by decide) (by decide +kernel)) (snd_goto (off := 4) (by decide +kernel) (by decide)))
set_option maxRecDepth 20000 in
theorem s_X7_shut_25 : Snd mX7_shut 25 (opCi (1)) 26 := (snd_iconst (k := 1) (by decide) (by decide +kernel))
set_option maxRecDepth 20000 in
theorem r_X7_shut_26 : RtI mX7_shut 26 := rt_I (by decide +kernel) rfl
/-! ClaimChainsModel.settle(I)I -/
set_option maxRecDepth 20000 in
theorem s_X7_settle_0 : Snd mX7_settle 0 (sq (opLdI 1) (sq (opCi (0)) (opCi (8)))) 4 := (snd_sq (snd_iload_n (k := 1) (by decide +kernel) rfl) (snd_sq (snd_iconst (k := 0) (by decide) (by decide +kernel)) (snd_bipush (k := 8) (by decide) (by decide +kernel))))
set_option maxRecDepth 20000 in
theorem c_X7_settle_4 : CallS mX7_settle 4 mX7_within 3 := kallS (site_S w903 (by decide +kernel) w901 w902 w97 ⟨by decide, by decide, by decide +kernel⟩) (by decide)
set_option maxRecDepth 20000 in
theorem b_X7_settle_7 : Br_if_ne mX7_settle 7 13 := br_if_ne (off := 6) (by decide +kernel) (by decide)
set_option maxRecDepth 20000 in
theorem s_X7_settle_10 : Snd mX7_settle 10 (opCi (-2)) 12 := (snd_bipush (k := -2) (by decide) (by decide +kernel))
set_option maxRecDepth 20000 in
theorem r_X7_settle_12 : RtI mX7_settle 12 := rt_I (by decide +kernel) rfl
set_option maxRecDepth 20000 in
theorem s_X7_settle_13 : Snd mX7_settle 13 (sq (opCi (0)) (opStI 2)) 15 := (snd_sq (snd_iconst (k := 0) (by decide) (by decide +kernel)) (snd_istore_n (k := 2) (by decide +kernel) rfl (by decide)))
set_option maxRecDepth 20000 in
theorem s_X7_settle_15 : Snd mX7_settle 15 (sq (opLdI 2) (opLdI 1)) 17 := (snd_sq (snd_iload_n (k := 2) (by decide +kernel) rfl) (snd_iload_n (k := 1) (by decide +kernel) rfl))
set_option maxRecDepth 20000 in
theorem b_X7_settle_17 : Br_ic_gt mX7_settle 17 52 := br_ic_gt (off := 35) (by decide +kernel) (by decide)
set_option maxRecDepth 20000 in
theorem s_X7_settle_20 : Snd mX7_settle 20 (sq (opLdA 0) (opLdI 2)) 22 := (snd_sq (snd_aload_n (k := 0) (by decide +kernel) rfl) (snd_iload_n (k := 2) (by decide +kernel) rfl))
set_option maxRecDepth 20000 in
theorem c_X7_settle_22 : CallV mX7_settle 22 mX7_isClear 7 2 := kallV (site_V rfl w1069 (by decide +kernel) w1066 w1068 w73 w97 ⟨by decide, by decide, by decide +kernel⟩) (by decide) (by decide) (by unfold clsNo; rfl)
set_option maxRecDepth 20000 in
theorem b_X7_settle_25 : Br_if_ne mX7_settle 25 36 := br_if_ne (off := 11) (by decide +kernel) (by decide)
set_option maxRecDepth 20000 in
theorem s_X7_settle_28 : Snd mX7_settle 28 (sq (opCi (100)) (opLdA 0)) 31 := (snd_sq (snd_bipush (k := 100) (by decide) (by decide +kernel)) (snd_aload_n (k := 0) (by decide +kernel) rfl))
set_option maxRecDepth 20000 in
theorem c_X7_settle_31 : CallV mX7_settle 31 mX7_wayLong 7 1 := kallV (site_V rfl w1033 (by decide +kernel) w1030 w1032 w68 w97 ⟨by decide, by decide, by decide +kernel⟩) (by decide) (by decide) (by unfold clsNo; rfl)
set_option maxRecDepth 20000 in
theorem s_X7_settle_34 : Snd mX7_settle 34 opiadd 35 := (snd_iadd (by decide +kernel))
set_option maxRecDepth 20000 in
theorem r_X7_settle_35 : RtI mX7_settle 35 := rt_I (by decide +kernel) rfl
set_option maxRecDepth 20000 in
theorem s_X7_settle_36 : Snd mX7_settle 36 (sq (opLdA 0) (opLdI 2)) 38 := (snd_sq (snd_aload_n (k := 0) (by decide +kernel) rfl) (snd_iload_n (k := 2) (by decide +kernel) rfl))
set_option maxRecDepth 20000 in
theorem c_X7_settle_38 : CallV mX7_settle 38 mX7_findChain 7 2 := kallV (site_V rfl w1077 (by decide +kernel) w1074 w1076 w74 w97 ⟨by decide, by decide, by decide +kernel⟩) (by decide) (by decide) (by unfold clsNo; rfl)
set_option maxRecDepth 20000 in
theorem b_X7_settle_41 : Br_if_ne mX7_settle 41 46 := br_if_ne (off := 5) (by decide +kernel) (by decide)
set_option maxRecDepth 20000 in
theorem s_X7_settle_44 : Snd mX7_settle 44 (opLdI 2) 45 := (snd_iload_n (k := 2) (by decide +kernel) rfl)
set_option maxRecDepth 20000 in
theorem r_X7_settle_45 : RtI mX7_settle 45 := rt_I (by decide +kernel) rfl
set_option maxRecDepth 20000 in
theorem s_X7_settle_46 : Snd mX7_settle 46 (sq (opInc 2 (1)) opNop) 15 := (snd_sq (snd_iinc (k := 1) (by decide +kernel) (by decide) (by decide)) (snd_goto (off := -34) (by decide +kernel) (by decide)))
set_option maxRecDepth 20000 in
theorem s_X7_settle_52 : Snd mX7_settle 52 (opCi (-9)) 54 := (snd_bipush (k := -9) (by decide) (by decide +kernel))
set_option maxRecDepth 20000 in
theorem r_X7_settle_54 : RtI mX7_settle 54 := rt_I (by decide +kernel) rfl
/-! ClaimChainsModel.chain(III)I -/
set_option maxRecDepth 20000 in
theorem s_X7_chain_0 : Snd mX7_chain 0 (sq (opLdI 1) (sq (opCi (0)) (opCi (8)))) 4 := (snd_sq (snd_iload_n (k := 1) (by decide +kernel) rfl) (snd_sq (snd_iconst (k := 0) (by decide) (by decide +kernel)) (snd_bipush (k := 8) (by decide) (by decide +kernel))))
set_option maxRecDepth 20000 in
theorem c_X7_chain_4 : CallS mX7_chain 4 mX7_within 3 := kallS (site_S w903 (by decide +kernel) w901 w902 w97 ⟨by decide, by decide, by decide +kernel⟩) (by decide)
set_option maxRecDepth 20000 in
theorem b_X7_chain_7 : Br_if_eq mX7_chain 7 29 := br_if_eq (off := 22) (by decide +kernel) (by decide)
set_option maxRecDepth 20000 in
theorem s_X7_chain_10 : Snd mX7_chain 10 (sq (opLdI 2) (sq (opCi (0)) (opCi (8)))) 14 := (snd_sq (snd_iload_n (k := 2) (by decide +kernel) rfl) (snd_sq (snd_iconst (k := 0) (by decide) (by decide +kernel)) (snd_bipush (k := 8) (by decide) (by decide +kernel))))
set_option maxRecDepth 20000 in
theorem c_X7_chain_14 : CallS mX7_chain 14 mX7_within 3 := kallS (site_S w903 (by decide +kernel) w901 w902 w97 ⟨by decide, by decide, by decide +kernel⟩) (by decide)
set_option maxRecDepth 20000 in
theorem b_X7_chain_17 : Br_if_eq mX7_chain 17 29 := br_if_eq (off := 12) (by decide +kernel) (by decide)
set_option maxRecDepth 20000 in
theorem s_X7_chain_20 : Snd mX7_chain 20 (sq (opLdI 3) (sq (opCi (0)) (opCi (1)))) 23 := (snd_sq (snd_iload_n (k := 3) (by decide +kernel) rfl) (snd_sq (snd_iconst (k := 0) (by decide) (by decide +kernel)) (snd_iconst (k := 1) (by decide) (by decide +kernel))))
set_option maxRecDepth 20000 in
theorem c_X7_chain_23 : CallS mX7_chain 23 mX7_within 3 := kallS (site_S w903 (by decide +kernel) w901 w902 w97 ⟨by decide, by decide, by decide +kernel⟩) (by decide)
set_option maxRecDepth 20000 in
theorem b_X7_chain_26 : Br_if_ne mX7_chain 26 32 := br_if_ne (off := 6) (by decide +kernel) (by decide)
set_option maxRecDepth 20000 in
theorem s_X7_chain_29 : Snd mX7_chain 29 (opCi (-2)) 31 := (snd_bipush (k := -2) (by decide) (by decide +kernel))
set_option maxRecDepth 20000 in
theorem r_X7_chain_31 : RtI mX7_chain 31 := rt_I (by decide +kernel) rfl
set_option maxRecDepth 20000 in
theorem s_X7_chain_32 : Snd mX7_chain 32 (sq (opLdA 0) (opLdI 1)) 34 := (snd_sq (snd_aload_n (k := 0) (by decide +kernel) rfl) (snd_iload_n (k := 1) (by decide +kernel) rfl))
set_option maxRecDepth 20000 in
theorem c_X7_chain_34 : CallV mX7_chain 34 mX7_findChain 7 2 := kallV (site_V rfl w1077 (by decide +kernel) w1074 w1076 w74 w97 ⟨by decide, by decide, by decide +kernel⟩) (by decide) (by decide) (by unfold clsNo; rfl)
set_option maxRecDepth 20000 in
theorem b_X7_chain_37 : Br_if_eq mX7_chain 37 55 := br_if_eq (off := 18) (by decide +kernel) (by decide)
set_option maxRecDepth 20000 in
theorem s_X7_chain_40 : Snd mX7_chain 40 (sq (opLdI 2) (opLdI 1)) 42 := (snd_sq (snd_iload_n (k := 2) (by decide +kernel) rfl) (snd_iload_n (k := 1) (by decide +kernel) rfl))
set_option maxRecDepth 20000 in
theorem b_X7_chain_42 : Br_ic_gt mX7_chain 42 55 := br_ic_gt (off := 13) (by decide +kernel) (by decide)
set_option maxRecDepth 20000 in
theorem s_X7_chain_45 : Snd mX7_chain 45 (sq (opLdI 3) (opCi (1))) 47 := (snd_sq (snd_iload_n (k := 3) (by decide +kernel) rfl) (snd_iconst (k := 1) (by decide) (by decide +kernel)))
set_option maxRecDepth 20000 in
theorem b_X7_chain_47 : Br_ic_ne mX7_chain 47 58 := br_ic_ne (off := 11) (by decide +kernel) (by decide)
set_option maxRecDepth 20000 in
theorem s_X7_chain_50 : Snd mX7_chain 50 (sq (opLdI 2) (opLdI 1)) 52 := (snd_sq (snd_iload_n (k := 2) (by decide +kernel) rfl) (snd_iload_n (k := 1) (by decide +kernel) rfl))
set_option maxRecDepth 20000 in
theorem b_X7_chain_52 : Br_ic_ne mX7_chain 52 58 := br_ic_ne (off := 6) (by decide +kernel) (by decide)
set_option maxRecDepth 20000 in
theorem s_X7_chain_55 : Snd mX7_chain 55 (opCi (-9)) 57 := (snd_bipush (k := -9) (by decide) (by decide +kernel))
set_option maxRecDepth 20000 in
theorem r_X7_chain_57 : RtI mX7_chain 57 := rt_I (by decide +kernel) rfl
set_option maxRecDepth 20000 in
theorem s_X7_chain_58 : Snd mX7_chain 58 (opLdI 3) 59 := (snd_iload_n (k := 3) (by decide +kernel) rfl)
set_option maxRecDepth 20000 in
theorem b_X7_chain_59 : Br_if_ne mX7_chain 59 71 := br_if_ne (off := 12) (by decide +kernel) (by decide)
set_option maxRecDepth 20000 in
theorem s_X7_chain_62 : Snd mX7_chain 62 (sq (opLdA 0) (sq (opGetR 7 19) (sq (opLdI 2) (sq opIald opNop)))) 77 := (snd_sq (snd_aload_n (k := 0) (by decide +kernel) rfl) (snd_sq (snd_getR (ci := 7) (k := 19) (by decide +kernel) rfl (by decide) (by decide) rfl iw_7 w825) (snd_sq (snd_iload_n (k := 2) (by decide +kernel) rfl) (snd_sq (snd_iald (by decide +kernel)) (snd_goto (off := 9) (by decide +kernel) (by decide))))))
set_option maxRecDepth 20000 in
theorem s_X7_chain_71 : Snd mX7_chain 71 (sq (opLdA 0) (sq (opGetR 7 20) (sq (opLdI 2) opIald))) 77 := (snd_sq (snd_aload_n (k := 0) (by decide +kernel) rfl) (snd_sq (snd_getR (ci := 7) (k := 20) (by decide +kernel) rfl (by decide) (by decide) rfl iw_7 w826) (snd_sq (snd_iload_n (k := 2) (by decide +kernel) rfl) (snd_iald (by decide +kernel)))))
set_option maxRecDepth 20000 in
theorem r_X7_chain_77 : RtI mX7_chain 77 := rt_I (by decide +kernel) rfl
/-! ClaimChainsModel.weakSet()I -/
set_option maxRecDepth 20000 in
theorem s_X7_weakSet_0 : Snd mX7_weakSet 0 (sq (opCi (0)) (sq (opStI 1) (sq (opCi (0)) (opStI 2)))) 4 := (snd_sq (snd_iconst (k := 0) (by decide) (by decide +kernel)) (snd_sq (snd_istore_n (k := 1) (by decide +kernel) rfl (by decide)) (snd_sq (snd_iconst (k := 0) (by decide) (by decide +kernel)) (snd_istore_n (k := 2) (by decide +kernel) rfl (by decide)))))
set_option maxRecDepth 20000 in
theorem s_X7_weakSet_4 : Snd mX7_weakSet 4 (sq (opLdI 2) (opCi (16))) 7 := (snd_sq (snd_iload_n (k := 2) (by decide +kernel) rfl) (snd_bipush (k := 16) (by decide) (by decide +kernel)))
set_option maxRecDepth 20000 in
theorem b_X7_weakSet_7 : Br_ic_ge mX7_weakSet 7 80 := br_ic_ge (off := 73) (by decide +kernel) (by decide)
set_option maxRecDepth 20000 in
theorem s_X7_weakSet_10 : Snd mX7_weakSet 10 (sq (opCi (0)) (opStI 3)) 12 := (snd_sq (snd_iconst (k := 0) (by decide) (by decide +kernel)) (snd_istore_n (k := 3) (by decide +kernel) rfl (by decide)))
set_option maxRecDepth 20000 in
theorem s_X7_weakSet_12 : Snd mX7_weakSet 12 (sq (opLdI 3) (opCi (4))) 14 := (snd_sq (snd_iload_n (k := 3) (by decide +kernel) rfl) (snd_iconst (k := 4) (by decide) (by decide +kernel)))
set_option maxRecDepth 20000 in
theorem b_X7_weakSet_14 : Br_ic_ge mX7_weakSet 14 74 := br_ic_ge (off := 60) (by decide +kernel) (by decide)
set_option maxRecDepth 20000 in
theorem s_X7_weakSet_17 : Snd mX7_weakSet 17 (opLdA 0) 18 := (snd_aload_n (k := 0) (by decide +kernel) rfl)
set_option maxRecDepth 20000 in
theorem c_X7_weakSet_18 : CallV mX7_weakSet 18 mX7_goodSet 7 1 := kallV (site_V rfl w1081 (by decide +kernel) w1078 w1080 w75 w97 ⟨by decide, by decide, by decide +kernel⟩) (by decide) (by decide) (by unfold clsNo; rfl)
set_option maxRecDepth 20000 in
theorem s_X7_weakSet_21 : Snd mX7_weakSet 21 (opLdI 2) 22 := (snd_iload_n (k := 2) (by decide +kernel) rfl)
set_option maxRecDepth 20000 in
theorem c_X7_weakSet_22 : CallS mX7_weakSet 22 mX7_isIn 2 := kallS (site_S w926 (by decide +kernel) w924 w925 w97 ⟨by decide, by decide, by decide +kernel⟩) (by decide)
set_option maxRecDepth 20000 in
theorem s_X7_weakSet_25 : Snd mX7_weakSet 25 (opCi (1)) 26 := (snd_iconst (k := 1) (by decide) (by decide +kernel))
set_option maxRecDepth 20000 in
theorem b_X7_weakSet_26 : Br_ic_ne mX7_weakSet 26 50 := br_ic_ne (off := 24) (by decide +kernel) (by decide)
set_option maxRecDepth 20000 in
theorem s_X7_weakSet_29 : Snd mX7_weakSet 29 (opLdA 0) 30 := (snd_aload_n (k := 0) (by decide +kernel) rfl)
set_option maxRecDepth 20000 in
theorem c_X7_weakSet_30 : CallV mX7_weakSet 30 mX7_lastSet 7 1 := kallV (site_V rfl w1089 (by decide +kernel) w1086 w1088 w77 w97 ⟨by decide, by decide, by decide +kernel⟩) (by decide) (by decide) (by unfold clsNo; rfl)
set_option maxRecDepth 20000 in
theorem s_X7_weakSet_33 : Snd mX7_weakSet 33 (sq (opLdA 0) (sq (opLdI 2) (opLdI 3))) 36 := (snd_sq (snd_aload_n (k := 0) (by decide +kernel) rfl) (snd_sq (snd_iload_n (k := 2) (by decide +kernel) rfl) (snd_iload_n (k := 3) (by decide +kernel) rfl)))
set_option maxRecDepth 20000 in
theorem c_X7_weakSet_36 : CallV mX7_weakSet 36 mX7_stepOf 7 3 := kallV (site_V rfl w993 (by decide +kernel) w990 w992 w62 w97 ⟨by decide, by decide, by decide +kernel⟩) (by decide) (by decide) (by unfold clsNo; rfl)
set_option maxRecDepth 20000 in
theorem c_X7_weakSet_39 : CallS mX7_weakSet 39 mX7_isIn 2 := kallS (site_S w926 (by decide +kernel) w924 w925 w97 ⟨by decide, by decide, by decide +kernel⟩) (by decide)
set_option maxRecDepth 20000 in
theorem s_X7_weakSet_42 : Snd mX7_weakSet 42 (opCi (1)) 43 := (snd_iconst (k := 1) (by decide) (by decide +kernel))
set_option maxRecDepth 20000 in
theorem b_X7_weakSet_43 : Br_ic_ne mX7_weakSet 43 50 := br_ic_ne (off := 7) (by decide +kernel) (by decide)
set_option maxRecDepth 20000 in
theorem s_X7_weakSet_46 : Snd mX7_weakSet 46 (sq (opCi (1)) opNop) 51 := (snd_sq (snd_iconst (k := 1) (by decide) (by decide +kernel)) (snd_goto (off := 4) (by decide +kernel) (by decide)))
set_option maxRecDepth 20000 in
theorem s_X7_weakSet_50 : Snd mX7_weakSet 50 (opCi (0)) 51 := (snd_iconst (k := 0) (by decide) (by decide +kernel))
set_option maxRecDepth 20000 in
theorem s_X7_weakSet_51 : Snd mX7_weakSet 51 (sq (opStI 4) (sq (opLdI 1) (opLdI 4))) 56 := (snd_sq (snd_istore (by decide +kernel) (by decide)) (snd_sq (snd_iload_n (k := 1) (by decide +kernel) rfl) (snd_iload (by decide +kernel))))
set_option maxRecDepth 20000 in
theorem b_X7_weakSet_56 : Br_if_eq mX7_weakSet 56 65 := br_if_eq (off := 9) (by decide +kernel) (by decide)
set_option maxRecDepth 20000 in
theorem s_X7_weakSet_59 : Snd mX7_weakSet 59 (sq (opCi (1)) (sq (opLdI 2) (sq opishl opNop))) 66 := (snd_sq (snd_iconst (k := 1) (by decide) (by decide +kernel)) (snd_sq (snd_iload_n (k := 2) (by decide +kernel) rfl) (snd_sq (snd_ishl (by decide +kernel)) (snd_goto (off := 4) (by decide +kernel) (by decide)))))
set_option maxRecDepth 20000 in
theorem s_X7_weakSet_65 : Snd mX7_weakSet 65 (opCi (0)) 66 := (snd_iconst (k := 0) (by decide) (by decide +kernel))
set_option maxRecDepth 20000 in
theorem s_X7_weakSet_66 : Snd mX7_weakSet 66 (sq opior (sq (opStI 1) (sq (opInc 3 (1)) opNop))) 12 := (snd_sq (snd_ior (by decide +kernel)) (snd_sq (snd_istore_n (k := 1) (by decide +kernel) rfl (by decide)) (snd_sq (snd_iinc (k := 1) (by decide +kernel) (by decide) (by decide)) (snd_goto (off := -59) (by decide +kernel) (by decide)))))
set_option maxRecDepth 20000 in
theorem s_X7_weakSet_74 : Snd mX7_weakSet 74 (sq (opInc 2 (1)) opNop) 4 := (snd_sq (snd_iinc (k := 1) (by decide +kernel) (by decide) (by decide)) (snd_goto (off := -73) (by decide +kernel) (by decide)))
set_option maxRecDepth 20000 in
theorem s_X7_weakSet_80 : Snd mX7_weakSet 80 (opLdI 1) 81 := (snd_iload_n (k := 1) (by decide +kernel) rfl)
set_option maxRecDepth 20000 in
theorem r_X7_weakSet_81 : RtI mX7_weakSet 81 := rt_I (by decide +kernel) rfl
/-! ClaimChainsModel.weak(I)I -/
set_option maxRecDepth 20000 in
theorem s_X7_weak_0 : Snd mX7_weak 0 (sq (opLdI 1) (sq (opCi (0)) (opCi (1)))) 3 := (snd_sq (snd_iload_n (k := 1) (by decide +kernel) rfl) (snd_sq (snd_iconst (k := 0) (by decide) (by decide +kernel)) (snd_iconst (k := 1) (by decide) (by decide +kernel))))
set_option maxRecDepth 20000 in
theorem c_X7_weak_3 : CallS mX7_weak 3 mX7_within 3 := kallS (site_S w903 (by decide +kernel) w901 w902 w97 ⟨by decide, by decide, by decide +kernel⟩) (by decide)
set_option maxRecDepth 20000 in
theorem b_X7_weak_6 : Br_if_ne mX7_weak 6 12 := br_if_ne (off := 6) (by decide +kernel) (by decide)
set_option maxRecDepth 20000 in
theorem s_X7_weak_9 : Snd mX7_weak 9 (opCi (-2)) 11 := (snd_bipush (k := -2) (by decide) (by decide +kernel))
set_option maxRecDepth 20000 in
theorem r_X7_weak_11 : RtI mX7_weak 11 := rt_I (by decide +kernel) rfl
set_option maxRecDepth 20000 in
theorem s_X7_weak_12 : Snd mX7_weak 12 (opLdI 1) 13 := (snd_iload_n (k := 1) (by decide +kernel) rfl)
set_option maxRecDepth 20000 in
theorem b_X7_weak_13 : Br_if_ne mX7_weak 13 23 := br_if_ne (off := 10) (by decide +kernel) (by decide)
set_option maxRecDepth 20000 in
theorem s_X7_weak_16 : Snd mX7_weak 16 (opLdA 0) 17 := (snd_aload_n (k := 0) (by decide +kernel) rfl)
set_option maxRecDepth 20000 in
theorem c_X7_weak_17 : CallV mX7_weak 17 mX7_weakSet 7 1 := kallV (site_V rfl w1117 (by decide +kernel) w1114 w1116 w81 w97 ⟨by decide, by decide, by decide +kernel⟩) (by decide) (by decide) (by unfold clsNo; rfl)
set_option maxRecDepth 20000 in
theorem s_X7_weak_20 : Snd mX7_weak 20 opNop 27 := (snd_goto (off := 7) (by decide +kernel) (by decide))
set_option maxRecDepth 20000 in
theorem s_X7_weak_23 : Snd mX7_weak 23 (opLdA 0) 24 := (snd_aload_n (k := 0) (by decide +kernel) rfl)
set_option maxRecDepth 20000 in
theorem c_X7_weak_24 : CallV mX7_weak 24 mX7_goodSet 7 1 := kallV (site_V rfl w1081 (by decide +kernel) w1078 w1080 w75 w97 ⟨by decide, by decide, by decide +kernel⟩) (by decide) (by decide) (by unfold clsNo; rfl)
set_option maxRecDepth 20000 in
theorem r_X7_weak_27 : RtI mX7_weak 27 := rt_I (by decide +kernel) rfl
/-! ClaimChainsModel.isFit(I)Z -/
set_option maxRecDepth 20000 in
theorem s_X7_isFit_0 : Snd mX7_isFit 0 (opLdA 0) 1 := (snd_aload_n (k := 0) (by decide +kernel) rfl)
set_option maxRecDepth 20000 in
theorem c_X7_isFit_1 : CallV mX7_isFit 1 mX7_startSet 7 1 := kallV (site_V rfl w1013 (by decide +kernel) w1010 w1012 w65 w97 ⟨by decide, by decide, by decide +kernel⟩) (by decide) (by decide) (by unfold clsNo; rfl)
set_option maxRecDepth 20000 in
theorem s_X7_isFit_4 : Snd mX7_isFit 4 (sq (opLdI 1) (sq (opCi (-1)) (sq opixor opiand))) 8 := (snd_sq (snd_iload_n (k := 1) (by decide +kernel) rfl) (snd_sq (snd_iconst (k := -1) (by decide) (by decide +kernel)) (snd_sq (snd_ixor (by decide +kernel)) (snd_iand (by decide +kernel)))))
set_option maxRecDepth 20000 in
theorem b_X7_isFit_8 : Br_if_ne mX7_isFit 8 15 := br_if_ne (off := 7) (by decide +kernel) (by decide)
set_option maxRecDepth 20000 in
theorem s_X7_isFit_11 : Snd mX7_isFit 11 (sq (opCi (1)) opNop) 16 := (snd_sq (snd_iconst (k := 1) (by decide) (by decide +kernel)) (snd_goto (off := 4) (by decide +kernel) (by decide)))
set_option maxRecDepth 20000 in
theorem s_X7_isFit_15 : Snd mX7_isFit 15 (opCi (0)) 16 := (snd_iconst (k := 0) (by decide) (by decide +kernel))
set_option maxRecDepth 20000 in
theorem s_X7_isFit_16 : Snd mX7_isFit 16 (sq (opStI 2) (sq (opCi (0)) (opStI 3))) 19 := (snd_sq (snd_istore_n (k := 2) (by decide +kernel) rfl (by decide)) (snd_sq (snd_iconst (k := 0) (by decide) (by decide +kernel)) (snd_istore_n (k := 3) (by decide +kernel) rfl (by decide))))
set_option maxRecDepth 20000 in
theorem s_X7_isFit_19 : Snd mX7_isFit 19 (sq (opLdI 3) (opCi (16))) 22 := (snd_sq (snd_iload_n (k := 3) (by decide +kernel) rfl) (snd_bipush (k := 16) (by decide) (by decide +kernel)))
set_option maxRecDepth 20000 in
theorem b_X7_isFit_22 : Br_ic_ge mX7_isFit 22 89 := br_ic_ge (off := 67) (by decide +kernel) (by decide)
set_option maxRecDepth 20000 in
theorem s_X7_isFit_25 : Snd mX7_isFit 25 (opLdI 2) 26 := (snd_iload_n (k := 2) (by decide +kernel) rfl)
set_option maxRecDepth 20000 in
theorem b_X7_isFit_26 : Br_if_eq mX7_isFit 26 89 := br_if_eq (off := 63) (by decide +kernel) (by decide)
set_option maxRecDepth 20000 in
theorem s_X7_isFit_29 : Snd mX7_isFit 29 (sq (opCi (0)) (opStI 4)) 32 := (snd_sq (snd_iconst (k := 0) (by decide) (by decide +kernel)) (snd_istore (by decide +kernel) (by decide)))
set_option maxRecDepth 20000 in
theorem s_X7_isFit_32 : Snd mX7_isFit 32 (sq (opLdI 4) (opCi (4))) 35 := (snd_sq (snd_iload (by decide +kernel)) (snd_iconst (k := 4) (by decide) (by decide +kernel)))
set_option maxRecDepth 20000 in
theorem b_X7_isFit_35 : Br_ic_ge mX7_isFit 35 83 := br_ic_ge (off := 48) (by decide +kernel) (by decide)
set_option maxRecDepth 20000 in
theorem s_X7_isFit_38 : Snd mX7_isFit 38 (opLdA 0) 39 := (snd_aload_n (k := 0) (by decide +kernel) rfl)
set_option maxRecDepth 20000 in
theorem c_X7_isFit_39 : CallV mX7_isFit 39 mX7_goodSet 7 1 := kallV (site_V rfl w1081 (by decide +kernel) w1078 w1080 w75 w97 ⟨by decide, by decide, by decide +kernel⟩) (by decide) (by decide) (by unfold clsNo; rfl)
set_option maxRecDepth 20000 in
theorem s_X7_isFit_42 : Snd mX7_isFit 42 (sq (opLdI 1) (sq opiand (opLdI 3))) 45 := (snd_sq (snd_iload_n (k := 1) (by decide +kernel) rfl) (snd_sq (snd_iand (by decide +kernel)) (snd_iload_n (k := 3) (by decide +kernel) rfl)))
set_option maxRecDepth 20000 in
theorem c_X7_isFit_45 : CallS mX7_isFit 45 mX7_isIn 2 := kallS (site_S w926 (by decide +kernel) w924 w925 w97 ⟨by decide, by decide, by decide +kernel⟩) (by decide)
set_option maxRecDepth 20000 in
theorem s_X7_isFit_48 : Snd mX7_isFit 48 (opCi (1)) 49 := (snd_iconst (k := 1) (by decide) (by decide +kernel))
set_option maxRecDepth 20000 in
theorem b_X7_isFit_49 : Br_ic_ne mX7_isFit 49 83 := br_ic_ne (off := 34) (by decide +kernel) (by decide)
set_option maxRecDepth 20000 in
theorem s_X7_isFit_52 : Snd mX7_isFit 52 (opLdI 2) 53 := (snd_iload_n (k := 2) (by decide +kernel) rfl)
set_option maxRecDepth 20000 in
theorem b_X7_isFit_53 : Br_if_eq mX7_isFit 53 75 := br_if_eq (off := 22) (by decide +kernel) (by decide)
set_option maxRecDepth 20000 in
theorem s_X7_isFit_56 : Snd mX7_isFit 56 (sq (opLdI 1) (sq (opLdA 0) (sq (opLdI 3) (opLdI 4)))) 61 := (snd_sq (snd_iload_n (k := 1) (by decide +kernel) rfl) (snd_sq (snd_aload_n (k := 0) (by decide +kernel) rfl) (snd_sq (snd_iload_n (k := 3) (by decide +kernel) rfl) (snd_iload (by decide +kernel)))))
set_option maxRecDepth 20000 in
theorem c_X7_isFit_61 : CallV mX7_isFit 61 mX7_stepOf 7 3 := kallV (site_V rfl w993 (by decide +kernel) w990 w992 w62 w97 ⟨by decide, by decide, by decide +kernel⟩) (by decide) (by decide) (by unfold clsNo; rfl)
set_option maxRecDepth 20000 in
theorem c_X7_isFit_64 : CallS mX7_isFit 64 mX7_isIn 2 := kallS (site_S w926 (by decide +kernel) w924 w925 w97 ⟨by decide, by decide, by decide +kernel⟩) (by decide)
set_option maxRecDepth 20000 in
theorem s_X7_isFit_67 : Snd mX7_isFit 67 (opCi (1)) 68 := (snd_iconst (k := 1) (by decide) (by decide +kernel))
set_option maxRecDepth 20000 in
theorem b_X7_isFit_68 : Br_ic_ne mX7_isFit 68 75 := br_ic_ne (off := 7) (by decide +kernel) (by decide)
set_option maxRecDepth 20000 in
theorem s_X7_isFit_71 : Snd mX7_isFit 71 (sq (opCi (1)) opNop) 76 := (snd_sq (snd_iconst (k := 1) (by decide) (by decide +kernel)) (snd_goto (off := 4) (by decide +kernel) (by decide)))
set_option maxRecDepth 20000 in
theorem s_X7_isFit_75 : Snd mX7_isFit 75 (opCi (0)) 76 := (snd_iconst (k := 0) (by decide) (by decide +kernel))
set_option maxRecDepth 20000 in
theorem s_X7_isFit_76 : Snd mX7_isFit 76 (sq (opStI 2) (sq (opInc 4 (1)) opNop)) 32 := (snd_sq (snd_istore_n (k := 2) (by decide +kernel) rfl (by decide)) (snd_sq (snd_iinc (k := 1) (by decide +kernel) (by decide) (by decide)) (snd_goto (off := -48) (by decide +kernel) (by decide))))
set_option maxRecDepth 20000 in
theorem s_X7_isFit_83 : Snd mX7_isFit 83 (sq (opInc 3 (1)) opNop) 19 := (snd_sq (snd_iinc (k := 1) (by decide +kernel) (by decide) (by decide)) (snd_goto (off := -67) (by decide +kernel) (by decide)))
set_option maxRecDepth 20000 in
theorem s_X7_isFit_89 : Snd mX7_isFit 89 (opLdI 2) 90 := (snd_iload_n (k := 2) (by decide +kernel) rfl)
set_option maxRecDepth 20000 in
theorem r_X7_isFit_90 : RtZ mX7_isFit 90 := rt_Z (by decide +kernel) rfl
/-! ClaimChainsModel.outside(II)I -/
set_option maxRecDepth 20000 in
theorem s_X7_outside_0 : Snd mX7_outside 0 (sq (opCi (0)) (sq (opStI 2) (sq (opCi (0)) (opStI 3)))) 4 := (snd_sq (snd_iconst (k := 0) (by decide) (by decide +kernel)) (snd_sq (snd_istore_n (k := 2) (by decide +kernel) rfl (by decide)) (snd_sq (snd_iconst (k := 0) (by decide) (by decide +kernel)) (snd_istore_n (k := 3) (by decide +kernel) rfl (by decide)))))
set_option maxRecDepth 20000 in
theorem s_X7_outside_4 : Snd mX7_outside 4 (sq (opLdI 3) (opCi (16))) 7 := (snd_sq (snd_iload_n (k := 3) (by decide +kernel) rfl) (snd_bipush (k := 16) (by decide) (by decide +kernel)))
set_option maxRecDepth 20000 in
theorem b_X7_outside_7 : Br_ic_ge mX7_outside 7 33 := br_ic_ge (off := 26) (by decide +kernel) (by decide)
set_option maxRecDepth 20000 in
theorem s_X7_outside_10 : Snd mX7_outside 10 (sq (opLdI 2) (sq (opLdI 3) (sq (opLdI 0) (sq opiand (opLdI 1))))) 15 := (snd_sq (snd_iload_n (k := 2) (by decide +kernel) rfl) (snd_sq (snd_iload_n (k := 3) (by decide +kernel) rfl) (snd_sq (snd_iload_n (k := 0) (by decide +kernel) rfl) (snd_sq (snd_iand (by decide +kernel)) (snd_iload_n (k := 1) (by decide +kernel) rfl)))))
set_option maxRecDepth 20000 in
theorem b_X7_outside_15 : Br_ic_eq mX7_outside 15 24 := br_ic_eq (off := 9) (by decide +kernel) (by decide)
set_option maxRecDepth 20000 in
theorem s_X7_outside_18 : Snd mX7_outside 18 (sq (opCi (1)) (sq (opLdI 3) (sq opishl opNop))) 25 := (snd_sq (snd_iconst (k := 1) (by decide) (by decide +kernel)) (snd_sq (snd_iload_n (k := 3) (by decide +kernel) rfl) (snd_sq (snd_ishl (by decide +kernel)) (snd_goto (off := 4) (by decide +kernel) (by decide)))))
set_option maxRecDepth 20000 in
theorem s_X7_outside_24 : Snd mX7_outside 24 (opCi (0)) 25 := (snd_iconst (k := 0) (by decide) (by decide +kernel))
set_option maxRecDepth 20000 in
theorem s_X7_outside_25 : Snd mX7_outside 25 (sq opior (sq (opStI 2) (sq (opInc 3 (1)) opNop))) 4 := (snd_sq (snd_ior (by decide +kernel)) (snd_sq (snd_istore_n (k := 2) (by decide +kernel) rfl (by decide)) (snd_sq (snd_iinc (k := 1) (by decide +kernel) (by decide) (by decide)) (snd_goto (off := -26) (by decide +kernel) (by decide)))))
set_option maxRecDepth 20000 in
theorem s_X7_outside_33 : Snd mX7_outside 33 (opLdI 2) 34 := (snd_iload_n (k := 2) (by decide +kernel) rfl)
set_option maxRecDepth 20000 in
theorem r_X7_outside_34 : RtI mX7_outside 34 := rt_I (by decide +kernel) rfl
/-! ClaimChainsModel.notes(II)I -/
set_option maxRecDepth 20000 in
theorem s_X7_notes_0 : Snd mX7_notes 0 (sq (opLdA 0) (sq (opGetR 7 17) (sq (opLdA 0) (sq (opGetI 7 16) (sq (opLdI 1) (sq opIast (sq (opLdA 0) (sq (opGetR 7 18) (sq (opLdA 0) (sq (opGetI 7 16) (sq (opLdI 2) (sq opIast (sq (opLdA 0) (sq opDup (sq (opGetI 7 16) (sq (opCi (1)) (sq opiadd (sq (opPutI 7 16) (sq (opLdA 0) (sq (opGetI 7 16) (sq (opCi (1)) opisub))))))))))))))))))))) 36 := (snd_sq (snd_aload_n (k := 0) (by decide +kernel) rfl) (snd_sq (snd_getR (ci := 7) (k := 17) (by decide +kernel) rfl (by decide) (by decide) rfl iw_7 w823) (snd_sq (snd_aload_n (k := 0) (by decide +kernel) rfl) (snd_sq (snd_getI (ci := 7) (k := 16) (by decide +kernel) rfl (by decide) (by decide) (by decide) iw_7 w822) (snd_sq (snd_iload_n (k := 1) (by decide +kernel) rfl) (snd_sq (snd_iast (by decide +kernel)) (snd_sq (snd_aload_n (k := 0) (by decide +kernel) rfl) (snd_sq (snd_getR (ci := 7) (k := 18) (by decide +kernel) rfl (by decide) (by decide) rfl iw_7 w824) (snd_sq (snd_aload_n (k := 0) (by decide +kernel) rfl) (snd_sq (snd_getI (ci := 7) (k := 16) (by decide +kernel) rfl (by decide) (by decide) (by decide) iw_7 w822) (snd_sq (snd_iload_n (k := 2) (by decide +kernel) rfl) (snd_sq (snd_iast (by decide +kernel)) (snd_sq (snd_aload_n (k := 0) (by decide +kernel) rfl) (snd_sq (snd_dup (by decide +kernel)) (snd_sq (snd_getI (ci := 7) (k := 16) (by decide +kernel) rfl (by decide) (by decide) (by decide) iw_7 w822) (snd_sq (snd_iconst (k := 1) (by decide) (by decide +kernel)) (snd_sq (snd_iadd (by decide +kernel)) (snd_sq (snd_putI (ci := 7) (k := 16) (by decide +kernel) rfl (by decide) (by decide) (by decide) iw_7 tyX7_ok nmX7 rfl (tyX7_ok 16 (by decide)) w822) (snd_sq (snd_aload_n (k := 0) (by decide +kernel) rfl) (snd_sq (snd_getI (ci := 7) (k := 16) (by decide +kernel) rfl (by decide) (by decide) (by decide) iw_7 w822) (snd_sq (snd_iconst (k := 1) (by decide) (by decide +kernel)) (snd_isub (by decide +kernel)))))))))))))))))))))))
set_option maxRecDepth 20000 in
theorem r_X7_notes_36 : RtI mX7_notes 36 := rt_I (by decide +kernel) rfl
/-! ClaimChainsModel.firstWeak(I)I -/
set_option maxRecDepth 20000 in
theorem s_X7_firstWeak_0 : Snd mX7_firstWeak 0 (sq (opCi (0)) (opStI 2)) 2 := (snd_sq (snd_iconst (k := 0) (by decide) (by decide +kernel)) (snd_istore_n (k := 2) (by decide +kernel) rfl (by decide)))
set_option maxRecDepth 20000 in
theorem s_X7_firstWeak_2 : Snd mX7_firstWeak 2 (sq (opLdI 2) (opCi (16))) 5 := (snd_sq (snd_iload_n (k := 2) (by decide +kernel) rfl) (snd_bipush (k := 16) (by decide) (by decide +kernel)))
set_option maxRecDepth 20000 in
theorem b_X7_firstWeak_5 : Br_ic_ge mX7_firstWeak 5 40 := br_ic_ge (off := 35) (by decide +kernel) (by decide)
set_option maxRecDepth 20000 in
theorem s_X7_firstWeak_8 : Snd mX7_firstWeak 8 (sq (opLdI 1) (opLdI 2)) 10 := (snd_sq (snd_iload_n (k := 1) (by decide +kernel) rfl) (snd_iload_n (k := 2) (by decide +kernel) rfl))
set_option maxRecDepth 20000 in
theorem c_X7_firstWeak_10 : CallS mX7_firstWeak 10 mX7_isIn 2 := kallS (site_S w926 (by decide +kernel) w924 w925 w97 ⟨by decide, by decide, by decide +kernel⟩) (by decide)
set_option maxRecDepth 20000 in
theorem s_X7_firstWeak_13 : Snd mX7_firstWeak 13 (opCi (1)) 14 := (snd_iconst (k := 1) (by decide) (by decide +kernel))
set_option maxRecDepth 20000 in
theorem b_X7_firstWeak_14 : Br_ic_ne mX7_firstWeak 14 34 := br_ic_ne (off := 20) (by decide +kernel) (by decide)
set_option maxRecDepth 20000 in
theorem s_X7_firstWeak_17 : Snd mX7_firstWeak 17 (sq (opLdA 0) (sq (opCi (65535)) (sq (opCi (1)) (sq (opLdI 2) (sq opishl (sq (opCi (-1)) (sq opixor opiand))))))) 26 := (snd_sq (snd_aload_n (k := 0) (by decide +kernel) rfl) (snd_sq (snd_ldc w1014 (by decide +kernel)) (snd_sq (snd_iconst (k := 1) (by decide) (by decide +kernel)) (snd_sq (snd_iload_n (k := 2) (by decide +kernel) rfl) (snd_sq (snd_ishl (by decide +kernel)) (snd_sq (snd_iconst (k := -1) (by decide) (by decide +kernel)) (snd_sq (snd_ixor (by decide +kernel)) (snd_iand (by decide +kernel)))))))))
set_option maxRecDepth 20000 in
theorem c_X7_firstWeak_26 : CallV mX7_firstWeak 26 mX7_isFit 7 2 := kallV (site_V rfl w1129 (by decide +kernel) w1126 w1128 w83 w97 ⟨by decide, by decide, by decide +kernel⟩) (by decide) (by decide) (by unfold clsNo; rfl)
set_option maxRecDepth 20000 in
theorem b_X7_firstWeak_29 : Br_if_eq mX7_firstWeak 29 34 := br_if_eq (off := 5) (by decide +kernel) (by decide)
set_option maxRecDepth 20000 in
theorem s_X7_firstWeak_32 : Snd mX7_firstWeak 32 (opLdI 2) 33 := (snd_iload_n (k := 2) (by decide +kernel) rfl)
set_option maxRecDepth 20000 in
theorem r_X7_firstWeak_33 : RtI mX7_firstWeak 33 := rt_I (by decide +kernel) rfl
set_option maxRecDepth 20000 in
theorem s_X7_firstWeak_34 : Snd mX7_firstWeak 34 (sq (opInc 2 (1)) opNop) 2 := (snd_sq (snd_iinc (k := 1) (by decide +kernel) (by decide) (by decide)) (snd_goto (off := -35) (by decide +kernel) (by decide)))
set_option maxRecDepth 20000 in
theorem s_X7_firstWeak_40 : Snd mX7_firstWeak 40 (opCi (-9)) 42 := (snd_bipush (k := -9) (by decide) (by decide +kernel))
set_option maxRecDepth 20000 in
theorem r_X7_firstWeak_42 : RtI mX7_firstWeak 42 := rt_I (by decide +kernel) rfl
/-! ClaimChainsModel.strengthen()I -/
set_option maxRecDepth 20000 in
theorem s_X7_strengthen_0 : Snd mX7_strengthen 0 (opLdA 0) 1 := (snd_aload_n (k := 0) (by decide +kernel) rfl)
set_option maxRecDepth 20000 in
theorem c_X7_strengthen_1 : CallV mX7_strengthen 1 mX7_weakSet 7 1 := kallV (site_V rfl w1117 (by decide +kernel) w1114 w1116 w81 w97 ⟨by decide, by decide, by decide +kernel⟩) (by decide) (by decide) (by unfold clsNo; rfl)
set_option maxRecDepth 20000 in
theorem s_X7_strengthen_4 : Snd mX7_strengthen 4 (sq (opStI 1) (opLdI 1)) 6 := (snd_sq (snd_istore_n (k := 1) (by decide +kernel) rfl (by decide)) (snd_iload_n (k := 1) (by decide +kernel) rfl))
set_option maxRecDepth 20000 in
theorem b_X7_strengthen_6 : Br_if_ne mX7_strengthen 6 12 := br_if_ne (off := 6) (by decide +kernel) (by decide)
set_option maxRecDepth 20000 in
theorem s_X7_strengthen_9 : Snd mX7_strengthen 9 (opCi (-9)) 11 := (snd_bipush (k := -9) (by decide) (by decide +kernel))
set_option maxRecDepth 20000 in
theorem r_X7_strengthen_11 : RtI mX7_strengthen 11 := rt_I (by decide +kernel) rfl
set_option maxRecDepth 20000 in
theorem s_X7_strengthen_12 : Snd mX7_strengthen 12 (sq (opLdA 0) (opLdI 1)) 14 := (snd_sq (snd_aload_n (k := 0) (by decide +kernel) rfl) (snd_iload_n (k := 1) (by decide +kernel) rfl))
set_option maxRecDepth 20000 in
theorem c_X7_strengthen_14 : CallV mX7_strengthen 14 mX7_firstWeak 7 2 := kallV (site_V rfl w1125 (by decide +kernel) w1122 w1124 w82 w97 ⟨by decide, by decide, by decide +kernel⟩) (by decide) (by decide) (by unfold clsNo; rfl)
set_option maxRecDepth 20000 in
theorem s_X7_strengthen_17 : Snd mX7_strengthen 17 (sq (opStI 2) (sq (opLdI 2) (opCi (-9)))) 21 := (snd_sq (snd_istore_n (k := 2) (by decide +kernel) rfl (by decide)) (snd_sq (snd_iload_n (k := 2) (by decide +kernel) rfl) (snd_bipush (k := -9) (by decide) (by decide +kernel))))
set_option maxRecDepth 20000 in
theorem b_X7_strengthen_21 : Br_ic_ne mX7_strengthen 21 27 := br_ic_ne (off := 6) (by decide +kernel) (by decide)
set_option maxRecDepth 20000 in
theorem s_X7_strengthen_24 : Snd mX7_strengthen 24 (opCi (-3)) 26 := (snd_bipush (k := -3) (by decide) (by decide +kernel))
set_option maxRecDepth 20000 in
theorem r_X7_strengthen_26 : RtI mX7_strengthen 26 := rt_I (by decide +kernel) rfl
set_option maxRecDepth 20000 in
theorem s_X7_strengthen_27 : Snd mX7_strengthen 27 (sq (opLdA 0) (sq (opGetI 7 16) (opCi (8)))) 33 := (snd_sq (snd_aload_n (k := 0) (by decide +kernel) rfl) (snd_sq (snd_getI (ci := 7) (k := 16) (by decide +kernel) rfl (by decide) (by decide) (by decide) iw_7 w822) (snd_bipush (k := 8) (by decide) (by decide +kernel))))
set_option maxRecDepth 20000 in
theorem b_X7_strengthen_33 : Br_ic_ne mX7_strengthen 33 39 := br_ic_ne (off := 6) (by decide +kernel) (by decide)
set_option maxRecDepth 20000 in
theorem s_X7_strengthen_36 : Snd mX7_strengthen 36 (opCi (-4)) 38 := (snd_bipush (k := -4) (by decide) (by decide +kernel))
set_option maxRecDepth 20000 in
theorem r_X7_strengthen_38 : RtI mX7_strengthen 38 := rt_I (by decide +kernel) rfl
set_option maxRecDepth 20000 in
theorem s_X7_strengthen_39 : Snd mX7_strengthen 39 (sq (opCi (15)) (sq (opStI 3) (sq (opCi (0)) (opStI 4)))) 45 := (snd_sq (snd_bipush (k := 15) (by decide) (by decide +kernel)) (snd_sq (snd_istore_n (k := 3) (by decide +kernel) rfl (by decide)) (snd_sq (snd_iconst (k := 0) (by decide) (by decide +kernel)) (snd_istore (by decide +kernel) (by decide)))))
set_option maxRecDepth 20000 in
theorem s_X7_strengthen_45 : Snd mX7_strengthen 45 (sq (opLdI 4) (opCi (4))) 48 := (snd_sq (snd_iload (by decide +kernel)) (snd_iconst (k := 4) (by decide) (by decide +kernel)))
set_option maxRecDepth 20000 in
theorem b_X7_strengthen_48 : Br_ic_ge mX7_strengthen 48 90 := br_ic_ge (off := 42) (by decide +kernel) (by decide)
set_option maxRecDepth 20000 in
theorem s_X7_strengthen_51 : Snd mX7_strengthen 51 (sq (opLdI 3) (sq (opCi (1)) (sq (opLdI 4) (sq opishl (sq (opCi (-1)) (sq opixor (sq opiand (sq (opStI 5) (sq (opLdA 0) (sq (opLdI 5) (sq (opLdI 2) (sq (opLdI 5) opiand)))))))))))) 68 := (snd_sq (snd_iload_n (k := 3) (by decide +kernel) rfl) (snd_sq (snd_iconst (k := 1) (by decide) (by decide +kernel)) (snd_sq (snd_iload (by decide +kernel)) (snd_sq (snd_ishl (by decide +kernel)) (snd_sq (snd_iconst (k := -1) (by decide) (by decide +kernel)) (snd_sq (snd_ixor (by decide +kernel)) (snd_sq (snd_iand (by decide +kernel)) (snd_sq (snd_istore (by decide +kernel) (by decide)) (snd_sq (snd_aload_n (k := 0) (by decide +kernel) rfl) (snd_sq (snd_iload (by decide +kernel)) (snd_sq (snd_iload_n (k := 2) (by decide +kernel) rfl) (snd_sq (snd_iload (by decide +kernel)) (snd_iand (by decide +kernel))))))))))))))
set_option maxRecDepth 20000 in
theorem c_X7_strengthen_68 : CallS mX7_strengthen 68 mX7_outside 2 := kallS (site_S w1132 (by decide +kernel) w1130 w1131 w97 ⟨by decide, by decide, by decide +kernel⟩) (by decide)
set_option maxRecDepth 20000 in
theorem c_X7_strengthen_71 : CallV mX7_strengthen 71 mX7_isFit 7 2 := kallV (site_V rfl w1129 (by decide +kernel) w1126 w1128 w83 w97 ⟨by decide, by decide, by decide +kernel⟩) (by decide) (by decide) (by unfold clsNo; rfl)
set_option maxRecDepth 20000 in
theorem b_X7_strengthen_74 : Br_if_eq mX7_strengthen 74 82 := br_if_eq (off := 8) (by decide +kernel) (by decide)
set_option maxRecDepth 20000 in
theorem s_X7_strengthen_77 : Snd mX7_strengthen 77 (sq (opLdI 5) opNop) 83 := (snd_sq (snd_iload (by decide +kernel)) (snd_goto (off := 4) (by decide +kernel) (by decide)))
set_option maxRecDepth 20000 in
theorem s_X7_strengthen_82 : Snd mX7_strengthen 82 (opLdI 3) 83 := (snd_iload_n (k := 3) (by decide +kernel) rfl)
set_option maxRecDepth 20000 in
theorem s_X7_strengthen_83 : Snd mX7_strengthen 83 (sq (opStI 3) (sq (opInc 4 (1)) opNop)) 45 := (snd_sq (snd_istore_n (k := 3) (by decide +kernel) rfl (by decide)) (snd_sq (snd_iinc (k := 1) (by decide +kernel) (by decide) (by decide)) (snd_goto (off := -42) (by decide +kernel) (by decide))))
set_option maxRecDepth 20000 in
theorem s_X7_strengthen_90 : Snd mX7_strengthen 90 (sq (opCi (16)) (sq (opLdI 3) (sq opimul (sq (opLdI 2) (sq (opLdI 3) (sq opiand (sq opiadd (sq (opStI 4) (sq (opLdA 0) (sq (opLdI 3) (sq (opLdI 2) (sq (opLdI 3) opiand)))))))))))) 105 := (snd_sq (snd_bipush (k := 16) (by decide) (by decide +kernel)) (snd_sq (snd_iload_n (k := 3) (by decide +kernel) rfl) (snd_sq (snd_imul (by decide +kernel)) (snd_sq (snd_iload_n (k := 2) (by decide +kernel) rfl) (snd_sq (snd_iload_n (k := 3) (by decide +kernel) rfl) (snd_sq (snd_iand (by decide +kernel)) (snd_sq (snd_iadd (by decide +kernel)) (snd_sq (snd_istore (by decide +kernel) (by decide)) (snd_sq (snd_aload_n (k := 0) (by decide +kernel) rfl) (snd_sq (snd_iload_n (k := 3) (by decide +kernel) rfl) (snd_sq (snd_iload_n (k := 2) (by decide +kernel) rfl) (snd_sq (snd_iload_n (k := 3) (by decide +kernel) rfl) (snd_iand (by decide +kernel))))))))))))))
set_option maxRecDepth 20000 in
theorem c_X7_strengthen_105 : CallS mX7_strengthen 105 mX7_outside 2 := kallS (site_S w1132 (by decide +kernel) w1130 w1131 w97 ⟨by decide, by decide, by decide +kernel⟩) (by decide)
set_option maxRecDepth 20000 in
theorem s_X7_strengthen_108 : Snd mX7_strengthen 108 (opLdI 4) 110 := (snd_iload (by decide +kernel))
set_option maxRecDepth 20000 in
theorem c_X7_strengthen_110 : CallV mX7_strengthen 110 mX7_notes 7 3 := kallV (site_V rfl w1136 (by decide +kernel) w1133 w1135 w84 w97 ⟨by decide, by decide, by decide +kernel⟩) (by decide) (by decide) (by unfold clsNo; rfl)
set_option maxRecDepth 20000 in
theorem s_X7_strengthen_113 : Snd mX7_strengthen 113 (sq opPop (opLdI 4)) 116 := (snd_sq (snd_pop (by decide +kernel)) (snd_iload (by decide +kernel)))
set_option maxRecDepth 20000 in
theorem r_X7_strengthen_116 : RtI mX7_strengthen 116 := rt_I (by decide +kernel) rfl
/-! ClaimChainsModel.lemmaBy(I)I -/
set_option maxRecDepth 20000 in
theorem s_X7_lemmaBy_0 : Snd mX7_lemmaBy 0 (sq (opLdA 0) (opLdI 1)) 2 := (snd_sq (snd_aload_n (k := 0) (by decide +kernel) rfl) (snd_iload_n (k := 1) (by decide +kernel) rfl))
set_option maxRecDepth 20000 in
theorem c_X7_lemmaBy_2 : CallV mX7_lemmaBy 2 mX7_isFit 7 2 := kallV (site_V rfl w1129 (by decide +kernel) w1126 w1128 w83 w97 ⟨by decide, by decide, by decide +kernel⟩) (by decide) (by decide) (by unfold clsNo; rfl)
set_option maxRecDepth 20000 in
theorem b_X7_lemmaBy_5 : Br_if_ne mX7_lemmaBy 5 11 := br_if_ne (off := 6) (by decide +kernel) (by decide)
set_option maxRecDepth 20000 in
theorem s_X7_lemmaBy_8 : Snd mX7_lemmaBy 8 (opCi (-3)) 10 := (snd_bipush (k := -3) (by decide) (by decide +kernel))
set_option maxRecDepth 20000 in
theorem r_X7_lemmaBy_10 : RtI mX7_lemmaBy 10 := rt_I (by decide +kernel) rfl
set_option maxRecDepth 20000 in
theorem s_X7_lemmaBy_11 : Snd mX7_lemmaBy 11 (sq (opLdA 0) (sq (opGetI 7 16) (opCi (8)))) 17 := (snd_sq (snd_aload_n (k := 0) (by decide +kernel) rfl) (snd_sq (snd_getI (ci := 7) (k := 16) (by decide +kernel) rfl (by decide) (by decide) (by decide) iw_7 w822) (snd_bipush (k := 8) (by decide) (by decide +kernel))))
set_option maxRecDepth 20000 in
theorem b_X7_lemmaBy_17 : Br_ic_ne mX7_lemmaBy 17 25 := br_ic_ne (off := 8) (by decide +kernel) (by decide)
set_option maxRecDepth 20000 in
theorem s_X7_lemmaBy_20 : Snd mX7_lemmaBy 20 (sq (opCi (-4)) opNop) 32 := (snd_sq (snd_bipush (k := -4) (by decide) (by decide +kernel)) (snd_goto (off := 10) (by decide +kernel) (by decide)))
set_option maxRecDepth 20000 in
theorem s_X7_lemmaBy_25 : Snd mX7_lemmaBy 25 (sq (opLdA 0) (sq (opLdI 1) (opCi (-9)))) 29 := (snd_sq (snd_aload_n (k := 0) (by decide +kernel) rfl) (snd_sq (snd_iload_n (k := 1) (by decide +kernel) rfl) (snd_bipush (k := -9) (by decide) (by decide +kernel))))
set_option maxRecDepth 20000 in
theorem c_X7_lemmaBy_29 : CallV mX7_lemmaBy 29 mX7_notes 7 3 := kallV (site_V rfl w1136 (by decide +kernel) w1133 w1135 w84 w97 ⟨by decide, by decide, by decide +kernel⟩) (by decide) (by decide) (by unfold clsNo; rfl)
set_option maxRecDepth 20000 in
theorem r_X7_lemmaBy_32 : RtI mX7_lemmaBy 32 := rt_I (by decide +kernel) rfl
/-! ClaimChainsModel.lemma(I)I -/
set_option maxRecDepth 20000 in
theorem s_X7_lemma_0 : Snd mX7_lemma 0 (sq (opLdA 0) (opLdI 1)) 2 := (snd_sq (snd_aload_n (k := 0) (by decide +kernel) rfl) (snd_iload_n (k := 1) (by decide +kernel) rfl))
set_option maxRecDepth 20000 in
theorem c_X7_lemma_2 : CallV mX7_lemma 2 mX7_againstStates 7 2 := kallV (site_V rfl w977 (by decide +kernel) w974 w976 w61 w97 ⟨by decide, by decide, by decide +kernel⟩) (by decide) (by decide) (by unfold clsNo; rfl)
set_option maxRecDepth 20000 in
theorem s_X7_lemma_5 : Snd mX7_lemma 5 (sq (opStI 2) (opLdI 2)) 7 := (snd_sq (snd_istore_n (k := 2) (by decide +kernel) rfl (by decide)) (snd_iload_n (k := 2) (by decide +kernel) rfl))
set_option maxRecDepth 20000 in
theorem b_X7_lemma_7 : Br_if_eq mX7_lemma 7 14 := br_if_eq (off := 7) (by decide +kernel) (by decide)
set_option maxRecDepth 20000 in
theorem s_X7_lemma_10 : Snd mX7_lemma 10 (sq (opLdI 2) opNop) 24 := (snd_sq (snd_iload_n (k := 2) (by decide +kernel) rfl) (snd_goto (off := 13) (by decide +kernel) (by decide)))
set_option maxRecDepth 20000 in
theorem s_X7_lemma_14 : Snd mX7_lemma 14 (sq (opLdA 0) (sq (opLdA 0) (sq (opLdI 1) (opCi (0))))) 18 := (snd_sq (snd_aload_n (k := 0) (by decide +kernel) rfl) (snd_sq (snd_aload_n (k := 0) (by decide +kernel) rfl) (snd_sq (snd_iload_n (k := 1) (by decide +kernel) rfl) (snd_iconst (k := 0) (by decide) (by decide +kernel)))))
set_option maxRecDepth 20000 in
theorem c_X7_lemma_18 : CallV mX7_lemma 18 mX7_holdsOf 7 3 := kallV (site_V rfl w965 (by decide +kernel) w962 w964 w60 w97 ⟨by decide, by decide, by decide +kernel⟩) (by decide) (by decide) (by unfold clsNo; rfl)
set_option maxRecDepth 20000 in
theorem c_X7_lemma_21 : CallV mX7_lemma 21 mX7_lemmaBy 7 2 := kallV (site_V rfl w1144 (by decide +kernel) w1141 w1143 w85 w97 ⟨by decide, by decide, by decide +kernel⟩) (by decide) (by decide) (by unfold clsNo; rfl)
set_option maxRecDepth 20000 in
theorem r_X7_lemma_24 : RtI mX7_lemma 24 := rt_I (by decide +kernel) rfl
/-! ClaimChainsModel.block(I)I -/
set_option maxRecDepth 20000 in
theorem s_X7_block_0 : Snd mX7_block 0 (sq (opLdA 0) (sq (opCi (0)) (sq (opPutI 7 0) (opLdI 1)))) 6 := (snd_sq (snd_aload_n (k := 0) (by decide +kernel) rfl) (snd_sq (snd_iconst (k := 0) (by decide) (by decide +kernel)) (snd_sq (snd_putI (ci := 7) (k := 0) (by decide +kernel) rfl (by decide) (by decide) (by decide) iw_7 tyX7_ok nmX7 rfl (tyX7_ok 0 (by decide)) w806) (snd_iload_n (k := 1) (by decide +kernel) rfl))))
set_option maxRecDepth 20000 in
theorem c_X7_block_6 : CallS mX7_block 6 mX7_isBox 1 := kallS (site_S w1151 (by decide +kernel) w1149 w1150 w97 ⟨by decide, by decide, by decide +kernel⟩) (by decide)
set_option maxRecDepth 20000 in
theorem b_X7_block_9 : Br_if_ne mX7_block 9 14 := br_if_ne (off := 5) (by decide +kernel) (by decide)
set_option maxRecDepth 20000 in
theorem s_X7_block_12 : Snd mX7_block 12 (opCi (-1)) 13 := (snd_iconst (k := -1) (by decide) (by decide +kernel))
set_option maxRecDepth 20000 in
theorem r_X7_block_13 : RtI mX7_block 13 := rt_I (by decide +kernel) rfl
set_option maxRecDepth 20000 in
theorem s_X7_block_14 : Snd mX7_block 14 (sq (opLdA 0) (sq (opGetR 7 26) (sq (opLdI 1) (sq opIald (opCi (-9)))))) 22 := (snd_sq (snd_aload_n (k := 0) (by decide +kernel) rfl) (snd_sq (snd_getR (ci := 7) (k := 26) (by decide +kernel) rfl (by decide) (by decide) rfl iw_7 w832) (snd_sq (snd_iload_n (k := 1) (by decide +kernel) rfl) (snd_sq (snd_iald (by decide +kernel)) (snd_bipush (k := -9) (by decide) (by decide +kernel))))))
set_option maxRecDepth 20000 in
theorem b_X7_block_22 : Br_ic_ne mX7_block 22 31 := br_ic_ne (off := 9) (by decide +kernel) (by decide)
set_option maxRecDepth 20000 in
theorem s_X7_block_25 : Snd mX7_block 25 (sq (opLdA 0) (opCi (1))) 27 := (snd_sq (snd_aload_n (k := 0) (by decide +kernel) rfl) (snd_iconst (k := 1) (by decide) (by decide +kernel)))
set_option maxRecDepth 20000 in
theorem c_X7_block_27 : CallV mX7_block 27 mX7_fails 7 2 := kallV (site_V rfl w1155 (by decide +kernel) w1152 w1154 w86 w97 ⟨by decide, by decide, by decide +kernel⟩) (by decide) (by decide) (by unfold clsNo; rfl)
set_option maxRecDepth 20000 in
theorem r_X7_block_30 : RtI mX7_block 30 := rt_I (by decide +kernel) rfl
set_option maxRecDepth 20000 in
theorem s_X7_block_31 : Snd mX7_block 31 (sq (opCi (65535)) (sq (opStI 2) (sq (opCi (0)) (opStI 3)))) 36 := (snd_sq (snd_ldc w1014 (by decide +kernel)) (snd_sq (snd_istore_n (k := 2) (by decide +kernel) rfl (by decide)) (snd_sq (snd_iconst (k := 0) (by decide) (by decide +kernel)) (snd_istore_n (k := 3) (by decide +kernel) rfl (by decide)))))
set_option maxRecDepth 20000 in
theorem s_X7_block_36 : Snd mX7_block 36 (sq (opLdI 3) (sq (opLdA 0) (sq (opGetR 7 27) (sq (opLdI 1) opIald)))) 43 := (snd_sq (snd_iload_n (k := 3) (by decide +kernel) rfl) (snd_sq (snd_aload_n (k := 0) (by decide +kernel) rfl) (snd_sq (snd_getR (ci := 7) (k := 27) (by decide +kernel) rfl (by decide) (by decide) rfl iw_7 w833) (snd_sq (snd_iload_n (k := 1) (by decide +kernel) rfl) (snd_iald (by decide +kernel))))))
set_option maxRecDepth 20000 in
theorem b_X7_block_43 : Br_ic_ge mX7_block 43 101 := br_ic_ge (off := 58) (by decide +kernel) (by decide)
set_option maxRecDepth 20000 in
theorem s_X7_block_46 : Snd mX7_block 46 (sq (opLdA 0) (sq (opGetR 7 28) (sq (opCi (8)) (sq (opLdI 1) (sq opimul (sq (opLdI 3) (sq opiadd (sq opIald (sq (opStI 4) (sq (opLdI 4) (opCi (-9)))))))))))) 63 := (snd_sq (snd_aload_n (k := 0) (by decide +kernel) rfl) (snd_sq (snd_getR (ci := 7) (k := 28) (by decide +kernel) rfl (by decide) (by decide) rfl iw_7 w834) (snd_sq (snd_bipush (k := 8) (by decide) (by decide +kernel)) (snd_sq (snd_iload_n (k := 1) (by decide +kernel) rfl) (snd_sq (snd_imul (by decide +kernel)) (snd_sq (snd_iload_n (k := 3) (by decide +kernel) rfl) (snd_sq (snd_iadd (by decide +kernel)) (snd_sq (snd_iald (by decide +kernel)) (snd_sq (snd_istore (by decide +kernel) (by decide)) (snd_sq (snd_iload (by decide +kernel)) (snd_bipush (k := -9) (by decide) (by decide +kernel))))))))))))
set_option maxRecDepth 20000 in
theorem b_X7_block_63 : Br_ic_ne mX7_block 63 72 := br_ic_ne (off := 9) (by decide +kernel) (by decide)
set_option maxRecDepth 20000 in
theorem s_X7_block_66 : Snd mX7_block 66 (sq (opLdA 0) (opCi (1))) 68 := (snd_sq (snd_aload_n (k := 0) (by decide +kernel) rfl) (snd_iconst (k := 1) (by decide) (by decide +kernel)))
set_option maxRecDepth 20000 in
theorem c_X7_block_68 : CallV mX7_block 68 mX7_fails 7 2 := kallV (site_V rfl w1155 (by decide +kernel) w1152 w1154 w86 w97 ⟨by decide, by decide, by decide +kernel⟩) (by decide) (by decide) (by unfold clsNo; rfl)
set_option maxRecDepth 20000 in
theorem r_X7_block_71 : RtI mX7_block 71 := rt_I (by decide +kernel) rfl
set_option maxRecDepth 20000 in
theorem s_X7_block_72 : Snd mX7_block 72 (sq (opLdA 0) (sq (opGetR 7 5) (sq (opLdI 4) opIald))) 79 := (snd_sq (snd_aload_n (k := 0) (by decide +kernel) rfl) (snd_sq (snd_getR (ci := 7) (k := 5) (by decide +kernel) rfl (by decide) (by decide) rfl iw_7 w811) (snd_sq (snd_iload (by decide +kernel)) (snd_iald (by decide +kernel)))))
set_option maxRecDepth 20000 in
theorem b_X7_block_79 : Br_if_eq mX7_block 79 85 := br_if_eq (off := 6) (by decide +kernel) (by decide)
set_option maxRecDepth 20000 in
theorem s_X7_block_82 : Snd mX7_block 82 (opCi (-2)) 84 := (snd_bipush (k := -2) (by decide) (by decide +kernel))
set_option maxRecDepth 20000 in
theorem r_X7_block_84 : RtI mX7_block 84 := rt_I (by decide +kernel) rfl
set_option maxRecDepth 20000 in
theorem s_X7_block_85 : Snd mX7_block 85 (sq (opLdI 2) (sq (opLdA 0) (sq (opLdI 4) (opCi (0))))) 90 := (snd_sq (snd_iload_n (k := 2) (by decide +kernel) rfl) (snd_sq (snd_aload_n (k := 0) (by decide +kernel) rfl) (snd_sq (snd_iload (by decide +kernel)) (snd_iconst (k := 0) (by decide) (by decide +kernel)))))
set_option maxRecDepth 20000 in
theorem c_X7_block_90 : CallV mX7_block 90 mX7_holdsOf 7 3 := kallV (site_V rfl w965 (by decide +kernel) w962 w964 w60 w97 ⟨by decide, by decide, by decide +kernel⟩) (by decide) (by decide) (by unfold clsNo; rfl)
set_option maxRecDepth 20000 in
theorem s_X7_block_93 : Snd mX7_block 93 (sq opiand (sq (opStI 2) (sq (opInc 3 (1)) opNop))) 36 := (snd_sq (snd_iand (by decide +kernel)) (snd_sq (snd_istore_n (k := 2) (by decide +kernel) rfl (by decide)) (snd_sq (snd_iinc (k := 1) (by decide +kernel) (by decide) (by decide)) (snd_goto (off := -62) (by decide +kernel) (by decide)))))
set_option maxRecDepth 20000 in
theorem s_X7_block_101 : Snd mX7_block 101 (sq (opLdA 0) (sq (opCi (65535)) (sq (opLdI 2) (sq (opCi (-1)) (sq opixor opiand))))) 108 := (snd_sq (snd_aload_n (k := 0) (by decide +kernel) rfl) (snd_sq (snd_ldc w1014 (by decide +kernel)) (snd_sq (snd_iload_n (k := 2) (by decide +kernel) rfl) (snd_sq (snd_iconst (k := -1) (by decide) (by decide +kernel)) (snd_sq (snd_ixor (by decide +kernel)) (snd_iand (by decide +kernel)))))))
set_option maxRecDepth 20000 in
theorem c_X7_block_108 : CallV mX7_block 108 mX7_lemmaBy 7 2 := kallV (site_V rfl w1144 (by decide +kernel) w1141 w1143 w85 w97 ⟨by decide, by decide, by decide +kernel⟩) (by decide) (by decide) (by unfold clsNo; rfl)
set_option maxRecDepth 20000 in
theorem r_X7_block_111 : RtI mX7_block 111 := rt_I (by decide +kernel) rfl
/-! ClaimChainsModel.back()I -/
set_option maxRecDepth 20000 in
theorem s_X7_back_0 : Snd mX7_back 0 (sq (opLdA 0) (opGetI 7 16)) 4 := (snd_sq (snd_aload_n (k := 0) (by decide +kernel) rfl) (snd_getI (ci := 7) (k := 16) (by decide +kernel) rfl (by decide) (by decide) (by decide) iw_7 w822))
set_option maxRecDepth 20000 in
theorem b_X7_back_4 : Br_if_ne mX7_back 4 10 := br_if_ne (off := 6) (by decide +kernel) (by decide)
set_option maxRecDepth 20000 in
theorem s_X7_back_7 : Snd mX7_back 7 (opCi (-3)) 9 := (snd_bipush (k := -3) (by decide) (by decide +kernel))
set_option maxRecDepth 20000 in
theorem r_X7_back_9 : RtI mX7_back 9 := rt_I (by decide +kernel) rfl
set_option maxRecDepth 20000 in
theorem s_X7_back_10 : Snd mX7_back 10 (sq (opLdA 0) (sq opDup (sq (opGetI 7 16) (sq (opCi (1)) (sq opisub (sq (opPutI 7 16) (sq (opLdA 0) (opGetI 7 16)))))))) 24 := (snd_sq (snd_aload_n (k := 0) (by decide +kernel) rfl) (snd_sq (snd_dup (by decide +kernel)) (snd_sq (snd_getI (ci := 7) (k := 16) (by decide +kernel) rfl (by decide) (by decide) (by decide) iw_7 w822) (snd_sq (snd_iconst (k := 1) (by decide) (by decide +kernel)) (snd_sq (snd_isub (by decide +kernel)) (snd_sq (snd_putI (ci := 7) (k := 16) (by decide +kernel) rfl (by decide) (by decide) (by decide) iw_7 tyX7_ok nmX7 rfl (tyX7_ok 16 (by decide)) w822) (snd_sq (snd_aload_n (k := 0) (by decide +kernel) rfl) (snd_getI (ci := 7) (k := 16) (by decide +kernel) rfl (by decide) (by decide) (by decide) iw_7 w822))))))))
set_option maxRecDepth 20000 in
theorem r_X7_back_24 : RtI mX7_back 24 := rt_I (by decide +kernel) rfl
/-! ClaimChainsModel.ofLemma(II)I -/
set_option maxRecDepth 20000 in
theorem s_X7_ofLemma_0 : Snd mX7_ofLemma 0 (sq (opLdI 1) (sq (opCi (0)) (sq (opLdA 0) (sq (opGetI 7 16) (sq (opCi (1)) opisub))))) 8 := (snd_sq (snd_iload_n (k := 1) (by decide +kernel) rfl) (snd_sq (snd_iconst (k := 0) (by decide) (by decide +kernel)) (snd_sq (snd_aload_n (k := 0) (by decide +kernel) rfl) (snd_sq (snd_getI (ci := 7) (k := 16) (by decide +kernel) rfl (by decide) (by decide) (by decide) iw_7 w822) (snd_sq (snd_iconst (k := 1) (by decide) (by decide +kernel)) (snd_isub (by decide +kernel)))))))
set_option maxRecDepth 20000 in
theorem c_X7_ofLemma_8 : CallS mX7_ofLemma 8 mX7_within 3 := kallS (site_S w903 (by decide +kernel) w901 w902 w97 ⟨by decide, by decide, by decide +kernel⟩) (by decide)
set_option maxRecDepth 20000 in
theorem b_X7_ofLemma_11 : Br_if_ne mX7_ofLemma 11 16 := br_if_ne (off := 5) (by decide +kernel) (by decide)
set_option maxRecDepth 20000 in
theorem s_X7_ofLemma_14 : Snd mX7_ofLemma 14 (opCi (-1)) 15 := (snd_iconst (k := -1) (by decide) (by decide +kernel))
set_option maxRecDepth 20000 in
theorem r_X7_ofLemma_15 : RtI mX7_ofLemma 15 := rt_I (by decide +kernel) rfl
set_option maxRecDepth 20000 in
theorem s_X7_ofLemma_16 : Snd mX7_ofLemma 16 (opLdI 2) 17 := (snd_iload_n (k := 2) (by decide +kernel) rfl)
set_option maxRecDepth 20000 in
theorem hw_X7_ofLemma_17 : decode (MI.bytes mX7_ofLemma) 17 = .ok (.tableswitch 51 0 2 #[27, 34, 44], 27) := by decide +kernel
set_option maxRecDepth 20000 in
theorem w_X7_ofLemma_17 {d cap : Nat} {L : LT} {x : Int32} {st : List Value} {n : Nat} {R : RT} {I : IT} {J : JT} {Q : QT} (k0 : x = 0 → Ends mX7_ofLemma d cap 44 L st n R I J Q) (k1 : x = 1 → Ends mX7_ofLemma d cap 51 L st n R I J Q) (k2 : x = 2 → Ends mX7_ofLemma d cap 61 L st n R I J Q) (kd : ¬ x = 0 → ¬ x = 1 → ¬ x = 2 → Ends mX7_ofLemma d cap 68 L st n R I J Q) : Ends mX7_ofLemma d cap 17 L (.int x :: st) n R I J Q := by
  by_cases h0 : x.toInt < 0 ∨ 2 < x.toInt
  · exact sw_out hw_X7_ofLemma_17 h0 (by decide) (kd (fun h => by subst h; revert h0; decide) (fun h => by subst h; revert h0; decide) (fun h => by subst h; revert h0; decide))
  · have h1 : x.toInt = 0 ∨ x.toInt = 1 ∨ x.toInt = 2 := by omega
    rcases h1 with h1 | h1 | h1
    · have h2 : x = 0 := i32_of h1 (by decide)
      subst h2
      exact sw_in (off := 27) hw_X7_ofLemma_17 (by decide) (by decide) (by decide +kernel) (by decide) (k0 rfl)
    · have h2 : x = 1 := i32_of h1 (by decide)
      subst h2
      exact sw_in (off := 34) hw_X7_ofLemma_17 (by decide) (by decide) (by decide +kernel) (by decide) (k1 rfl)
    · have h2 : x = 2 := i32_of h1 (by decide)
      subst h2
      exact sw_in (off := 44) hw_X7_ofLemma_17 (by decide) (by decide) (by decide +kernel) (by decide) (k2 rfl)
set_option maxRecDepth 20000 in
theorem s_X7_ofLemma_44 : Snd mX7_ofLemma 44 (sq (opLdA 0) (sq (opGetR 7 17) (sq (opLdI 1) opIald))) 50 := (snd_sq (snd_aload_n (k := 0) (by decide +kernel) rfl) (snd_sq (snd_getR (ci := 7) (k := 17) (by decide +kernel) rfl (by decide) (by decide) rfl iw_7 w823) (snd_sq (snd_iload_n (k := 1) (by decide +kernel) rfl) (snd_iald (by decide +kernel)))))
set_option maxRecDepth 20000 in
theorem r_X7_ofLemma_50 : RtI mX7_ofLemma 50 := rt_I (by decide +kernel) rfl
set_option maxRecDepth 20000 in
theorem s_X7_ofLemma_51 : Snd mX7_ofLemma 51 (sq (opLdA 0) (sq (opGetR 7 17) (sq (opLdI 1) opIald))) 57 := (snd_sq (snd_aload_n (k := 0) (by decide +kernel) rfl) (snd_sq (snd_getR (ci := 7) (k := 17) (by decide +kernel) rfl (by decide) (by decide) rfl iw_7 w823) (snd_sq (snd_iload_n (k := 1) (by decide +kernel) rfl) (snd_iald (by decide +kernel)))))
set_option maxRecDepth 20000 in
theorem c_X7_ofLemma_57 : CallS mX7_ofLemma 57 mX7_sizeOf 1 := kallS (site_S w1025 (by decide +kernel) w1023 w1024 w97 ⟨by decide, by decide, by decide +kernel⟩) (by decide)
set_option maxRecDepth 20000 in
theorem r_X7_ofLemma_60 : RtI mX7_ofLemma 60 := rt_I (by decide +kernel) rfl
set_option maxRecDepth 20000 in
theorem s_X7_ofLemma_61 : Snd mX7_ofLemma 61 (sq (opLdA 0) (sq (opGetR 7 18) (sq (opLdI 1) opIald))) 67 := (snd_sq (snd_aload_n (k := 0) (by decide +kernel) rfl) (snd_sq (snd_getR (ci := 7) (k := 18) (by decide +kernel) rfl (by decide) (by decide) rfl iw_7 w824) (snd_sq (snd_iload_n (k := 1) (by decide +kernel) rfl) (snd_iald (by decide +kernel)))))
set_option maxRecDepth 20000 in
theorem r_X7_ofLemma_67 : RtI mX7_ofLemma 67 := rt_I (by decide +kernel) rfl
set_option maxRecDepth 20000 in
theorem s_X7_ofLemma_68 : Snd mX7_ofLemma 68 (opCi (-2)) 70 := (snd_bipush (k := -2) (by decide) (by decide +kernel))
set_option maxRecDepth 20000 in
theorem r_X7_ofLemma_70 : RtI mX7_ofLemma 70 := rt_I (by decide +kernel) rfl
/-! ClaimChainsModel.closed()I -/
set_option maxRecDepth 20000 in
theorem s_X7_closed_0 : Snd mX7_closed 0 (opLdA 0) 1 := (snd_aload_n (k := 0) (by decide +kernel) rfl)
set_option maxRecDepth 20000 in
theorem c_X7_closed_1 : CallV mX7_closed 1 mX7_startSet 7 1 := kallV (site_V rfl w1013 (by decide +kernel) w1010 w1012 w65 w97 ⟨by decide, by decide, by decide +kernel⟩) (by decide) (by decide) (by unfold clsNo; rfl)
set_option maxRecDepth 20000 in
theorem s_X7_closed_4 : Snd mX7_closed 4 (opLdA 0) 5 := (snd_aload_n (k := 0) (by decide +kernel) rfl)
set_option maxRecDepth 20000 in
theorem c_X7_closed_5 : CallV mX7_closed 5 mX7_goodSet 7 1 := kallV (site_V rfl w1081 (by decide +kernel) w1078 w1080 w75 w97 ⟨by decide, by decide, by decide +kernel⟩) (by decide) (by decide) (by unfold clsNo; rfl)
set_option maxRecDepth 20000 in
theorem s_X7_closed_8 : Snd mX7_closed 8 (sq (opCi (-1)) (sq opixor opiand)) 11 := (snd_sq (snd_iconst (k := -1) (by decide) (by decide +kernel)) (snd_sq (snd_ixor (by decide +kernel)) (snd_iand (by decide +kernel))))
set_option maxRecDepth 20000 in
theorem b_X7_closed_11 : Br_if_ne mX7_closed 11 25 := br_if_ne (off := 14) (by decide +kernel) (by decide)
set_option maxRecDepth 20000 in
theorem s_X7_closed_14 : Snd mX7_closed 14 (opLdA 0) 15 := (snd_aload_n (k := 0) (by decide +kernel) rfl)
set_option maxRecDepth 20000 in
theorem c_X7_closed_15 : CallV mX7_closed 15 mX7_weakSet 7 1 := kallV (site_V rfl w1117 (by decide +kernel) w1114 w1116 w81 w97 ⟨by decide, by decide, by decide +kernel⟩) (by decide) (by decide) (by unfold clsNo; rfl)
set_option maxRecDepth 20000 in
theorem b_X7_closed_18 : Br_if_ne mX7_closed 18 25 := br_if_ne (off := 7) (by decide +kernel) (by decide)
set_option maxRecDepth 20000 in
theorem s_X7_closed_21 : Snd mX7_closed 21 (sq (opCi (1)) opNop) 26 := (snd_sq (snd_iconst (k := 1) (by decide) (by decide +kernel)) (snd_goto (off := 4) (by decide +kernel) (by decide)))
set_option maxRecDepth 20000 in
theorem s_X7_closed_25 : Snd mX7_closed 25 (opCi (0)) 26 := (snd_iconst (k := 0) (by decide) (by decide +kernel))
set_option maxRecDepth 20000 in
theorem r_X7_closed_26 : RtI mX7_closed 26 := rt_I (by decide +kernel) rfl
/-! ClaimChainsModel.nearestBits(IIII)J -/
set_option maxRecDepth 20000 in
theorem s_X7_nearestBits_0 : Snd mX7_nearestBits 0 (opLdI 0) 1 := (snd_iload_n (k := 0) (by decide +kernel) rfl)
set_option maxRecDepth 20000 in
theorem b_X7_nearestBits_1 : Br_if_ne mX7_nearestBits 1 6 := br_if_ne (off := 5) (by decide +kernel) (by decide)
set_option maxRecDepth 20000 in
theorem s_X7_nearestBits_4 : Snd mX7_nearestBits 4 (opCl (0)) 5 := (snd_lconst (k := 0) (by decide) (by decide +kernel))
set_option maxRecDepth 20000 in
theorem r_X7_nearestBits_5 : RtL mX7_nearestBits 5 := rt_L (by decide +kernel) rfl
set_option maxRecDepth 20000 in
theorem s_X7_nearestBits_6 : Snd mX7_nearestBits 6 (sq (opLdI 0) (sq opi2l (sq (opStL 4) (sq (opCl (1)) (sq (opLdI 2) (sq (opCi (1)) (sq opisub (sq oplshl (sq (opStL 6) (sq (opCi (0)) (opStI 8))))))))))) 20 := (snd_sq (snd_iload_n (k := 0) (by decide +kernel) rfl) (snd_sq (snd_i2l (by decide +kernel)) (snd_sq (snd_lstore (by decide +kernel) (by decide)) (snd_sq (snd_lconst (k := 1) (by decide) (by decide +kernel)) (snd_sq (snd_iload_n (k := 2) (by decide +kernel) rfl) (snd_sq (snd_iconst (k := 1) (by decide) (by decide +kernel)) (snd_sq (snd_isub (by decide +kernel)) (snd_sq (snd_lshl (by decide +kernel)) (snd_sq (snd_lstore (by decide +kernel) (by decide)) (snd_sq (snd_iconst (k := 0) (by decide) (by decide +kernel)) (snd_istore (by decide +kernel) (by decide))))))))))))
set_option maxRecDepth 20000 in
theorem s_X7_nearestBits_20 : Snd mX7_nearestBits 20 (sq (opLdL 4) (sq (opLdI 1) (sq opi2l (sq opldiv (sq (opLdL 6) oplcmp))))) 28 := (snd_sq (snd_lload (by decide +kernel)) (snd_sq (snd_iload_n (k := 1) (by decide +kernel) rfl) (snd_sq (snd_i2l (by decide +kernel)) (snd_sq (snd_ldiv (by decide +kernel)) (snd_sq (snd_lload (by decide +kernel)) (snd_lcmp (by decide +kernel)))))))
set_option maxRecDepth 20000 in
theorem b_X7_nearestBits_28 : Br_if_ge mX7_nearestBits 28 45 := br_if_ge (off := 17) (by decide +kernel) (by decide)
set_option maxRecDepth 20000 in
theorem s_X7_nearestBits_31 : Snd mX7_nearestBits 31 (sq (opLdL 4) (sq (opCl (2)) (sq oplmul (sq (opStL 4) (sq (opInc 8 (-1)) opNop))))) 20 := (snd_sq (snd_lload (by decide +kernel)) (snd_sq (snd_ldc2 w1175 (by decide +kernel)) (snd_sq (snd_lmul (by decide +kernel)) (snd_sq (snd_lstore (by decide +kernel) (by decide)) (snd_sq (snd_iinc (k := -1) (by decide +kernel) (by decide) (by decide)) (snd_goto (off := -22) (by decide +kernel) (by decide)))))))
set_option maxRecDepth 20000 in
theorem s_X7_nearestBits_45 : Snd mX7_nearestBits 45 (sq (opLdL 4) (sq (opLdI 1) (sq opi2l (sq opldiv (sq (opStL 9) (sq (opCl (2)) (sq (opLdL 4) (sq (opLdI 1) (sq opi2l (sq oplrem (sq oplmul (sq (opStL 11) (sq (opLdL 9) (sq (opLdL 11) (sq (opLdI 1) (sq opi2l oplcmp)))))))))))))))) 70 := (snd_sq (snd_lload (by decide +kernel)) (snd_sq (snd_iload_n (k := 1) (by decide +kernel) rfl) (snd_sq (snd_i2l (by decide +kernel)) (snd_sq (snd_ldiv (by decide +kernel)) (snd_sq (snd_lstore (by decide +kernel) (by decide)) (snd_sq (snd_ldc2 w1175 (by decide +kernel)) (snd_sq (snd_lload (by decide +kernel)) (snd_sq (snd_iload_n (k := 1) (by decide +kernel) rfl) (snd_sq (snd_i2l (by decide +kernel)) (snd_sq (snd_lrem (by decide +kernel)) (snd_sq (snd_lmul (by decide +kernel)) (snd_sq (snd_lstore (by decide +kernel) (by decide)) (snd_sq (snd_lload (by decide +kernel)) (snd_sq (snd_lload (by decide +kernel)) (snd_sq (snd_iload_n (k := 1) (by decide +kernel) rfl) (snd_sq (snd_i2l (by decide +kernel)) (snd_lcmp (by decide +kernel))))))))))))))))))
set_option maxRecDepth 20000 in
theorem b_X7_nearestBits_70 : Br_if_gt mX7_nearestBits 70 92 := br_if_gt (off := 22) (by decide +kernel) (by decide)
set_option maxRecDepth 20000 in
theorem s_X7_nearestBits_73 : Snd mX7_nearestBits 73 (sq (opLdL 11) (sq (opLdI 1) (sq opi2l oplcmp))) 78 := (snd_sq (snd_lload (by decide +kernel)) (snd_sq (snd_iload_n (k := 1) (by decide +kernel) rfl) (snd_sq (snd_i2l (by decide +kernel)) (snd_lcmp (by decide +kernel)))))
set_option maxRecDepth 20000 in
theorem b_X7_nearestBits_78 : Br_if_ne mX7_nearestBits 78 96 := br_if_ne (off := 18) (by decide +kernel) (by decide)
set_option maxRecDepth 20000 in
theorem s_X7_nearestBits_81 : Snd mX7_nearestBits 81 (sq (opLdL 9) (sq (opCl (2)) (sq oplrem (sq (opCl (1)) oplcmp)))) 89 := (snd_sq (snd_lload (by decide +kernel)) (snd_sq (snd_ldc2 w1175 (by decide +kernel)) (snd_sq (snd_lrem (by decide +kernel)) (snd_sq (snd_lconst (k := 1) (by decide) (by decide +kernel)) (snd_lcmp (by decide +kernel))))))
set_option maxRecDepth 20000 in
theorem b_X7_nearestBits_89 : Br_if_ne mX7_nearestBits 89 96 := br_if_ne (off := 7) (by decide +kernel) (by decide)
set_option maxRecDepth 20000 in
theorem s_X7_nearestBits_92 : Snd mX7_nearestBits 92 (sq (opCl (1)) opNop) 97 := (snd_sq (snd_lconst (k := 1) (by decide) (by decide +kernel)) (snd_goto (off := 4) (by decide +kernel) (by decide)))
set_option maxRecDepth 20000 in
theorem s_X7_nearestBits_96 : Snd mX7_nearestBits 96 (opCl (0)) 97 := (snd_lconst (k := 0) (by decide) (by decide +kernel))
set_option maxRecDepth 20000 in
theorem s_X7_nearestBits_97 : Snd mX7_nearestBits 97 (sq opladd (sq (opStL 9) (sq (opLdL 9) (sq (opCl (2)) (sq (opLdL 6) (sq oplmul oplcmp)))))) 109 := (snd_sq (snd_ladd (by decide +kernel)) (snd_sq (snd_lstore (by decide +kernel) (by decide)) (snd_sq (snd_lload (by decide +kernel)) (snd_sq (snd_ldc2 w1175 (by decide +kernel)) (snd_sq (snd_lload (by decide +kernel)) (snd_sq (snd_lmul (by decide +kernel)) (snd_lcmp (by decide +kernel))))))))
set_option maxRecDepth 20000 in
theorem b_X7_nearestBits_109 : Br_if_ne mX7_nearestBits 109 119 := br_if_ne (off := 10) (by decide +kernel) (by decide)
set_option maxRecDepth 20000 in
theorem s_X7_nearestBits_112 : Snd mX7_nearestBits 112 (sq (opLdL 6) (sq (opStL 9) (opInc 8 (1)))) 119 := (snd_sq (snd_lload (by decide +kernel)) (snd_sq (snd_lstore (by decide +kernel) (by decide)) (snd_iinc (k := 1) (by decide +kernel) (by decide) (by decide))))
set_option maxRecDepth 20000 in
theorem s_X7_nearestBits_119 : Snd mX7_nearestBits 119 (sq (opLdI 8) (sq (opLdI 2) (sq opiadd (sq opi2l (sq (opCl (1)) (sq oplsub (sq (opLdI 3) (sq opi2l (sq opladd (sq (opLdL 6) (sq oplmul (sq (opLdL 9) (sq opladd (sq (opLdL 6) oplsub)))))))))))))) 138 := (snd_sq (snd_iload (by decide +kernel)) (snd_sq (snd_iload_n (k := 2) (by decide +kernel) rfl) (snd_sq (snd_iadd (by decide +kernel)) (snd_sq (snd_i2l (by decide +kernel)) (snd_sq (snd_lconst (k := 1) (by decide) (by decide +kernel)) (snd_sq (snd_lsub (by decide +kernel)) (snd_sq (snd_iload_n (k := 3) (by decide +kernel) rfl) (snd_sq (snd_i2l (by decide +kernel)) (snd_sq (snd_ladd (by decide +kernel)) (snd_sq (snd_lload (by decide +kernel)) (snd_sq (snd_lmul (by decide +kernel)) (snd_sq (snd_lload (by decide +kernel)) (snd_sq (snd_ladd (by decide +kernel)) (snd_sq (snd_lload (by decide +kernel)) (snd_lsub (by decide +kernel))))))))))))))))
set_option maxRecDepth 20000 in
theorem r_X7_nearestBits_138 : RtL mX7_nearestBits 138 := rt_L (by decide +kernel) rfl
/-! ClaimChainsModel.chance(I)I -/
set_option maxRecDepth 20000 in
theorem s_X7_chance_0 : Snd mX7_chance 0 (sq (opLdI 1) (sq (opCi (0)) (opCi (8)))) 4 := (snd_sq (snd_iload_n (k := 1) (by decide +kernel) rfl) (snd_sq (snd_iconst (k := 0) (by decide) (by decide +kernel)) (snd_bipush (k := 8) (by decide) (by decide +kernel))))
set_option maxRecDepth 20000 in
theorem c_X7_chance_4 : CallS mX7_chance 4 mX7_within 3 := kallS (site_S w903 (by decide +kernel) w901 w902 w97 ⟨by decide, by decide, by decide +kernel⟩) (by decide)
set_option maxRecDepth 20000 in
theorem b_X7_chance_7 : Br_if_ne mX7_chance 7 13 := br_if_ne (off := 6) (by decide +kernel) (by decide)
set_option maxRecDepth 20000 in
theorem s_X7_chance_10 : Snd mX7_chance 10 (opCi (-2)) 12 := (snd_bipush (k := -2) (by decide) (by decide +kernel))
set_option maxRecDepth 20000 in
theorem r_X7_chance_12 : RtI mX7_chance 12 := rt_I (by decide +kernel) rfl
set_option maxRecDepth 20000 in
theorem s_X7_chance_13 : Snd mX7_chance 13 (opLdA 0) 14 := (snd_aload_n (k := 0) (by decide +kernel) rfl)
set_option maxRecDepth 20000 in
theorem c_X7_chance_14 : CallV mX7_chance 14 mX7_startSet 7 1 := kallV (site_V rfl w1013 (by decide +kernel) w1010 w1012 w65 w97 ⟨by decide, by decide, by decide +kernel⟩) (by decide) (by decide) (by unfold clsNo; rfl)
set_option maxRecDepth 20000 in
theorem c_X7_chance_17 : CallS mX7_chance 17 mX7_sizeOf 1 := kallS (site_S w1025 (by decide +kernel) w1023 w1024 w97 ⟨by decide, by decide, by decide +kernel⟩) (by decide)
set_option maxRecDepth 20000 in
theorem s_X7_chance_20 : Snd mX7_chance 20 (sq (opStI 2) (opLdI 2)) 22 := (snd_sq (snd_istore_n (k := 2) (by decide +kernel) rfl (by decide)) (snd_iload_n (k := 2) (by decide +kernel) rfl))
set_option maxRecDepth 20000 in
theorem b_X7_chance_22 : Br_if_ne mX7_chance 22 28 := br_if_ne (off := 6) (by decide +kernel) (by decide)
set_option maxRecDepth 20000 in
theorem s_X7_chance_25 : Snd mX7_chance 25 (opCi (-3)) 27 := (snd_bipush (k := -3) (by decide) (by decide +kernel))
set_option maxRecDepth 20000 in
theorem r_X7_chance_27 : RtI mX7_chance 27 := rt_I (by decide +kernel) rfl
set_option maxRecDepth 20000 in
theorem s_X7_chance_28 : Snd mX7_chance 28 (sq (opCi (0)) (opStI 3)) 30 := (snd_sq (snd_iconst (k := 0) (by decide) (by decide +kernel)) (snd_istore_n (k := 3) (by decide +kernel) rfl (by decide)))
set_option maxRecDepth 20000 in
theorem s_X7_chance_30 : Snd mX7_chance 30 (sq (opLdI 3) (opCi (16))) 33 := (snd_sq (snd_iload_n (k := 3) (by decide +kernel) rfl) (snd_bipush (k := 16) (by decide) (by decide +kernel)))
set_option maxRecDepth 20000 in
theorem b_X7_chance_33 : Br_ic_ge mX7_chance 33 56 := br_ic_ge (off := 23) (by decide +kernel) (by decide)
set_option maxRecDepth 20000 in
theorem s_X7_chance_36 : Snd mX7_chance 36 (sq (opLdA 0) (sq (opGetR 7 24) (sq (opLdI 3) (opLdA 0)))) 42 := (snd_sq (snd_aload_n (k := 0) (by decide +kernel) rfl) (snd_sq (snd_getR (ci := 7) (k := 24) (by decide +kernel) rfl (by decide) (by decide) rfl iw_7 w830) (snd_sq (snd_iload_n (k := 3) (by decide +kernel) rfl) (snd_aload_n (k := 0) (by decide +kernel) rfl))))
set_option maxRecDepth 20000 in
theorem c_X7_chance_42 : CallV mX7_chance 42 mX7_brokenSet 7 1 := kallV (site_V rfl w1037 (by decide +kernel) w1034 w1036 w69 w97 ⟨by decide, by decide, by decide +kernel⟩) (by decide) (by decide) (by unfold clsNo; rfl)
set_option maxRecDepth 20000 in
theorem s_X7_chance_45 : Snd mX7_chance 45 (opLdI 3) 46 := (snd_iload_n (k := 3) (by decide +kernel) rfl)
set_option maxRecDepth 20000 in
theorem c_X7_chance_46 : CallS mX7_chance 46 mX7_isIn 2 := kallS (site_S w926 (by decide +kernel) w924 w925 w97 ⟨by decide, by decide, by decide +kernel⟩) (by decide)
set_option maxRecDepth 20000 in
theorem s_X7_chance_49 : Snd mX7_chance 49 (sq opIast (sq (opInc 3 (1)) opNop)) 30 := (snd_sq (snd_iast (by decide +kernel)) (snd_sq (snd_iinc (k := 1) (by decide +kernel) (by decide) (by decide)) (snd_goto (off := -23) (by decide +kernel) (by decide))))
set_option maxRecDepth 20000 in
theorem s_X7_chance_56 : Snd mX7_chance 56 (sq (opCi (1)) (sq (opStI 3) (sq (opCi (0)) (opStI 4)))) 61 := (snd_sq (snd_iconst (k := 1) (by decide) (by decide +kernel)) (snd_sq (snd_istore_n (k := 3) (by decide +kernel) rfl (by decide)) (snd_sq (snd_iconst (k := 0) (by decide) (by decide +kernel)) (snd_istore (by decide +kernel) (by decide)))))
set_option maxRecDepth 20000 in
theorem s_X7_chance_61 : Snd mX7_chance 61 (sq (opLdI 4) (opLdI 1)) 64 := (snd_sq (snd_iload (by decide +kernel)) (snd_iload_n (k := 1) (by decide +kernel) rfl))
set_option maxRecDepth 20000 in
theorem b_X7_chance_64 : Br_ic_ge mX7_chance 64 185 := br_ic_ge (off := 121) (by decide +kernel) (by decide)
set_option maxRecDepth 20000 in
theorem s_X7_chance_67 : Snd mX7_chance 67 (sq (opLdI 3) (sq (opCi (4)) (sq opimul (sq (opStI 3) (sq (opCi (0)) (opStI 5)))))) 74 := (snd_sq (snd_iload_n (k := 3) (by decide +kernel) rfl) (snd_sq (snd_iconst (k := 4) (by decide) (by decide +kernel)) (snd_sq (snd_imul (by decide +kernel)) (snd_sq (snd_istore_n (k := 3) (by decide +kernel) rfl (by decide)) (snd_sq (snd_iconst (k := 0) (by decide) (by decide +kernel)) (snd_istore (by decide +kernel) (by decide)))))))
set_option maxRecDepth 20000 in
theorem s_X7_chance_74 : Snd mX7_chance 74 (sq (opLdI 5) (opCi (16))) 78 := (snd_sq (snd_iload (by decide +kernel)) (snd_bipush (k := 16) (by decide) (by decide +kernel)))
set_option maxRecDepth 20000 in
theorem b_X7_chance_78 : Br_ic_ge mX7_chance 78 149 := br_ic_ge (off := 71) (by decide +kernel) (by decide)
set_option maxRecDepth 20000 in
theorem s_X7_chance_81 : Snd mX7_chance 81 (sq (opCi (0)) (sq (opStI 6) (sq (opCi (0)) (opStI 7)))) 87 := (snd_sq (snd_iconst (k := 0) (by decide) (by decide +kernel)) (snd_sq (snd_istore (by decide +kernel) (by decide)) (snd_sq (snd_iconst (k := 0) (by decide) (by decide +kernel)) (snd_istore (by decide +kernel) (by decide)))))
set_option maxRecDepth 20000 in
theorem s_X7_chance_87 : Snd mX7_chance 87 (sq (opLdI 7) (opCi (4))) 90 := (snd_sq (snd_iload (by decide +kernel)) (snd_iconst (k := 4) (by decide) (by decide +kernel)))
set_option maxRecDepth 20000 in
theorem b_X7_chance_90 : Br_ic_ge mX7_chance 90 117 := br_ic_ge (off := 27) (by decide +kernel) (by decide)
set_option maxRecDepth 20000 in
theorem s_X7_chance_93 : Snd mX7_chance 93 (sq (opLdI 6) (sq (opLdA 0) (sq (opGetR 7 24) (sq (opLdA 0) (sq (opLdI 5) (opLdI 7)))))) 104 := (snd_sq (snd_iload (by decide +kernel)) (snd_sq (snd_aload_n (k := 0) (by decide +kernel) rfl) (snd_sq (snd_getR (ci := 7) (k := 24) (by decide +kernel) rfl (by decide) (by decide) rfl iw_7 w830) (snd_sq (snd_aload_n (k := 0) (by decide +kernel) rfl) (snd_sq (snd_iload (by decide +kernel)) (snd_iload (by decide +kernel)))))))
set_option maxRecDepth 20000 in
theorem c_X7_chance_104 : CallV mX7_chance 104 mX7_stepOf 7 3 := kallV (site_V rfl w993 (by decide +kernel) w990 w992 w62 w97 ⟨by decide, by decide, by decide +kernel⟩) (by decide) (by decide) (by unfold clsNo; rfl)
set_option maxRecDepth 20000 in
theorem s_X7_chance_107 : Snd mX7_chance 107 (sq opIald (sq opiadd (sq (opStI 6) (sq (opInc 7 (1)) opNop)))) 87 := (snd_sq (snd_iald (by decide +kernel)) (snd_sq (snd_iadd (by decide +kernel)) (snd_sq (snd_istore (by decide +kernel) (by decide)) (snd_sq (snd_iinc (k := 1) (by decide +kernel) (by decide) (by decide)) (snd_goto (off := -27) (by decide +kernel) (by decide))))))
set_option maxRecDepth 20000 in
theorem s_X7_chance_117 : Snd mX7_chance 117 (sq (opLdA 0) (sq (opGetR 7 25) (sq (opLdI 5) (opLdA 0)))) 124 := (snd_sq (snd_aload_n (k := 0) (by decide +kernel) rfl) (snd_sq (snd_getR (ci := 7) (k := 25) (by decide +kernel) rfl (by decide) (by decide) rfl iw_7 w831) (snd_sq (snd_iload (by decide +kernel)) (snd_aload_n (k := 0) (by decide +kernel) rfl))))
set_option maxRecDepth 20000 in
theorem c_X7_chance_124 : CallV mX7_chance 124 mX7_brokenSet 7 1 := kallV (site_V rfl w1037 (by decide +kernel) w1034 w1036 w69 w97 ⟨by decide, by decide, by decide +kernel⟩) (by decide) (by decide) (by unfold clsNo; rfl)
set_option maxRecDepth 20000 in
theorem s_X7_chance_127 : Snd mX7_chance 127 (opLdI 5) 129 := (snd_iload (by decide +kernel))
set_option maxRecDepth 20000 in
theorem c_X7_chance_129 : CallS mX7_chance 129 mX7_isIn 2 := kallS (site_S w926 (by decide +kernel) w924 w925 w97 ⟨by decide, by decide, by decide +kernel⟩) (by decide)
set_option maxRecDepth 20000 in
theorem s_X7_chance_132 : Snd mX7_chance 132 (opCi (1)) 133 := (snd_iconst (k := 1) (by decide) (by decide +kernel))
set_option maxRecDepth 20000 in
theorem b_X7_chance_133 : Br_ic_ne mX7_chance 133 140 := br_ic_ne (off := 7) (by decide +kernel) (by decide)
set_option maxRecDepth 20000 in
theorem s_X7_chance_136 : Snd mX7_chance 136 (sq (opLdI 3) opNop) 142 := (snd_sq (snd_iload_n (k := 3) (by decide +kernel) rfl) (snd_goto (off := 5) (by decide +kernel) (by decide)))
set_option maxRecDepth 20000 in
theorem s_X7_chance_140 : Snd mX7_chance 140 (opLdI 6) 142 := (snd_iload (by decide +kernel))
set_option maxRecDepth 20000 in
theorem s_X7_chance_142 : Snd mX7_chance 142 (sq opIast (sq (opInc 5 (1)) opNop)) 74 := (snd_sq (snd_iast (by decide +kernel)) (snd_sq (snd_iinc (k := 1) (by decide +kernel) (by decide) (by decide)) (snd_goto (off := -72) (by decide +kernel) (by decide))))
set_option maxRecDepth 20000 in
theorem s_X7_chance_149 : Snd mX7_chance 149 (sq (opCi (0)) (opStI 5)) 152 := (snd_sq (snd_iconst (k := 0) (by decide) (by decide +kernel)) (snd_istore (by decide +kernel) (by decide)))
set_option maxRecDepth 20000 in
theorem s_X7_chance_152 : Snd mX7_chance 152 (sq (opLdI 5) (opCi (16))) 156 := (snd_sq (snd_iload (by decide +kernel)) (snd_bipush (k := 16) (by decide) (by decide +kernel)))
set_option maxRecDepth 20000 in
theorem b_X7_chance_156 : Br_ic_ge mX7_chance 156 179 := br_ic_ge (off := 23) (by decide +kernel) (by decide)
set_option maxRecDepth 20000 in
theorem s_X7_chance_159 : Snd mX7_chance 159 (sq (opLdA 0) (sq (opGetR 7 24) (sq (opLdI 5) (sq (opLdA 0) (sq (opGetR 7 25) (sq (opLdI 5) (sq opIald (sq opIast (sq (opInc 5 (1)) opNop))))))))) 152 := (snd_sq (snd_aload_n (k := 0) (by decide +kernel) rfl) (snd_sq (snd_getR (ci := 7) (k := 24) (by decide +kernel) rfl (by decide) (by decide) rfl iw_7 w830) (snd_sq (snd_iload (by decide +kernel)) (snd_sq (snd_aload_n (k := 0) (by decide +kernel) rfl) (snd_sq (snd_getR (ci := 7) (k := 25) (by decide +kernel) rfl (by decide) (by decide) rfl iw_7 w831) (snd_sq (snd_iload (by decide +kernel)) (snd_sq (snd_iald (by decide +kernel)) (snd_sq (snd_iast (by decide +kernel)) (snd_sq (snd_iinc (k := 1) (by decide +kernel) (by decide) (by decide)) (snd_goto (off := -24) (by decide +kernel) (by decide)))))))))))
set_option maxRecDepth 20000 in
theorem s_X7_chance_179 : Snd mX7_chance 179 (sq (opInc 4 (1)) opNop) 61 := (snd_sq (snd_iinc (k := 1) (by decide +kernel) (by decide) (by decide)) (snd_goto (off := -121) (by decide +kernel) (by decide)))
set_option maxRecDepth 20000 in
theorem s_X7_chance_185 : Snd mX7_chance 185 (sq (opCi (0)) (sq (opStI 4) (sq (opCi (0)) (opStI 5)))) 191 := (snd_sq (snd_iconst (k := 0) (by decide) (by decide +kernel)) (snd_sq (snd_istore (by decide +kernel) (by decide)) (snd_sq (snd_iconst (k := 0) (by decide) (by decide +kernel)) (snd_istore (by decide +kernel) (by decide)))))
set_option maxRecDepth 20000 in
theorem s_X7_chance_191 : Snd mX7_chance 191 (sq (opLdI 5) (opCi (16))) 195 := (snd_sq (snd_iload (by decide +kernel)) (snd_bipush (k := 16) (by decide) (by decide +kernel)))
set_option maxRecDepth 20000 in
theorem b_X7_chance_195 : Br_ic_ge mX7_chance 195 226 := br_ic_ge (off := 31) (by decide +kernel) (by decide)
set_option maxRecDepth 20000 in
theorem s_X7_chance_198 : Snd mX7_chance 198 (sq (opLdI 4) (opLdA 0)) 201 := (snd_sq (snd_iload (by decide +kernel)) (snd_aload_n (k := 0) (by decide +kernel) rfl))
set_option maxRecDepth 20000 in
theorem c_X7_chance_201 : CallV mX7_chance 201 mX7_startSet 7 1 := kallV (site_V rfl w1013 (by decide +kernel) w1010 w1012 w65 w97 ⟨by decide, by decide, by decide +kernel⟩) (by decide) (by decide) (by unfold clsNo; rfl)
set_option maxRecDepth 20000 in
theorem s_X7_chance_204 : Snd mX7_chance 204 (opLdI 5) 206 := (snd_iload (by decide +kernel))
set_option maxRecDepth 20000 in
theorem c_X7_chance_206 : CallS mX7_chance 206 mX7_isIn 2 := kallS (site_S w926 (by decide +kernel) w924 w925 w97 ⟨by decide, by decide, by decide +kernel⟩) (by decide)
set_option maxRecDepth 20000 in
theorem s_X7_chance_209 : Snd mX7_chance 209 (sq (opLdA 0) (sq (opGetR 7 24) (sq (opLdI 5) (sq opIald (sq opimul (sq opiadd (sq (opStI 4) (sq (opInc 5 (1)) opNop)))))))) 191 := (snd_sq (snd_aload_n (k := 0) (by decide +kernel) rfl) (snd_sq (snd_getR (ci := 7) (k := 24) (by decide +kernel) rfl (by decide) (by decide) rfl iw_7 w830) (snd_sq (snd_iload (by decide +kernel)) (snd_sq (snd_iald (by decide +kernel)) (snd_sq (snd_imul (by decide +kernel)) (snd_sq (snd_iadd (by decide +kernel)) (snd_sq (snd_istore (by decide +kernel) (by decide)) (snd_sq (snd_iinc (k := 1) (by decide +kernel) (by decide) (by decide)) (snd_goto (off := -32) (by decide +kernel) (by decide))))))))))
set_option maxRecDepth 20000 in
theorem s_X7_chance_226 : Snd mX7_chance 226 (sq (opLdI 4) (sq (opLdI 2) (sq (opLdI 3) (sq opimul (sq (opCi (24)) (opCi (127))))))) 235 := (snd_sq (snd_iload (by decide +kernel)) (snd_sq (snd_iload_n (k := 2) (by decide +kernel) rfl) (snd_sq (snd_iload_n (k := 3) (by decide +kernel) rfl) (snd_sq (snd_imul (by decide +kernel)) (snd_sq (snd_bipush (k := 24) (by decide) (by decide +kernel)) (snd_bipush (k := 127) (by decide) (by decide +kernel)))))))
set_option maxRecDepth 20000 in
theorem c_X7_chance_235 : CallS mX7_chance 235 mX7_nearestBits 4 := kallS (site_S w1174 (by decide +kernel) w1172 w1173 w97 ⟨by decide, by decide, by decide +kernel⟩) (by decide)
set_option maxRecDepth 20000 in
theorem s_X7_chance_238 : Snd mX7_chance 238 opl2i 239 := (snd_l2i (by decide +kernel))
set_option maxRecDepth 20000 in
theorem r_X7_chance_239 : RtI mX7_chance 239 := rt_I (by decide +kernel) rfl
/-! ClaimChainsModel.mean()J -/
set_option maxRecDepth 20000 in
theorem s_X7_mean_0 : Snd mX7_mean 0 (opLdA 0) 1 := (snd_aload_n (k := 0) (by decide +kernel) rfl)
set_option maxRecDepth 20000 in
theorem c_X7_mean_1 : CallV mX7_mean 1 mX7_findFar 7 1 := kallV (site_V rfl w1009 (by decide +kernel) w1006 w1008 w64 w97 ⟨by decide, by decide, by decide +kernel⟩) (by decide) (by decide) (by unfold clsNo; rfl)
set_option maxRecDepth 20000 in
theorem s_X7_mean_4 : Snd mX7_mean 4 (sq (opCi (0)) (sq (opStI 1) (sq (opCi (0)) (sq (opStI 2) (sq (opCi (0)) (opStI 3)))))) 10 := (snd_sq (snd_iconst (k := 0) (by decide) (by decide +kernel)) (snd_sq (snd_istore_n (k := 1) (by decide +kernel) rfl (by decide)) (snd_sq (snd_iconst (k := 0) (by decide) (by decide +kernel)) (snd_sq (snd_istore_n (k := 2) (by decide +kernel) rfl (by decide)) (snd_sq (snd_iconst (k := 0) (by decide) (by decide +kernel)) (snd_istore_n (k := 3) (by decide +kernel) rfl (by decide)))))))
set_option maxRecDepth 20000 in
theorem s_X7_mean_10 : Snd mX7_mean 10 (sq (opLdI 3) (opCi (16))) 13 := (snd_sq (snd_iload_n (k := 3) (by decide +kernel) rfl) (snd_bipush (k := 16) (by decide) (by decide +kernel)))
set_option maxRecDepth 20000 in
theorem b_X7_mean_13 : Br_ic_ge mX7_mean 13 65 := br_ic_ge (off := 52) (by decide +kernel) (by decide)
set_option maxRecDepth 20000 in
theorem s_X7_mean_16 : Snd mX7_mean 16 (sq (opLdI 1) (sq (opLdA 0) (sq (opGetR 7 12) (sq (opLdI 3) (sq opIald (opCi (-9))))))) 25 := (snd_sq (snd_iload_n (k := 1) (by decide +kernel) rfl) (snd_sq (snd_aload_n (k := 0) (by decide +kernel) rfl) (snd_sq (snd_getR (ci := 7) (k := 12) (by decide +kernel) rfl (by decide) (by decide) rfl iw_7 w818) (snd_sq (snd_iload_n (k := 3) (by decide +kernel) rfl) (snd_sq (snd_iald (by decide +kernel)) (snd_bipush (k := -9) (by decide) (by decide +kernel)))))))
set_option maxRecDepth 20000 in
theorem b_X7_mean_25 : Br_ic_ne mX7_mean 25 32 := br_ic_ne (off := 7) (by decide +kernel) (by decide)
set_option maxRecDepth 20000 in
theorem s_X7_mean_28 : Snd mX7_mean 28 (sq (opCi (0)) opNop) 38 := (snd_sq (snd_iconst (k := 0) (by decide) (by decide +kernel)) (snd_goto (off := 9) (by decide +kernel) (by decide)))
set_option maxRecDepth 20000 in
theorem s_X7_mean_32 : Snd mX7_mean 32 (sq (opLdA 0) (sq (opGetR 7 12) (sq (opLdI 3) opIald))) 38 := (snd_sq (snd_aload_n (k := 0) (by decide +kernel) rfl) (snd_sq (snd_getR (ci := 7) (k := 12) (by decide +kernel) rfl (by decide) (by decide) rfl iw_7 w818) (snd_sq (snd_iload_n (k := 3) (by decide +kernel) rfl) (snd_iald (by decide +kernel)))))
set_option maxRecDepth 20000 in
theorem s_X7_mean_38 : Snd mX7_mean 38 (sq opiadd (sq (opStI 1) (sq (opLdI 2) (sq (opLdA 0) (sq (opGetR 7 12) (sq (opLdI 3) (sq opIald (opCi (-9))))))))) 49 := (snd_sq (snd_iadd (by decide +kernel)) (snd_sq (snd_istore_n (k := 1) (by decide +kernel) rfl (by decide)) (snd_sq (snd_iload_n (k := 2) (by decide +kernel) rfl) (snd_sq (snd_aload_n (k := 0) (by decide +kernel) rfl) (snd_sq (snd_getR (ci := 7) (k := 12) (by decide +kernel) rfl (by decide) (by decide) rfl iw_7 w818) (snd_sq (snd_iload_n (k := 3) (by decide +kernel) rfl) (snd_sq (snd_iald (by decide +kernel)) (snd_bipush (k := -9) (by decide) (by decide +kernel)))))))))
set_option maxRecDepth 20000 in
theorem b_X7_mean_49 : Br_ic_ne mX7_mean 49 56 := br_ic_ne (off := 7) (by decide +kernel) (by decide)
set_option maxRecDepth 20000 in
theorem s_X7_mean_52 : Snd mX7_mean 52 (sq (opCi (0)) opNop) 57 := (snd_sq (snd_iconst (k := 0) (by decide) (by decide +kernel)) (snd_goto (off := 4) (by decide +kernel) (by decide)))
set_option maxRecDepth 20000 in
theorem s_X7_mean_56 : Snd mX7_mean 56 (opCi (1)) 57 := (snd_iconst (k := 1) (by decide) (by decide +kernel))
set_option maxRecDepth 20000 in
theorem s_X7_mean_57 : Snd mX7_mean 57 (sq opiadd (sq (opStI 2) (sq (opInc 3 (1)) opNop))) 10 := (snd_sq (snd_iadd (by decide +kernel)) (snd_sq (snd_istore_n (k := 2) (by decide +kernel) rfl (by decide)) (snd_sq (snd_iinc (k := 1) (by decide +kernel) (by decide) (by decide)) (snd_goto (off := -52) (by decide +kernel) (by decide)))))
set_option maxRecDepth 20000 in
theorem s_X7_mean_65 : Snd mX7_mean 65 (opLdI 2) 66 := (snd_iload_n (k := 2) (by decide +kernel) rfl)
set_option maxRecDepth 20000 in
theorem b_X7_mean_66 : Br_if_ne mX7_mean 66 75 := br_if_ne (off := 9) (by decide +kernel) (by decide)
set_option maxRecDepth 20000 in
theorem s_X7_mean_69 : Snd mX7_mean 69 (sq (opCl (-9223372036854775808)) opNop) 85 := (snd_sq (snd_ldc2 w947 (by decide +kernel)) (snd_goto (off := 13) (by decide +kernel) (by decide)))
set_option maxRecDepth 20000 in
theorem s_X7_mean_75 : Snd mX7_mean 75 (sq (opLdI 1) (sq (opLdI 2) (sq (opCi (53)) (opCi (1023))))) 82 := (snd_sq (snd_iload_n (k := 1) (by decide +kernel) rfl) (snd_sq (snd_iload_n (k := 2) (by decide +kernel) rfl) (snd_sq (snd_bipush (k := 53) (by decide) (by decide +kernel)) (snd_sipush (k := 1023) (by decide) (by decide +kernel)))))
set_option maxRecDepth 20000 in
theorem c_X7_mean_82 : CallS mX7_mean 82 mX7_nearestBits 4 := kallS (site_S w1174 (by decide +kernel) w1172 w1173 w97 ⟨by decide, by decide, by decide +kernel⟩) (by decide)
set_option maxRecDepth 20000 in
theorem r_X7_mean_85 : RtL mX7_mean 85 := rt_L (by decide +kernel) rfl
/-! ClaimChainsModel.isBox(I)Z -/
set_option maxRecDepth 20000 in
theorem s_X7_isBox_0 : Snd mX7_isBox 0 (sq (opLdI 0) (sq (opCi (0)) (opCi (3)))) 3 := (snd_sq (snd_iload_n (k := 0) (by decide +kernel) rfl) (snd_sq (snd_iconst (k := 0) (by decide) (by decide +kernel)) (snd_iconst (k := 3) (by decide) (by decide +kernel))))
set_option maxRecDepth 20000 in
theorem c_X7_isBox_3 : CallS mX7_isBox 3 mX7_within 3 := kallS (site_S w903 (by decide +kernel) w901 w902 w97 ⟨by decide, by decide, by decide +kernel⟩) (by decide)
set_option maxRecDepth 20000 in
theorem r_X7_isBox_6 : RtZ mX7_isBox 6 := rt_Z (by decide +kernel) rfl
/-! ClaimChainsModel.goesTo(II)Z -/
set_option maxRecDepth 20000 in
theorem s_X7_goesTo_0 : Snd mX7_goesTo 0 (sq (opLdI 1) (opCi (-9))) 3 := (snd_sq (snd_iload_n (k := 1) (by decide +kernel) rfl) (snd_bipush (k := -9) (by decide) (by decide +kernel)))
set_option maxRecDepth 20000 in
theorem b_X7_goesTo_3 : Br_ic_eq mX7_goesTo 3 10 := br_ic_eq (off := 7) (by decide +kernel) (by decide)
set_option maxRecDepth 20000 in
theorem s_X7_goesTo_6 : Snd mX7_goesTo 6 (opLdI 2) 7 := (snd_iload_n (k := 2) (by decide +kernel) rfl)
set_option maxRecDepth 20000 in
theorem b_X7_goesTo_7 : Br_if_ne mX7_goesTo 7 12 := br_if_ne (off := 5) (by decide +kernel) (by decide)
set_option maxRecDepth 20000 in
theorem s_X7_goesTo_10 : Snd mX7_goesTo 10 (opCi (1)) 11 := (snd_iconst (k := 1) (by decide) (by decide +kernel))
set_option maxRecDepth 20000 in
theorem r_X7_goesTo_11 : RtZ mX7_goesTo 11 := rt_Z (by decide +kernel) rfl
set_option maxRecDepth 20000 in
theorem s_X7_goesTo_12 : Snd mX7_goesTo 12 (sq (opLdI 2) (opCi (1))) 14 := (snd_sq (snd_iload_n (k := 2) (by decide +kernel) rfl) (snd_iconst (k := 1) (by decide) (by decide +kernel)))
set_option maxRecDepth 20000 in
theorem b_X7_goesTo_14 : Br_ic_ne mX7_goesTo 14 35 := br_ic_ne (off := 21) (by decide +kernel) (by decide)
set_option maxRecDepth 20000 in
theorem s_X7_goesTo_17 : Snd mX7_goesTo 17 (sq (opLdA 0) (sq (opGetR 7 2) (sq (opLdI 1) (sq opIald (opCi (2)))))) 24 := (snd_sq (snd_aload_n (k := 0) (by decide +kernel) rfl) (snd_sq (snd_getR (ci := 7) (k := 2) (by decide +kernel) rfl (by decide) (by decide) rfl iw_7 w808) (snd_sq (snd_iload_n (k := 1) (by decide +kernel) rfl) (snd_sq (snd_iald (by decide +kernel)) (snd_iconst (k := 2) (by decide) (by decide +kernel))))))
set_option maxRecDepth 20000 in
theorem b_X7_goesTo_24 : Br_ic_gt mX7_goesTo 24 31 := br_ic_gt (off := 7) (by decide +kernel) (by decide)
set_option maxRecDepth 20000 in
theorem s_X7_goesTo_27 : Snd mX7_goesTo 27 (sq (opCi (1)) opNop) 70 := (snd_sq (snd_iconst (k := 1) (by decide) (by decide +kernel)) (snd_goto (off := 42) (by decide +kernel) (by decide)))
set_option maxRecDepth 20000 in
theorem s_X7_goesTo_31 : Snd mX7_goesTo 31 (sq (opCi (0)) opNop) 70 := (snd_sq (snd_iconst (k := 0) (by decide) (by decide +kernel)) (snd_goto (off := 38) (by decide +kernel) (by decide)))
set_option maxRecDepth 20000 in
theorem s_X7_goesTo_35 : Snd mX7_goesTo 35 (sq (opLdI 2) (opCi (2))) 37 := (snd_sq (snd_iload_n (k := 2) (by decide +kernel) rfl) (snd_iconst (k := 2) (by decide) (by decide +kernel)))
set_option maxRecDepth 20000 in
theorem b_X7_goesTo_37 : Br_ic_ne mX7_goesTo 37 58 := br_ic_ne (off := 21) (by decide +kernel) (by decide)
set_option maxRecDepth 20000 in
theorem s_X7_goesTo_40 : Snd mX7_goesTo 40 (sq (opLdA 0) (sq (opGetR 7 2) (sq (opLdI 1) (sq opIald (opCi (1)))))) 47 := (snd_sq (snd_aload_n (k := 0) (by decide +kernel) rfl) (snd_sq (snd_getR (ci := 7) (k := 2) (by decide +kernel) rfl (by decide) (by decide) rfl iw_7 w808) (snd_sq (snd_iload_n (k := 1) (by decide +kernel) rfl) (snd_sq (snd_iald (by decide +kernel)) (snd_iconst (k := 1) (by decide) (by decide +kernel))))))
set_option maxRecDepth 20000 in
theorem b_X7_goesTo_47 : Br_ic_ne mX7_goesTo 47 54 := br_ic_ne (off := 7) (by decide +kernel) (by decide)
set_option maxRecDepth 20000 in
theorem s_X7_goesTo_50 : Snd mX7_goesTo 50 (sq (opCi (1)) opNop) 70 := (snd_sq (snd_iconst (k := 1) (by decide) (by decide +kernel)) (snd_goto (off := 19) (by decide +kernel) (by decide)))
set_option maxRecDepth 20000 in
theorem s_X7_goesTo_54 : Snd mX7_goesTo 54 (sq (opCi (0)) opNop) 70 := (snd_sq (snd_iconst (k := 0) (by decide) (by decide +kernel)) (snd_goto (off := 15) (by decide +kernel) (by decide)))
set_option maxRecDepth 20000 in
theorem s_X7_goesTo_58 : Snd mX7_goesTo 58 (sq (opLdA 0) (sq (opGetR 7 2) (sq (opLdI 1) (sq opIald (sq (opCi (3)) (opCi (6))))))) 67 := (snd_sq (snd_aload_n (k := 0) (by decide +kernel) rfl) (snd_sq (snd_getR (ci := 7) (k := 2) (by decide +kernel) rfl (by decide) (by decide) rfl iw_7 w808) (snd_sq (snd_iload_n (k := 1) (by decide +kernel) rfl) (snd_sq (snd_iald (by decide +kernel)) (snd_sq (snd_iconst (k := 3) (by decide) (by decide +kernel)) (snd_bipush (k := 6) (by decide) (by decide +kernel)))))))
set_option maxRecDepth 20000 in
theorem c_X7_goesTo_67 : CallS mX7_goesTo 67 mX7_within 3 := kallS (site_S w903 (by decide +kernel) w901 w902 w97 ⟨by decide, by decide, by decide +kernel⟩) (by decide)
set_option maxRecDepth 20000 in
theorem r_X7_goesTo_70 : RtZ mX7_goesTo 70 := rt_Z (by decide +kernel) rfl
/-! ClaimChainsModel.box(III)I -/
set_option maxRecDepth 20000 in
theorem s_X7_box_0 : Snd mX7_box 0 (sq (opLdA 0) (sq (opCi (0)) (sq (opPutI 7 0) (opLdI 1)))) 6 := (snd_sq (snd_aload_n (k := 0) (by decide +kernel) rfl) (snd_sq (snd_iconst (k := 0) (by decide) (by decide +kernel)) (snd_sq (snd_putI (ci := 7) (k := 0) (by decide +kernel) rfl (by decide) (by decide) (by decide) iw_7 tyX7_ok nmX7 rfl (tyX7_ok 0 (by decide)) w806) (snd_iload_n (k := 1) (by decide +kernel) rfl))))
set_option maxRecDepth 20000 in
theorem c_X7_box_6 : CallS mX7_box 6 mX7_isBox 1 := kallS (site_S w1151 (by decide +kernel) w1149 w1150 w97 ⟨by decide, by decide, by decide +kernel⟩) (by decide)
set_option maxRecDepth 20000 in
theorem b_X7_box_9 : Br_if_ne mX7_box 9 14 := br_if_ne (off := 5) (by decide +kernel) (by decide)
set_option maxRecDepth 20000 in
theorem s_X7_box_12 : Snd mX7_box 12 (opCi (-1)) 13 := (snd_iconst (k := -1) (by decide) (by decide +kernel))
set_option maxRecDepth 20000 in
theorem r_X7_box_13 : RtI mX7_box 13 := rt_I (by decide +kernel) rfl
set_option maxRecDepth 20000 in
theorem s_X7_box_14 : Snd mX7_box 14 (sq (opLdI 2) (sq (opCi (0)) (opCi (3)))) 17 := (snd_sq (snd_iload_n (k := 2) (by decide +kernel) rfl) (snd_sq (snd_iconst (k := 0) (by decide) (by decide +kernel)) (snd_iconst (k := 3) (by decide) (by decide +kernel))))
set_option maxRecDepth 20000 in
theorem c_X7_box_17 : CallS mX7_box 17 mX7_within 3 := kallS (site_S w903 (by decide +kernel) w901 w902 w97 ⟨by decide, by decide, by decide +kernel⟩) (by decide)
set_option maxRecDepth 20000 in
theorem b_X7_box_20 : Br_if_eq mX7_box 20 29 := br_if_eq (off := 9) (by decide +kernel) (by decide)
set_option maxRecDepth 20000 in
theorem s_X7_box_23 : Snd mX7_box 23 (sq (opLdI 3) (opCi (8))) 26 := (snd_sq (snd_iload_n (k := 3) (by decide +kernel) rfl) (snd_bipush (k := 8) (by decide) (by decide +kernel)))
set_option maxRecDepth 20000 in
theorem b_X7_box_26 : Br_ic_le mX7_box 26 32 := br_ic_le (off := 6) (by decide +kernel) (by decide)
set_option maxRecDepth 20000 in
theorem s_X7_box_29 : Snd mX7_box 29 (opCi (-2)) 31 := (snd_bipush (k := -2) (by decide) (by decide +kernel))
set_option maxRecDepth 20000 in
theorem r_X7_box_31 : RtI mX7_box 31 := rt_I (by decide +kernel) rfl
set_option maxRecDepth 20000 in
theorem s_X7_box_32 : Snd mX7_box 32 (opLdI 3) 33 := (snd_iload_n (k := 3) (by decide +kernel) rfl)
set_option maxRecDepth 20000 in
theorem b_X7_box_33 : Br_if_ge mX7_box 33 42 := br_if_ge (off := 9) (by decide +kernel) (by decide)
set_option maxRecDepth 20000 in
theorem s_X7_box_36 : Snd mX7_box 36 (sq (opLdA 0) (opCi (4))) 38 := (snd_sq (snd_aload_n (k := 0) (by decide +kernel) rfl) (snd_iconst (k := 4) (by decide) (by decide +kernel)))
set_option maxRecDepth 20000 in
theorem c_X7_box_38 : CallV mX7_box 38 mX7_fails 7 2 := kallV (site_V rfl w1155 (by decide +kernel) w1152 w1154 w86 w97 ⟨by decide, by decide, by decide +kernel⟩) (by decide) (by decide) (by unfold clsNo; rfl)
set_option maxRecDepth 20000 in
theorem r_X7_box_41 : RtI mX7_box 41 := rt_I (by decide +kernel) rfl
set_option maxRecDepth 20000 in
theorem s_X7_box_42 : Snd mX7_box 42 (sq (opLdA 0) (sq (opGetR 7 26) (sq (opLdI 1) (sq (opLdI 2) (sq opIast (sq (opLdA 0) (sq (opGetR 7 27) (sq (opLdI 1) (sq (opLdI 3) (sq opIast (sq (opCi (0)) (opStI 4)))))))))))) 59 := (snd_sq (snd_aload_n (k := 0) (by decide +kernel) rfl) (snd_sq (snd_getR (ci := 7) (k := 26) (by decide +kernel) rfl (by decide) (by decide) rfl iw_7 w832) (snd_sq (snd_iload_n (k := 1) (by decide +kernel) rfl) (snd_sq (snd_iload_n (k := 2) (by decide +kernel) rfl) (snd_sq (snd_iast (by decide +kernel)) (snd_sq (snd_aload_n (k := 0) (by decide +kernel) rfl) (snd_sq (snd_getR (ci := 7) (k := 27) (by decide +kernel) rfl (by decide) (by decide) rfl iw_7 w833) (snd_sq (snd_iload_n (k := 1) (by decide +kernel) rfl) (snd_sq (snd_iload_n (k := 3) (by decide +kernel) rfl) (snd_sq (snd_iast (by decide +kernel)) (snd_sq (snd_iconst (k := 0) (by decide) (by decide +kernel)) (snd_istore (by decide +kernel) (by decide)))))))))))))
set_option maxRecDepth 20000 in
theorem s_X7_box_59 : Snd mX7_box 59 (sq (opLdI 4) (opCi (8))) 63 := (snd_sq (snd_iload (by decide +kernel)) (snd_bipush (k := 8) (by decide) (by decide +kernel)))
set_option maxRecDepth 20000 in
theorem b_X7_box_63 : Br_ic_ge mX7_box 63 86 := br_ic_ge (off := 23) (by decide +kernel) (by decide)
set_option maxRecDepth 20000 in
theorem s_X7_box_66 : Snd mX7_box 66 (sq (opLdA 0) (sq (opGetR 7 28) (sq (opCi (8)) (sq (opLdI 1) (sq opimul (sq (opLdI 4) (sq opiadd (sq (opCi (-9)) (sq opIast (sq (opInc 4 (1)) opNop)))))))))) 59 := (snd_sq (snd_aload_n (k := 0) (by decide +kernel) rfl) (snd_sq (snd_getR (ci := 7) (k := 28) (by decide +kernel) rfl (by decide) (by decide) rfl iw_7 w834) (snd_sq (snd_bipush (k := 8) (by decide) (by decide +kernel)) (snd_sq (snd_iload_n (k := 1) (by decide +kernel) rfl) (snd_sq (snd_imul (by decide +kernel)) (snd_sq (snd_iload (by decide +kernel)) (snd_sq (snd_iadd (by decide +kernel)) (snd_sq (snd_bipush (k := -9) (by decide) (by decide +kernel)) (snd_sq (snd_iast (by decide +kernel)) (snd_sq (snd_iinc (k := 1) (by decide +kernel) (by decide) (by decide)) (snd_goto (off := -24) (by decide +kernel) (by decide))))))))))))
set_option maxRecDepth 20000 in
theorem s_X7_box_86 : Snd mX7_box 86 (opCi (1)) 87 := (snd_iconst (k := 1) (by decide) (by decide +kernel))
set_option maxRecDepth 20000 in
theorem r_X7_box_87 : RtI mX7_box 87 := rt_I (by decide +kernel) rfl
/-! ClaimChainsModel.lay(III)I -/
set_option maxRecDepth 20000 in
theorem s_X7_lay_0 : Snd mX7_lay 0 (sq (opLdA 0) (sq (opCi (0)) (sq (opPutI 7 0) (opLdI 1)))) 6 := (snd_sq (snd_aload_n (k := 0) (by decide +kernel) rfl) (snd_sq (snd_iconst (k := 0) (by decide) (by decide +kernel)) (snd_sq (snd_putI (ci := 7) (k := 0) (by decide +kernel) rfl (by decide) (by decide) (by decide) iw_7 tyX7_ok nmX7 rfl (tyX7_ok 0 (by decide)) w806) (snd_iload_n (k := 1) (by decide +kernel) rfl))))
set_option maxRecDepth 20000 in
theorem c_X7_lay_6 : CallS mX7_lay 6 mX7_isBox 1 := kallS (site_S w1151 (by decide +kernel) w1149 w1150 w97 ⟨by decide, by decide, by decide +kernel⟩) (by decide)
set_option maxRecDepth 20000 in
theorem b_X7_lay_9 : Br_if_eq mX7_lay 9 20 := br_if_eq (off := 11) (by decide +kernel) (by decide)
set_option maxRecDepth 20000 in
theorem s_X7_lay_12 : Snd mX7_lay 12 (sq (opLdA 0) (opLdI 3)) 14 := (snd_sq (snd_aload_n (k := 0) (by decide +kernel) rfl) (snd_iload_n (k := 3) (by decide +kernel) rfl))
set_option maxRecDepth 20000 in
theorem c_X7_lay_14 : CallV mX7_lay 14 mX7_isTerm 7 2 := kallV (site_V rfl w934 (by decide +kernel) w931 w933 w59 w97 ⟨by decide, by decide, by decide +kernel⟩) (by decide) (by decide) (by unfold clsNo; rfl)
set_option maxRecDepth 20000 in
theorem b_X7_lay_17 : Br_if_ne mX7_lay 17 22 := br_if_ne (off := 5) (by decide +kernel) (by decide)
set_option maxRecDepth 20000 in
theorem s_X7_lay_20 : Snd mX7_lay 20 (opCi (-1)) 21 := (snd_iconst (k := -1) (by decide) (by decide +kernel))
set_option maxRecDepth 20000 in
theorem r_X7_lay_21 : RtI mX7_lay 21 := rt_I (by decide +kernel) rfl
set_option maxRecDepth 20000 in
theorem s_X7_lay_22 : Snd mX7_lay 22 (sq (opLdA 0) (sq (opGetR 7 26) (sq (opLdI 1) (sq opIald (opCi (-9)))))) 30 := (snd_sq (snd_aload_n (k := 0) (by decide +kernel) rfl) (snd_sq (snd_getR (ci := 7) (k := 26) (by decide +kernel) rfl (by decide) (by decide) rfl iw_7 w832) (snd_sq (snd_iload_n (k := 1) (by decide +kernel) rfl) (snd_sq (snd_iald (by decide +kernel)) (snd_bipush (k := -9) (by decide) (by decide +kernel))))))
set_option maxRecDepth 20000 in
theorem b_X7_lay_30 : Br_ic_ne mX7_lay 30 39 := br_ic_ne (off := 9) (by decide +kernel) (by decide)
set_option maxRecDepth 20000 in
theorem s_X7_lay_33 : Snd mX7_lay 33 (sq (opLdA 0) (opCi (1))) 35 := (snd_sq (snd_aload_n (k := 0) (by decide +kernel) rfl) (snd_iconst (k := 1) (by decide) (by decide +kernel)))
set_option maxRecDepth 20000 in
theorem c_X7_lay_35 : CallV mX7_lay 35 mX7_fails 7 2 := kallV (site_V rfl w1155 (by decide +kernel) w1152 w1154 w86 w97 ⟨by decide, by decide, by decide +kernel⟩) (by decide) (by decide) (by unfold clsNo; rfl)
set_option maxRecDepth 20000 in
theorem r_X7_lay_38 : RtI mX7_lay 38 := rt_I (by decide +kernel) rfl
set_option maxRecDepth 20000 in
theorem s_X7_lay_39 : Snd mX7_lay 39 (sq (opLdI 2) (sq (opCi (0)) (sq (opLdA 0) (sq (opGetR 7 27) (sq (opLdI 1) (sq opIald (sq (opCi (1)) opisub))))))) 49 := (snd_sq (snd_iload_n (k := 2) (by decide +kernel) rfl) (snd_sq (snd_iconst (k := 0) (by decide) (by decide +kernel)) (snd_sq (snd_aload_n (k := 0) (by decide +kernel) rfl) (snd_sq (snd_getR (ci := 7) (k := 27) (by decide +kernel) rfl (by decide) (by decide) rfl iw_7 w833) (snd_sq (snd_iload_n (k := 1) (by decide +kernel) rfl) (snd_sq (snd_iald (by decide +kernel)) (snd_sq (snd_iconst (k := 1) (by decide) (by decide +kernel)) (snd_isub (by decide +kernel)))))))))
set_option maxRecDepth 20000 in
theorem c_X7_lay_49 : CallS mX7_lay 49 mX7_within 3 := kallS (site_S w903 (by decide +kernel) w901 w902 w97 ⟨by decide, by decide, by decide +kernel⟩) (by decide)
set_option maxRecDepth 20000 in
theorem b_X7_lay_52 : Br_if_ne mX7_lay 52 61 := br_if_ne (off := 9) (by decide +kernel) (by decide)
set_option maxRecDepth 20000 in
theorem s_X7_lay_55 : Snd mX7_lay 55 (sq (opLdA 0) (opCi (3))) 57 := (snd_sq (snd_aload_n (k := 0) (by decide +kernel) rfl) (snd_iconst (k := 3) (by decide) (by decide +kernel)))
set_option maxRecDepth 20000 in
theorem c_X7_lay_57 : CallV mX7_lay 57 mX7_fails 7 2 := kallV (site_V rfl w1155 (by decide +kernel) w1152 w1154 w86 w97 ⟨by decide, by decide, by decide +kernel⟩) (by decide) (by decide) (by unfold clsNo; rfl)
set_option maxRecDepth 20000 in
theorem r_X7_lay_60 : RtI mX7_lay 60 := rt_I (by decide +kernel) rfl
set_option maxRecDepth 20000 in
theorem s_X7_lay_61 : Snd mX7_lay 61 (sq (opLdA 0) (sq (opLdI 3) (sq (opLdA 0) (sq (opGetR 7 26) (sq (opLdI 1) opIald))))) 69 := (snd_sq (snd_aload_n (k := 0) (by decide +kernel) rfl) (snd_sq (snd_iload_n (k := 3) (by decide +kernel) rfl) (snd_sq (snd_aload_n (k := 0) (by decide +kernel) rfl) (snd_sq (snd_getR (ci := 7) (k := 26) (by decide +kernel) rfl (by decide) (by decide) rfl iw_7 w832) (snd_sq (snd_iload_n (k := 1) (by decide +kernel) rfl) (snd_iald (by decide +kernel)))))))
set_option maxRecDepth 20000 in
theorem c_X7_lay_69 : CallV mX7_lay 69 mX7_goesTo 7 3 := kallV (site_V rfl w1191 (by decide +kernel) w1188 w1190 w87 w97 ⟨by decide, by decide, by decide +kernel⟩) (by decide) (by decide) (by unfold clsNo; rfl)
set_option maxRecDepth 20000 in
theorem b_X7_lay_72 : Br_if_ne mX7_lay 72 81 := br_if_ne (off := 9) (by decide +kernel) (by decide)
set_option maxRecDepth 20000 in
theorem s_X7_lay_75 : Snd mX7_lay 75 (sq (opLdA 0) (opCi (2))) 77 := (snd_sq (snd_aload_n (k := 0) (by decide +kernel) rfl) (snd_iconst (k := 2) (by decide) (by decide +kernel)))
set_option maxRecDepth 20000 in
theorem c_X7_lay_77 : CallV mX7_lay 77 mX7_fails 7 2 := kallV (site_V rfl w1155 (by decide +kernel) w1152 w1154 w86 w97 ⟨by decide, by decide, by decide +kernel⟩) (by decide) (by decide) (by unfold clsNo; rfl)
set_option maxRecDepth 20000 in
theorem r_X7_lay_80 : RtI mX7_lay 80 := rt_I (by decide +kernel) rfl
set_option maxRecDepth 20000 in
theorem s_X7_lay_81 : Snd mX7_lay 81 (sq (opLdA 0) (sq (opGetR 7 28) (sq (opCi (8)) (sq (opLdI 1) (sq opimul (sq (opLdI 2) (sq opiadd (sq (opLdI 3) (sq opIast (opCi (1))))))))))) 94 := (snd_sq (snd_aload_n (k := 0) (by decide +kernel) rfl) (snd_sq (snd_getR (ci := 7) (k := 28) (by decide +kernel) rfl (by decide) (by decide) rfl iw_7 w834) (snd_sq (snd_bipush (k := 8) (by decide) (by decide +kernel)) (snd_sq (snd_iload_n (k := 1) (by decide +kernel) rfl) (snd_sq (snd_imul (by decide +kernel)) (snd_sq (snd_iload_n (k := 2) (by decide +kernel) rfl) (snd_sq (snd_iadd (by decide +kernel)) (snd_sq (snd_iload_n (k := 3) (by decide +kernel) rfl) (snd_sq (snd_iast (by decide +kernel)) (snd_iconst (k := 1) (by decide) (by decide +kernel)))))))))))
set_option maxRecDepth 20000 in
theorem r_X7_lay_94 : RtI mX7_lay 94 := rt_I (by decide +kernel) rfl
/-! ClaimChainsModel.take(II)I -/
set_option maxRecDepth 20000 in
theorem s_X7_take_0 : Snd mX7_take 0 (sq (opLdA 0) (sq (opCi (0)) (sq (opPutI 7 0) (opLdI 1)))) 6 := (snd_sq (snd_aload_n (k := 0) (by decide +kernel) rfl) (snd_sq (snd_iconst (k := 0) (by decide) (by decide +kernel)) (snd_sq (snd_putI (ci := 7) (k := 0) (by decide +kernel) rfl (by decide) (by decide) (by decide) iw_7 tyX7_ok nmX7 rfl (tyX7_ok 0 (by decide)) w806) (snd_iload_n (k := 1) (by decide +kernel) rfl))))
set_option maxRecDepth 20000 in
theorem c_X7_take_6 : CallS mX7_take 6 mX7_isBox 1 := kallS (site_S w1151 (by decide +kernel) w1149 w1150 w97 ⟨by decide, by decide, by decide +kernel⟩) (by decide)
set_option maxRecDepth 20000 in
theorem b_X7_take_9 : Br_if_ne mX7_take 9 14 := br_if_ne (off := 5) (by decide +kernel) (by decide)
set_option maxRecDepth 20000 in
theorem s_X7_take_12 : Snd mX7_take 12 (opCi (-1)) 13 := (snd_iconst (k := -1) (by decide) (by decide +kernel))
set_option maxRecDepth 20000 in
theorem r_X7_take_13 : RtI mX7_take 13 := rt_I (by decide +kernel) rfl
set_option maxRecDepth 20000 in
theorem s_X7_take_14 : Snd mX7_take 14 (sq (opLdA 0) (sq (opGetR 7 26) (sq (opLdI 1) (sq opIald (opCi (-9)))))) 22 := (snd_sq (snd_aload_n (k := 0) (by decide +kernel) rfl) (snd_sq (snd_getR (ci := 7) (k := 26) (by decide +kernel) rfl (by decide) (by decide) rfl iw_7 w832) (snd_sq (snd_iload_n (k := 1) (by decide +kernel) rfl) (snd_sq (snd_iald (by decide +kernel)) (snd_bipush (k := -9) (by decide) (by decide +kernel))))))
set_option maxRecDepth 20000 in
theorem b_X7_take_22 : Br_ic_ne mX7_take 22 31 := br_ic_ne (off := 9) (by decide +kernel) (by decide)
set_option maxRecDepth 20000 in
theorem s_X7_take_25 : Snd mX7_take 25 (sq (opLdA 0) (opCi (1))) 27 := (snd_sq (snd_aload_n (k := 0) (by decide +kernel) rfl) (snd_iconst (k := 1) (by decide) (by decide +kernel)))
set_option maxRecDepth 20000 in
theorem c_X7_take_27 : CallV mX7_take 27 mX7_fails 7 2 := kallV (site_V rfl w1155 (by decide +kernel) w1152 w1154 w86 w97 ⟨by decide, by decide, by decide +kernel⟩) (by decide) (by decide) (by unfold clsNo; rfl)
set_option maxRecDepth 20000 in
theorem r_X7_take_30 : RtI mX7_take 30 := rt_I (by decide +kernel) rfl
set_option maxRecDepth 20000 in
theorem s_X7_take_31 : Snd mX7_take 31 (sq (opLdI 2) (sq (opCi (0)) (sq (opLdA 0) (sq (opGetR 7 27) (sq (opLdI 1) (sq opIald (sq (opCi (1)) opisub))))))) 41 := (snd_sq (snd_iload_n (k := 2) (by decide +kernel) rfl) (snd_sq (snd_iconst (k := 0) (by decide) (by decide +kernel)) (snd_sq (snd_aload_n (k := 0) (by decide +kernel) rfl) (snd_sq (snd_getR (ci := 7) (k := 27) (by decide +kernel) rfl (by decide) (by decide) rfl iw_7 w833) (snd_sq (snd_iload_n (k := 1) (by decide +kernel) rfl) (snd_sq (snd_iald (by decide +kernel)) (snd_sq (snd_iconst (k := 1) (by decide) (by decide +kernel)) (snd_isub (by decide +kernel)))))))))
set_option maxRecDepth 20000 in
theorem c_X7_take_41 : CallS mX7_take 41 mX7_within 3 := kallS (site_S w903 (by decide +kernel) w901 w902 w97 ⟨by decide, by decide, by decide +kernel⟩) (by decide)
set_option maxRecDepth 20000 in
theorem b_X7_take_44 : Br_if_eq mX7_take 44 61 := br_if_eq (off := 17) (by decide +kernel) (by decide)
set_option maxRecDepth 20000 in
theorem s_X7_take_47 : Snd mX7_take 47 (sq (opLdA 0) (sq (opGetR 7 28) (sq (opCi (8)) (sq (opLdI 1) (sq opimul (sq (opLdI 2) (sq opiadd (sq opIald opNop)))))))) 66 := (snd_sq (snd_aload_n (k := 0) (by decide +kernel) rfl) (snd_sq (snd_getR (ci := 7) (k := 28) (by decide +kernel) rfl (by decide) (by decide) rfl iw_7 w834) (snd_sq (snd_bipush (k := 8) (by decide) (by decide +kernel)) (snd_sq (snd_iload_n (k := 1) (by decide +kernel) rfl) (snd_sq (snd_imul (by decide +kernel)) (snd_sq (snd_iload_n (k := 2) (by decide +kernel) rfl) (snd_sq (snd_iadd (by decide +kernel)) (snd_sq (snd_iald (by decide +kernel)) (snd_goto (off := 8) (by decide +kernel) (by decide))))))))))
set_option maxRecDepth 20000 in
theorem s_X7_take_61 : Snd mX7_take 61 (sq (opLdA 0) (opCi (3))) 63 := (snd_sq (snd_aload_n (k := 0) (by decide +kernel) rfl) (snd_iconst (k := 3) (by decide) (by decide +kernel)))
set_option maxRecDepth 20000 in
theorem c_X7_take_63 : CallV mX7_take 63 mX7_fails 7 2 := kallV (site_V rfl w1155 (by decide +kernel) w1152 w1154 w86 w97 ⟨by decide, by decide, by decide +kernel⟩) (by decide) (by decide) (by unfold clsNo; rfl)
set_option maxRecDepth 20000 in
theorem r_X7_take_66 : RtI mX7_take 66 := rt_I (by decide +kernel) rfl
/-! ClaimChainsModel.same(II)I -/
set_option maxRecDepth 20000 in
theorem s_X7_same_0 : Snd mX7_same 0 (sq (opLdA 0) (sq (opCi (0)) (sq (opPutI 7 0) (opLdI 1)))) 6 := (snd_sq (snd_aload_n (k := 0) (by decide +kernel) rfl) (snd_sq (snd_iconst (k := 0) (by decide) (by decide +kernel)) (snd_sq (snd_putI (ci := 7) (k := 0) (by decide +kernel) rfl (by decide) (by decide) (by decide) iw_7 tyX7_ok nmX7 rfl (tyX7_ok 0 (by decide)) w806) (snd_iload_n (k := 1) (by decide +kernel) rfl))))
set_option maxRecDepth 20000 in
theorem c_X7_same_6 : CallS mX7_same 6 mX7_isBox 1 := kallS (site_S w1151 (by decide +kernel) w1149 w1150 w97 ⟨by decide, by decide, by decide +kernel⟩) (by decide)
set_option maxRecDepth 20000 in
theorem b_X7_same_9 : Br_if_eq mX7_same 9 19 := br_if_eq (off := 10) (by decide +kernel) (by decide)
set_option maxRecDepth 20000 in
theorem s_X7_same_12 : Snd mX7_same 12 (opLdI 2) 13 := (snd_iload_n (k := 2) (by decide +kernel) rfl)
set_option maxRecDepth 20000 in
theorem c_X7_same_13 : CallS mX7_same 13 mX7_isBox 1 := kallS (site_S w1151 (by decide +kernel) w1149 w1150 w97 ⟨by decide, by decide, by decide +kernel⟩) (by decide)
set_option maxRecDepth 20000 in
theorem b_X7_same_16 : Br_if_ne mX7_same 16 21 := br_if_ne (off := 5) (by decide +kernel) (by decide)
set_option maxRecDepth 20000 in
theorem s_X7_same_19 : Snd mX7_same 19 (opCi (-1)) 20 := (snd_iconst (k := -1) (by decide) (by decide +kernel))
set_option maxRecDepth 20000 in
theorem r_X7_same_20 : RtI mX7_same 20 := rt_I (by decide +kernel) rfl
set_option maxRecDepth 20000 in
theorem s_X7_same_21 : Snd mX7_same 21 (sq (opLdA 0) (sq (opGetR 7 26) (sq (opLdI 2) (sq opIald (opCi (-9)))))) 29 := (snd_sq (snd_aload_n (k := 0) (by decide +kernel) rfl) (snd_sq (snd_getR (ci := 7) (k := 26) (by decide +kernel) rfl (by decide) (by decide) rfl iw_7 w832) (snd_sq (snd_iload_n (k := 2) (by decide +kernel) rfl) (snd_sq (snd_iald (by decide +kernel)) (snd_bipush (k := -9) (by decide) (by decide +kernel))))))
set_option maxRecDepth 20000 in
theorem b_X7_same_29 : Br_ic_ne mX7_same 29 38 := br_ic_ne (off := 9) (by decide +kernel) (by decide)
set_option maxRecDepth 20000 in
theorem s_X7_same_32 : Snd mX7_same 32 (sq (opLdA 0) (opCi (1))) 34 := (snd_sq (snd_aload_n (k := 0) (by decide +kernel) rfl) (snd_iconst (k := 1) (by decide) (by decide +kernel)))
set_option maxRecDepth 20000 in
theorem c_X7_same_34 : CallV mX7_same 34 mX7_fails 7 2 := kallV (site_V rfl w1155 (by decide +kernel) w1152 w1154 w86 w97 ⟨by decide, by decide, by decide +kernel⟩) (by decide) (by decide) (by unfold clsNo; rfl)
set_option maxRecDepth 20000 in
theorem r_X7_same_37 : RtI mX7_same 37 := rt_I (by decide +kernel) rfl
set_option maxRecDepth 20000 in
theorem s_X7_same_38 : Snd mX7_same 38 (sq (opLdA 0) (sq (opGetR 7 26) (sq (opLdI 1) (sq (opLdA 0) (sq (opGetR 7 26) (sq (opLdI 2) (sq opIald (sq opIast (sq (opLdA 0) (sq (opGetR 7 27) (sq (opLdI 1) (sq (opLdA 0) (sq (opGetR 7 27) (sq (opLdI 2) (sq opIald (sq opIast (sq (opCi (0)) (opStI 3)))))))))))))))))) 64 := (snd_sq (snd_aload_n (k := 0) (by decide +kernel) rfl) (snd_sq (snd_getR (ci := 7) (k := 26) (by decide +kernel) rfl (by decide) (by decide) rfl iw_7 w832) (snd_sq (snd_iload_n (k := 1) (by decide +kernel) rfl) (snd_sq (snd_aload_n (k := 0) (by decide +kernel) rfl) (snd_sq (snd_getR (ci := 7) (k := 26) (by decide +kernel) rfl (by decide) (by decide) rfl iw_7 w832) (snd_sq (snd_iload_n (k := 2) (by decide +kernel) rfl) (snd_sq (snd_iald (by decide +kernel)) (snd_sq (snd_iast (by decide +kernel)) (snd_sq (snd_aload_n (k := 0) (by decide +kernel) rfl) (snd_sq (snd_getR (ci := 7) (k := 27) (by decide +kernel) rfl (by decide) (by decide) rfl iw_7 w833) (snd_sq (snd_iload_n (k := 1) (by decide +kernel) rfl) (snd_sq (snd_aload_n (k := 0) (by decide +kernel) rfl) (snd_sq (snd_getR (ci := 7) (k := 27) (by decide +kernel) rfl (by decide) (by decide) rfl iw_7 w833) (snd_sq (snd_iload_n (k := 2) (by decide +kernel) rfl) (snd_sq (snd_iald (by decide +kernel)) (snd_sq (snd_iast (by decide +kernel)) (snd_sq (snd_iconst (k := 0) (by decide) (by decide +kernel)) (snd_istore_n (k := 3) (by decide +kernel) rfl (by decide)))))))))))))))))))
set_option maxRecDepth 20000 in
theorem s_X7_same_64 : Snd mX7_same 64 (sq (opLdI 3) (opCi (8))) 67 := (snd_sq (snd_iload_n (k := 3) (by decide +kernel) rfl) (snd_bipush (k := 8) (by decide) (by decide +kernel)))
set_option maxRecDepth 20000 in
theorem b_X7_same_67 : Br_ic_ge mX7_same 67 98 := br_ic_ge (off := 31) (by decide +kernel) (by decide)
set_option maxRecDepth 20000 in
theorem s_X7_same_70 : Snd mX7_same 70 (sq (opLdA 0) (sq (opGetR 7 28) (sq (opCi (8)) (sq (opLdI 1) (sq opimul (sq (opLdI 3) (sq opiadd (sq (opLdA 0) (sq (opGetR 7 28) (sq (opCi (8)) (sq (opLdI 2) (sq opimul (sq (opLdI 3) (sq opiadd (sq opIald (sq opIast (sq (opInc 3 (1)) opNop))))))))))))))))) 64 := (snd_sq (snd_aload_n (k := 0) (by decide +kernel) rfl) (snd_sq (snd_getR (ci := 7) (k := 28) (by decide +kernel) rfl (by decide) (by decide) rfl iw_7 w834) (snd_sq (snd_bipush (k := 8) (by decide) (by decide +kernel)) (snd_sq (snd_iload_n (k := 1) (by decide +kernel) rfl) (snd_sq (snd_imul (by decide +kernel)) (snd_sq (snd_iload_n (k := 3) (by decide +kernel) rfl) (snd_sq (snd_iadd (by decide +kernel)) (snd_sq (snd_aload_n (k := 0) (by decide +kernel) rfl) (snd_sq (snd_getR (ci := 7) (k := 28) (by decide +kernel) rfl (by decide) (by decide) rfl iw_7 w834) (snd_sq (snd_bipush (k := 8) (by decide) (by decide +kernel)) (snd_sq (snd_iload_n (k := 2) (by decide +kernel) rfl) (snd_sq (snd_imul (by decide +kernel)) (snd_sq (snd_iload_n (k := 3) (by decide +kernel) rfl) (snd_sq (snd_iadd (by decide +kernel)) (snd_sq (snd_iald (by decide +kernel)) (snd_sq (snd_iast (by decide +kernel)) (snd_sq (snd_iinc (k := 1) (by decide +kernel) (by decide) (by decide)) (snd_goto (off := -31) (by decide +kernel) (by decide)))))))))))))))))))
set_option maxRecDepth 20000 in
theorem s_X7_same_98 : Snd mX7_same 98 (sq (opLdA 0) (sq (opGetR 7 27) (sq (opLdI 1) opIald))) 104 := (snd_sq (snd_aload_n (k := 0) (by decide +kernel) rfl) (snd_sq (snd_getR (ci := 7) (k := 27) (by decide +kernel) rfl (by decide) (by decide) rfl iw_7 w833) (snd_sq (snd_iload_n (k := 1) (by decide +kernel) rfl) (snd_iald (by decide +kernel)))))
set_option maxRecDepth 20000 in
theorem r_X7_same_104 : RtI mX7_same 104 := rt_I (by decide +kernel) rfl
/-! ClaimChainsModel.move(IIIII)I -/
set_option maxRecDepth 20000 in
theorem s_X7_move_0 : Snd mX7_move 0 (sq (opLdA 0) (sq (opCi (0)) (sq (opPutI 7 0) (opLdI 1)))) 6 := (snd_sq (snd_aload_n (k := 0) (by decide +kernel) rfl) (snd_sq (snd_iconst (k := 0) (by decide) (by decide +kernel)) (snd_sq (snd_putI (ci := 7) (k := 0) (by decide +kernel) rfl (by decide) (by decide) (by decide) iw_7 tyX7_ok nmX7 rfl (tyX7_ok 0 (by decide)) w806) (snd_iload_n (k := 1) (by decide +kernel) rfl))))
set_option maxRecDepth 20000 in
theorem c_X7_move_6 : CallS mX7_move 6 mX7_isBox 1 := kallS (site_S w1151 (by decide +kernel) w1149 w1150 w97 ⟨by decide, by decide, by decide +kernel⟩) (by decide)
set_option maxRecDepth 20000 in
theorem b_X7_move_9 : Br_if_eq mX7_move 9 19 := br_if_eq (off := 10) (by decide +kernel) (by decide)
set_option maxRecDepth 20000 in
theorem s_X7_move_12 : Snd mX7_move 12 (opLdI 3) 13 := (snd_iload_n (k := 3) (by decide +kernel) rfl)
set_option maxRecDepth 20000 in
theorem c_X7_move_13 : CallS mX7_move 13 mX7_isBox 1 := kallS (site_S w1151 (by decide +kernel) w1149 w1150 w97 ⟨by decide, by decide, by decide +kernel⟩) (by decide)
set_option maxRecDepth 20000 in
theorem b_X7_move_16 : Br_if_ne mX7_move 16 21 := br_if_ne (off := 5) (by decide +kernel) (by decide)
set_option maxRecDepth 20000 in
theorem s_X7_move_19 : Snd mX7_move 19 (opCi (-1)) 20 := (snd_iconst (k := -1) (by decide) (by decide +kernel))
set_option maxRecDepth 20000 in
theorem r_X7_move_20 : RtI mX7_move 20 := rt_I (by decide +kernel) rfl
set_option maxRecDepth 20000 in
theorem s_X7_move_21 : Snd mX7_move 21 (sq (opLdA 0) (sq (opGetR 7 26) (sq (opLdI 1) (sq opIald (opCi (-9)))))) 29 := (snd_sq (snd_aload_n (k := 0) (by decide +kernel) rfl) (snd_sq (snd_getR (ci := 7) (k := 26) (by decide +kernel) rfl (by decide) (by decide) rfl iw_7 w832) (snd_sq (snd_iload_n (k := 1) (by decide +kernel) rfl) (snd_sq (snd_iald (by decide +kernel)) (snd_bipush (k := -9) (by decide) (by decide +kernel))))))
set_option maxRecDepth 20000 in
theorem b_X7_move_29 : Br_ic_eq mX7_move 29 43 := br_ic_eq (off := 14) (by decide +kernel) (by decide)
set_option maxRecDepth 20000 in
theorem s_X7_move_32 : Snd mX7_move 32 (sq (opLdA 0) (sq (opGetR 7 26) (sq (opLdI 3) (sq opIald (opCi (-9)))))) 40 := (snd_sq (snd_aload_n (k := 0) (by decide +kernel) rfl) (snd_sq (snd_getR (ci := 7) (k := 26) (by decide +kernel) rfl (by decide) (by decide) rfl iw_7 w832) (snd_sq (snd_iload_n (k := 3) (by decide +kernel) rfl) (snd_sq (snd_iald (by decide +kernel)) (snd_bipush (k := -9) (by decide) (by decide +kernel))))))
set_option maxRecDepth 20000 in
theorem b_X7_move_40 : Br_ic_ne mX7_move 40 49 := br_ic_ne (off := 9) (by decide +kernel) (by decide)
set_option maxRecDepth 20000 in
theorem s_X7_move_43 : Snd mX7_move 43 (sq (opLdA 0) (opCi (1))) 45 := (snd_sq (snd_aload_n (k := 0) (by decide +kernel) rfl) (snd_iconst (k := 1) (by decide) (by decide +kernel)))
set_option maxRecDepth 20000 in
theorem c_X7_move_45 : CallV mX7_move 45 mX7_fails 7 2 := kallV (site_V rfl w1155 (by decide +kernel) w1152 w1154 w86 w97 ⟨by decide, by decide, by decide +kernel⟩) (by decide) (by decide) (by unfold clsNo; rfl)
set_option maxRecDepth 20000 in
theorem r_X7_move_48 : RtI mX7_move 48 := rt_I (by decide +kernel) rfl
set_option maxRecDepth 20000 in
theorem s_X7_move_49 : Snd mX7_move 49 (opLdI 2) 50 := (snd_iload_n (k := 2) (by decide +kernel) rfl)
set_option maxRecDepth 20000 in
theorem b_X7_move_50 : Br_if_lt mX7_move 50 88 := br_if_lt (off := 38) (by decide +kernel) (by decide)
set_option maxRecDepth 20000 in
theorem s_X7_move_53 : Snd mX7_move 53 (opLdI 4) 55 := (snd_iload (by decide +kernel))
set_option maxRecDepth 20000 in
theorem b_X7_move_55 : Br_if_lt mX7_move 55 88 := br_if_lt (off := 33) (by decide +kernel) (by decide)
set_option maxRecDepth 20000 in
theorem s_X7_move_58 : Snd mX7_move 58 (opLdI 5) 60 := (snd_iload (by decide +kernel))
set_option maxRecDepth 20000 in
theorem b_X7_move_60 : Br_if_lt mX7_move 60 88 := br_if_lt (off := 28) (by decide +kernel) (by decide)
set_option maxRecDepth 20000 in
theorem s_X7_move_63 : Snd mX7_move 63 (sq (opLdI 2) (sq (opLdA 0) (sq (opGetR 7 27) (sq (opLdI 1) opIald)))) 70 := (snd_sq (snd_iload_n (k := 2) (by decide +kernel) rfl) (snd_sq (snd_aload_n (k := 0) (by decide +kernel) rfl) (snd_sq (snd_getR (ci := 7) (k := 27) (by decide +kernel) rfl (by decide) (by decide) rfl iw_7 w833) (snd_sq (snd_iload_n (k := 1) (by decide +kernel) rfl) (snd_iald (by decide +kernel))))))
set_option maxRecDepth 20000 in
theorem b_X7_move_70 : Br_ic_gt mX7_move 70 88 := br_ic_gt (off := 18) (by decide +kernel) (by decide)
set_option maxRecDepth 20000 in
theorem s_X7_move_73 : Snd mX7_move 73 (sq (opLdI 4) (sq (opLdA 0) (sq (opGetR 7 27) (sq (opLdI 3) opIald)))) 81 := (snd_sq (snd_iload (by decide +kernel)) (snd_sq (snd_aload_n (k := 0) (by decide +kernel) rfl) (snd_sq (snd_getR (ci := 7) (k := 27) (by decide +kernel) rfl (by decide) (by decide) rfl iw_7 w833) (snd_sq (snd_iload_n (k := 3) (by decide +kernel) rfl) (snd_iald (by decide +kernel))))))
set_option maxRecDepth 20000 in
theorem b_X7_move_81 : Br_ic_gt mX7_move 81 88 := br_ic_gt (off := 7) (by decide +kernel) (by decide)
set_option maxRecDepth 20000 in
theorem s_X7_move_84 : Snd mX7_move 84 (sq (opCi (1)) opNop) 89 := (snd_sq (snd_iconst (k := 1) (by decide) (by decide +kernel)) (snd_goto (off := 4) (by decide +kernel) (by decide)))
set_option maxRecDepth 20000 in
theorem s_X7_move_88 : Snd mX7_move 88 (opCi (0)) 89 := (snd_iconst (k := 0) (by decide) (by decide +kernel))
set_option maxRecDepth 20000 in
theorem s_X7_move_89 : Snd mX7_move 89 (sq (opStI 6) (opLdI 6)) 93 := (snd_sq (snd_istore (by decide +kernel) (by decide)) (snd_iload (by decide +kernel)))
set_option maxRecDepth 20000 in
theorem b_X7_move_93 : Br_if_eq mX7_move 93 123 := br_if_eq (off := 30) (by decide +kernel) (by decide)
set_option maxRecDepth 20000 in
theorem s_X7_move_96 : Snd mX7_move 96 (sq (opLdI 5) (sq (opLdA 0) (sq (opGetR 7 27) (sq (opLdI 1) (sq opIald (sq (opLdI 2) opisub)))))) 106 := (snd_sq (snd_iload (by decide +kernel)) (snd_sq (snd_aload_n (k := 0) (by decide +kernel) rfl) (snd_sq (snd_getR (ci := 7) (k := 27) (by decide +kernel) rfl (by decide) (by decide) rfl iw_7 w833) (snd_sq (snd_iload_n (k := 1) (by decide +kernel) rfl) (snd_sq (snd_iald (by decide +kernel)) (snd_sq (snd_iload_n (k := 2) (by decide +kernel) rfl) (snd_isub (by decide +kernel))))))))
set_option maxRecDepth 20000 in
theorem b_X7_move_106 : Br_ic_gt mX7_move 106 123 := br_ic_gt (off := 17) (by decide +kernel) (by decide)
set_option maxRecDepth 20000 in
theorem s_X7_move_109 : Snd mX7_move 109 (sq (opLdI 5) (sq (opLdA 0) (sq (opGetR 7 27) (sq (opLdI 3) (sq opIald (sq (opLdI 4) opisub)))))) 120 := (snd_sq (snd_iload (by decide +kernel)) (snd_sq (snd_aload_n (k := 0) (by decide +kernel) rfl) (snd_sq (snd_getR (ci := 7) (k := 27) (by decide +kernel) rfl (by decide) (by decide) rfl iw_7 w833) (snd_sq (snd_iload_n (k := 3) (by decide +kernel) rfl) (snd_sq (snd_iald (by decide +kernel)) (snd_sq (snd_iload (by decide +kernel)) (snd_isub (by decide +kernel))))))))
set_option maxRecDepth 20000 in
theorem b_X7_move_120 : Br_ic_le mX7_move 120 129 := br_ic_le (off := 9) (by decide +kernel) (by decide)
set_option maxRecDepth 20000 in
theorem s_X7_move_123 : Snd mX7_move 123 (sq (opLdA 0) (opCi (3))) 125 := (snd_sq (snd_aload_n (k := 0) (by decide +kernel) rfl) (snd_iconst (k := 3) (by decide) (by decide +kernel)))
set_option maxRecDepth 20000 in
theorem c_X7_move_125 : CallV mX7_move 125 mX7_fails 7 2 := kallV (site_V rfl w1155 (by decide +kernel) w1152 w1154 w86 w97 ⟨by decide, by decide, by decide +kernel⟩) (by decide) (by decide) (by unfold clsNo; rfl)
set_option maxRecDepth 20000 in
theorem r_X7_move_128 : RtI mX7_move 128 := rt_I (by decide +kernel) rfl
set_option maxRecDepth 20000 in
theorem s_X7_move_129 : Snd mX7_move 129 (sq (opCi (0)) (opStI 7)) 132 := (snd_sq (snd_iconst (k := 0) (by decide) (by decide +kernel)) (snd_istore (by decide +kernel) (by decide)))
set_option maxRecDepth 20000 in
theorem s_X7_move_132 : Snd mX7_move 132 (sq (opLdI 7) (opLdI 5)) 136 := (snd_sq (snd_iload (by decide +kernel)) (snd_iload (by decide +kernel)))
set_option maxRecDepth 20000 in
theorem b_X7_move_136 : Br_ic_ge mX7_move 136 166 := br_ic_ge (off := 30) (by decide +kernel) (by decide)
set_option maxRecDepth 20000 in
theorem s_X7_move_139 : Snd mX7_move 139 (sq (opLdA 0) (sq (opGetR 7 29) (sq (opLdI 7) (sq (opLdA 0) (sq (opGetR 7 28) (sq (opCi (8)) (sq (opLdI 1) (sq opimul (sq (opLdI 2) (sq opiadd (sq (opLdI 7) (sq opiadd (sq opIald (sq opIast (sq (opInc 7 (1)) opNop))))))))))))))) 132 := (snd_sq (snd_aload_n (k := 0) (by decide +kernel) rfl) (snd_sq (snd_getR (ci := 7) (k := 29) (by decide +kernel) rfl (by decide) (by decide) rfl iw_7 w835) (snd_sq (snd_iload (by decide +kernel)) (snd_sq (snd_aload_n (k := 0) (by decide +kernel) rfl) (snd_sq (snd_getR (ci := 7) (k := 28) (by decide +kernel) rfl (by decide) (by decide) rfl iw_7 w834) (snd_sq (snd_bipush (k := 8) (by decide) (by decide +kernel)) (snd_sq (snd_iload_n (k := 1) (by decide +kernel) rfl) (snd_sq (snd_imul (by decide +kernel)) (snd_sq (snd_iload_n (k := 2) (by decide +kernel) rfl) (snd_sq (snd_iadd (by decide +kernel)) (snd_sq (snd_iload (by decide +kernel)) (snd_sq (snd_iadd (by decide +kernel)) (snd_sq (snd_iald (by decide +kernel)) (snd_sq (snd_iast (by decide +kernel)) (snd_sq (snd_iinc (k := 1) (by decide +kernel) (by decide) (by decide)) (snd_goto (off := -31) (by decide +kernel) (by decide)))))))))))))))))
set_option maxRecDepth 20000 in
theorem s_X7_move_166 : Snd mX7_move 166 (sq (opCi (0)) (opStI 7)) 169 := (snd_sq (snd_iconst (k := 0) (by decide) (by decide +kernel)) (snd_istore (by decide +kernel) (by decide)))
set_option maxRecDepth 20000 in
theorem s_X7_move_169 : Snd mX7_move 169 (sq (opLdI 7) (opLdI 5)) 173 := (snd_sq (snd_iload (by decide +kernel)) (snd_iload (by decide +kernel)))
set_option maxRecDepth 20000 in
theorem b_X7_move_173 : Br_ic_ge mX7_move 173 230 := br_ic_ge (off := 57) (by decide +kernel) (by decide)
set_option maxRecDepth 20000 in
theorem s_X7_move_176 : Snd mX7_move 176 (sq (opLdA 0) (sq (opLdA 0) (sq (opGetR 7 29) (sq (opLdI 7) (sq opIald (sq (opLdA 0) (sq (opGetR 7 26) (sq (opLdI 3) opIald)))))))) 190 := (snd_sq (snd_aload_n (k := 0) (by decide +kernel) rfl) (snd_sq (snd_aload_n (k := 0) (by decide +kernel) rfl) (snd_sq (snd_getR (ci := 7) (k := 29) (by decide +kernel) rfl (by decide) (by decide) rfl iw_7 w835) (snd_sq (snd_iload (by decide +kernel)) (snd_sq (snd_iald (by decide +kernel)) (snd_sq (snd_aload_n (k := 0) (by decide +kernel) rfl) (snd_sq (snd_getR (ci := 7) (k := 26) (by decide +kernel) rfl (by decide) (by decide) rfl iw_7 w832) (snd_sq (snd_iload_n (k := 3) (by decide +kernel) rfl) (snd_iald (by decide +kernel))))))))))
set_option maxRecDepth 20000 in
theorem c_X7_move_190 : CallV mX7_move 190 mX7_goesTo 7 3 := kallV (site_V rfl w1191 (by decide +kernel) w1188 w1190 w87 w97 ⟨by decide, by decide, by decide +kernel⟩) (by decide) (by decide) (by unfold clsNo; rfl)
set_option maxRecDepth 20000 in
theorem b_X7_move_193 : Br_if_ne mX7_move 193 202 := br_if_ne (off := 9) (by decide +kernel) (by decide)
set_option maxRecDepth 20000 in
theorem s_X7_move_196 : Snd mX7_move 196 (sq (opLdA 0) (opCi (2))) 198 := (snd_sq (snd_aload_n (k := 0) (by decide +kernel) rfl) (snd_iconst (k := 2) (by decide) (by decide +kernel)))
set_option maxRecDepth 20000 in
theorem c_X7_move_198 : CallV mX7_move 198 mX7_fails 7 2 := kallV (site_V rfl w1155 (by decide +kernel) w1152 w1154 w86 w97 ⟨by decide, by decide, by decide +kernel⟩) (by decide) (by decide) (by unfold clsNo; rfl)
set_option maxRecDepth 20000 in
theorem r_X7_move_201 : RtI mX7_move 201 := rt_I (by decide +kernel) rfl
set_option maxRecDepth 20000 in
theorem s_X7_move_202 : Snd mX7_move 202 (sq (opLdA 0) (sq (opGetR 7 28) (sq (opCi (8)) (sq (opLdI 3) (sq opimul (sq (opLdI 4) (sq opiadd (sq (opLdI 7) (sq opiadd (sq (opLdA 0) (sq (opGetR 7 29) (sq (opLdI 7) (sq opIald (sq opIast (sq (opInc 7 (1)) opNop))))))))))))))) 169 := (snd_sq (snd_aload_n (k := 0) (by decide +kernel) rfl) (snd_sq (snd_getR (ci := 7) (k := 28) (by decide +kernel) rfl (by decide) (by decide) rfl iw_7 w834) (snd_sq (snd_bipush (k := 8) (by decide) (by decide +kernel)) (snd_sq (snd_iload_n (k := 3) (by decide +kernel) rfl) (snd_sq (snd_imul (by decide +kernel)) (snd_sq (snd_iload (by decide +kernel)) (snd_sq (snd_iadd (by decide +kernel)) (snd_sq (snd_iload (by decide +kernel)) (snd_sq (snd_iadd (by decide +kernel)) (snd_sq (snd_aload_n (k := 0) (by decide +kernel) rfl) (snd_sq (snd_getR (ci := 7) (k := 29) (by decide +kernel) rfl (by decide) (by decide) rfl iw_7 w835) (snd_sq (snd_iload (by decide +kernel)) (snd_sq (snd_iald (by decide +kernel)) (snd_sq (snd_iast (by decide +kernel)) (snd_sq (snd_iinc (k := 1) (by decide +kernel) (by decide) (by decide)) (snd_goto (off := -58) (by decide +kernel) (by decide)))))))))))))))))
set_option maxRecDepth 20000 in
theorem s_X7_move_230 : Snd mX7_move 230 (opLdI 5) 232 := (snd_iload (by decide +kernel))
set_option maxRecDepth 20000 in
theorem r_X7_move_232 : RtI mX7_move 232 := rt_I (by decide +kernel) rfl
/-! ClaimChainsModel.states(III)I -/
set_option maxRecDepth 20000 in
theorem s_X7_states_0 : Snd mX7_states 0 (sq (opLdA 0) (sq (opCi (0)) (sq (opPutI 7 0) (opLdI 1)))) 6 := (snd_sq (snd_aload_n (k := 0) (by decide +kernel) rfl) (snd_sq (snd_iconst (k := 0) (by decide) (by decide +kernel)) (snd_sq (snd_putI (ci := 7) (k := 0) (by decide +kernel) rfl (by decide) (by decide) (by decide) iw_7 tyX7_ok nmX7 rfl (tyX7_ok 0 (by decide)) w806) (snd_iload_n (k := 1) (by decide +kernel) rfl))))
set_option maxRecDepth 20000 in
theorem c_X7_states_6 : CallS mX7_states 6 mX7_isBox 1 := kallS (site_S w1151 (by decide +kernel) w1149 w1150 w97 ⟨by decide, by decide, by decide +kernel⟩) (by decide)
set_option maxRecDepth 20000 in
theorem b_X7_states_9 : Br_if_ne mX7_states 9 14 := br_if_ne (off := 5) (by decide +kernel) (by decide)
set_option maxRecDepth 20000 in
theorem s_X7_states_12 : Snd mX7_states 12 (opCi (-1)) 13 := (snd_iconst (k := -1) (by decide) (by decide +kernel))
set_option maxRecDepth 20000 in
theorem r_X7_states_13 : RtI mX7_states 13 := rt_I (by decide +kernel) rfl
set_option maxRecDepth 20000 in
theorem s_X7_states_14 : Snd mX7_states 14 (opLdI 2) 15 := (snd_iload_n (k := 2) (by decide +kernel) rfl)
set_option maxRecDepth 20000 in
theorem c_X7_states_15 : CallS mX7_states 15 mX7_isRow 1 := kallS (site_S w957 (by decide +kernel) w955 w956 w97 ⟨by decide, by decide, by decide +kernel⟩) (by decide)
set_option maxRecDepth 20000 in
theorem b_X7_states_18 : Br_if_eq mX7_states 18 30 := br_if_eq (off := 12) (by decide +kernel) (by decide)
set_option maxRecDepth 20000 in
theorem s_X7_states_21 : Snd mX7_states 21 (sq (opLdI 3) (sq (opCi (0)) (opCi (1)))) 24 := (snd_sq (snd_iload_n (k := 3) (by decide +kernel) rfl) (snd_sq (snd_iconst (k := 0) (by decide) (by decide +kernel)) (snd_iconst (k := 1) (by decide) (by decide +kernel))))
set_option maxRecDepth 20000 in
theorem c_X7_states_24 : CallS mX7_states 24 mX7_within 3 := kallS (site_S w903 (by decide +kernel) w901 w902 w97 ⟨by decide, by decide, by decide +kernel⟩) (by decide)
set_option maxRecDepth 20000 in
theorem b_X7_states_27 : Br_if_ne mX7_states 27 33 := br_if_ne (off := 6) (by decide +kernel) (by decide)
set_option maxRecDepth 20000 in
theorem s_X7_states_30 : Snd mX7_states 30 (opCi (-2)) 32 := (snd_bipush (k := -2) (by decide) (by decide +kernel))
set_option maxRecDepth 20000 in
theorem r_X7_states_32 : RtI mX7_states 32 := rt_I (by decide +kernel) rfl
set_option maxRecDepth 20000 in
theorem s_X7_states_33 : Snd mX7_states 33 (sq (opLdA 0) (sq (opGetR 7 26) (sq (opLdI 1) (sq opIald (opCi (-9)))))) 41 := (snd_sq (snd_aload_n (k := 0) (by decide +kernel) rfl) (snd_sq (snd_getR (ci := 7) (k := 26) (by decide +kernel) rfl (by decide) (by decide) rfl iw_7 w832) (snd_sq (snd_iload_n (k := 1) (by decide +kernel) rfl) (snd_sq (snd_iald (by decide +kernel)) (snd_bipush (k := -9) (by decide) (by decide +kernel))))))
set_option maxRecDepth 20000 in
theorem b_X7_states_41 : Br_ic_ne mX7_states 41 50 := br_ic_ne (off := 9) (by decide +kernel) (by decide)
set_option maxRecDepth 20000 in
theorem s_X7_states_44 : Snd mX7_states 44 (sq (opLdA 0) (opCi (1))) 46 := (snd_sq (snd_aload_n (k := 0) (by decide +kernel) rfl) (snd_iconst (k := 1) (by decide) (by decide +kernel)))
set_option maxRecDepth 20000 in
theorem c_X7_states_46 : CallV mX7_states 46 mX7_fails 7 2 := kallV (site_V rfl w1155 (by decide +kernel) w1152 w1154 w86 w97 ⟨by decide, by decide, by decide +kernel⟩) (by decide) (by decide) (by unfold clsNo; rfl)
set_option maxRecDepth 20000 in
theorem r_X7_states_49 : RtI mX7_states 49 := rt_I (by decide +kernel) rfl
set_option maxRecDepth 20000 in
theorem s_X7_states_50 : Snd mX7_states 50 (opLdI 3) 51 := (snd_iload_n (k := 3) (by decide +kernel) rfl)
set_option maxRecDepth 20000 in
theorem b_X7_states_51 : Br_if_ne mX7_states 51 59 := br_if_ne (off := 8) (by decide +kernel) (by decide)
set_option maxRecDepth 20000 in
theorem s_X7_states_54 : Snd mX7_states 54 (sq (opCi (65535)) opNop) 60 := (snd_sq (snd_ldc w1014 (by decide +kernel)) (snd_goto (off := 4) (by decide +kernel) (by decide)))
set_option maxRecDepth 20000 in
theorem s_X7_states_59 : Snd mX7_states 59 (opCi (0)) 60 := (snd_iconst (k := 0) (by decide) (by decide +kernel))
set_option maxRecDepth 20000 in
theorem s_X7_states_60 : Snd mX7_states 60 (sq (opStI 4) (sq (opCi (0)) (opStI 5))) 65 := (snd_sq (snd_istore (by decide +kernel) (by decide)) (snd_sq (snd_iconst (k := 0) (by decide) (by decide +kernel)) (snd_istore (by decide +kernel) (by decide))))
set_option maxRecDepth 20000 in
theorem s_X7_states_65 : Snd mX7_states 65 (sq (opLdI 5) (sq (opLdA 0) (sq (opGetR 7 27) (sq (opLdI 1) opIald)))) 73 := (snd_sq (snd_iload (by decide +kernel)) (snd_sq (snd_aload_n (k := 0) (by decide +kernel) rfl) (snd_sq (snd_getR (ci := 7) (k := 27) (by decide +kernel) rfl (by decide) (by decide) rfl iw_7 w833) (snd_sq (snd_iload_n (k := 1) (by decide +kernel) rfl) (snd_iald (by decide +kernel))))))
set_option maxRecDepth 20000 in
theorem b_X7_states_73 : Br_ic_ge mX7_states 73 132 := br_ic_ge (off := 59) (by decide +kernel) (by decide)
set_option maxRecDepth 20000 in
theorem s_X7_states_76 : Snd mX7_states 76 (sq (opLdA 0) (sq (opGetR 7 28) (sq (opCi (8)) (sq (opLdI 1) (sq opimul (sq (opLdI 5) (sq opiadd (sq opIald (sq (opStI 6) (sq (opLdI 6) (opCi (-9)))))))))))) 94 := (snd_sq (snd_aload_n (k := 0) (by decide +kernel) rfl) (snd_sq (snd_getR (ci := 7) (k := 28) (by decide +kernel) rfl (by decide) (by decide) rfl iw_7 w834) (snd_sq (snd_bipush (k := 8) (by decide) (by decide +kernel)) (snd_sq (snd_iload_n (k := 1) (by decide +kernel) rfl) (snd_sq (snd_imul (by decide +kernel)) (snd_sq (snd_iload (by decide +kernel)) (snd_sq (snd_iadd (by decide +kernel)) (snd_sq (snd_iald (by decide +kernel)) (snd_sq (snd_istore (by decide +kernel) (by decide)) (snd_sq (snd_iload (by decide +kernel)) (snd_bipush (k := -9) (by decide) (by decide +kernel))))))))))))
set_option maxRecDepth 20000 in
theorem b_X7_states_94 : Br_ic_eq mX7_states 94 126 := br_ic_eq (off := 32) (by decide +kernel) (by decide)
set_option maxRecDepth 20000 in
theorem s_X7_states_97 : Snd mX7_states 97 (opLdI 3) 98 := (snd_iload_n (k := 3) (by decide +kernel) rfl)
set_option maxRecDepth 20000 in
theorem b_X7_states_98 : Br_if_ne mX7_states 98 114 := br_if_ne (off := 16) (by decide +kernel) (by decide)
set_option maxRecDepth 20000 in
theorem s_X7_states_101 : Snd mX7_states 101 (sq (opLdI 4) (sq (opLdA 0) (sq (opLdI 6) (opLdI 2)))) 107 := (snd_sq (snd_iload (by decide +kernel)) (snd_sq (snd_aload_n (k := 0) (by decide +kernel) rfl) (snd_sq (snd_iload (by decide +kernel)) (snd_iload_n (k := 2) (by decide +kernel) rfl))))
set_option maxRecDepth 20000 in
theorem c_X7_states_107 : CallV mX7_states 107 mX7_holdsOf 7 3 := kallV (site_V rfl w965 (by decide +kernel) w962 w964 w60 w97 ⟨by decide, by decide, by decide +kernel⟩) (by decide) (by decide) (by unfold clsNo; rfl)
set_option maxRecDepth 20000 in
theorem s_X7_states_110 : Snd mX7_states 110 (sq opiand opNop) 124 := (snd_sq (snd_iand (by decide +kernel)) (snd_goto (off := 13) (by decide +kernel) (by decide)))
set_option maxRecDepth 20000 in
theorem s_X7_states_114 : Snd mX7_states 114 (sq (opLdI 4) (sq (opLdA 0) (sq (opLdI 6) (opLdI 2)))) 120 := (snd_sq (snd_iload (by decide +kernel)) (snd_sq (snd_aload_n (k := 0) (by decide +kernel) rfl) (snd_sq (snd_iload (by decide +kernel)) (snd_iload_n (k := 2) (by decide +kernel) rfl))))
set_option maxRecDepth 20000 in
theorem c_X7_states_120 : CallV mX7_states 120 mX7_holdsOf 7 3 := kallV (site_V rfl w965 (by decide +kernel) w962 w964 w60 w97 ⟨by decide, by decide, by decide +kernel⟩) (by decide) (by decide) (by unfold clsNo; rfl)
set_option maxRecDepth 20000 in
theorem s_X7_states_123 : Snd mX7_states 123 opior 124 := (snd_ior (by decide +kernel))
set_option maxRecDepth 20000 in
theorem s_X7_states_124 : Snd mX7_states 124 (opStI 4) 126 := (snd_istore (by decide +kernel) (by decide))
set_option maxRecDepth 20000 in
theorem s_X7_states_126 : Snd mX7_states 126 (sq (opInc 5 (1)) opNop) 65 := (snd_sq (snd_iinc (k := 1) (by decide +kernel) (by decide) (by decide)) (snd_goto (off := -64) (by decide +kernel) (by decide)))
set_option maxRecDepth 20000 in
theorem s_X7_states_132 : Snd mX7_states 132 (opLdI 4) 134 := (snd_iload (by decide +kernel))
set_option maxRecDepth 20000 in
theorem r_X7_states_134 : RtI mX7_states 134 := rt_I (by decide +kernel) rfl
/-! ClaimChainsModel.lose(I)I -/
set_option maxRecDepth 20000 in
theorem s_X7_lose_0 : Snd mX7_lose 0 (opLdI 1) 1 := (snd_iload_n (k := 1) (by decide +kernel) rfl)
set_option maxRecDepth 20000 in
theorem c_X7_lose_1 : CallS mX7_lose 1 mX7_isBox 1 := kallS (site_S w1151 (by decide +kernel) w1149 w1150 w97 ⟨by decide, by decide, by decide +kernel⟩) (by decide)
set_option maxRecDepth 20000 in
theorem b_X7_lose_4 : Br_if_ne mX7_lose 4 9 := br_if_ne (off := 5) (by decide +kernel) (by decide)
set_option maxRecDepth 20000 in
theorem s_X7_lose_7 : Snd mX7_lose 7 (opCi (-1)) 8 := (snd_iconst (k := -1) (by decide) (by decide +kernel))
set_option maxRecDepth 20000 in
theorem r_X7_lose_8 : RtI mX7_lose 8 := rt_I (by decide +kernel) rfl
set_option maxRecDepth 20000 in
theorem s_X7_lose_9 : Snd mX7_lose 9 (sq (opLdA 0) (sq (opGetR 7 26) (sq (opLdI 1) (sq opIald (opCi (-9)))))) 17 := (snd_sq (snd_aload_n (k := 0) (by decide +kernel) rfl) (snd_sq (snd_getR (ci := 7) (k := 26) (by decide +kernel) rfl (by decide) (by decide) rfl iw_7 w832) (snd_sq (snd_iload_n (k := 1) (by decide +kernel) rfl) (snd_sq (snd_iald (by decide +kernel)) (snd_bipush (k := -9) (by decide) (by decide +kernel))))))
set_option maxRecDepth 20000 in
theorem b_X7_lose_17 : Br_ic_ne mX7_lose 17 24 := br_ic_ne (off := 7) (by decide +kernel) (by decide)
set_option maxRecDepth 20000 in
theorem s_X7_lose_20 : Snd mX7_lose 20 (sq (opCi (0)) opNop) 25 := (snd_sq (snd_iconst (k := 0) (by decide) (by decide +kernel)) (snd_goto (off := 4) (by decide +kernel) (by decide)))
set_option maxRecDepth 20000 in
theorem s_X7_lose_24 : Snd mX7_lose 24 (opCi (1)) 25 := (snd_iconst (k := 1) (by decide) (by decide +kernel))
set_option maxRecDepth 20000 in
theorem s_X7_lose_25 : Snd mX7_lose 25 (sq (opStI 2) (sq (opLdA 0) (sq (opGetR 7 26) (sq (opLdI 1) (sq (opCi (-9)) (sq opIast (opLdI 2))))))) 35 := (snd_sq (snd_istore_n (k := 2) (by decide +kernel) rfl (by decide)) (snd_sq (snd_aload_n (k := 0) (by decide +kernel) rfl) (snd_sq (snd_getR (ci := 7) (k := 26) (by decide +kernel) rfl (by decide) (by decide) rfl iw_7 w832) (snd_sq (snd_iload_n (k := 1) (by decide +kernel) rfl) (snd_sq (snd_bipush (k := -9) (by decide) (by decide +kernel)) (snd_sq (snd_iast (by decide +kernel)) (snd_iload_n (k := 2) (by decide +kernel) rfl)))))))
set_option maxRecDepth 20000 in
theorem r_X7_lose_35 : RtI mX7_lose 35 := rt_I (by decide +kernel) rfl
/-! ClaimChainsModel.fault()I -/
set_option maxRecDepth 20000 in
theorem s_X7_fault_0 : Snd mX7_fault 0 (sq (opLdA 0) (opGetI 7 0)) 4 := (snd_sq (snd_aload_n (k := 0) (by decide +kernel) rfl) (snd_getI (ci := 7) (k := 0) (by decide +kernel) rfl (by decide) (by decide) (by decide) iw_7 w806))
set_option maxRecDepth 20000 in
theorem r_X7_fault_4 : RtI mX7_fault 4 := rt_I (by decide +kernel) rfl
/-! ClaimChainsModel.manyBoxes()I -/
set_option maxRecDepth 20000 in
theorem s_X7_manyBoxes_0 : Snd mX7_manyBoxes 0 (sq (opCi (0)) (sq (opStI 1) (sq (opCi (0)) (opStI 2)))) 4 := (snd_sq (snd_iconst (k := 0) (by decide) (by decide +kernel)) (snd_sq (snd_istore_n (k := 1) (by decide +kernel) rfl (by decide)) (snd_sq (snd_iconst (k := 0) (by decide) (by decide +kernel)) (snd_istore_n (k := 2) (by decide +kernel) rfl (by decide)))))
set_option maxRecDepth 20000 in
theorem s_X7_manyBoxes_4 : Snd mX7_manyBoxes 4 (sq (opLdI 2) (opCi (4))) 6 := (snd_sq (snd_iload_n (k := 2) (by decide +kernel) rfl) (snd_iconst (k := 4) (by decide) (by decide +kernel)))
set_option maxRecDepth 20000 in
theorem b_X7_manyBoxes_6 : Br_ic_ge mX7_manyBoxes 6 34 := br_ic_ge (off := 28) (by decide +kernel) (by decide)
set_option maxRecDepth 20000 in
theorem s_X7_manyBoxes_9 : Snd mX7_manyBoxes 9 (sq (opLdI 1) (sq (opLdA 0) (sq (opGetR 7 26) (sq (opLdI 2) (sq opIald (opCi (-9))))))) 18 := (snd_sq (snd_iload_n (k := 1) (by decide +kernel) rfl) (snd_sq (snd_aload_n (k := 0) (by decide +kernel) rfl) (snd_sq (snd_getR (ci := 7) (k := 26) (by decide +kernel) rfl (by decide) (by decide) rfl iw_7 w832) (snd_sq (snd_iload_n (k := 2) (by decide +kernel) rfl) (snd_sq (snd_iald (by decide +kernel)) (snd_bipush (k := -9) (by decide) (by decide +kernel)))))))
set_option maxRecDepth 20000 in
theorem b_X7_manyBoxes_18 : Br_ic_ne mX7_manyBoxes 18 25 := br_ic_ne (off := 7) (by decide +kernel) (by decide)
set_option maxRecDepth 20000 in
theorem s_X7_manyBoxes_21 : Snd mX7_manyBoxes 21 (sq (opCi (0)) opNop) 26 := (snd_sq (snd_iconst (k := 0) (by decide) (by decide +kernel)) (snd_goto (off := 4) (by decide +kernel) (by decide)))
set_option maxRecDepth 20000 in
theorem s_X7_manyBoxes_25 : Snd mX7_manyBoxes 25 (opCi (1)) 26 := (snd_iconst (k := 1) (by decide) (by decide +kernel))
set_option maxRecDepth 20000 in
theorem s_X7_manyBoxes_26 : Snd mX7_manyBoxes 26 (sq opiadd (sq (opStI 1) (sq (opInc 2 (1)) opNop))) 4 := (snd_sq (snd_iadd (by decide +kernel)) (snd_sq (snd_istore_n (k := 1) (by decide +kernel) rfl (by decide)) (snd_sq (snd_iinc (k := 1) (by decide +kernel) (by decide) (by decide)) (snd_goto (off := -27) (by decide +kernel) (by decide)))))
set_option maxRecDepth 20000 in
theorem s_X7_manyBoxes_34 : Snd mX7_manyBoxes 34 (opLdI 1) 35 := (snd_iload_n (k := 1) (by decide +kernel) rfl)
set_option maxRecDepth 20000 in
theorem r_X7_manyBoxes_35 : RtI mX7_manyBoxes 35 := rt_I (by decide +kernel) rfl
/-! ClaimChainsModel.many(I)I -/
set_option maxRecDepth 20000 in
theorem s_X7_many_0 : Snd mX7_many 0 (opLdI 1) 1 := (snd_iload_n (k := 1) (by decide +kernel) rfl)
set_option maxRecDepth 20000 in
theorem hw_X7_many_1 : decode (MI.bytes mX7_many) 1 = .ok (.tableswitch 78 0 5 #[39, 44, 49, 57, 65, 73], 39) := by decide +kernel
set_option maxRecDepth 20000 in
theorem w_X7_many_1 {d cap : Nat} {L : LT} {x : Int32} {st : List Value} {n : Nat} {R : RT} {I : IT} {J : JT} {Q : QT} (k0 : x = 0 → Ends mX7_many d cap 40 L st n R I J Q) (k1 : x = 1 → Ends mX7_many d cap 45 L st n R I J Q) (k2 : x = 2 → Ends mX7_many d cap 50 L st n R I J Q) (k3 : x = 3 → Ends mX7_many d cap 58 L st n R I J Q) (k4 : x = 4 → Ends mX7_many d cap 66 L st n R I J Q) (k5 : x = 5 → Ends mX7_many d cap 74 L st n R I J Q) (kd : ¬ x = 0 → ¬ x = 1 → ¬ x = 2 → ¬ x = 3 → ¬ x = 4 → ¬ x = 5 → Ends mX7_many d cap 79 L st n R I J Q) : Ends mX7_many d cap 1 L (.int x :: st) n R I J Q := by
  by_cases h0 : x.toInt < 0 ∨ 5 < x.toInt
  · exact sw_out hw_X7_many_1 h0 (by decide) (kd (fun h => by subst h; revert h0; decide) (fun h => by subst h; revert h0; decide) (fun h => by subst h; revert h0; decide) (fun h => by subst h; revert h0; decide) (fun h => by subst h; revert h0; decide) (fun h => by subst h; revert h0; decide))
  · have h1 : x.toInt = 0 ∨ x.toInt = 1 ∨ x.toInt = 2 ∨ x.toInt = 3 ∨ x.toInt = 4 ∨ x.toInt = 5 := by omega
    rcases h1 with h1 | h1 | h1 | h1 | h1 | h1
    · have h2 : x = 0 := i32_of h1 (by decide)
      subst h2
      exact sw_in (off := 39) hw_X7_many_1 (by decide) (by decide) (by decide +kernel) (by decide) (k0 rfl)
    · have h2 : x = 1 := i32_of h1 (by decide)
      subst h2
      exact sw_in (off := 44) hw_X7_many_1 (by decide) (by decide) (by decide +kernel) (by decide) (k1 rfl)
    · have h2 : x = 2 := i32_of h1 (by decide)
      subst h2
      exact sw_in (off := 49) hw_X7_many_1 (by decide) (by decide) (by decide +kernel) (by decide) (k2 rfl)
    · have h2 : x = 3 := i32_of h1 (by decide)
      subst h2
      exact sw_in (off := 57) hw_X7_many_1 (by decide) (by decide) (by decide +kernel) (by decide) (k3 rfl)
    · have h2 : x = 4 := i32_of h1 (by decide)
      subst h2
      exact sw_in (off := 65) hw_X7_many_1 (by decide) (by decide) (by decide +kernel) (by decide) (k4 rfl)
    · have h2 : x = 5 := i32_of h1 (by decide)
      subst h2
      exact sw_in (off := 73) hw_X7_many_1 (by decide) (by decide) (by decide +kernel) (by decide) (k5 rfl)
set_option maxRecDepth 20000 in
theorem s_X7_many_40 : Snd mX7_many 40 (sq (opLdA 0) (opGetI 7 1)) 44 := (snd_sq (snd_aload_n (k := 0) (by decide +kernel) rfl) (snd_getI (ci := 7) (k := 1) (by decide +kernel) rfl (by decide) (by decide) (by decide) iw_7 w807))
set_option maxRecDepth 20000 in
theorem r_X7_many_44 : RtI mX7_many 44 := rt_I (by decide +kernel) rfl
set_option maxRecDepth 20000 in
theorem s_X7_many_45 : Snd mX7_many 45 (sq (opLdA 0) (opGetI 7 16)) 49 := (snd_sq (snd_aload_n (k := 0) (by decide +kernel) rfl) (snd_getI (ci := 7) (k := 16) (by decide +kernel) rfl (by decide) (by decide) (by decide) iw_7 w822))
set_option maxRecDepth 20000 in
theorem r_X7_many_49 : RtI mX7_many 49 := rt_I (by decide +kernel) rfl
set_option maxRecDepth 20000 in
theorem s_X7_many_50 : Snd mX7_many 50 (opLdA 0) 51 := (snd_aload_n (k := 0) (by decide +kernel) rfl)
set_option maxRecDepth 20000 in
theorem c_X7_many_51 : CallV mX7_many 51 mX7_startSet 7 1 := kallV (site_V rfl w1013 (by decide +kernel) w1010 w1012 w65 w97 ⟨by decide, by decide, by decide +kernel⟩) (by decide) (by decide) (by unfold clsNo; rfl)
set_option maxRecDepth 20000 in
theorem c_X7_many_54 : CallS mX7_many 54 mX7_sizeOf 1 := kallS (site_S w1025 (by decide +kernel) w1023 w1024 w97 ⟨by decide, by decide, by decide +kernel⟩) (by decide)
set_option maxRecDepth 20000 in
theorem r_X7_many_57 : RtI mX7_many 57 := rt_I (by decide +kernel) rfl
set_option maxRecDepth 20000 in
theorem s_X7_many_58 : Snd mX7_many 58 (opLdA 0) 59 := (snd_aload_n (k := 0) (by decide +kernel) rfl)
set_option maxRecDepth 20000 in
theorem c_X7_many_59 : CallV mX7_many 59 mX7_brokenSet 7 1 := kallV (site_V rfl w1037 (by decide +kernel) w1034 w1036 w69 w97 ⟨by decide, by decide, by decide +kernel⟩) (by decide) (by decide) (by unfold clsNo; rfl)
set_option maxRecDepth 20000 in
theorem c_X7_many_62 : CallS mX7_many 62 mX7_sizeOf 1 := kallS (site_S w1025 (by decide +kernel) w1023 w1024 w97 ⟨by decide, by decide, by decide +kernel⟩) (by decide)
set_option maxRecDepth 20000 in
theorem r_X7_many_65 : RtI mX7_many 65 := rt_I (by decide +kernel) rfl
set_option maxRecDepth 20000 in
theorem s_X7_many_66 : Snd mX7_many 66 (opLdA 0) 67 := (snd_aload_n (k := 0) (by decide +kernel) rfl)
set_option maxRecDepth 20000 in
theorem c_X7_many_67 : CallV mX7_many 67 mX7_goodSet 7 1 := kallV (site_V rfl w1081 (by decide +kernel) w1078 w1080 w75 w97 ⟨by decide, by decide, by decide +kernel⟩) (by decide) (by decide) (by unfold clsNo; rfl)
set_option maxRecDepth 20000 in
theorem c_X7_many_70 : CallS mX7_many 70 mX7_sizeOf 1 := kallS (site_S w1025 (by decide +kernel) w1023 w1024 w97 ⟨by decide, by decide, by decide +kernel⟩) (by decide)
set_option maxRecDepth 20000 in
theorem r_X7_many_73 : RtI mX7_many 73 := rt_I (by decide +kernel) rfl
set_option maxRecDepth 20000 in
theorem s_X7_many_74 : Snd mX7_many 74 (opLdA 0) 75 := (snd_aload_n (k := 0) (by decide +kernel) rfl)
set_option maxRecDepth 20000 in
theorem c_X7_many_75 : CallV mX7_many 75 mX7_manyBoxes 7 1 := kallV (site_V rfl w1223 (by decide +kernel) w1220 w1222 w88 w97 ⟨by decide, by decide, by decide +kernel⟩) (by decide) (by decide) (by unfold clsNo; rfl)
set_option maxRecDepth 20000 in
theorem r_X7_many_78 : RtI mX7_many 78 := rt_I (by decide +kernel) rfl
set_option maxRecDepth 20000 in
theorem s_X7_many_79 : Snd mX7_many 79 (opCi (-2)) 81 := (snd_bipush (k := -2) (by decide) (by decide +kernel))
set_option maxRecDepth 20000 in
theorem r_X7_many_81 : RtI mX7_many 81 := rt_I (by decide +kernel) rfl
