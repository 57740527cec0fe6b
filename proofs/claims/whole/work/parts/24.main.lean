/-! ClaimChains.<init>()V -/
set_option maxRecDepth 20000 in
theorem s_X6_init_0 : Snd mX6_init 0 (opLdA 0) 1 := (snd_aload_n (k := 0) (by decide +kernel) rfl)
set_option maxRecDepth 20000 in
theorem o_X6_init_1 : OIn mX6_init 1 := fun h1 h2 => e_oinit (by decide +kernel) w105 w106 w107 h1 h2
set_option maxRecDepth 20000 in
theorem s_X6_init_4 : Snd mX6_init 4 (opLdA 0) 5 := (snd_aload_n (k := 0) (by decide +kernel) rfl)
set_option maxRecDepth 20000 in
theorem n_X6_init_5 : NewO mX6_init 5 4 10 := fun h1 h2 h3 h4 => e_new (ci := 4) (by decide +kernel) rfl (by decide) iw_4 tyX4_ok w108 w109 w91 (by decide +kernel) h1 h2 h3 h4
set_option maxRecDepth 20000 in
theorem s_X6_init_8 : Snd mX6_init 8 opDup 9 := (snd_dup (by decide +kernel))
set_option maxRecDepth 20000 in
theorem i_X6_init_9 : Site mX6_init 9 mX4_init true 1 := site_IN rfl rfl w112 (by decide +kernel) w110 w111 w91 ⟨by decide, by decide, by decide +kernel⟩
set_option maxRecDepth 20000 in
theorem s_X6_init_12 : Snd mX6_init 12 (sq (opPutR 6 0) (opLdA 0)) 16 := (snd_sq (snd_putR (ci := 6) (k := 0) (by decide +kernel) rfl (by decide) (by decide) rfl iw_6 tyX6_ok nmX6 rfl rfl rfl (tyX6_ok 0 (by decide)) (fun _ => rfl) (fun _ => rfl) w354) (snd_aload_n (k := 0) (by decide +kernel) rfl))
set_option maxRecDepth 20000 in
theorem n_X6_init_16 : NewO mX6_init 16 3 15 := fun h1 h2 h3 h4 => e_new (ci := 3) (by decide +kernel) rfl (by decide) iw_3 tyX3_ok w160 w161 w92 (by decide +kernel) h1 h2 h3 h4
set_option maxRecDepth 20000 in
theorem s_X6_init_19 : Snd mX6_init 19 (sq opDup (sq (opLdA 0) (opGetR 6 0))) 24 := (snd_sq (snd_dup (by decide +kernel)) (snd_sq (snd_aload_n (k := 0) (by decide +kernel) rfl) (snd_getR (ci := 6) (k := 0) (by decide +kernel) rfl (by decide) (by decide) rfl iw_6 w354)))
set_option maxRecDepth 20000 in
theorem i_X6_init_24 : Site mX6_init 24 mX3_init true 2 := site_IN rfl rfl w164 (by decide +kernel) w162 w163 w92 ⟨by decide, by decide, by decide +kernel⟩
set_option maxRecDepth 20000 in
theorem s_X6_init_27 : Snd mX6_init 27 (sq (opPutR 6 1) (opLdA 0)) 31 := (snd_sq (snd_putR (ci := 6) (k := 1) (by decide +kernel) rfl (by decide) (by decide) rfl iw_6 tyX6_ok nmX6 rfl rfl rfl (tyX6_ok 1 (by decide)) (fun _ => rfl) (fun _ => rfl) w355) (snd_aload_n (k := 0) (by decide +kernel) rfl))
set_option maxRecDepth 20000 in
theorem n_X6_init_31 : NewO mX6_init 31 2 5 := fun h1 h2 h3 h4 => e_new (ci := 2) (by decide +kernel) rfl (by decide) iw_2 tyX2_ok w254 w255 w93 (by decide +kernel) h1 h2 h3 h4
set_option maxRecDepth 20000 in
theorem s_X6_init_34 : Snd mX6_init 34 (sq opDup (sq (opLdA 0) (opGetR 6 1))) 39 := (snd_sq (snd_dup (by decide +kernel)) (snd_sq (snd_aload_n (k := 0) (by decide +kernel) rfl) (snd_getR (ci := 6) (k := 1) (by decide +kernel) rfl (by decide) (by decide) rfl iw_6 w355)))
set_option maxRecDepth 20000 in
theorem i_X6_init_39 : Site mX6_init 39 mX2_init true 2 := site_IN rfl rfl w258 (by decide +kernel) w256 w257 w93 ⟨by decide, by decide, by decide +kernel⟩
set_option maxRecDepth 20000 in
theorem s_X6_init_42 : Snd mX6_init 42 (sq (opPutR 6 2) (opLdA 0)) 46 := (snd_sq (snd_putR (ci := 6) (k := 2) (by decide +kernel) rfl (by decide) (by decide) rfl iw_6 tyX6_ok nmX6 rfl rfl rfl (tyX6_ok 2 (by decide)) (fun _ => rfl) (fun _ => rfl) w356) (snd_aload_n (k := 0) (by decide +kernel) rfl))
set_option maxRecDepth 20000 in
theorem n_X6_init_46 : NewO mX6_init 46 1 10 := fun h1 h2 h3 h4 => e_new (ci := 1) (by decide +kernel) rfl (by decide) iw_1 tyX1_ok w280 w281 w94 (by decide +kernel) h1 h2 h3 h4
set_option maxRecDepth 20000 in
theorem s_X6_init_49 : Snd mX6_init 49 (sq opDup (sq (opLdA 0) (sq (opGetR 6 1) (sq (opLdA 0) (opGetR 6 2))))) 58 := (snd_sq (snd_dup (by decide +kernel)) (snd_sq (snd_aload_n (k := 0) (by decide +kernel) rfl) (snd_sq (snd_getR (ci := 6) (k := 1) (by decide +kernel) rfl (by decide) (by decide) rfl iw_6 w355) (snd_sq (snd_aload_n (k := 0) (by decide +kernel) rfl) (snd_getR (ci := 6) (k := 2) (by decide +kernel) rfl (by decide) (by decide) rfl iw_6 w356)))))
set_option maxRecDepth 20000 in
theorem i_X6_init_58 : Site mX6_init 58 mX1_init true 3 := site_IN rfl rfl w284 (by decide +kernel) w282 w283 w94 ⟨by decide, by decide, by decide +kernel⟩
set_option maxRecDepth 20000 in
theorem s_X6_init_61 : Snd mX6_init 61 (sq (opPutR 6 3) (opLdA 0)) 65 := (snd_sq (snd_putR (ci := 6) (k := 3) (by decide +kernel) rfl (by decide) (by decide) rfl iw_6 tyX6_ok nmX6 rfl rfl rfl (tyX6_ok 3 (by decide)) (fun _ => rfl) (fun _ => rfl) w357) (snd_aload_n (k := 0) (by decide +kernel) rfl))
set_option maxRecDepth 20000 in
theorem n_X6_init_65 : NewO mX6_init 65 5 3 := fun h1 h2 h3 h4 => e_new (ci := 5) (by decide +kernel) rfl (by decide) iw_5 tyX5_ok w319 w320 w95 (by decide +kernel) h1 h2 h3 h4
set_option maxRecDepth 20000 in
theorem s_X6_init_68 : Snd mX6_init 68 (sq opDup (sq (opLdA 0) (opGetR 6 1))) 73 := (snd_sq (snd_dup (by decide +kernel)) (snd_sq (snd_aload_n (k := 0) (by decide +kernel) rfl) (snd_getR (ci := 6) (k := 1) (by decide +kernel) rfl (by decide) (by decide) rfl iw_6 w355)))
set_option maxRecDepth 20000 in
theorem i_X6_init_73 : Site mX6_init 73 mX5_init true 2 := site_IN rfl rfl w323 (by decide +kernel) w321 w322 w95 ⟨by decide, by decide, by decide +kernel⟩
set_option maxRecDepth 20000 in
theorem s_X6_init_76 : Snd mX6_init 76 (sq (opPutR 6 4) (sq (opLdA 0) (opCi (4)))) 81 := (snd_sq (snd_putR (ci := 6) (k := 4) (by decide +kernel) rfl (by decide) (by decide) rfl iw_6 tyX6_ok nmX6 rfl rfl rfl (tyX6_ok 4 (by decide)) (fun _ => rfl) (fun _ => rfl) w358) (snd_sq (snd_aload_n (k := 0) (by decide +kernel) rfl) (snd_iconst (k := 4) (by decide) (by decide +kernel))))
set_option maxRecDepth 20000 in
theorem n_X6_init_81 : NewA mX6_init 81 3 102 := fun h1 h2 h3 h4 h5 h6 h7 => e_newB (by decide +kernel) w335 h1 h2 h3 h4 h5 h6 h7
set_option maxRecDepth 20000 in
theorem s_X6_init_84 : Snd mX6_init 84 (sq (opPutR 6 5) (sq (opCi (0)) (opStI 1))) 89 := (snd_sq (snd_putR (ci := 6) (k := 5) (by decide +kernel) rfl (by decide) (by decide) rfl iw_6 tyX6_ok nmX6 rfl rfl rfl (tyX6_ok 5 (by decide)) (fun _ => rfl) (fun _ => rfl) w359) (snd_sq (snd_iconst (k := 0) (by decide) (by decide +kernel)) (snd_istore_n (k := 1) (by decide +kernel) rfl (by decide))))
set_option maxRecDepth 20000 in
theorem s_X6_init_89 : Snd mX6_init 89 (sq (opLdI 1) (opCi (4))) 91 := (snd_sq (snd_iload_n (k := 1) (by decide +kernel) rfl) (snd_iconst (k := 4) (by decide) (by decide +kernel)))
set_option maxRecDepth 20000 in
theorem b_X6_init_91 : Br_ic_ge mX6_init 91 113 := br_ic_ge (off := 22) (by decide +kernel) (by decide)
set_option maxRecDepth 20000 in
theorem s_X6_init_94 : Snd mX6_init 94 (sq (opLdA 0) (sq (opGetR 6 5) (opLdI 1))) 99 := (snd_sq (snd_aload_n (k := 0) (by decide +kernel) rfl) (snd_sq (snd_getR (ci := 6) (k := 5) (by decide +kernel) rfl (by decide) (by decide) rfl iw_6 w359) (snd_iload_n (k := 1) (by decide +kernel) rfl)))
set_option maxRecDepth 20000 in
theorem n_X6_init_99 : NewO mX6_init 99 0 3 := fun h1 h2 h3 h4 => e_new (ci := 0) (by decide +kernel) rfl (by decide) iw_0 tyX0_ok w335 w337 w96 (by decide +kernel) h1 h2 h3 h4
set_option maxRecDepth 20000 in
theorem s_X6_init_102 : Snd mX6_init 102 opDup 103 := (snd_dup (by decide +kernel))
set_option maxRecDepth 20000 in
theorem i_X6_init_103 : Site mX6_init 103 mX0_init true 1 := site_IN rfl rfl w340 (by decide +kernel) w338 w339 w96 ⟨by decide, by decide, by decide +kernel⟩
set_option maxRecDepth 20000 in
theorem s_X6_init_106 : Snd mX6_init 106 (sq opAast (sq (opInc 1 (1)) opNop)) 89 := (snd_sq (snd_aast (by decide +kernel)) (snd_sq (snd_iinc (k := 1) (by decide +kernel) (by decide) (by decide)) (snd_goto (off := -21) (by decide +kernel) (by decide))))
set_option maxRecDepth 20000 in
theorem s_X6_init_113 : Snd mX6_init 113 (sq (opLdA 0) (opCi (8))) 116 := (snd_sq (snd_aload_n (k := 0) (by decide +kernel) rfl) (snd_bipush (k := 8) (by decide) (by decide +kernel)))
set_option maxRecDepth 20000 in
theorem n_X6_init_116 : NewA mX6_init 116 2 100 := fun h1 h2 h3 h4 h5 h6 h7 => e_newI (by decide +kernel) w158 h1 h2 h3 h4 h5 h6 h7
set_option maxRecDepth 20000 in
theorem s_X6_init_118 : Snd mX6_init 118 (sq (opPutR 6 6) (sq (opLdA 0) (sq (opCi (0)) (opPutI 6 7)))) 126 := (snd_sq (snd_putR (ci := 6) (k := 6) (by decide +kernel) rfl (by decide) (by decide) rfl iw_6 tyX6_ok nmX6 rfl rfl rfl (tyX6_ok 6 (by decide)) (fun _ => rfl) (fun _ => rfl) w360) (snd_sq (snd_aload_n (k := 0) (by decide +kernel) rfl) (snd_sq (snd_iconst (k := 0) (by decide) (by decide +kernel)) (snd_putI (ci := 6) (k := 7) (by decide +kernel) rfl (by decide) (by decide) (by decide) iw_6 tyX6_ok nmX6 rfl (tyX6_ok 7 (by decide)) w361))))
set_option maxRecDepth 20000 in
theorem r_X6_init_126 : RtV mX6_init 126 := rt_V (by decide +kernel) rfl
/-! ClaimChains.leaf(II)I -/
set_option maxRecDepth 20000 in
theorem s_X6_leaf_0 : Snd mX6_leaf 0 (opLdI 1) 1 := (snd_iload_n (k := 1) (by decide +kernel) rfl)
set_option maxRecDepth 20000 in
theorem b_X6_leaf_1 : Br_if_lt mX6_leaf 1 9 := br_if_lt (off := 8) (by decide +kernel) (by decide)
set_option maxRecDepth 20000 in
theorem s_X6_leaf_4 : Snd mX6_leaf 4 (sq (opLdI 1) (opCi (2))) 6 := (snd_sq (snd_iload_n (k := 1) (by decide +kernel) rfl) (snd_iconst (k := 2) (by decide) (by decide +kernel)))
set_option maxRecDepth 20000 in
theorem b_X6_leaf_6 : Br_ic_le mX6_leaf 6 12 := br_ic_le (off := 6) (by decide +kernel) (by decide)
set_option maxRecDepth 20000 in
theorem s_X6_leaf_9 : Snd mX6_leaf 9 (opCi (-2)) 11 := (snd_bipush (k := -2) (by decide) (by decide +kernel))
set_option maxRecDepth 20000 in
theorem r_X6_leaf_11 : RtI mX6_leaf 11 := rt_I (by decide +kernel) rfl
set_option maxRecDepth 20000 in
theorem s_X6_leaf_12 : Snd mX6_leaf 12 (opLdI 2) 13 := (snd_iload_n (k := 2) (by decide +kernel) rfl)
set_option maxRecDepth 20000 in
theorem b_X6_leaf_13 : Br_if_lt mX6_leaf 13 25 := br_if_lt (off := 12) (by decide +kernel) (by decide)
set_option maxRecDepth 20000 in
theorem s_X6_leaf_16 : Snd mX6_leaf 16 (sq (opLdI 2) (sq (opGets 0) (sq (opLdI 1) opIaldS))) 22 := (snd_sq (snd_iload_n (k := 2) (by decide +kernel) rfl) (snd_sq (snd_gets (j := 0) (by decide) (by decide +kernel) w383) (snd_sq (snd_iload_n (k := 1) (by decide +kernel) rfl) (snd_ialdS (by decide +kernel)))))
set_option maxRecDepth 20000 in
theorem b_X6_leaf_22 : Br_ic_lt mX6_leaf 22 28 := br_ic_lt (off := 6) (by decide +kernel) (by decide)
set_option maxRecDepth 20000 in
theorem s_X6_leaf_25 : Snd mX6_leaf 25 (opCi (-2)) 27 := (snd_bipush (k := -2) (by decide) (by decide +kernel))
set_option maxRecDepth 20000 in
theorem r_X6_leaf_27 : RtI mX6_leaf 27 := rt_I (by decide +kernel) rfl
set_option maxRecDepth 20000 in
theorem s_X6_leaf_28 : Snd mX6_leaf 28 (sq (opLdA 0) (sq (opGetR 6 0) (sq (opLdI 1) (sq (opLdI 2) (sq (opCi (-9)) (opCi (-9))))))) 38 := (snd_sq (snd_aload_n (k := 0) (by decide +kernel) rfl) (snd_sq (snd_getR (ci := 6) (k := 0) (by decide +kernel) rfl (by decide) (by decide) rfl iw_6 w354) (snd_sq (snd_iload_n (k := 1) (by decide +kernel) rfl) (snd_sq (snd_iload_n (k := 2) (by decide +kernel) rfl) (snd_sq (snd_bipush (k := -9) (by decide) (by decide +kernel)) (snd_bipush (k := -9) (by decide) (by decide +kernel)))))))
set_option maxRecDepth 20000 in
theorem c_X6_leaf_38 : CallV mX6_leaf 38 mX4_elderOrNew 4 5 := kallV (site_VN rfl w388 (by decide +kernel) w385 w387 w6 w91 ⟨by decide, by decide, by decide +kernel⟩) (by decide) (by decide) (by unfold clsNo; rfl)
set_option maxRecDepth 20000 in
theorem r_X6_leaf_41 : RtI mX6_leaf 41 := rt_I (by decide +kernel) rfl
/-! ClaimChains.gate(III)I -/
set_option maxRecDepth 20000 in
theorem s_X6_gate_0 : Snd mX6_gate 0 (sq (opLdI 1) (opCi (3))) 2 := (snd_sq (snd_iload_n (k := 1) (by decide +kernel) rfl) (snd_iconst (k := 3) (by decide) (by decide +kernel)))
set_option maxRecDepth 20000 in
theorem b_X6_gate_2 : Br_ic_lt mX6_gate 2 11 := br_ic_lt (off := 9) (by decide +kernel) (by decide)
set_option maxRecDepth 20000 in
theorem s_X6_gate_5 : Snd mX6_gate 5 (sq (opLdI 1) (opCi (6))) 8 := (snd_sq (snd_iload_n (k := 1) (by decide +kernel) rfl) (snd_bipush (k := 6) (by decide) (by decide +kernel)))
set_option maxRecDepth 20000 in
theorem b_X6_gate_8 : Br_ic_le mX6_gate 8 14 := br_ic_le (off := 6) (by decide +kernel) (by decide)
set_option maxRecDepth 20000 in
theorem s_X6_gate_11 : Snd mX6_gate 11 (opCi (-2)) 13 := (snd_bipush (k := -2) (by decide) (by decide +kernel))
set_option maxRecDepth 20000 in
theorem r_X6_gate_13 : RtI mX6_gate 13 := rt_I (by decide +kernel) rfl
set_option maxRecDepth 20000 in
theorem s_X6_gate_14 : Snd mX6_gate 14 (sq (opLdA 0) (sq (opGetR 6 0) (opLdI 2))) 19 := (snd_sq (snd_aload_n (k := 0) (by decide +kernel) rfl) (snd_sq (snd_getR (ci := 6) (k := 0) (by decide +kernel) rfl (by decide) (by decide) rfl iw_6 w354) (snd_iload_n (k := 2) (by decide +kernel) rfl)))
set_option maxRecDepth 20000 in
theorem c_X6_gate_19 : CallV mX6_gate 19 mX4_has 4 2 := kallV (site_VN rfl w178 (by decide +kernel) w429 w177 w2 w91 ⟨by decide, by decide, by decide +kernel⟩) (by decide) (by decide) (by unfold clsNo; rfl)
set_option maxRecDepth 20000 in
theorem b_X6_gate_22 : Br_if_ne mX6_gate 22 27 := br_if_ne (off := 5) (by decide +kernel) (by decide)
set_option maxRecDepth 20000 in
theorem s_X6_gate_25 : Snd mX6_gate 25 (opCi (-1)) 26 := (snd_iconst (k := -1) (by decide) (by decide +kernel))
set_option maxRecDepth 20000 in
theorem r_X6_gate_26 : RtI mX6_gate 26 := rt_I (by decide +kernel) rfl
set_option maxRecDepth 20000 in
theorem s_X6_gate_27 : Snd mX6_gate 27 (sq (opLdI 1) (opCi (3))) 29 := (snd_sq (snd_iload_n (k := 1) (by decide +kernel) rfl) (snd_iconst (k := 3) (by decide) (by decide +kernel)))
set_option maxRecDepth 20000 in
theorem b_X6_gate_29 : Br_ic_ne mX6_gate 29 46 := br_ic_ne (off := 17) (by decide +kernel) (by decide)
set_option maxRecDepth 20000 in
theorem s_X6_gate_32 : Snd mX6_gate 32 (sq (opLdA 0) (sq (opGetR 6 0) (sq (opCi (3)) (sq (opLdI 2) (sq (opCi (-9)) (opCi (-9))))))) 42 := (snd_sq (snd_aload_n (k := 0) (by decide +kernel) rfl) (snd_sq (snd_getR (ci := 6) (k := 0) (by decide +kernel) rfl (by decide) (by decide) rfl iw_6 w354) (snd_sq (snd_iconst (k := 3) (by decide) (by decide +kernel)) (snd_sq (snd_iload_n (k := 2) (by decide +kernel) rfl) (snd_sq (snd_bipush (k := -9) (by decide) (by decide +kernel)) (snd_bipush (k := -9) (by decide) (by decide +kernel)))))))
set_option maxRecDepth 20000 in
theorem c_X6_gate_42 : CallV mX6_gate 42 mX4_elderOrNew 4 5 := kallV (site_VN rfl w388 (by decide +kernel) w385 w387 w6 w91 ⟨by decide, by decide, by decide +kernel⟩) (by decide) (by decide) (by unfold clsNo; rfl)
set_option maxRecDepth 20000 in
theorem r_X6_gate_45 : RtI mX6_gate 45 := rt_I (by decide +kernel) rfl
set_option maxRecDepth 20000 in
theorem s_X6_gate_46 : Snd mX6_gate 46 (sq (opLdA 0) (sq (opGetR 6 0) (opLdI 3))) 51 := (snd_sq (snd_aload_n (k := 0) (by decide +kernel) rfl) (snd_sq (snd_getR (ci := 6) (k := 0) (by decide +kernel) rfl (by decide) (by decide) rfl iw_6 w354) (snd_iload_n (k := 3) (by decide +kernel) rfl)))
set_option maxRecDepth 20000 in
theorem c_X6_gate_51 : CallV mX6_gate 51 mX4_has 4 2 := kallV (site_VN rfl w178 (by decide +kernel) w429 w177 w2 w91 ⟨by decide, by decide, by decide +kernel⟩) (by decide) (by decide) (by unfold clsNo; rfl)
set_option maxRecDepth 20000 in
theorem b_X6_gate_54 : Br_if_ne mX6_gate 54 59 := br_if_ne (off := 5) (by decide +kernel) (by decide)
set_option maxRecDepth 20000 in
theorem s_X6_gate_57 : Snd mX6_gate 57 (opCi (-1)) 58 := (snd_iconst (k := -1) (by decide) (by decide +kernel))
set_option maxRecDepth 20000 in
theorem r_X6_gate_58 : RtI mX6_gate 58 := rt_I (by decide +kernel) rfl
set_option maxRecDepth 20000 in
theorem s_X6_gate_59 : Snd mX6_gate 59 (sq (opLdA 0) (sq (opGetR 6 0) (sq (opLdI 1) (sq (opLdI 2) (sq (opLdI 3) (opCi (-9))))))) 68 := (snd_sq (snd_aload_n (k := 0) (by decide +kernel) rfl) (snd_sq (snd_getR (ci := 6) (k := 0) (by decide +kernel) rfl (by decide) (by decide) rfl iw_6 w354) (snd_sq (snd_iload_n (k := 1) (by decide +kernel) rfl) (snd_sq (snd_iload_n (k := 2) (by decide +kernel) rfl) (snd_sq (snd_iload_n (k := 3) (by decide +kernel) rfl) (snd_bipush (k := -9) (by decide) (by decide +kernel)))))))
set_option maxRecDepth 20000 in
theorem c_X6_gate_68 : CallV mX6_gate 68 mX4_elderOrNew 4 5 := kallV (site_VN rfl w388 (by decide +kernel) w385 w387 w6 w91 ⟨by decide, by decide, by decide +kernel⟩) (by decide) (by decide) (by unfold clsNo; rfl)
set_option maxRecDepth 20000 in
theorem r_X6_gate_71 : RtI mX6_gate 71 := rt_I (by decide +kernel) rfl
/-! ClaimChains.choice(III)I -/
set_option maxRecDepth 20000 in
theorem s_X6_choice_0 : Snd mX6_choice 0 (sq (opLdA 0) (sq (opGetR 6 0) (opLdI 1))) 5 := (snd_sq (snd_aload_n (k := 0) (by decide +kernel) rfl) (snd_sq (snd_getR (ci := 6) (k := 0) (by decide +kernel) rfl (by decide) (by decide) rfl iw_6 w354) (snd_iload_n (k := 1) (by decide +kernel) rfl)))
set_option maxRecDepth 20000 in
theorem c_X6_choice_5 : CallV mX6_choice 5 mX4_has 4 2 := kallV (site_VN rfl w178 (by decide +kernel) w429 w177 w2 w91 ⟨by decide, by decide, by decide +kernel⟩) (by decide) (by decide) (by unfold clsNo; rfl)
set_option maxRecDepth 20000 in
theorem b_X6_choice_8 : Br_if_eq mX6_choice 8 33 := br_if_eq (off := 25) (by decide +kernel) (by decide)
set_option maxRecDepth 20000 in
theorem s_X6_choice_11 : Snd mX6_choice 11 (sq (opLdA 0) (sq (opGetR 6 0) (opLdI 2))) 16 := (snd_sq (snd_aload_n (k := 0) (by decide +kernel) rfl) (snd_sq (snd_getR (ci := 6) (k := 0) (by decide +kernel) rfl (by decide) (by decide) rfl iw_6 w354) (snd_iload_n (k := 2) (by decide +kernel) rfl)))
set_option maxRecDepth 20000 in
theorem c_X6_choice_16 : CallV mX6_choice 16 mX4_has 4 2 := kallV (site_VN rfl w178 (by decide +kernel) w429 w177 w2 w91 ⟨by decide, by decide, by decide +kernel⟩) (by decide) (by decide) (by unfold clsNo; rfl)
set_option maxRecDepth 20000 in
theorem b_X6_choice_19 : Br_if_eq mX6_choice 19 33 := br_if_eq (off := 14) (by decide +kernel) (by decide)
set_option maxRecDepth 20000 in
theorem s_X6_choice_22 : Snd mX6_choice 22 (sq (opLdA 0) (sq (opGetR 6 0) (opLdI 3))) 27 := (snd_sq (snd_aload_n (k := 0) (by decide +kernel) rfl) (snd_sq (snd_getR (ci := 6) (k := 0) (by decide +kernel) rfl (by decide) (by decide) rfl iw_6 w354) (snd_iload_n (k := 3) (by decide +kernel) rfl)))
set_option maxRecDepth 20000 in
theorem c_X6_choice_27 : CallV mX6_choice 27 mX4_has 4 2 := kallV (site_VN rfl w178 (by decide +kernel) w429 w177 w2 w91 ⟨by decide, by decide, by decide +kernel⟩) (by decide) (by decide) (by unfold clsNo; rfl)
set_option maxRecDepth 20000 in
theorem b_X6_choice_30 : Br_if_ne mX6_choice 30 35 := br_if_ne (off := 5) (by decide +kernel) (by decide)
set_option maxRecDepth 20000 in
theorem s_X6_choice_33 : Snd mX6_choice 33 (opCi (-1)) 34 := (snd_iconst (k := -1) (by decide) (by decide +kernel))
set_option maxRecDepth 20000 in
theorem r_X6_choice_34 : RtI mX6_choice 34 := rt_I (by decide +kernel) rfl
set_option maxRecDepth 20000 in
theorem s_X6_choice_35 : Snd mX6_choice 35 (sq (opLdA 0) (sq (opGetR 6 0) (sq (opCi (7)) (sq (opLdI 1) (sq (opLdI 2) (opLdI 3)))))) 44 := (snd_sq (snd_aload_n (k := 0) (by decide +kernel) rfl) (snd_sq (snd_getR (ci := 6) (k := 0) (by decide +kernel) rfl (by decide) (by decide) rfl iw_6 w354) (snd_sq (snd_bipush (k := 7) (by decide) (by decide +kernel)) (snd_sq (snd_iload_n (k := 1) (by decide +kernel) rfl) (snd_sq (snd_iload_n (k := 2) (by decide +kernel) rfl) (snd_iload_n (k := 3) (by decide +kernel) rfl))))))
set_option maxRecDepth 20000 in
theorem c_X6_choice_44 : CallV mX6_choice 44 mX4_elderOrNew 4 5 := kallV (site_VN rfl w388 (by decide +kernel) w385 w387 w6 w91 ⟨by decide, by decide, by decide +kernel⟩) (by decide) (by decide) (by unfold clsNo; rfl)
set_option maxRecDepth 20000 in
theorem r_X6_choice_47 : RtI mX6_choice 47 := rt_I (by decide +kernel) rfl
/-! ClaimChains.ofTerm(II)I -/
set_option maxRecDepth 20000 in
theorem s_X6_ofTerm_0 : Snd mX6_ofTerm 0 (sq (opLdA 0) (sq (opGetR 6 0) (opLdI 1))) 5 := (snd_sq (snd_aload_n (k := 0) (by decide +kernel) rfl) (snd_sq (snd_getR (ci := 6) (k := 0) (by decide +kernel) rfl (by decide) (by decide) rfl iw_6 w354) (snd_iload_n (k := 1) (by decide +kernel) rfl)))
set_option maxRecDepth 20000 in
theorem c_X6_ofTerm_5 : CallV mX6_ofTerm 5 mX4_has 4 2 := kallV (site_VN rfl w178 (by decide +kernel) w429 w177 w2 w91 ⟨by decide, by decide, by decide +kernel⟩) (by decide) (by decide) (by unfold clsNo; rfl)
set_option maxRecDepth 20000 in
theorem b_X6_ofTerm_8 : Br_if_ne mX6_ofTerm 8 13 := br_if_ne (off := 5) (by decide +kernel) (by decide)
set_option maxRecDepth 20000 in
theorem s_X6_ofTerm_11 : Snd mX6_ofTerm 11 (opCi (-1)) 12 := (snd_iconst (k := -1) (by decide) (by decide +kernel))
set_option maxRecDepth 20000 in
theorem r_X6_ofTerm_12 : RtI mX6_ofTerm 12 := rt_I (by decide +kernel) rfl
set_option maxRecDepth 20000 in
theorem s_X6_ofTerm_13 : Snd mX6_ofTerm 13 (opLdI 2) 14 := (snd_iload_n (k := 2) (by decide +kernel) rfl)
set_option maxRecDepth 20000 in
theorem hw_X6_ofTerm_14 : decode (MI.bytes mX6_ofTerm) 14 = .ok (.tableswitch 112 0 6 #[42, 52, 62, 72, 82, 92, 102], 42) := by decide +kernel
set_option maxRecDepth 20000 in
theorem w_X6_ofTerm_14 {d cap : Nat} {L : LT} {x : Int32} {st : List Value} {n : Nat} {R : RT} {I : IT} {J : JT} {Q : QT} (k0 : x = 0 → Ends mX6_ofTerm d cap 56 L st n R I J Q) (k1 : x = 1 → Ends mX6_ofTerm d cap 66 L st n R I J Q) (k2 : x = 2 → Ends mX6_ofTerm d cap 76 L st n R I J Q) (k3 : x = 3 → Ends mX6_ofTerm d cap 86 L st n R I J Q) (k4 : x = 4 → Ends mX6_ofTerm d cap 96 L st n R I J Q) (k5 : x = 5 → Ends mX6_ofTerm d cap 106 L st n R I J Q) (k6 : x = 6 → Ends mX6_ofTerm d cap 116 L st n R I J Q) (kd : ¬ x = 0 → ¬ x = 1 → ¬ x = 2 → ¬ x = 3 → ¬ x = 4 → ¬ x = 5 → ¬ x = 6 → Ends mX6_ofTerm d cap 126 L st n R I J Q) : Ends mX6_ofTerm d cap 14 L (.int x :: st) n R I J Q := by
  by_cases h0 : x.toInt < 0 ∨ 6 < x.toInt
  · exact sw_out hw_X6_ofTerm_14 h0 (by decide) (kd (fun h => by subst h; revert h0; decide) (fun h => by subst h; revert h0; decide) (fun h => by subst h; revert h0; decide) (fun h => by subst h; revert h0; decide) (fun h => by subst h; revert h0; decide) (fun h => by subst h; revert h0; decide) (fun h => by subst h; revert h0; decide))
  · have h1 : x.toInt = 0 ∨ x.toInt = 1 ∨ x.toInt = 2 ∨ x.toInt = 3 ∨ x.toInt = 4 ∨ x.toInt = 5 ∨ x.toInt = 6 := by omega
    rcases h1 with h1 | h1 | h1 | h1 | h1 | h1 | h1
    · have h2 : x = 0 := i32_of h1 (by decide)
      subst h2
      exact sw_in (off := 42) hw_X6_ofTerm_14 (by decide) (by decide) (by decide +kernel) (by decide) (k0 rfl)
    · have h2 : x = 1 := i32_of h1 (by decide)
      subst h2
      exact sw_in (off := 52) hw_X6_ofTerm_14 (by decide) (by decide) (by decide +kernel) (by decide) (k1 rfl)
    · have h2 : x = 2 := i32_of h1 (by decide)
      subst h2
      exact sw_in (off := 62) hw_X6_ofTerm_14 (by decide) (by decide) (by decide +kernel) (by decide) (k2 rfl)
    · have h2 : x = 3 := i32_of h1 (by decide)
      subst h2
      exact sw_in (off := 72) hw_X6_ofTerm_14 (by decide) (by decide) (by decide +kernel) (by decide) (k3 rfl)
    · have h2 : x = 4 := i32_of h1 (by decide)
      subst h2
      exact sw_in (off := 82) hw_X6_ofTerm_14 (by decide) (by decide) (by decide +kernel) (by decide) (k4 rfl)
    · have h2 : x = 5 := i32_of h1 (by decide)
      subst h2
      exact sw_in (off := 92) hw_X6_ofTerm_14 (by decide) (by decide) (by decide +kernel) (by decide) (k5 rfl)
    · have h2 : x = 6 := i32_of h1 (by decide)
      subst h2
      exact sw_in (off := 102) hw_X6_ofTerm_14 (by decide) (by decide) (by decide +kernel) (by decide) (k6 rfl)
set_option maxRecDepth 20000 in
theorem s_X6_ofTerm_56 : Snd mX6_ofTerm 56 (sq (opLdA 0) (sq (opGetR 6 0) (sq (opGetR 4 0) (sq (opLdI 1) opIald)))) 65 := (snd_sq (snd_aload_n (k := 0) (by decide +kernel) rfl) (snd_sq (snd_getR (ci := 6) (k := 0) (by decide +kernel) rfl (by decide) (by decide) rfl iw_6 w354) (snd_sq (snd_getRN (ci := 4) (k := 0) (by decide +kernel) rfl (by decide) (by decide) rfl iw_4 w115) (snd_sq (snd_iload_n (k := 1) (by decide +kernel) rfl) (snd_iald (by decide +kernel))))))
set_option maxRecDepth 20000 in
theorem r_X6_ofTerm_65 : RtI mX6_ofTerm 65 := rt_I (by decide +kernel) rfl
set_option maxRecDepth 20000 in
theorem s_X6_ofTerm_66 : Snd mX6_ofTerm 66 (sq (opLdA 0) (sq (opGetR 6 0) (sq (opGetR 4 1) (sq (opLdI 1) opIald)))) 75 := (snd_sq (snd_aload_n (k := 0) (by decide +kernel) rfl) (snd_sq (snd_getR (ci := 6) (k := 0) (by decide +kernel) rfl (by decide) (by decide) rfl iw_6 w354) (snd_sq (snd_getRN (ci := 4) (k := 1) (by decide +kernel) rfl (by decide) (by decide) rfl iw_4 w117) (snd_sq (snd_iload_n (k := 1) (by decide +kernel) rfl) (snd_iald (by decide +kernel))))))
set_option maxRecDepth 20000 in
theorem r_X6_ofTerm_75 : RtI mX6_ofTerm 75 := rt_I (by decide +kernel) rfl
set_option maxRecDepth 20000 in
theorem s_X6_ofTerm_76 : Snd mX6_ofTerm 76 (sq (opLdA 0) (sq (opGetR 6 0) (sq (opGetR 4 2) (sq (opLdI 1) opIald)))) 85 := (snd_sq (snd_aload_n (k := 0) (by decide +kernel) rfl) (snd_sq (snd_getR (ci := 6) (k := 0) (by decide +kernel) rfl (by decide) (by decide) rfl iw_6 w354) (snd_sq (snd_getRN (ci := 4) (k := 2) (by decide +kernel) rfl (by decide) (by decide) rfl iw_4 w119) (snd_sq (snd_iload_n (k := 1) (by decide +kernel) rfl) (snd_iald (by decide +kernel))))))
set_option maxRecDepth 20000 in
theorem r_X6_ofTerm_85 : RtI mX6_ofTerm 85 := rt_I (by decide +kernel) rfl
set_option maxRecDepth 20000 in
theorem s_X6_ofTerm_86 : Snd mX6_ofTerm 86 (sq (opLdA 0) (sq (opGetR 6 0) (sq (opGetR 4 3) (sq (opLdI 1) opIald)))) 95 := (snd_sq (snd_aload_n (k := 0) (by decide +kernel) rfl) (snd_sq (snd_getR (ci := 6) (k := 0) (by decide +kernel) rfl (by decide) (by decide) rfl iw_6 w354) (snd_sq (snd_getRN (ci := 4) (k := 3) (by decide +kernel) rfl (by decide) (by decide) rfl iw_4 w121) (snd_sq (snd_iload_n (k := 1) (by decide +kernel) rfl) (snd_iald (by decide +kernel))))))
set_option maxRecDepth 20000 in
theorem r_X6_ofTerm_95 : RtI mX6_ofTerm 95 := rt_I (by decide +kernel) rfl
set_option maxRecDepth 20000 in
theorem s_X6_ofTerm_96 : Snd mX6_ofTerm 96 (sq (opLdA 0) (sq (opGetR 6 0) (sq (opGetR 4 4) (sq (opLdI 1) opIald)))) 105 := (snd_sq (snd_aload_n (k := 0) (by decide +kernel) rfl) (snd_sq (snd_getR (ci := 6) (k := 0) (by decide +kernel) rfl (by decide) (by decide) rfl iw_6 w354) (snd_sq (snd_getRN (ci := 4) (k := 4) (by decide +kernel) rfl (by decide) (by decide) rfl iw_4 w123) (snd_sq (snd_iload_n (k := 1) (by decide +kernel) rfl) (snd_iald (by decide +kernel))))))
set_option maxRecDepth 20000 in
theorem r_X6_ofTerm_105 : RtI mX6_ofTerm 105 := rt_I (by decide +kernel) rfl
set_option maxRecDepth 20000 in
theorem s_X6_ofTerm_106 : Snd mX6_ofTerm 106 (sq (opLdA 0) (sq (opGetR 6 0) (sq (opGetR 4 5) (sq (opLdI 1) opIald)))) 115 := (snd_sq (snd_aload_n (k := 0) (by decide +kernel) rfl) (snd_sq (snd_getR (ci := 6) (k := 0) (by decide +kernel) rfl (by decide) (by decide) rfl iw_6 w354) (snd_sq (snd_getRN (ci := 4) (k := 5) (by decide +kernel) rfl (by decide) (by decide) rfl iw_4 w126) (snd_sq (snd_iload_n (k := 1) (by decide +kernel) rfl) (snd_iald (by decide +kernel))))))
set_option maxRecDepth 20000 in
theorem r_X6_ofTerm_115 : RtI mX6_ofTerm 115 := rt_I (by decide +kernel) rfl
set_option maxRecDepth 20000 in
theorem s_X6_ofTerm_116 : Snd mX6_ofTerm 116 (sq (opLdA 0) (sq (opGetR 6 0) (sq (opGetR 4 6) (sq (opLdI 1) opIald)))) 125 := (snd_sq (snd_aload_n (k := 0) (by decide +kernel) rfl) (snd_sq (snd_getR (ci := 6) (k := 0) (by decide +kernel) rfl (by decide) (by decide) rfl iw_6 w354) (snd_sq (snd_getRN (ci := 4) (k := 6) (by decide +kernel) rfl (by decide) (by decide) rfl iw_4 w129) (snd_sq (snd_iload_n (k := 1) (by decide +kernel) rfl) (snd_iald (by decide +kernel))))))
set_option maxRecDepth 20000 in
theorem r_X6_ofTerm_125 : RtI mX6_ofTerm 125 := rt_I (by decide +kernel) rfl
set_option maxRecDepth 20000 in
theorem s_X6_ofTerm_126 : Snd mX6_ofTerm 126 (opCi (-2)) 128 := (snd_bipush (k := -2) (by decide) (by decide +kernel))
set_option maxRecDepth 20000 in
theorem r_X6_ofTerm_128 : RtI mX6_ofTerm 128 := rt_I (by decide +kernel) rfl
/-! ClaimChains.leaves(I)J -/
set_option maxRecDepth 20000 in
theorem s_X6_leaves_0 : Snd mX6_leaves 0 (sq (opLdA 0) (sq (opGetR 6 0) (opLdI 1))) 5 := (snd_sq (snd_aload_n (k := 0) (by decide +kernel) rfl) (snd_sq (snd_getR (ci := 6) (k := 0) (by decide +kernel) rfl (by decide) (by decide) rfl iw_6 w354) (snd_iload_n (k := 1) (by decide +kernel) rfl)))
set_option maxRecDepth 20000 in
theorem c_X6_leaves_5 : CallV mX6_leaves 5 mX4_has 4 2 := kallV (site_VN rfl w178 (by decide +kernel) w429 w177 w2 w91 ⟨by decide, by decide, by decide +kernel⟩) (by decide) (by decide) (by unfold clsNo; rfl)
set_option maxRecDepth 20000 in
theorem b_X6_leaves_8 : Br_if_eq mX6_leaves 8 23 := br_if_eq (off := 15) (by decide +kernel) (by decide)
set_option maxRecDepth 20000 in
theorem s_X6_leaves_11 : Snd mX6_leaves 11 (sq (opLdA 0) (sq (opGetR 6 0) (sq (opGetR 4 7) (sq (opLdI 1) (sq opLald opNop))))) 26 := (snd_sq (snd_aload_n (k := 0) (by decide +kernel) rfl) (snd_sq (snd_getR (ci := 6) (k := 0) (by decide +kernel) rfl (by decide) (by decide) rfl iw_6 w354) (snd_sq (snd_getRN (ci := 4) (k := 7) (by decide +kernel) rfl (by decide) (by decide) rfl iw_4 w131) (snd_sq (snd_iload_n (k := 1) (by decide +kernel) rfl) (snd_sq (snd_lald (by decide +kernel)) (snd_goto (off := 6) (by decide +kernel) (by decide)))))))
set_option maxRecDepth 20000 in
theorem s_X6_leaves_23 : Snd mX6_leaves 23 (opCl (-9223372036854775808)) 26 := (snd_ldc2 w442 (by decide +kernel))
set_option maxRecDepth 20000 in
theorem r_X6_leaves_26 : RtL mX6_leaves 26 := rt_L (by decide +kernel) rfl
/-! ClaimChains.value(III)I -/
set_option maxRecDepth 20000 in
theorem s_X6_value_0 : Snd mX6_value 0 (sq (opLdA 0) (sq (opGetR 6 0) (opLdI 1))) 5 := (snd_sq (snd_aload_n (k := 0) (by decide +kernel) rfl) (snd_sq (snd_getR (ci := 6) (k := 0) (by decide +kernel) rfl (by decide) (by decide) rfl iw_6 w354) (snd_iload_n (k := 1) (by decide +kernel) rfl)))
set_option maxRecDepth 20000 in
theorem c_X6_value_5 : CallV mX6_value 5 mX4_has 4 2 := kallV (site_VN rfl w178 (by decide +kernel) w429 w177 w2 w91 ⟨by decide, by decide, by decide +kernel⟩) (by decide) (by decide) (by unfold clsNo; rfl)
set_option maxRecDepth 20000 in
theorem b_X6_value_8 : Br_if_ne mX6_value 8 13 := br_if_ne (off := 5) (by decide +kernel) (by decide)
set_option maxRecDepth 20000 in
theorem s_X6_value_11 : Snd mX6_value 11 (opCi (-1)) 12 := (snd_iconst (k := -1) (by decide) (by decide +kernel))
set_option maxRecDepth 20000 in
theorem r_X6_value_12 : RtI mX6_value 12 := rt_I (by decide +kernel) rfl
set_option maxRecDepth 20000 in
theorem s_X6_value_13 : Snd mX6_value 13 (opLdI 2) 14 := (snd_iload_n (k := 2) (by decide +kernel) rfl)
set_option maxRecDepth 20000 in
theorem c_X6_value_14 : CallS mX6_value 14 mX6_isState 1 := kallS (site_S w449 (by decide +kernel) w447 w448 w90 ⟨by decide, by decide, by decide +kernel⟩) (by decide)
set_option maxRecDepth 20000 in
theorem b_X6_value_17 : Br_if_eq mX6_value 17 27 := br_if_eq (off := 10) (by decide +kernel) (by decide)
set_option maxRecDepth 20000 in
theorem s_X6_value_20 : Snd mX6_value 20 (opLdI 3) 21 := (snd_iload_n (k := 3) (by decide +kernel) rfl)
set_option maxRecDepth 20000 in
theorem c_X6_value_21 : CallS mX6_value 21 mX6_isRow 1 := kallS (site_S w452 (by decide +kernel) w450 w451 w90 ⟨by decide, by decide, by decide +kernel⟩) (by decide)
set_option maxRecDepth 20000 in
theorem b_X6_value_24 : Br_if_ne mX6_value 24 30 := br_if_ne (off := 6) (by decide +kernel) (by decide)
set_option maxRecDepth 20000 in
theorem s_X6_value_27 : Snd mX6_value 27 (opCi (-2)) 29 := (snd_bipush (k := -2) (by decide) (by decide +kernel))
set_option maxRecDepth 20000 in
theorem r_X6_value_29 : RtI mX6_value 29 := rt_I (by decide +kernel) rfl
set_option maxRecDepth 20000 in
theorem s_X6_value_30 : Snd mX6_value 30 (sq (opLdA 0) (sq (opGetR 6 0) (sq (opLdI 1) (opLdI 3)))) 36 := (snd_sq (snd_aload_n (k := 0) (by decide +kernel) rfl) (snd_sq (snd_getR (ci := 6) (k := 0) (by decide +kernel) rfl (by decide) (by decide) rfl iw_6 w354) (snd_sq (snd_iload_n (k := 1) (by decide +kernel) rfl) (snd_iload_n (k := 3) (by decide +kernel) rfl))))
set_option maxRecDepth 20000 in
theorem c_X6_value_36 : CallV mX6_value 36 mX4_trueStates 4 3 := kallV (site_VN rfl w456 (by decide +kernel) w453 w455 w12 w91 ⟨by decide, by decide, by decide +kernel⟩) (by decide) (by decide) (by unfold clsNo; rfl)
set_option maxRecDepth 20000 in
theorem s_X6_value_39 : Snd mX6_value 39 (sq (opLdI 2) (sq opishr (sq (opCi (1)) opiand))) 43 := (snd_sq (snd_iload_n (k := 2) (by decide +kernel) rfl) (snd_sq (snd_ishr (by decide +kernel)) (snd_sq (snd_iconst (k := 1) (by decide) (by decide +kernel)) (snd_iand (by decide +kernel)))))
set_option maxRecDepth 20000 in
theorem r_X6_value_43 : RtI mX6_value 43 := rt_I (by decide +kernel) rfl
/-! ClaimChains.holds(II)I -/
set_option maxRecDepth 20000 in
theorem s_X6_holds_0 : Snd mX6_holds 0 (sq (opLdA 0) (sq (opGetR 6 0) (opLdI 1))) 5 := (snd_sq (snd_aload_n (k := 0) (by decide +kernel) rfl) (snd_sq (snd_getR (ci := 6) (k := 0) (by decide +kernel) rfl (by decide) (by decide) rfl iw_6 w354) (snd_iload_n (k := 1) (by decide +kernel) rfl)))
set_option maxRecDepth 20000 in
theorem c_X6_holds_5 : CallV mX6_holds 5 mX4_has 4 2 := kallV (site_VN rfl w178 (by decide +kernel) w429 w177 w2 w91 ⟨by decide, by decide, by decide +kernel⟩) (by decide) (by decide) (by unfold clsNo; rfl)
set_option maxRecDepth 20000 in
theorem b_X6_holds_8 : Br_if_ne mX6_holds 8 13 := br_if_ne (off := 5) (by decide +kernel) (by decide)
set_option maxRecDepth 20000 in
theorem s_X6_holds_11 : Snd mX6_holds 11 (opCi (-1)) 12 := (snd_iconst (k := -1) (by decide) (by decide +kernel))
set_option maxRecDepth 20000 in
theorem r_X6_holds_12 : RtI mX6_holds 12 := rt_I (by decide +kernel) rfl
set_option maxRecDepth 20000 in
theorem s_X6_holds_13 : Snd mX6_holds 13 (opLdI 2) 14 := (snd_iload_n (k := 2) (by decide +kernel) rfl)
set_option maxRecDepth 20000 in
theorem c_X6_holds_14 : CallS mX6_holds 14 mX6_isRow 1 := kallS (site_S w452 (by decide +kernel) w450 w451 w90 ⟨by decide, by decide, by decide +kernel⟩) (by decide)
set_option maxRecDepth 20000 in
theorem b_X6_holds_17 : Br_if_ne mX6_holds 17 23 := br_if_ne (off := 6) (by decide +kernel) (by decide)
set_option maxRecDepth 20000 in
theorem s_X6_holds_20 : Snd mX6_holds 20 (opCi (-2)) 22 := (snd_bipush (k := -2) (by decide) (by decide +kernel))
set_option maxRecDepth 20000 in
theorem r_X6_holds_22 : RtI mX6_holds 22 := rt_I (by decide +kernel) rfl
set_option maxRecDepth 20000 in
theorem s_X6_holds_23 : Snd mX6_holds 23 (sq (opLdA 0) (sq (opGetR 6 0) (sq (opLdI 1) (opLdI 2)))) 29 := (snd_sq (snd_aload_n (k := 0) (by decide +kernel) rfl) (snd_sq (snd_getR (ci := 6) (k := 0) (by decide +kernel) rfl (by decide) (by decide) rfl iw_6 w354) (snd_sq (snd_iload_n (k := 1) (by decide +kernel) rfl) (snd_iload_n (k := 2) (by decide +kernel) rfl))))
set_option maxRecDepth 20000 in
theorem c_X6_holds_29 : CallV mX6_holds 29 mX4_trueStates 4 3 := kallV (site_VN rfl w456 (by decide +kernel) w453 w455 w12 w91 ⟨by decide, by decide, by decide +kernel⟩) (by decide) (by decide) (by unfold clsNo; rfl)
set_option maxRecDepth 20000 in
theorem r_X6_holds_32 : RtI mX6_holds 32 := rt_I (by decide +kernel) rfl
/-! ClaimChains.alike(II)I -/
set_option maxRecDepth 20000 in
theorem s_X6_alike_0 : Snd mX6_alike 0 (sq (opLdA 0) (sq (opGetR 6 0) (opLdI 1))) 5 := (snd_sq (snd_aload_n (k := 0) (by decide +kernel) rfl) (snd_sq (snd_getR (ci := 6) (k := 0) (by decide +kernel) rfl (by decide) (by decide) rfl iw_6 w354) (snd_iload_n (k := 1) (by decide +kernel) rfl)))
set_option maxRecDepth 20000 in
theorem c_X6_alike_5 : CallV mX6_alike 5 mX4_has 4 2 := kallV (site_VN rfl w178 (by decide +kernel) w429 w177 w2 w91 ⟨by decide, by decide, by decide +kernel⟩) (by decide) (by decide) (by unfold clsNo; rfl)
set_option maxRecDepth 20000 in
theorem b_X6_alike_8 : Br_if_eq mX6_alike 8 22 := br_if_eq (off := 14) (by decide +kernel) (by decide)
set_option maxRecDepth 20000 in
theorem s_X6_alike_11 : Snd mX6_alike 11 (sq (opLdA 0) (sq (opGetR 6 0) (opLdI 2))) 16 := (snd_sq (snd_aload_n (k := 0) (by decide +kernel) rfl) (snd_sq (snd_getR (ci := 6) (k := 0) (by decide +kernel) rfl (by decide) (by decide) rfl iw_6 w354) (snd_iload_n (k := 2) (by decide +kernel) rfl)))
set_option maxRecDepth 20000 in
theorem c_X6_alike_16 : CallV mX6_alike 16 mX4_has 4 2 := kallV (site_VN rfl w178 (by decide +kernel) w429 w177 w2 w91 ⟨by decide, by decide, by decide +kernel⟩) (by decide) (by decide) (by unfold clsNo; rfl)
set_option maxRecDepth 20000 in
theorem b_X6_alike_19 : Br_if_ne mX6_alike 19 24 := br_if_ne (off := 5) (by decide +kernel) (by decide)
set_option maxRecDepth 20000 in
theorem s_X6_alike_22 : Snd mX6_alike 22 (opCi (-1)) 23 := (snd_iconst (k := -1) (by decide) (by decide +kernel))
set_option maxRecDepth 20000 in
theorem r_X6_alike_23 : RtI mX6_alike 23 := rt_I (by decide +kernel) rfl
set_option maxRecDepth 20000 in
theorem s_X6_alike_24 : Snd mX6_alike 24 (sq (opLdA 0) (sq (opGetR 6 0) (sq (opGetR 4 8) (sq (opLdI 1) (sq opLald (sq (opLdA 0) (sq (opGetR 6 0) (sq (opGetR 4 8) (sq (opLdI 2) (sq opLald oplcmp)))))))))) 43 := (snd_sq (snd_aload_n (k := 0) (by decide +kernel) rfl) (snd_sq (snd_getR (ci := 6) (k := 0) (by decide +kernel) rfl (by decide) (by decide) rfl iw_6 w354) (snd_sq (snd_getRN (ci := 4) (k := 8) (by decide +kernel) rfl (by decide) (by decide) rfl iw_4 w134) (snd_sq (snd_iload_n (k := 1) (by decide +kernel) rfl) (snd_sq (snd_lald (by decide +kernel)) (snd_sq (snd_aload_n (k := 0) (by decide +kernel) rfl) (snd_sq (snd_getR (ci := 6) (k := 0) (by decide +kernel) rfl (by decide) (by decide) rfl iw_6 w354) (snd_sq (snd_getRN (ci := 4) (k := 8) (by decide +kernel) rfl (by decide) (by decide) rfl iw_4 w134) (snd_sq (snd_iload_n (k := 2) (by decide +kernel) rfl) (snd_sq (snd_lald (by decide +kernel)) (snd_lcmp (by decide +kernel))))))))))))
set_option maxRecDepth 20000 in
theorem b_X6_alike_43 : Br_if_ne mX6_alike 43 50 := br_if_ne (off := 7) (by decide +kernel) (by decide)
set_option maxRecDepth 20000 in
theorem s_X6_alike_46 : Snd mX6_alike 46 (sq (opCi (1)) opNop) 51 := (snd_sq (snd_iconst (k := 1) (by decide) (by decide +kernel)) (snd_goto (off := 4) (by decide +kernel) (by decide)))
set_option maxRecDepth 20000 in
theorem s_X6_alike_50 : Snd mX6_alike 50 (opCi (0)) 51 := (snd_iconst (k := 0) (by decide) (by decide +kernel))
set_option maxRecDepth 20000 in
theorem c_X6_alike_51 : CallS mX6_alike 51 mX6_bit 1 := kallS (site_S w468 (by decide +kernel) w466 w467 w90 ⟨by decide, by decide, by decide +kernel⟩) (by decide)
set_option maxRecDepth 20000 in
theorem r_X6_alike_54 : RtI mX6_alike 54 := rt_I (by decide +kernel) rfl
/-! ClaimChains.starts(I)I -/
set_option maxRecDepth 20000 in
theorem s_X6_starts_0 : Snd mX6_starts 0 (sq (opLdA 0) (sq (opGetR 6 0) (opLdI 1))) 5 := (snd_sq (snd_aload_n (k := 0) (by decide +kernel) rfl) (snd_sq (snd_getR (ci := 6) (k := 0) (by decide +kernel) rfl (by decide) (by decide) rfl iw_6 w354) (snd_iload_n (k := 1) (by decide +kernel) rfl)))
set_option maxRecDepth 20000 in
theorem c_X6_starts_5 : CallV mX6_starts 5 mX4_has 4 2 := kallV (site_VN rfl w178 (by decide +kernel) w429 w177 w2 w91 ⟨by decide, by decide, by decide +kernel⟩) (by decide) (by decide) (by unfold clsNo; rfl)
set_option maxRecDepth 20000 in
theorem b_X6_starts_8 : Br_if_ne mX6_starts 8 13 := br_if_ne (off := 5) (by decide +kernel) (by decide)
set_option maxRecDepth 20000 in
theorem s_X6_starts_11 : Snd mX6_starts 11 (opCi (-1)) 12 := (snd_iconst (k := -1) (by decide) (by decide +kernel))
set_option maxRecDepth 20000 in
theorem r_X6_starts_12 : RtI mX6_starts 12 := rt_I (by decide +kernel) rfl
set_option maxRecDepth 20000 in
theorem s_X6_starts_13 : Snd mX6_starts 13 (sq (opLdA 0) (sq (opGetR 6 0) (sq (opGetR 4 5) (sq (opLdI 1) opIald)))) 22 := (snd_sq (snd_aload_n (k := 0) (by decide +kernel) rfl) (snd_sq (snd_getR (ci := 6) (k := 0) (by decide +kernel) rfl (by decide) (by decide) rfl iw_6 w354) (snd_sq (snd_getRN (ci := 4) (k := 5) (by decide +kernel) rfl (by decide) (by decide) rfl iw_4 w126) (snd_sq (snd_iload_n (k := 1) (by decide +kernel) rfl) (snd_iald (by decide +kernel))))))
set_option maxRecDepth 20000 in
theorem b_X6_starts_22 : Br_if_eq mX6_starts 22 28 := br_if_eq (off := 6) (by decide +kernel) (by decide)
set_option maxRecDepth 20000 in
theorem s_X6_starts_25 : Snd mX6_starts 25 (opCi (-2)) 27 := (snd_bipush (k := -2) (by decide) (by decide +kernel))
set_option maxRecDepth 20000 in
theorem r_X6_starts_27 : RtI mX6_starts 27 := rt_I (by decide +kernel) rfl
set_option maxRecDepth 20000 in
theorem s_X6_starts_28 : Snd mX6_starts 28 (sq (opLdA 0) (opGetR 6 2)) 32 := (snd_sq (snd_aload_n (k := 0) (by decide +kernel) rfl) (snd_getR (ci := 6) (k := 2) (by decide +kernel) rfl (by decide) (by decide) rfl iw_6 w356))
set_option maxRecDepth 20000 in
theorem c_X6_starts_32 : CallV mX6_starts 32 mX2_forgetAll 2 1 := kallV (site_VN rfl w476 (by decide +kernel) w473 w475 w13 w93 ⟨by decide, by decide, by decide +kernel⟩) (by decide) (by decide) (by unfold clsNo; rfl)
set_option maxRecDepth 20000 in
theorem s_X6_starts_35 : Snd mX6_starts 35 (sq (opLdA 0) (sq (opGetR 6 1) (opLdI 1))) 40 := (snd_sq (snd_aload_n (k := 0) (by decide +kernel) rfl) (snd_sq (snd_getR (ci := 6) (k := 1) (by decide +kernel) rfl (by decide) (by decide) rfl iw_6 w355) (snd_iload_n (k := 1) (by decide +kernel) rfl)))
set_option maxRecDepth 20000 in
theorem c_X6_starts_40 : CallV mX6_starts 40 mX3_tellStarts 3 2 := kallV (site_VN rfl w480 (by decide +kernel) w477 w479 w14 w92 ⟨by decide, by decide, by decide +kernel⟩) (by decide) (by decide) (by unfold clsNo; rfl)
set_option maxRecDepth 20000 in
theorem r_X6_starts_43 : RtI mX6_starts 43 := rt_I (by decide +kernel) rfl
/-! ClaimChains.next(II)I -/
set_option maxRecDepth 20000 in
theorem s_X6_next_0 : Snd mX6_next 0 (opLdI 1) 1 := (snd_iload_n (k := 1) (by decide +kernel) rfl)
set_option maxRecDepth 20000 in
theorem b_X6_next_1 : Br_if_lt mX6_next 1 20 := br_if_lt (off := 19) (by decide +kernel) (by decide)
set_option maxRecDepth 20000 in
theorem s_X6_next_4 : Snd mX6_next 4 (sq (opLdI 1) (opCi (4))) 6 := (snd_sq (snd_iload_n (k := 1) (by decide +kernel) rfl) (snd_iconst (k := 4) (by decide) (by decide +kernel)))
set_option maxRecDepth 20000 in
theorem b_X6_next_6 : Br_ic_ge mX6_next 6 20 := br_ic_ge (off := 14) (by decide +kernel) (by decide)
set_option maxRecDepth 20000 in
theorem s_X6_next_9 : Snd mX6_next 9 (sq (opLdA 0) (sq (opGetR 6 0) (opLdI 2))) 14 := (snd_sq (snd_aload_n (k := 0) (by decide +kernel) rfl) (snd_sq (snd_getR (ci := 6) (k := 0) (by decide +kernel) rfl (by decide) (by decide) rfl iw_6 w354) (snd_iload_n (k := 2) (by decide +kernel) rfl)))
set_option maxRecDepth 20000 in
theorem c_X6_next_14 : CallV mX6_next 14 mX4_has 4 2 := kallV (site_VN rfl w178 (by decide +kernel) w429 w177 w2 w91 ⟨by decide, by decide, by decide +kernel⟩) (by decide) (by decide) (by unfold clsNo; rfl)
set_option maxRecDepth 20000 in
theorem b_X6_next_17 : Br_if_ne mX6_next 17 22 := br_if_ne (off := 5) (by decide +kernel) (by decide)
set_option maxRecDepth 20000 in
theorem s_X6_next_20 : Snd mX6_next 20 (opCi (-1)) 21 := (snd_iconst (k := -1) (by decide) (by decide +kernel))
set_option maxRecDepth 20000 in
theorem r_X6_next_21 : RtI mX6_next 21 := rt_I (by decide +kernel) rfl
set_option maxRecDepth 20000 in
theorem s_X6_next_22 : Snd mX6_next 22 (sq (opLdA 0) (opGetR 6 2)) 26 := (snd_sq (snd_aload_n (k := 0) (by decide +kernel) rfl) (snd_getR (ci := 6) (k := 2) (by decide +kernel) rfl (by decide) (by decide) rfl iw_6 w356))
set_option maxRecDepth 20000 in
theorem c_X6_next_26 : CallV mX6_next 26 mX2_forgetAll 2 1 := kallV (site_VN rfl w476 (by decide +kernel) w473 w475 w13 w93 ⟨by decide, by decide, by decide +kernel⟩) (by decide) (by decide) (by unfold clsNo; rfl)
set_option maxRecDepth 20000 in
theorem s_X6_next_29 : Snd mX6_next 29 (sq (opLdA 0) (sq (opGetR 6 1) (sq (opLdI 1) (opLdI 2)))) 35 := (snd_sq (snd_aload_n (k := 0) (by decide +kernel) rfl) (snd_sq (snd_getR (ci := 6) (k := 1) (by decide +kernel) rfl (by decide) (by decide) rfl iw_6 w355) (snd_sq (snd_iload_n (k := 1) (by decide +kernel) rfl) (snd_iload_n (k := 2) (by decide +kernel) rfl))))
set_option maxRecDepth 20000 in
theorem c_X6_next_35 : CallV mX6_next 35 mX3_tellNext 3 3 := kallV (site_VN rfl w510 (by decide +kernel) w507 w509 w19 w92 ⟨by decide, by decide, by decide +kernel⟩) (by decide) (by decide) (by unfold clsNo; rfl)
set_option maxRecDepth 20000 in
theorem r_X6_next_38 : RtI mX6_next 38 := rt_I (by decide +kernel) rfl
/-! ClaimChains.claim(I)I -/
set_option maxRecDepth 20000 in
theorem s_X6_claim_0 : Snd mX6_claim 0 (sq (opLdA 0) (sq (opGetR 6 0) (opLdI 1))) 5 := (snd_sq (snd_aload_n (k := 0) (by decide +kernel) rfl) (snd_sq (snd_getR (ci := 6) (k := 0) (by decide +kernel) rfl (by decide) (by decide) rfl iw_6 w354) (snd_iload_n (k := 1) (by decide +kernel) rfl)))
set_option maxRecDepth 20000 in
theorem c_X6_claim_5 : CallV mX6_claim 5 mX4_has 4 2 := kallV (site_VN rfl w178 (by decide +kernel) w429 w177 w2 w91 ⟨by decide, by decide, by decide +kernel⟩) (by decide) (by decide) (by unfold clsNo; rfl)
set_option maxRecDepth 20000 in
theorem b_X6_claim_8 : Br_if_ne mX6_claim 8 13 := br_if_ne (off := 5) (by decide +kernel) (by decide)
set_option maxRecDepth 20000 in
theorem s_X6_claim_11 : Snd mX6_claim 11 (opCi (-1)) 12 := (snd_iconst (k := -1) (by decide) (by decide +kernel))
set_option maxRecDepth 20000 in
theorem r_X6_claim_12 : RtI mX6_claim 12 := rt_I (by decide +kernel) rfl
set_option maxRecDepth 20000 in
theorem s_X6_claim_13 : Snd mX6_claim 13 (sq (opLdA 0) (sq (opGetR 6 0) (sq (opGetR 4 5) (sq (opLdI 1) opIald)))) 22 := (snd_sq (snd_aload_n (k := 0) (by decide +kernel) rfl) (snd_sq (snd_getR (ci := 6) (k := 0) (by decide +kernel) rfl (by decide) (by decide) rfl iw_6 w354) (snd_sq (snd_getRN (ci := 4) (k := 5) (by decide +kernel) rfl (by decide) (by decide) rfl iw_4 w126) (snd_sq (snd_iload_n (k := 1) (by decide +kernel) rfl) (snd_iald (by decide +kernel))))))
set_option maxRecDepth 20000 in
theorem b_X6_claim_22 : Br_if_eq mX6_claim 22 28 := br_if_eq (off := 6) (by decide +kernel) (by decide)
set_option maxRecDepth 20000 in
theorem s_X6_claim_25 : Snd mX6_claim 25 (opCi (-2)) 27 := (snd_bipush (k := -2) (by decide) (by decide +kernel))
set_option maxRecDepth 20000 in
theorem r_X6_claim_27 : RtI mX6_claim 27 := rt_I (by decide +kernel) rfl
set_option maxRecDepth 20000 in
theorem s_X6_claim_28 : Snd mX6_claim 28 (sq (opLdA 0) (opGetR 6 2)) 32 := (snd_sq (snd_aload_n (k := 0) (by decide +kernel) rfl) (snd_getR (ci := 6) (k := 2) (by decide +kernel) rfl (by decide) (by decide) rfl iw_6 w356))
set_option maxRecDepth 20000 in
theorem c_X6_claim_32 : CallV mX6_claim 32 mX2_forgetAll 2 1 := kallV (site_VN rfl w476 (by decide +kernel) w473 w475 w13 w93 ⟨by decide, by decide, by decide +kernel⟩) (by decide) (by decide) (by unfold clsNo; rfl)
set_option maxRecDepth 20000 in
theorem s_X6_claim_35 : Snd mX6_claim 35 (sq (opLdA 0) (sq (opGetR 6 1) (opLdI 1))) 40 := (snd_sq (snd_aload_n (k := 0) (by decide +kernel) rfl) (snd_sq (snd_getR (ci := 6) (k := 1) (by decide +kernel) rfl (by decide) (by decide) rfl iw_6 w355) (snd_iload_n (k := 1) (by decide +kernel) rfl)))
set_option maxRecDepth 20000 in
theorem c_X6_claim_40 : CallV mX6_claim 40 mX3_tellClaim 3 2 := kallV (site_VN rfl w518 (by decide +kernel) w515 w517 w20 w92 ⟨by decide, by decide, by decide +kernel⟩) (by decide) (by decide) (by unfold clsNo; rfl)
set_option maxRecDepth 20000 in
theorem r_X6_claim_43 : RtI mX6_claim 43 := rt_I (by decide +kernel) rfl
/-! ClaimChains.step(II)I -/
set_option maxRecDepth 20000 in
theorem s_X6_step_0 : Snd mX6_step 0 (opLdI 1) 1 := (snd_iload_n (k := 1) (by decide +kernel) rfl)
set_option maxRecDepth 20000 in
theorem c_X6_step_1 : CallS mX6_step 1 mX6_isState 1 := kallS (site_S w449 (by decide +kernel) w447 w448 w90 ⟨by decide, by decide, by decide +kernel⟩) (by decide)
set_option maxRecDepth 20000 in
theorem b_X6_step_4 : Br_if_eq mX6_step 4 14 := br_if_eq (off := 10) (by decide +kernel) (by decide)
set_option maxRecDepth 20000 in
theorem s_X6_step_7 : Snd mX6_step 7 (opLdI 2) 8 := (snd_iload_n (k := 2) (by decide +kernel) rfl)
set_option maxRecDepth 20000 in
theorem c_X6_step_8 : CallS mX6_step 8 mX6_isRow 1 := kallS (site_S w452 (by decide +kernel) w450 w451 w90 ⟨by decide, by decide, by decide +kernel⟩) (by decide)
set_option maxRecDepth 20000 in
theorem b_X6_step_11 : Br_if_ne mX6_step 11 17 := br_if_ne (off := 6) (by decide +kernel) (by decide)
set_option maxRecDepth 20000 in
theorem s_X6_step_14 : Snd mX6_step 14 (opCi (-2)) 16 := (snd_bipush (k := -2) (by decide) (by decide +kernel))
set_option maxRecDepth 20000 in
theorem r_X6_step_16 : RtI mX6_step 16 := rt_I (by decide +kernel) rfl
set_option maxRecDepth 20000 in
theorem s_X6_step_17 : Snd mX6_step 17 (sq (opLdA 0) (sq (opGetR 6 1) (sq (opLdI 1) (opLdI 2)))) 23 := (snd_sq (snd_aload_n (k := 0) (by decide +kernel) rfl) (snd_sq (snd_getR (ci := 6) (k := 1) (by decide +kernel) rfl (by decide) (by decide) rfl iw_6 w355) (snd_sq (snd_iload_n (k := 1) (by decide +kernel) rfl) (snd_iload_n (k := 2) (by decide +kernel) rfl))))
set_option maxRecDepth 20000 in
theorem c_X6_step_23 : CallV mX6_step 23 mX3_target 3 3 := kallV (site_VN rfl w184 (by decide +kernel) w523 w183 w3 w92 ⟨by decide, by decide, by decide +kernel⟩) (by decide) (by decide) (by unfold clsNo; rfl)
set_option maxRecDepth 20000 in
theorem r_X6_step_26 : RtI mX6_step 26 := rt_I (by decide +kernel) rfl
/-! ClaimChains.before(I)I -/
set_option maxRecDepth 20000 in
theorem s_X6_before_0 : Snd mX6_before 0 (opLdI 1) 1 := (snd_iload_n (k := 1) (by decide +kernel) rfl)
set_option maxRecDepth 20000 in
theorem c_X6_before_1 : CallS mX6_before 1 mX6_isState 1 := kallS (site_S w449 (by decide +kernel) w447 w448 w90 ⟨by decide, by decide, by decide +kernel⟩) (by decide)
set_option maxRecDepth 20000 in
theorem b_X6_before_4 : Br_if_ne mX6_before 4 10 := br_if_ne (off := 6) (by decide +kernel) (by decide)
set_option maxRecDepth 20000 in
theorem s_X6_before_7 : Snd mX6_before 7 (opCi (-2)) 9 := (snd_bipush (k := -2) (by decide) (by decide +kernel))
set_option maxRecDepth 20000 in
theorem r_X6_before_9 : RtI mX6_before 9 := rt_I (by decide +kernel) rfl
set_option maxRecDepth 20000 in
theorem s_X6_before_10 : Snd mX6_before 10 (sq (opLdA 0) (sq (opGetR 6 1) (sq (opCi (1)) (sq (opLdI 1) opishl)))) 17 := (snd_sq (snd_aload_n (k := 0) (by decide +kernel) rfl) (snd_sq (snd_getR (ci := 6) (k := 1) (by decide +kernel) rfl (by decide) (by decide) rfl iw_6 w355) (snd_sq (snd_iconst (k := 1) (by decide) (by decide +kernel)) (snd_sq (snd_iload_n (k := 1) (by decide +kernel) rfl) (snd_ishl (by decide +kernel))))))
set_option maxRecDepth 20000 in
theorem c_X6_before_17 : CallV mX6_before 17 mX3_sources 3 2 := kallV (site_VN rfl w493 (by decide +kernel) w528 w492 w17 w92 ⟨by decide, by decide, by decide +kernel⟩) (by decide) (by decide) (by unfold clsNo; rfl)
set_option maxRecDepth 20000 in
theorem r_X6_before_20 : RtI mX6_before 20 := rt_I (by decide +kernel) rfl
/-! ClaimChains.distance(I)I -/
set_option maxRecDepth 20000 in
theorem s_X6_distance_0 : Snd mX6_distance 0 (opLdI 1) 1 := (snd_iload_n (k := 1) (by decide +kernel) rfl)
set_option maxRecDepth 20000 in
theorem c_X6_distance_1 : CallS mX6_distance 1 mX6_isState 1 := kallS (site_S w449 (by decide +kernel) w447 w448 w90 ⟨by decide, by decide, by decide +kernel⟩) (by decide)
set_option maxRecDepth 20000 in
theorem b_X6_distance_4 : Br_if_ne mX6_distance 4 10 := br_if_ne (off := 6) (by decide +kernel) (by decide)
set_option maxRecDepth 20000 in
theorem s_X6_distance_7 : Snd mX6_distance 7 (opCi (-2)) 9 := (snd_bipush (k := -2) (by decide) (by decide +kernel))
set_option maxRecDepth 20000 in
theorem r_X6_distance_9 : RtI mX6_distance 9 := rt_I (by decide +kernel) rfl
set_option maxRecDepth 20000 in
theorem s_X6_distance_10 : Snd mX6_distance 10 (sq (opLdA 0) (sq (opGetR 6 1) (sq (opGetR 3 9) (sq (opLdI 1) opIald)))) 19 := (snd_sq (snd_aload_n (k := 0) (by decide +kernel) rfl) (snd_sq (snd_getR (ci := 6) (k := 1) (by decide +kernel) rfl (by decide) (by decide) rfl iw_6 w355) (snd_sq (snd_getRN (ci := 3) (k := 9) (by decide +kernel) rfl (by decide) (by decide) rfl iw_3 w213) (snd_sq (snd_iload_n (k := 1) (by decide +kernel) rfl) (snd_iald (by decide +kernel))))))
set_option maxRecDepth 20000 in
theorem r_X6_distance_19 : RtI mX6_distance 19 := rt_I (by decide +kernel) rfl
/-! ClaimChains.met(I)I -/
set_option maxRecDepth 20000 in
theorem s_X6_met_0 : Snd mX6_met 0 (opLdI 1) 1 := (snd_iload_n (k := 1) (by decide +kernel) rfl)
set_option maxRecDepth 20000 in
theorem hw_X6_met_1 : decode (MI.bytes mX6_met) 1 = .ok (.tableswitch 90 0 5 #[39, 50, 58, 66, 74, 82], 39) := by decide +kernel
set_option maxRecDepth 20000 in
theorem w_X6_met_1 {d cap : Nat} {L : LT} {x : Int32} {st : List Value} {n : Nat} {R : RT} {I : IT} {J : JT} {Q : QT} (k0 : x = 0 → Ends mX6_met d cap 40 L st n R I J Q) (k1 : x = 1 → Ends mX6_met d cap 51 L st n R I J Q) (k2 : x = 2 → Ends mX6_met d cap 59 L st n R I J Q) (k3 : x = 3 → Ends mX6_met d cap 67 L st n R I J Q) (k4 : x = 4 → Ends mX6_met d cap 75 L st n R I J Q) (k5 : x = 5 → Ends mX6_met d cap 83 L st n R I J Q) (kd : ¬ x = 0 → ¬ x = 1 → ¬ x = 2 → ¬ x = 3 → ¬ x = 4 → ¬ x = 5 → Ends mX6_met d cap 91 L st n R I J Q) : Ends mX6_met d cap 1 L (.int x :: st) n R I J Q := by
  by_cases h0 : x.toInt < 0 ∨ 5 < x.toInt
  · exact sw_out hw_X6_met_1 h0 (by decide) (kd (fun h => by subst h; revert h0; decide) (fun h => by subst h; revert h0; decide) (fun h => by subst h; revert h0; decide) (fun h => by subst h; revert h0; decide) (fun h => by subst h; revert h0; decide) (fun h => by subst h; revert h0; decide))
  · have h1 : x.toInt = 0 ∨ x.toInt = 1 ∨ x.toInt = 2 ∨ x.toInt = 3 ∨ x.toInt = 4 ∨ x.toInt = 5 := by omega
    rcases h1 with h1 | h1 | h1 | h1 | h1 | h1
    · have h2 : x = 0 := i32_of h1 (by decide)
      subst h2
      exact sw_in (off := 39) hw_X6_met_1 (by decide) (by decide) (by decide +kernel) (by decide) (k0 rfl)
    · have h2 : x = 1 := i32_of h1 (by decide)
      subst h2
      exact sw_in (off := 50) hw_X6_met_1 (by decide) (by decide) (by decide +kernel) (by decide) (k1 rfl)
    · have h2 : x = 2 := i32_of h1 (by decide)
      subst h2
      exact sw_in (off := 58) hw_X6_met_1 (by decide) (by decide) (by decide +kernel) (by decide) (k2 rfl)
    · have h2 : x = 3 := i32_of h1 (by decide)
      subst h2
      exact sw_in (off := 66) hw_X6_met_1 (by decide) (by decide) (by decide +kernel) (by decide) (k3 rfl)
    · have h2 : x = 4 := i32_of h1 (by decide)
      subst h2
      exact sw_in (off := 74) hw_X6_met_1 (by decide) (by decide) (by decide +kernel) (by decide) (k4 rfl)
    · have h2 : x = 5 := i32_of h1 (by decide)
      subst h2
      exact sw_in (off := 82) hw_X6_met_1 (by decide) (by decide) (by decide +kernel) (by decide) (k5 rfl)
set_option maxRecDepth 20000 in
theorem s_X6_met_40 : Snd mX6_met 40 (sq (opLdA 0) (sq (opGetR 6 1) (opGetI 3 10))) 47 := (snd_sq (snd_aload_n (k := 0) (by decide +kernel) rfl) (snd_sq (snd_getR (ci := 6) (k := 1) (by decide +kernel) rfl (by decide) (by decide) rfl iw_6 w355) (snd_getIN (ci := 3) (k := 10) (by decide +kernel) rfl (by decide) (by decide) (by decide) iw_3 w215)))
set_option maxRecDepth 20000 in
theorem c_X6_met_47 : CallS mX6_met 47 mJ6_bitCount 1 := kallS (site_S w539 (by decide +kernel) w537 w538 w99 ⟨by decide, by decide, by decide +kernel⟩) (by decide)
set_option maxRecDepth 20000 in
theorem r_X6_met_50 : RtI mX6_met 50 := rt_I (by decide +kernel) rfl
set_option maxRecDepth 20000 in
theorem s_X6_met_51 : Snd mX6_met 51 (sq (opLdA 0) (opGetR 6 1)) 55 := (snd_sq (snd_aload_n (k := 0) (by decide +kernel) rfl) (snd_getR (ci := 6) (k := 1) (by decide +kernel) rfl (by decide) (by decide) rfl iw_6 w355))
set_option maxRecDepth 20000 in
theorem c_X6_met_55 : CallV mX6_met 55 mX3_greatestDistance 3 1 := kallV (site_VN rfl w546 (by decide +kernel) w543 w545 w21 w92 ⟨by decide, by decide, by decide +kernel⟩) (by decide) (by decide) (by unfold clsNo; rfl)
set_option maxRecDepth 20000 in
theorem r_X6_met_58 : RtI mX6_met 58 := rt_I (by decide +kernel) rfl
set_option maxRecDepth 20000 in
theorem s_X6_met_59 : Snd mX6_met 59 (sq (opLdA 0) (sq (opGetR 6 1) (opGetI 3 10))) 66 := (snd_sq (snd_aload_n (k := 0) (by decide +kernel) rfl) (snd_sq (snd_getR (ci := 6) (k := 1) (by decide +kernel) rfl (by decide) (by decide) rfl iw_6 w355) (snd_getIN (ci := 3) (k := 10) (by decide +kernel) rfl (by decide) (by decide) (by decide) iw_3 w215)))
set_option maxRecDepth 20000 in
theorem r_X6_met_66 : RtI mX6_met 66 := rt_I (by decide +kernel) rfl
set_option maxRecDepth 20000 in
theorem s_X6_met_67 : Snd mX6_met 67 (sq (opLdA 0) (sq (opGetR 6 1) (opGetI 3 11))) 74 := (snd_sq (snd_aload_n (k := 0) (by decide +kernel) rfl) (snd_sq (snd_getR (ci := 6) (k := 1) (by decide +kernel) rfl (by decide) (by decide) rfl iw_6 w355) (snd_getIN (ci := 3) (k := 11) (by decide +kernel) rfl (by decide) (by decide) (by decide) iw_3 w217)))
set_option maxRecDepth 20000 in
theorem r_X6_met_74 : RtI mX6_met 74 := rt_I (by decide +kernel) rfl
set_option maxRecDepth 20000 in
theorem s_X6_met_75 : Snd mX6_met 75 (sq (opLdA 0) (sq (opGetR 6 1) (opGetI 3 4))) 82 := (snd_sq (snd_aload_n (k := 0) (by decide +kernel) rfl) (snd_sq (snd_getR (ci := 6) (k := 1) (by decide +kernel) rfl (by decide) (by decide) rfl iw_6 w355) (snd_getIN (ci := 3) (k := 4) (by decide +kernel) rfl (by decide) (by decide) (by decide) iw_3 w203)))
set_option maxRecDepth 20000 in
theorem r_X6_met_82 : RtI mX6_met 82 := rt_I (by decide +kernel) rfl
set_option maxRecDepth 20000 in
theorem s_X6_met_83 : Snd mX6_met 83 (sq (opLdA 0) (sq (opGetR 6 1) (opGetI 3 5))) 90 := (snd_sq (snd_aload_n (k := 0) (by decide +kernel) rfl) (snd_sq (snd_getR (ci := 6) (k := 1) (by decide +kernel) rfl (by decide) (by decide) rfl iw_6 w355) (snd_getIN (ci := 3) (k := 5) (by decide +kernel) rfl (by decide) (by decide) (by decide) iw_3 w207)))
set_option maxRecDepth 20000 in
theorem r_X6_met_90 : RtI mX6_met 90 := rt_I (by decide +kernel) rfl
set_option maxRecDepth 20000 in
theorem s_X6_met_91 : Snd mX6_met 91 (opCi (-2)) 93 := (snd_bipush (k := -2) (by decide) (by decide +kernel))
set_option maxRecDepth 20000 in
theorem r_X6_met_93 : RtI mX6_met 93 := rt_I (by decide +kernel) rfl
/-! ClaimChains.way(II)I -/
set_option maxRecDepth 20000 in
theorem s_X6_way_0 : Snd mX6_way 0 (opLdI 1) 1 := (snd_iload_n (k := 1) (by decide +kernel) rfl)
set_option maxRecDepth 20000 in
theorem b_X6_way_1 : Br_if_lt mX6_way 1 19 := br_if_lt (off := 18) (by decide +kernel) (by decide)
set_option maxRecDepth 20000 in
theorem s_X6_way_4 : Snd mX6_way 4 (sq (opLdI 1) (opCi (15))) 7 := (snd_sq (snd_iload_n (k := 1) (by decide +kernel) rfl) (snd_bipush (k := 15) (by decide) (by decide +kernel)))
set_option maxRecDepth 20000 in
theorem b_X6_way_7 : Br_ic_gt mX6_way 7 19 := br_ic_gt (off := 12) (by decide +kernel) (by decide)
set_option maxRecDepth 20000 in
theorem s_X6_way_10 : Snd mX6_way 10 (opLdI 2) 11 := (snd_iload_n (k := 2) (by decide +kernel) rfl)
set_option maxRecDepth 20000 in
theorem b_X6_way_11 : Br_if_lt mX6_way 11 19 := br_if_lt (off := 8) (by decide +kernel) (by decide)
set_option maxRecDepth 20000 in
theorem s_X6_way_14 : Snd mX6_way 14 (sq (opLdI 2) (opCi (1))) 16 := (snd_sq (snd_iload_n (k := 2) (by decide +kernel) rfl) (snd_iconst (k := 1) (by decide) (by decide +kernel)))
set_option maxRecDepth 20000 in
theorem b_X6_way_16 : Br_ic_le mX6_way 16 22 := br_ic_le (off := 6) (by decide +kernel) (by decide)
set_option maxRecDepth 20000 in
theorem s_X6_way_19 : Snd mX6_way 19 (opCi (-2)) 21 := (snd_bipush (k := -2) (by decide) (by decide +kernel))
set_option maxRecDepth 20000 in
theorem r_X6_way_21 : RtI mX6_way 21 := rt_I (by decide +kernel) rfl
set_option maxRecDepth 20000 in
theorem s_X6_way_22 : Snd mX6_way 22 (opLdI 2) 23 := (snd_iload_n (k := 2) (by decide +kernel) rfl)
set_option maxRecDepth 20000 in
theorem b_X6_way_23 : Br_if_ne mX6_way 23 52 := br_if_ne (off := 29) (by decide +kernel) (by decide)
set_option maxRecDepth 20000 in
theorem s_X6_way_26 : Snd mX6_way 26 (sq (opLdI 1) (sq (opLdA 0) (sq (opGetR 6 1) (opGetI 3 11)))) 34 := (snd_sq (snd_iload_n (k := 1) (by decide +kernel) rfl) (snd_sq (snd_aload_n (k := 0) (by decide +kernel) rfl) (snd_sq (snd_getR (ci := 6) (k := 1) (by decide +kernel) rfl (by decide) (by decide) rfl iw_6 w355) (snd_getIN (ci := 3) (k := 11) (by decide +kernel) rfl (by decide) (by decide) (by decide) iw_3 w217))))
set_option maxRecDepth 20000 in
theorem b_X6_way_34 : Br_ic_gt mX6_way 34 49 := br_ic_gt (off := 15) (by decide +kernel) (by decide)
set_option maxRecDepth 20000 in
theorem s_X6_way_37 : Snd mX6_way 37 (sq (opLdA 0) (sq (opGetR 6 1) (sq (opGetR 3 12) (sq (opLdI 1) (sq opIald opNop))))) 51 := (snd_sq (snd_aload_n (k := 0) (by decide +kernel) rfl) (snd_sq (snd_getR (ci := 6) (k := 1) (by decide +kernel) rfl (by decide) (by decide) rfl iw_6 w355) (snd_sq (snd_getRN (ci := 3) (k := 12) (by decide +kernel) rfl (by decide) (by decide) rfl iw_3 w219) (snd_sq (snd_iload_n (k := 1) (by decide +kernel) rfl) (snd_sq (snd_iald (by decide +kernel)) (snd_goto (off := 5) (by decide +kernel) (by decide)))))))
set_option maxRecDepth 20000 in
theorem s_X6_way_49 : Snd mX6_way 49 (opCi (-9)) 51 := (snd_bipush (k := -9) (by decide) (by decide +kernel))
set_option maxRecDepth 20000 in
theorem r_X6_way_51 : RtI mX6_way 51 := rt_I (by decide +kernel) rfl
set_option maxRecDepth 20000 in
theorem s_X6_way_52 : Snd mX6_way 52 (sq (opLdI 1) (sq (opLdA 0) (sq (opGetR 6 1) (opGetI 3 11)))) 60 := (snd_sq (snd_iload_n (k := 1) (by decide +kernel) rfl) (snd_sq (snd_aload_n (k := 0) (by decide +kernel) rfl) (snd_sq (snd_getR (ci := 6) (k := 1) (by decide +kernel) rfl (by decide) (by decide) rfl iw_6 w355) (snd_getIN (ci := 3) (k := 11) (by decide +kernel) rfl (by decide) (by decide) (by decide) iw_3 w217))))
set_option maxRecDepth 20000 in
theorem b_X6_way_60 : Br_ic_ge mX6_way 60 75 := br_ic_ge (off := 15) (by decide +kernel) (by decide)
set_option maxRecDepth 20000 in
theorem s_X6_way_63 : Snd mX6_way 63 (sq (opLdA 0) (sq (opGetR 6 1) (sq (opGetR 3 13) (sq (opLdI 1) (sq opIald opNop))))) 77 := (snd_sq (snd_aload_n (k := 0) (by decide +kernel) rfl) (snd_sq (snd_getR (ci := 6) (k := 1) (by decide +kernel) rfl (by decide) (by decide) rfl iw_6 w355) (snd_sq (snd_getRN (ci := 3) (k := 13) (by decide +kernel) rfl (by decide) (by decide) rfl iw_3 w221) (snd_sq (snd_iload_n (k := 1) (by decide +kernel) rfl) (snd_sq (snd_iald (by decide +kernel)) (snd_goto (off := 5) (by decide +kernel) (by decide)))))))
set_option maxRecDepth 20000 in
theorem s_X6_way_75 : Snd mX6_way 75 (opCi (-9)) 77 := (snd_bipush (k := -9) (by decide) (by decide +kernel))
set_option maxRecDepth 20000 in
theorem r_X6_way_77 : RtI mX6_way 77 := rt_I (by decide +kernel) rfl
/-! ClaimChains.loose(I)I -/
set_option maxRecDepth 20000 in
theorem s_X6_loose_0 : Snd mX6_loose 0 (sq (opLdA 0) (sq (opGetR 6 1) (sq (opGetI 3 11) (opCi (-9))))) 9 := (snd_sq (snd_aload_n (k := 0) (by decide +kernel) rfl) (snd_sq (snd_getR (ci := 6) (k := 1) (by decide +kernel) rfl (by decide) (by decide) rfl iw_6 w355) (snd_sq (snd_getIN (ci := 3) (k := 11) (by decide +kernel) rfl (by decide) (by decide) (by decide) iw_3 w217) (snd_bipush (k := -9) (by decide) (by decide +kernel)))))
set_option maxRecDepth 20000 in
theorem b_X6_loose_9 : Br_ic_ne mX6_loose 9 15 := br_ic_ne (off := 6) (by decide +kernel) (by decide)
set_option maxRecDepth 20000 in
theorem s_X6_loose_12 : Snd mX6_loose 12 (opCi (-3)) 14 := (snd_bipush (k := -3) (by decide) (by decide +kernel))
set_option maxRecDepth 20000 in
theorem r_X6_loose_14 : RtI mX6_loose 14 := rt_I (by decide +kernel) rfl
set_option maxRecDepth 20000 in
theorem s_X6_loose_15 : Snd mX6_loose 15 (sq (opLdI 1) (opCi (-1))) 17 := (snd_sq (snd_iload_n (k := 1) (by decide +kernel) rfl) (snd_iconst (k := -1) (by decide) (by decide +kernel)))
set_option maxRecDepth 20000 in
theorem b_X6_loose_17 : Br_ic_lt mX6_loose 17 31 := br_ic_lt (off := 14) (by decide +kernel) (by decide)
set_option maxRecDepth 20000 in
theorem s_X6_loose_20 : Snd mX6_loose 20 (sq (opLdI 1) (sq (opLdA 0) (sq (opGetR 6 1) (opGetI 3 11)))) 28 := (snd_sq (snd_iload_n (k := 1) (by decide +kernel) rfl) (snd_sq (snd_aload_n (k := 0) (by decide +kernel) rfl) (snd_sq (snd_getR (ci := 6) (k := 1) (by decide +kernel) rfl (by decide) (by decide) rfl iw_6 w355) (snd_getIN (ci := 3) (k := 11) (by decide +kernel) rfl (by decide) (by decide) (by decide) iw_3 w217))))
set_option maxRecDepth 20000 in
theorem b_X6_loose_28 : Br_ic_lt mX6_loose 28 34 := br_ic_lt (off := 6) (by decide +kernel) (by decide)
set_option maxRecDepth 20000 in
theorem s_X6_loose_31 : Snd mX6_loose 31 (opCi (-2)) 33 := (snd_bipush (k := -2) (by decide) (by decide +kernel))
set_option maxRecDepth 20000 in
theorem r_X6_loose_33 : RtI mX6_loose 33 := rt_I (by decide +kernel) rfl
set_option maxRecDepth 20000 in
theorem s_X6_loose_34 : Snd mX6_loose 34 (sq (opLdI 1) (opCi (-1))) 36 := (snd_sq (snd_iload_n (k := 1) (by decide +kernel) rfl) (snd_iconst (k := -1) (by decide) (by decide +kernel)))
set_option maxRecDepth 20000 in
theorem b_X6_loose_36 : Br_ic_ne mX6_loose 36 49 := br_ic_ne (off := 13) (by decide +kernel) (by decide)
set_option maxRecDepth 20000 in
theorem s_X6_loose_39 : Snd mX6_loose 39 (sq (opLdA 0) (opGetR 6 1)) 43 := (snd_sq (snd_aload_n (k := 0) (by decide +kernel) rfl) (snd_getR (ci := 6) (k := 1) (by decide +kernel) rfl (by decide) (by decide) rfl iw_6 w355))
set_option maxRecDepth 20000 in
theorem c_X6_loose_43 : CallV mX6_loose 43 mX3_looseInStart 3 1 := kallV (site_VN rfl w558 (by decide +kernel) w555 w557 w22 w92 ⟨by decide, by decide, by decide +kernel⟩) (by decide) (by decide) (by unfold clsNo; rfl)
set_option maxRecDepth 20000 in
theorem s_X6_loose_46 : Snd mX6_loose 46 opNop 57 := (snd_goto (off := 11) (by decide +kernel) (by decide))
set_option maxRecDepth 20000 in
theorem s_X6_loose_49 : Snd mX6_loose 49 (sq (opLdA 0) (sq (opGetR 6 1) (opLdI 1))) 54 := (snd_sq (snd_aload_n (k := 0) (by decide +kernel) rfl) (snd_sq (snd_getR (ci := 6) (k := 1) (by decide +kernel) rfl (by decide) (by decide) rfl iw_6 w355) (snd_iload_n (k := 1) (by decide +kernel) rfl)))
set_option maxRecDepth 20000 in
theorem c_X6_loose_54 : CallV mX6_loose 54 mX3_looseInRow 3 2 := kallV (site_VN rfl w566 (by decide +kernel) w563 w565 w24 w92 ⟨by decide, by decide, by decide +kernel⟩) (by decide) (by decide) (by unfold clsNo; rfl)
set_option maxRecDepth 20000 in
theorem r_X6_loose_57 : RtI mX6_loose 57 := rt_I (by decide +kernel) rfl
/-! ClaimChains.cone(I)I -/
set_option maxRecDepth 20000 in
theorem s_X6_cone_0 : Snd mX6_cone 0 (opLdI 1) 1 := (snd_iload_n (k := 1) (by decide +kernel) rfl)
set_option maxRecDepth 20000 in
theorem b_X6_cone_1 : Br_if_lt mX6_cone 1 9 := br_if_lt (off := 8) (by decide +kernel) (by decide)
set_option maxRecDepth 20000 in
theorem s_X6_cone_4 : Snd mX6_cone 4 (sq (opLdI 1) (opCi (1))) 6 := (snd_sq (snd_iload_n (k := 1) (by decide +kernel) rfl) (snd_iconst (k := 1) (by decide) (by decide +kernel)))
set_option maxRecDepth 20000 in
theorem b_X6_cone_6 : Br_ic_le mX6_cone 6 12 := br_ic_le (off := 6) (by decide +kernel) (by decide)
set_option maxRecDepth 20000 in
theorem s_X6_cone_9 : Snd mX6_cone 9 (opCi (-2)) 11 := (snd_bipush (k := -2) (by decide) (by decide +kernel))
set_option maxRecDepth 20000 in
theorem r_X6_cone_11 : RtI mX6_cone 11 := rt_I (by decide +kernel) rfl
set_option maxRecDepth 20000 in
theorem s_X6_cone_12 : Snd mX6_cone 12 (sq (opLdA 0) (opGetR 6 1)) 16 := (snd_sq (snd_aload_n (k := 0) (by decide +kernel) rfl) (snd_getR (ci := 6) (k := 1) (by decide +kernel) rfl (by decide) (by decide) rfl iw_6 w355))
set_option maxRecDepth 20000 in
theorem c_X6_cone_16 : CallV mX6_cone 16 mX3_coneVariables 3 1 := kallV (site_VN rfl w574 (by decide +kernel) w571 w573 w25 w92 ⟨by decide, by decide, by decide +kernel⟩) (by decide) (by decide) (by unfold clsNo; rfl)
set_option maxRecDepth 20000 in
theorem s_X6_cone_19 : Snd mX6_cone 19 (sq (opStI 2) (opLdI 1)) 21 := (snd_sq (snd_istore_n (k := 2) (by decide +kernel) rfl (by decide)) (snd_iload_n (k := 1) (by decide +kernel) rfl))
set_option maxRecDepth 20000 in
theorem b_X6_cone_21 : Br_if_ne mX6_cone 21 28 := br_if_ne (off := 7) (by decide +kernel) (by decide)
set_option maxRecDepth 20000 in
theorem s_X6_cone_24 : Snd mX6_cone 24 (sq (opLdI 2) opNop) 36 := (snd_sq (snd_iload_n (k := 2) (by decide +kernel) rfl) (snd_goto (off := 11) (by decide +kernel) (by decide)))
set_option maxRecDepth 20000 in
theorem s_X6_cone_28 : Snd mX6_cone 28 (sq (opLdA 0) (sq (opGetR 6 1) (opLdI 2))) 33 := (snd_sq (snd_aload_n (k := 0) (by decide +kernel) rfl) (snd_sq (snd_getR (ci := 6) (k := 1) (by decide +kernel) rfl (by decide) (by decide) rfl iw_6 w355) (snd_iload_n (k := 2) (by decide +kernel) rfl)))
set_option maxRecDepth 20000 in
theorem c_X6_cone_33 : CallV mX6_cone 33 mX3_inputsOf 3 2 := kallV (site_VN rfl w578 (by decide +kernel) w575 w577 w26 w92 ⟨by decide, by decide, by decide +kernel⟩) (by decide) (by decide) (by unfold clsNo; rfl)
set_option maxRecDepth 20000 in
theorem r_X6_cone_36 : RtI mX6_cone 36 := rt_I (by decide +kernel) rfl
/-! ClaimChains.clear(I)I -/
set_option maxRecDepth 20000 in
theorem s_X6_clear_0 : Snd mX6_clear 0 (opLdI 1) 1 := (snd_iload_n (k := 1) (by decide +kernel) rfl)
set_option maxRecDepth 20000 in
theorem b_X6_clear_1 : Br_if_lt mX6_clear 1 10 := br_if_lt (off := 9) (by decide +kernel) (by decide)
set_option maxRecDepth 20000 in
theorem s_X6_clear_4 : Snd mX6_clear 4 (sq (opLdI 1) (opCi (16))) 7 := (snd_sq (snd_iload_n (k := 1) (by decide +kernel) rfl) (snd_bipush (k := 16) (by decide) (by decide +kernel)))
set_option maxRecDepth 20000 in
theorem b_X6_clear_7 : Br_ic_le mX6_clear 7 13 := br_ic_le (off := 6) (by decide +kernel) (by decide)
set_option maxRecDepth 20000 in
theorem s_X6_clear_10 : Snd mX6_clear 10 (opCi (-2)) 12 := (snd_bipush (k := -2) (by decide) (by decide +kernel))
set_option maxRecDepth 20000 in
theorem r_X6_clear_12 : RtI mX6_clear 12 := rt_I (by decide +kernel) rfl
set_option maxRecDepth 20000 in
theorem s_X6_clear_13 : Snd mX6_clear 13 (sq (opLdA 0) (sq (opGetR 6 1) (opLdI 1))) 18 := (snd_sq (snd_aload_n (k := 0) (by decide +kernel) rfl) (snd_sq (snd_getR (ci := 6) (k := 1) (by decide +kernel) rfl (by decide) (by decide) rfl iw_6 w355) (snd_iload_n (k := 1) (by decide +kernel) rfl)))
set_option maxRecDepth 20000 in
theorem c_X6_clear_18 : CallV mX6_clear 18 mX3_isClear 3 2 := kallV (site_VN rfl w586 (by decide +kernel) w583 w585 w27 w92 ⟨by decide, by decide, by decide +kernel⟩) (by decide) (by decide) (by unfold clsNo; rfl)
set_option maxRecDepth 20000 in
theorem c_X6_clear_21 : CallS mX6_clear 21 mX6_bit 1 := kallS (site_S w468 (by decide +kernel) w466 w467 w90 ⟨by decide, by decide, by decide +kernel⟩) (by decide)
set_option maxRecDepth 20000 in
theorem r_X6_clear_24 : RtI mX6_clear 24 := rt_I (by decide +kernel) rfl
/-! ClaimChains.shut(I)I -/
set_option maxRecDepth 20000 in
theorem s_X6_shut_0 : Snd mX6_shut 0 (opLdI 1) 1 := (snd_iload_n (k := 1) (by decide +kernel) rfl)
set_option maxRecDepth 20000 in
theorem b_X6_shut_1 : Br_if_lt mX6_shut 1 10 := br_if_lt (off := 9) (by decide +kernel) (by decide)
set_option maxRecDepth 20000 in
theorem s_X6_shut_4 : Snd mX6_shut 4 (sq (opLdI 1) (opCi (8))) 7 := (snd_sq (snd_iload_n (k := 1) (by decide +kernel) rfl) (snd_bipush (k := 8) (by decide) (by decide +kernel)))
set_option maxRecDepth 20000 in
theorem b_X6_shut_7 : Br_ic_le mX6_shut 7 13 := br_ic_le (off := 6) (by decide +kernel) (by decide)
set_option maxRecDepth 20000 in
theorem s_X6_shut_10 : Snd mX6_shut 10 (opCi (-2)) 12 := (snd_bipush (k := -2) (by decide) (by decide +kernel))
set_option maxRecDepth 20000 in
theorem r_X6_shut_12 : RtI mX6_shut 12 := rt_I (by decide +kernel) rfl
set_option maxRecDepth 20000 in
theorem s_X6_shut_13 : Snd mX6_shut 13 (sq (opLdA 0) (sq (opGetR 6 3) (opLdI 1))) 18 := (snd_sq (snd_aload_n (k := 0) (by decide +kernel) rfl) (snd_sq (snd_getR (ci := 6) (k := 3) (by decide +kernel) rfl (by decide) (by decide) rfl iw_6 w357) (snd_iload_n (k := 1) (by decide +kernel) rfl)))
set_option maxRecDepth 20000 in
theorem c_X6_shut_18 : CallV mX6_shut 18 mX1_find 1 2 := kallV (site_VN rfl w594 (by decide +kernel) w591 w593 w28 w94 ⟨by decide, by decide, by decide +kernel⟩) (by decide) (by decide) (by unfold clsNo; rfl)
set_option maxRecDepth 20000 in
theorem b_X6_shut_21 : Br_if_ne mX6_shut 21 28 := br_if_ne (off := 7) (by decide +kernel) (by decide)
set_option maxRecDepth 20000 in
theorem s_X6_shut_24 : Snd mX6_shut 24 (sq (opCi (1)) opNop) 29 := (snd_sq (snd_iconst (k := 1) (by decide) (by decide +kernel)) (snd_goto (off := 4) (by decide +kernel) (by decide)))
set_option maxRecDepth 20000 in
theorem s_X6_shut_28 : Snd mX6_shut 28 (opCi (0)) 29 := (snd_iconst (k := 0) (by decide) (by decide +kernel))
set_option maxRecDepth 20000 in
theorem c_X6_shut_29 : CallS mX6_shut 29 mX6_bit 1 := kallS (site_S w468 (by decide +kernel) w466 w467 w90 ⟨by decide, by decide, by decide +kernel⟩) (by decide)
set_option maxRecDepth 20000 in
theorem r_X6_shut_32 : RtI mX6_shut 32 := rt_I (by decide +kernel) rfl
/-! ClaimChains.settle(I)I -/
set_option maxRecDepth 20000 in
theorem s_X6_settle_0 : Snd mX6_settle 0 (opLdI 1) 1 := (snd_iload_n (k := 1) (by decide +kernel) rfl)
set_option maxRecDepth 20000 in
theorem b_X6_settle_1 : Br_if_lt mX6_settle 1 10 := br_if_lt (off := 9) (by decide +kernel) (by decide)
set_option maxRecDepth 20000 in
theorem s_X6_settle_4 : Snd mX6_settle 4 (sq (opLdI 1) (opCi (8))) 7 := (snd_sq (snd_iload_n (k := 1) (by decide +kernel) rfl) (snd_bipush (k := 8) (by decide) (by decide +kernel)))
set_option maxRecDepth 20000 in
theorem b_X6_settle_7 : Br_ic_le mX6_settle 7 13 := br_ic_le (off := 6) (by decide +kernel) (by decide)
set_option maxRecDepth 20000 in
theorem s_X6_settle_10 : Snd mX6_settle 10 (opCi (-2)) 12 := (snd_bipush (k := -2) (by decide) (by decide +kernel))
set_option maxRecDepth 20000 in
theorem r_X6_settle_12 : RtI mX6_settle 12 := rt_I (by decide +kernel) rfl
set_option maxRecDepth 20000 in
theorem s_X6_settle_13 : Snd mX6_settle 13 (sq (opCi (0)) (opStI 2)) 15 := (snd_sq (snd_iconst (k := 0) (by decide) (by decide +kernel)) (snd_istore_n (k := 2) (by decide +kernel) rfl (by decide)))
set_option maxRecDepth 20000 in
theorem s_X6_settle_15 : Snd mX6_settle 15 (sq (opLdI 2) (opLdI 1)) 17 := (snd_sq (snd_iload_n (k := 2) (by decide +kernel) rfl) (snd_iload_n (k := 1) (by decide +kernel) rfl))
set_option maxRecDepth 20000 in
theorem b_X6_settle_17 : Br_ic_gt mX6_settle 17 61 := br_ic_gt (off := 44) (by decide +kernel) (by decide)
set_option maxRecDepth 20000 in
theorem s_X6_settle_20 : Snd mX6_settle 20 (sq (opLdA 0) (sq (opGetR 6 1) (opLdI 2))) 25 := (snd_sq (snd_aload_n (k := 0) (by decide +kernel) rfl) (snd_sq (snd_getR (ci := 6) (k := 1) (by decide +kernel) rfl (by decide) (by decide) rfl iw_6 w355) (snd_iload_n (k := 2) (by decide +kernel) rfl)))
set_option maxRecDepth 20000 in
theorem c_X6_settle_25 : CallV mX6_settle 25 mX3_isClear 3 2 := kallV (site_VN rfl w586 (by decide +kernel) w583 w585 w27 w92 ⟨by decide, by decide, by decide +kernel⟩) (by decide) (by decide) (by unfold clsNo; rfl)
set_option maxRecDepth 20000 in
theorem b_X6_settle_28 : Br_if_ne mX6_settle 28 42 := br_if_ne (off := 14) (by decide +kernel) (by decide)
set_option maxRecDepth 20000 in
theorem s_X6_settle_31 : Snd mX6_settle 31 (sq (opCi (100)) (sq (opLdA 0) (opGetR 6 1))) 37 := (snd_sq (snd_bipush (k := 100) (by decide) (by decide +kernel)) (snd_sq (snd_aload_n (k := 0) (by decide +kernel) rfl) (snd_getR (ci := 6) (k := 1) (by decide +kernel) rfl (by decide) (by decide) rfl iw_6 w355)))
set_option maxRecDepth 20000 in
theorem c_X6_settle_37 : CallV mX6_settle 37 mX3_leastBrokenDistance 3 1 := kallV (site_VN rfl w489 (by decide +kernel) w622 w488 w16 w92 ⟨by decide, by decide, by decide +kernel⟩) (by decide) (by decide) (by unfold clsNo; rfl)
set_option maxRecDepth 20000 in
theorem s_X6_settle_40 : Snd mX6_settle 40 opiadd 41 := (snd_iadd (by decide +kernel))
set_option maxRecDepth 20000 in
theorem r_X6_settle_41 : RtI mX6_settle 41 := rt_I (by decide +kernel) rfl
set_option maxRecDepth 20000 in
theorem s_X6_settle_42 : Snd mX6_settle 42 (sq (opLdA 0) (sq (opGetR 6 3) (opLdI 2))) 47 := (snd_sq (snd_aload_n (k := 0) (by decide +kernel) rfl) (snd_sq (snd_getR (ci := 6) (k := 3) (by decide +kernel) rfl (by decide) (by decide) rfl iw_6 w357) (snd_iload_n (k := 2) (by decide +kernel) rfl)))
set_option maxRecDepth 20000 in
theorem c_X6_settle_47 : CallV mX6_settle 47 mX1_find 1 2 := kallV (site_VN rfl w594 (by decide +kernel) w591 w593 w28 w94 ⟨by decide, by decide, by decide +kernel⟩) (by decide) (by decide) (by unfold clsNo; rfl)
set_option maxRecDepth 20000 in
theorem b_X6_settle_50 : Br_if_ne mX6_settle 50 55 := br_if_ne (off := 5) (by decide +kernel) (by decide)
set_option maxRecDepth 20000 in
theorem s_X6_settle_53 : Snd mX6_settle 53 (opLdI 2) 54 := (snd_iload_n (k := 2) (by decide +kernel) rfl)
set_option maxRecDepth 20000 in
theorem r_X6_settle_54 : RtI mX6_settle 54 := rt_I (by decide +kernel) rfl
set_option maxRecDepth 20000 in
theorem s_X6_settle_55 : Snd mX6_settle 55 (sq (opInc 2 (1)) opNop) 15 := (snd_sq (snd_iinc (k := 1) (by decide +kernel) (by decide) (by decide)) (snd_goto (off := -43) (by decide +kernel) (by decide)))
set_option maxRecDepth 20000 in
theorem s_X6_settle_61 : Snd mX6_settle 61 (opCi (-9)) 63 := (snd_bipush (k := -9) (by decide) (by decide +kernel))
set_option maxRecDepth 20000 in
theorem r_X6_settle_63 : RtI mX6_settle 63 := rt_I (by decide +kernel) rfl
/-! ClaimChains.chain(III)I -/
set_option maxRecDepth 20000 in
theorem s_X6_chain_0 : Snd mX6_chain 0 (opLdI 1) 1 := (snd_iload_n (k := 1) (by decide +kernel) rfl)
set_option maxRecDepth 20000 in
theorem b_X6_chain_1 : Br_if_lt mX6_chain 1 20 := br_if_lt (off := 19) (by decide +kernel) (by decide)
set_option maxRecDepth 20000 in
theorem s_X6_chain_4 : Snd mX6_chain 4 (sq (opLdI 1) (opCi (8))) 7 := (snd_sq (snd_iload_n (k := 1) (by decide +kernel) rfl) (snd_bipush (k := 8) (by decide) (by decide +kernel)))
set_option maxRecDepth 20000 in
theorem b_X6_chain_7 : Br_ic_gt mX6_chain 7 20 := br_ic_gt (off := 13) (by decide +kernel) (by decide)
set_option maxRecDepth 20000 in
theorem s_X6_chain_10 : Snd mX6_chain 10 (opLdI 2) 11 := (snd_iload_n (k := 2) (by decide +kernel) rfl)
set_option maxRecDepth 20000 in
theorem b_X6_chain_11 : Br_if_lt mX6_chain 11 20 := br_if_lt (off := 9) (by decide +kernel) (by decide)
set_option maxRecDepth 20000 in
theorem s_X6_chain_14 : Snd mX6_chain 14 (sq (opLdI 2) (opCi (8))) 17 := (snd_sq (snd_iload_n (k := 2) (by decide +kernel) rfl) (snd_bipush (k := 8) (by decide) (by decide +kernel)))
set_option maxRecDepth 20000 in
theorem b_X6_chain_17 : Br_ic_le mX6_chain 17 23 := br_ic_le (off := 6) (by decide +kernel) (by decide)
set_option maxRecDepth 20000 in
theorem s_X6_chain_20 : Snd mX6_chain 20 (opCi (-2)) 22 := (snd_bipush (k := -2) (by decide) (by decide +kernel))
set_option maxRecDepth 20000 in
theorem r_X6_chain_22 : RtI mX6_chain 22 := rt_I (by decide +kernel) rfl
set_option maxRecDepth 20000 in
theorem s_X6_chain_23 : Snd mX6_chain 23 (opLdI 3) 24 := (snd_iload_n (k := 3) (by decide +kernel) rfl)
set_option maxRecDepth 20000 in
theorem b_X6_chain_24 : Br_if_lt mX6_chain 24 32 := br_if_lt (off := 8) (by decide +kernel) (by decide)
set_option maxRecDepth 20000 in
theorem s_X6_chain_27 : Snd mX6_chain 27 (sq (opLdI 3) (opCi (1))) 29 := (snd_sq (snd_iload_n (k := 3) (by decide +kernel) rfl) (snd_iconst (k := 1) (by decide) (by decide +kernel)))
set_option maxRecDepth 20000 in
theorem b_X6_chain_29 : Br_ic_le mX6_chain 29 35 := br_ic_le (off := 6) (by decide +kernel) (by decide)
set_option maxRecDepth 20000 in
theorem s_X6_chain_32 : Snd mX6_chain 32 (opCi (-2)) 34 := (snd_bipush (k := -2) (by decide) (by decide +kernel))
set_option maxRecDepth 20000 in
theorem r_X6_chain_34 : RtI mX6_chain 34 := rt_I (by decide +kernel) rfl
set_option maxRecDepth 20000 in
theorem s_X6_chain_35 : Snd mX6_chain 35 (opLdI 3) 36 := (snd_iload_n (k := 3) (by decide +kernel) rfl)
set_option maxRecDepth 20000 in
theorem b_X6_chain_36 : Br_if_ne mX6_chain 36 45 := br_if_ne (off := 9) (by decide +kernel) (by decide)
set_option maxRecDepth 20000 in
theorem s_X6_chain_39 : Snd mX6_chain 39 (sq (opLdI 1) (sq (opCi (1)) (sq opiadd opNop))) 46 := (snd_sq (snd_iload_n (k := 1) (by decide +kernel) rfl) (snd_sq (snd_iconst (k := 1) (by decide) (by decide +kernel)) (snd_sq (snd_iadd (by decide +kernel)) (snd_goto (off := 4) (by decide +kernel) (by decide)))))
set_option maxRecDepth 20000 in
theorem s_X6_chain_45 : Snd mX6_chain 45 (opLdI 1) 46 := (snd_iload_n (k := 1) (by decide +kernel) rfl)
set_option maxRecDepth 20000 in
theorem s_X6_chain_46 : Snd mX6_chain 46 (sq (opStI 4) (sq (opLdI 2) (opLdI 4))) 51 := (snd_sq (snd_istore (by decide +kernel) (by decide)) (snd_sq (snd_iload_n (k := 2) (by decide +kernel) rfl) (snd_iload (by decide +kernel))))
set_option maxRecDepth 20000 in
theorem b_X6_chain_51 : Br_ic_ge mX6_chain 51 65 := br_ic_ge (off := 14) (by decide +kernel) (by decide)
set_option maxRecDepth 20000 in
theorem s_X6_chain_54 : Snd mX6_chain 54 (sq (opLdA 0) (sq (opGetR 6 3) (opLdI 1))) 59 := (snd_sq (snd_aload_n (k := 0) (by decide +kernel) rfl) (snd_sq (snd_getR (ci := 6) (k := 3) (by decide +kernel) rfl (by decide) (by decide) rfl iw_6 w357) (snd_iload_n (k := 1) (by decide +kernel) rfl)))
set_option maxRecDepth 20000 in
theorem c_X6_chain_59 : CallV mX6_chain 59 mX1_find 1 2 := kallV (site_VN rfl w594 (by decide +kernel) w591 w593 w28 w94 ⟨by decide, by decide, by decide +kernel⟩) (by decide) (by decide) (by unfold clsNo; rfl)
set_option maxRecDepth 20000 in
theorem b_X6_chain_62 : Br_if_ne mX6_chain 62 68 := br_if_ne (off := 6) (by decide +kernel) (by decide)
set_option maxRecDepth 20000 in
theorem s_X6_chain_65 : Snd mX6_chain 65 (opCi (-9)) 67 := (snd_bipush (k := -9) (by decide) (by decide +kernel))
set_option maxRecDepth 20000 in
theorem r_X6_chain_67 : RtI mX6_chain 67 := rt_I (by decide +kernel) rfl
set_option maxRecDepth 20000 in
theorem s_X6_chain_68 : Snd mX6_chain 68 (opLdI 3) 69 := (snd_iload_n (k := 3) (by decide +kernel) rfl)
set_option maxRecDepth 20000 in
theorem b_X6_chain_69 : Br_if_ne mX6_chain 69 84 := br_if_ne (off := 15) (by decide +kernel) (by decide)
set_option maxRecDepth 20000 in
theorem s_X6_chain_72 : Snd mX6_chain 72 (sq (opLdA 0) (sq (opGetR 6 3) (sq (opGetR 1 2) (sq (opLdI 2) (sq opIald opNop))))) 93 := (snd_sq (snd_aload_n (k := 0) (by decide +kernel) rfl) (snd_sq (snd_getR (ci := 6) (k := 3) (by decide +kernel) rfl (by decide) (by decide) rfl iw_6 w357) (snd_sq (snd_getRN (ci := 1) (k := 2) (by decide +kernel) rfl (by decide) (by decide) rfl iw_1 w289) (snd_sq (snd_iload_n (k := 2) (by decide +kernel) rfl) (snd_sq (snd_iald (by decide +kernel)) (snd_goto (off := 12) (by decide +kernel) (by decide)))))))
set_option maxRecDepth 20000 in
theorem s_X6_chain_84 : Snd mX6_chain 84 (sq (opLdA 0) (sq (opGetR 6 3) (sq (opGetR 1 3) (sq (opLdI 2) opIald)))) 93 := (snd_sq (snd_aload_n (k := 0) (by decide +kernel) rfl) (snd_sq (snd_getR (ci := 6) (k := 3) (by decide +kernel) rfl (by decide) (by decide) rfl iw_6 w357) (snd_sq (snd_getRN (ci := 1) (k := 3) (by decide +kernel) rfl (by decide) (by decide) rfl iw_1 w291) (snd_sq (snd_iload_n (k := 2) (by decide +kernel) rfl) (snd_iald (by decide +kernel))))))
set_option maxRecDepth 20000 in
theorem r_X6_chain_93 : RtI mX6_chain 93 := rt_I (by decide +kernel) rfl
/-! ClaimChains.weak(I)I -/
set_option maxRecDepth 20000 in
theorem s_X6_weak_0 : Snd mX6_weak 0 (opLdI 1) 1 := (snd_iload_n (k := 1) (by decide +kernel) rfl)
set_option maxRecDepth 20000 in
theorem b_X6_weak_1 : Br_if_lt mX6_weak 1 9 := br_if_lt (off := 8) (by decide +kernel) (by decide)
set_option maxRecDepth 20000 in
theorem s_X6_weak_4 : Snd mX6_weak 4 (sq (opLdI 1) (opCi (1))) 6 := (snd_sq (snd_iload_n (k := 1) (by decide +kernel) rfl) (snd_iconst (k := 1) (by decide) (by decide +kernel)))
set_option maxRecDepth 20000 in
theorem b_X6_weak_6 : Br_ic_le mX6_weak 6 12 := br_ic_le (off := 6) (by decide +kernel) (by decide)
set_option maxRecDepth 20000 in
theorem s_X6_weak_9 : Snd mX6_weak 9 (opCi (-2)) 11 := (snd_bipush (k := -2) (by decide) (by decide +kernel))
set_option maxRecDepth 20000 in
theorem r_X6_weak_11 : RtI mX6_weak 11 := rt_I (by decide +kernel) rfl
set_option maxRecDepth 20000 in
theorem s_X6_weak_12 : Snd mX6_weak 12 (opLdI 1) 13 := (snd_iload_n (k := 1) (by decide +kernel) rfl)
set_option maxRecDepth 20000 in
theorem b_X6_weak_13 : Br_if_ne mX6_weak 13 26 := br_if_ne (off := 13) (by decide +kernel) (by decide)
set_option maxRecDepth 20000 in
theorem s_X6_weak_16 : Snd mX6_weak 16 (sq (opLdA 0) (opGetR 6 2)) 20 := (snd_sq (snd_aload_n (k := 0) (by decide +kernel) rfl) (snd_getR (ci := 6) (k := 2) (by decide +kernel) rfl (by decide) (by decide) rfl iw_6 w356))
set_option maxRecDepth 20000 in
theorem c_X6_weak_20 : CallV mX6_weak 20 mX2_weakStates 2 1 := kallV (site_VN rfl w634 (by decide +kernel) w631 w633 w34 w93 ⟨by decide, by decide, by decide +kernel⟩) (by decide) (by decide) (by unfold clsNo; rfl)
set_option maxRecDepth 20000 in
theorem s_X6_weak_23 : Snd mX6_weak 23 opNop 33 := (snd_goto (off := 10) (by decide +kernel) (by decide))
set_option maxRecDepth 20000 in
theorem s_X6_weak_26 : Snd mX6_weak 26 (sq (opLdA 0) (opGetR 6 2)) 30 := (snd_sq (snd_aload_n (k := 0) (by decide +kernel) rfl) (snd_getR (ci := 6) (k := 2) (by decide +kernel) rfl (by decide) (by decide) rfl iw_6 w356))
set_option maxRecDepth 20000 in
theorem c_X6_weak_30 : CallV mX6_weak 30 mX2_goodStates 2 1 := kallV (site_VN rfl w602 (by decide +kernel) w638 w601 w30 w93 ⟨by decide, by decide, by decide +kernel⟩) (by decide) (by decide) (by unfold clsNo; rfl)
set_option maxRecDepth 20000 in
theorem r_X6_weak_33 : RtI mX6_weak 33 := rt_I (by decide +kernel) rfl
/-! ClaimChains.strengthen()I -/
set_option maxRecDepth 20000 in
theorem s_X6_strengthen_0 : Snd mX6_strengthen 0 (sq (opLdA 0) (opGetR 6 2)) 4 := (snd_sq (snd_aload_n (k := 0) (by decide +kernel) rfl) (snd_getR (ci := 6) (k := 2) (by decide +kernel) rfl (by decide) (by decide) rfl iw_6 w356))
set_option maxRecDepth 20000 in
theorem c_X6_strengthen_4 : CallV mX6_strengthen 4 mX2_addByStrengthening 2 1 := kallV (site_VN rfl w646 (by decide +kernel) w643 w645 w35 w93 ⟨by decide, by decide, by decide +kernel⟩) (by decide) (by decide) (by unfold clsNo; rfl)
set_option maxRecDepth 20000 in
theorem r_X6_strengthen_7 : RtI mX6_strengthen 7 := rt_I (by decide +kernel) rfl
/-! ClaimChains.lemma(I)I -/
set_option maxRecDepth 20000 in
theorem s_X6_lemma_0 : Snd mX6_lemma 0 (sq (opLdA 0) (sq (opGetR 6 0) (opLdI 1))) 5 := (snd_sq (snd_aload_n (k := 0) (by decide +kernel) rfl) (snd_sq (snd_getR (ci := 6) (k := 0) (by decide +kernel) rfl (by decide) (by decide) rfl iw_6 w354) (snd_iload_n (k := 1) (by decide +kernel) rfl)))
set_option maxRecDepth 20000 in
theorem c_X6_lemma_5 : CallV mX6_lemma 5 mX4_has 4 2 := kallV (site_VN rfl w178 (by decide +kernel) w429 w177 w2 w91 ⟨by decide, by decide, by decide +kernel⟩) (by decide) (by decide) (by unfold clsNo; rfl)
set_option maxRecDepth 20000 in
theorem b_X6_lemma_8 : Br_if_ne mX6_lemma 8 13 := br_if_ne (off := 5) (by decide +kernel) (by decide)
set_option maxRecDepth 20000 in
theorem s_X6_lemma_11 : Snd mX6_lemma 11 (opCi (-1)) 12 := (snd_iconst (k := -1) (by decide) (by decide +kernel))
set_option maxRecDepth 20000 in
theorem r_X6_lemma_12 : RtI mX6_lemma 12 := rt_I (by decide +kernel) rfl
set_option maxRecDepth 20000 in
theorem s_X6_lemma_13 : Snd mX6_lemma 13 (sq (opLdA 0) (sq (opGetR 6 0) (sq (opGetR 4 5) (sq (opLdI 1) opIald)))) 22 := (snd_sq (snd_aload_n (k := 0) (by decide +kernel) rfl) (snd_sq (snd_getR (ci := 6) (k := 0) (by decide +kernel) rfl (by decide) (by decide) rfl iw_6 w354) (snd_sq (snd_getRN (ci := 4) (k := 5) (by decide +kernel) rfl (by decide) (by decide) rfl iw_4 w126) (snd_sq (snd_iload_n (k := 1) (by decide +kernel) rfl) (snd_iald (by decide +kernel))))))
set_option maxRecDepth 20000 in
theorem b_X6_lemma_22 : Br_if_eq mX6_lemma 22 28 := br_if_eq (off := 6) (by decide +kernel) (by decide)
set_option maxRecDepth 20000 in
theorem s_X6_lemma_25 : Snd mX6_lemma 25 (opCi (-2)) 27 := (snd_bipush (k := -2) (by decide) (by decide +kernel))
set_option maxRecDepth 20000 in
theorem r_X6_lemma_27 : RtI mX6_lemma 27 := rt_I (by decide +kernel) rfl
set_option maxRecDepth 20000 in
theorem s_X6_lemma_28 : Snd mX6_lemma 28 (sq (opLdA 0) (sq (opGetR 6 2) (sq (opLdA 0) (sq (opGetR 6 0) (sq (opLdI 1) (opCi (0))))))) 38 := (snd_sq (snd_aload_n (k := 0) (by decide +kernel) rfl) (snd_sq (snd_getR (ci := 6) (k := 2) (by decide +kernel) rfl (by decide) (by decide) rfl iw_6 w356) (snd_sq (snd_aload_n (k := 0) (by decide +kernel) rfl) (snd_sq (snd_getR (ci := 6) (k := 0) (by decide +kernel) rfl (by decide) (by decide) rfl iw_6 w354) (snd_sq (snd_iload_n (k := 1) (by decide +kernel) rfl) (snd_iconst (k := 0) (by decide) (by decide +kernel)))))))
set_option maxRecDepth 20000 in
theorem c_X6_lemma_38 : CallV mX6_lemma 38 mX4_trueStates 4 3 := kallV (site_VN rfl w456 (by decide +kernel) w453 w455 w12 w91 ⟨by decide, by decide, by decide +kernel⟩) (by decide) (by decide) (by unfold clsNo; rfl)
set_option maxRecDepth 20000 in
theorem c_X6_lemma_41 : CallV mX6_lemma 41 mX2_addIfFitting 2 2 := kallV (site_VN rfl w676 (by decide +kernel) w673 w675 w40 w93 ⟨by decide, by decide, by decide +kernel⟩) (by decide) (by decide) (by unfold clsNo; rfl)
set_option maxRecDepth 20000 in
theorem r_X6_lemma_44 : RtI mX6_lemma 44 := rt_I (by decide +kernel) rfl
/-! ClaimChains.block(I)I -/
set_option maxRecDepth 20000 in
theorem s_X6_block_0 : Snd mX6_block 0 (sq (opLdA 0) (sq (opCi (0)) (sq (opPutI 6 7) (opLdI 1)))) 6 := (snd_sq (snd_aload_n (k := 0) (by decide +kernel) rfl) (snd_sq (snd_iconst (k := 0) (by decide) (by decide +kernel)) (snd_sq (snd_putI (ci := 6) (k := 7) (by decide +kernel) rfl (by decide) (by decide) (by decide) iw_6 tyX6_ok nmX6 rfl (tyX6_ok 7 (by decide)) w361) (snd_iload_n (k := 1) (by decide +kernel) rfl))))
set_option maxRecDepth 20000 in
theorem c_X6_block_6 : CallS mX6_block 6 mX6_isBox 1 := kallS (site_S w683 (by decide +kernel) w681 w682 w90 ⟨by decide, by decide, by decide +kernel⟩) (by decide)
set_option maxRecDepth 20000 in
theorem b_X6_block_9 : Br_if_ne mX6_block 9 14 := br_if_ne (off := 5) (by decide +kernel) (by decide)
set_option maxRecDepth 20000 in
theorem s_X6_block_12 : Snd mX6_block 12 (opCi (-1)) 13 := (snd_iconst (k := -1) (by decide) (by decide +kernel))
set_option maxRecDepth 20000 in
theorem r_X6_block_13 : RtI mX6_block 13 := rt_I (by decide +kernel) rfl
set_option maxRecDepth 20000 in
theorem s_X6_block_14 : Snd mX6_block 14 (sq (opLdA 0) (sq (opGetR 6 5) (sq (opLdI 1) (sq opAald (sq (opStA 2) (opLdA 2)))))) 22 := (snd_sq (snd_aload_n (k := 0) (by decide +kernel) rfl) (snd_sq (snd_getR (ci := 6) (k := 5) (by decide +kernel) rfl (by decide) (by decide) rfl iw_6 w359) (snd_sq (snd_iload_n (k := 1) (by decide +kernel) rfl) (snd_sq (snd_aald (by decide +kernel)) (snd_sq (snd_astore_n (k := 2) (by decide +kernel) rfl (by decide)) (snd_aload_n (k := 2) (by decide +kernel) rfl))))))
set_option maxRecDepth 20000 in
theorem c_X6_block_22 : CallV mX6_block 22 mX0_hasRow 0 1 := kallV (site_VN rfl w687 (by decide +kernel) w684 w686 w41 w96 ⟨by decide, by decide, by decide +kernel⟩) (by decide) (by decide) (by unfold clsNo; rfl)
set_option maxRecDepth 20000 in
theorem b_X6_block_25 : Br_if_ne mX6_block 25 34 := br_if_ne (off := 9) (by decide +kernel) (by decide)
set_option maxRecDepth 20000 in
theorem s_X6_block_28 : Snd mX6_block 28 (sq (opLdA 0) (opCi (1))) 30 := (snd_sq (snd_aload_n (k := 0) (by decide +kernel) rfl) (snd_iconst (k := 1) (by decide) (by decide +kernel)))
set_option maxRecDepth 20000 in
theorem c_X6_block_30 : CallV mX6_block 30 mX6_faulted 6 2 := kallV (site_V rfl w691 (by decide +kernel) w688 w690 w42 w90 ⟨by decide, by decide, by decide +kernel⟩) (by decide) (by decide) (by unfold clsNo; rfl)
set_option maxRecDepth 20000 in
theorem r_X6_block_33 : RtI mX6_block 33 := rt_I (by decide +kernel) rfl
set_option maxRecDepth 20000 in
theorem s_X6_block_34 : Snd mX6_block 34 (sq (opCi (65535)) (sq (opStI 3) (sq (opCi (0)) (opStI 4)))) 40 := (snd_sq (snd_ldc w692 (by decide +kernel)) (snd_sq (snd_istore_n (k := 3) (by decide +kernel) rfl (by decide)) (snd_sq (snd_iconst (k := 0) (by decide) (by decide +kernel)) (snd_istore (by decide +kernel) (by decide)))))
set_option maxRecDepth 20000 in
theorem s_X6_block_40 : Snd mX6_block 40 (sq (opLdI 4) (sq (opLdA 2) (opGetI 0 2))) 46 := (snd_sq (snd_iload (by decide +kernel)) (snd_sq (snd_aload_n (k := 2) (by decide +kernel) rfl) (snd_getIN (ci := 0) (k := 2) (by decide +kernel) rfl (by decide) (by decide) (by decide) iw_0 w346)))
set_option maxRecDepth 20000 in
theorem b_X6_block_46 : Br_ic_ge mX6_block 46 111 := br_ic_ge (off := 65) (by decide +kernel) (by decide)
set_option maxRecDepth 20000 in
theorem s_X6_block_49 : Snd mX6_block 49 (sq (opLdA 2) (sq (opGetR 0 0) (sq (opLdI 4) (sq opIald (sq (opStI 5) (sq (opLdA 0) (sq (opGetR 6 0) (opLdI 5)))))))) 64 := (snd_sq (snd_aload_n (k := 2) (by decide +kernel) rfl) (snd_sq (snd_getRN (ci := 0) (k := 0) (by decide +kernel) rfl (by decide) (by decide) rfl iw_0 w343) (snd_sq (snd_iload (by decide +kernel)) (snd_sq (snd_iald (by decide +kernel)) (snd_sq (snd_istore (by decide +kernel) (by decide)) (snd_sq (snd_aload_n (k := 0) (by decide +kernel) rfl) (snd_sq (snd_getR (ci := 6) (k := 0) (by decide +kernel) rfl (by decide) (by decide) rfl iw_6 w354) (snd_iload (by decide +kernel)))))))))
set_option maxRecDepth 20000 in
theorem c_X6_block_64 : CallV mX6_block 64 mX4_has 4 2 := kallV (site_VN rfl w178 (by decide +kernel) w429 w177 w2 w91 ⟨by decide, by decide, by decide +kernel⟩) (by decide) (by decide) (by unfold clsNo; rfl)
set_option maxRecDepth 20000 in
theorem b_X6_block_67 : Br_if_ne mX6_block 67 76 := br_if_ne (off := 9) (by decide +kernel) (by decide)
set_option maxRecDepth 20000 in
theorem s_X6_block_70 : Snd mX6_block 70 (sq (opLdA 0) (opCi (1))) 72 := (snd_sq (snd_aload_n (k := 0) (by decide +kernel) rfl) (snd_iconst (k := 1) (by decide) (by decide +kernel)))
set_option maxRecDepth 20000 in
theorem c_X6_block_72 : CallV mX6_block 72 mX6_faulted 6 2 := kallV (site_V rfl w691 (by decide +kernel) w688 w690 w42 w90 ⟨by decide, by decide, by decide +kernel⟩) (by decide) (by decide) (by unfold clsNo; rfl)
set_option maxRecDepth 20000 in
theorem r_X6_block_75 : RtI mX6_block 75 := rt_I (by decide +kernel) rfl
set_option maxRecDepth 20000 in
theorem s_X6_block_76 : Snd mX6_block 76 (sq (opLdA 0) (sq (opGetR 6 0) (sq (opGetR 4 5) (sq (opLdI 5) opIald)))) 86 := (snd_sq (snd_aload_n (k := 0) (by decide +kernel) rfl) (snd_sq (snd_getR (ci := 6) (k := 0) (by decide +kernel) rfl (by decide) (by decide) rfl iw_6 w354) (snd_sq (snd_getRN (ci := 4) (k := 5) (by decide +kernel) rfl (by decide) (by decide) rfl iw_4 w126) (snd_sq (snd_iload (by decide +kernel)) (snd_iald (by decide +kernel))))))
set_option maxRecDepth 20000 in
theorem b_X6_block_86 : Br_if_eq mX6_block 86 92 := br_if_eq (off := 6) (by decide +kernel) (by decide)
set_option maxRecDepth 20000 in
theorem s_X6_block_89 : Snd mX6_block 89 (opCi (-2)) 91 := (snd_bipush (k := -2) (by decide) (by decide +kernel))
set_option maxRecDepth 20000 in
theorem r_X6_block_91 : RtI mX6_block 91 := rt_I (by decide +kernel) rfl
set_option maxRecDepth 20000 in
theorem s_X6_block_92 : Snd mX6_block 92 (sq (opLdI 3) (sq (opLdA 0) (sq (opGetR 6 0) (sq (opLdI 5) (opCi (0)))))) 100 := (snd_sq (snd_iload_n (k := 3) (by decide +kernel) rfl) (snd_sq (snd_aload_n (k := 0) (by decide +kernel) rfl) (snd_sq (snd_getR (ci := 6) (k := 0) (by decide +kernel) rfl (by decide) (by decide) rfl iw_6 w354) (snd_sq (snd_iload (by decide +kernel)) (snd_iconst (k := 0) (by decide) (by decide +kernel))))))
set_option maxRecDepth 20000 in
theorem c_X6_block_100 : CallV mX6_block 100 mX4_trueStates 4 3 := kallV (site_VN rfl w456 (by decide +kernel) w453 w455 w12 w91 ⟨by decide, by decide, by decide +kernel⟩) (by decide) (by decide) (by unfold clsNo; rfl)
set_option maxRecDepth 20000 in
theorem s_X6_block_103 : Snd mX6_block 103 (sq opiand (sq (opStI 3) (sq (opInc 4 (1)) opNop))) 40 := (snd_sq (snd_iand (by decide +kernel)) (snd_sq (snd_istore_n (k := 3) (by decide +kernel) rfl (by decide)) (snd_sq (snd_iinc (k := 1) (by decide +kernel) (by decide) (by decide)) (snd_goto (off := -68) (by decide +kernel) (by decide)))))
set_option maxRecDepth 20000 in
theorem s_X6_block_111 : Snd mX6_block 111 (sq (opLdA 0) (sq (opGetR 6 2) (sq (opCi (65535)) (sq (opLdI 3) (sq (opCi (-1)) (sq opixor opiand)))))) 121 := (snd_sq (snd_aload_n (k := 0) (by decide +kernel) rfl) (snd_sq (snd_getR (ci := 6) (k := 2) (by decide +kernel) rfl (by decide) (by decide) rfl iw_6 w356) (snd_sq (snd_ldc w692 (by decide +kernel)) (snd_sq (snd_iload_n (k := 3) (by decide +kernel) rfl) (snd_sq (snd_iconst (k := -1) (by decide) (by decide +kernel)) (snd_sq (snd_ixor (by decide +kernel)) (snd_iand (by decide +kernel))))))))
set_option maxRecDepth 20000 in
theorem c_X6_block_121 : CallV mX6_block 121 mX2_addIfFitting 2 2 := kallV (site_VN rfl w676 (by decide +kernel) w673 w675 w40 w93 ⟨by decide, by decide, by decide +kernel⟩) (by decide) (by decide) (by unfold clsNo; rfl)
set_option maxRecDepth 20000 in
theorem r_X6_block_124 : RtI mX6_block 124 := rt_I (by decide +kernel) rfl
/-! ClaimChains.back()I -/
set_option maxRecDepth 20000 in
theorem s_X6_back_0 : Snd mX6_back 0 (sq (opLdA 0) (sq (opGetR 6 2) (opGetI 2 3))) 7 := (snd_sq (snd_aload_n (k := 0) (by decide +kernel) rfl) (snd_sq (snd_getR (ci := 6) (k := 2) (by decide +kernel) rfl (by decide) (by decide) rfl iw_6 w356) (snd_getIN (ci := 2) (k := 3) (by decide +kernel) rfl (by decide) (by decide) (by decide) iw_2 w267)))
set_option maxRecDepth 20000 in
theorem b_X6_back_7 : Br_if_ne mX6_back 7 15 := br_if_ne (off := 8) (by decide +kernel) (by decide)
set_option maxRecDepth 20000 in
theorem s_X6_back_10 : Snd mX6_back 10 (sq (opCi (-3)) opNop) 22 := (snd_sq (snd_bipush (k := -3) (by decide) (by decide +kernel)) (snd_goto (off := 10) (by decide +kernel) (by decide)))
set_option maxRecDepth 20000 in
theorem s_X6_back_15 : Snd mX6_back 15 (sq (opLdA 0) (opGetR 6 2)) 19 := (snd_sq (snd_aload_n (k := 0) (by decide +kernel) rfl) (snd_getR (ci := 6) (k := 2) (by decide +kernel) rfl (by decide) (by decide) rfl iw_6 w356))
set_option maxRecDepth 20000 in
theorem c_X6_back_19 : CallV mX6_back 19 mX2_removeLast 2 1 := kallV (site_VN rfl w700 (by decide +kernel) w697 w699 w43 w93 ⟨by decide, by decide, by decide +kernel⟩) (by decide) (by decide) (by unfold clsNo; rfl)
set_option maxRecDepth 20000 in
theorem r_X6_back_22 : RtI mX6_back 22 := rt_I (by decide +kernel) rfl
/-! ClaimChains.ofLemma(II)I -/
set_option maxRecDepth 20000 in
theorem s_X6_ofLemma_0 : Snd mX6_ofLemma 0 (opLdI 1) 1 := (snd_iload_n (k := 1) (by decide +kernel) rfl)
set_option maxRecDepth 20000 in
theorem b_X6_ofLemma_1 : Br_if_lt mX6_ofLemma 1 15 := br_if_lt (off := 14) (by decide +kernel) (by decide)
set_option maxRecDepth 20000 in
theorem s_X6_ofLemma_4 : Snd mX6_ofLemma 4 (sq (opLdI 1) (sq (opLdA 0) (sq (opGetR 6 2) (opGetI 2 3)))) 12 := (snd_sq (snd_iload_n (k := 1) (by decide +kernel) rfl) (snd_sq (snd_aload_n (k := 0) (by decide +kernel) rfl) (snd_sq (snd_getR (ci := 6) (k := 2) (by decide +kernel) rfl (by decide) (by decide) rfl iw_6 w356) (snd_getIN (ci := 2) (k := 3) (by decide +kernel) rfl (by decide) (by decide) (by decide) iw_2 w267))))
set_option maxRecDepth 20000 in
theorem b_X6_ofLemma_12 : Br_ic_lt mX6_ofLemma 12 17 := br_ic_lt (off := 5) (by decide +kernel) (by decide)
set_option maxRecDepth 20000 in
theorem s_X6_ofLemma_15 : Snd mX6_ofLemma 15 (opCi (-1)) 16 := (snd_iconst (k := -1) (by decide) (by decide +kernel))
set_option maxRecDepth 20000 in
theorem r_X6_ofLemma_16 : RtI mX6_ofLemma 16 := rt_I (by decide +kernel) rfl
set_option maxRecDepth 20000 in
theorem s_X6_ofLemma_17 : Snd mX6_ofLemma 17 (opLdI 2) 18 := (snd_iload_n (k := 2) (by decide +kernel) rfl)
set_option maxRecDepth 20000 in
theorem hw_X6_ofLemma_18 : decode (MI.bytes mX6_ofLemma) 18 = .ok (.tableswitch 59 0 2 #[26, 36, 49], 26) := by decide +kernel
set_option maxRecDepth 20000 in
theorem w_X6_ofLemma_18 {d cap : Nat} {L : LT} {x : Int32} {st : List Value} {n : Nat} {R : RT} {I : IT} {J : JT} {Q : QT} (k0 : x = 0 → Ends mX6_ofLemma d cap 44 L st n R I J Q) (k1 : x = 1 → Ends mX6_ofLemma d cap 54 L st n R I J Q) (k2 : x = 2 → Ends mX6_ofLemma d cap 67 L st n R I J Q) (kd : ¬ x = 0 → ¬ x = 1 → ¬ x = 2 → Ends mX6_ofLemma d cap 77 L st n R I J Q) : Ends mX6_ofLemma d cap 18 L (.int x :: st) n R I J Q := by
  by_cases h0 : x.toInt < 0 ∨ 2 < x.toInt
  · exact sw_out hw_X6_ofLemma_18 h0 (by decide) (kd (fun h => by subst h; revert h0; decide) (fun h => by subst h; revert h0; decide) (fun h => by subst h; revert h0; decide))
  · have h1 : x.toInt = 0 ∨ x.toInt = 1 ∨ x.toInt = 2 := by omega
    rcases h1 with h1 | h1 | h1
    · have h2 : x = 0 := i32_of h1 (by decide)
      subst h2
      exact sw_in (off := 26) hw_X6_ofLemma_18 (by decide) (by decide) (by decide +kernel) (by decide) (k0 rfl)
    · have h2 : x = 1 := i32_of h1 (by decide)
      subst h2
      exact sw_in (off := 36) hw_X6_ofLemma_18 (by decide) (by decide) (by decide +kernel) (by decide) (k1 rfl)
    · have h2 : x = 2 := i32_of h1 (by decide)
      subst h2
      exact sw_in (off := 49) hw_X6_ofLemma_18 (by decide) (by decide) (by decide +kernel) (by decide) (k2 rfl)
set_option maxRecDepth 20000 in
theorem s_X6_ofLemma_44 : Snd mX6_ofLemma 44 (sq (opLdA 0) (sq (opGetR 6 2) (sq (opGetR 2 1) (sq (opLdI 1) opIald)))) 53 := (snd_sq (snd_aload_n (k := 0) (by decide +kernel) rfl) (snd_sq (snd_getR (ci := 6) (k := 2) (by decide +kernel) rfl (by decide) (by decide) rfl iw_6 w356) (snd_sq (snd_getRN (ci := 2) (k := 1) (by decide +kernel) rfl (by decide) (by decide) rfl iw_2 w263) (snd_sq (snd_iload_n (k := 1) (by decide +kernel) rfl) (snd_iald (by decide +kernel))))))
set_option maxRecDepth 20000 in
theorem r_X6_ofLemma_53 : RtI mX6_ofLemma 53 := rt_I (by decide +kernel) rfl
set_option maxRecDepth 20000 in
theorem s_X6_ofLemma_54 : Snd mX6_ofLemma 54 (sq (opLdA 0) (sq (opGetR 6 2) (sq (opGetR 2 1) (sq (opLdI 1) opIald)))) 63 := (snd_sq (snd_aload_n (k := 0) (by decide +kernel) rfl) (snd_sq (snd_getR (ci := 6) (k := 2) (by decide +kernel) rfl (by decide) (by decide) rfl iw_6 w356) (snd_sq (snd_getRN (ci := 2) (k := 1) (by decide +kernel) rfl (by decide) (by decide) rfl iw_2 w263) (snd_sq (snd_iload_n (k := 1) (by decide +kernel) rfl) (snd_iald (by decide +kernel))))))
set_option maxRecDepth 20000 in
theorem c_X6_ofLemma_63 : CallS mX6_ofLemma 63 mJ6_bitCount 1 := kallS (site_S w539 (by decide +kernel) w537 w538 w99 ⟨by decide, by decide, by decide +kernel⟩) (by decide)
set_option maxRecDepth 20000 in
theorem r_X6_ofLemma_66 : RtI mX6_ofLemma 66 := rt_I (by decide +kernel) rfl
set_option maxRecDepth 20000 in
theorem s_X6_ofLemma_67 : Snd mX6_ofLemma 67 (sq (opLdA 0) (sq (opGetR 6 2) (sq (opGetR 2 2) (sq (opLdI 1) opIald)))) 76 := (snd_sq (snd_aload_n (k := 0) (by decide +kernel) rfl) (snd_sq (snd_getR (ci := 6) (k := 2) (by decide +kernel) rfl (by decide) (by decide) rfl iw_6 w356) (snd_sq (snd_getRN (ci := 2) (k := 2) (by decide +kernel) rfl (by decide) (by decide) rfl iw_2 w265) (snd_sq (snd_iload_n (k := 1) (by decide +kernel) rfl) (snd_iald (by decide +kernel))))))
set_option maxRecDepth 20000 in
theorem r_X6_ofLemma_76 : RtI mX6_ofLemma 76 := rt_I (by decide +kernel) rfl
set_option maxRecDepth 20000 in
theorem s_X6_ofLemma_77 : Snd mX6_ofLemma 77 (opCi (-2)) 79 := (snd_bipush (k := -2) (by decide) (by decide +kernel))
set_option maxRecDepth 20000 in
theorem r_X6_ofLemma_79 : RtI mX6_ofLemma 79 := rt_I (by decide +kernel) rfl
/-! ClaimChains.closed()I -/
set_option maxRecDepth 20000 in
theorem s_X6_closed_0 : Snd mX6_closed 0 (sq (opLdA 0) (sq (opGetR 6 1) (sq (opGetI 3 4) (sq (opLdA 0) (opGetR 6 2))))) 11 := (snd_sq (snd_aload_n (k := 0) (by decide +kernel) rfl) (snd_sq (snd_getR (ci := 6) (k := 1) (by decide +kernel) rfl (by decide) (by decide) rfl iw_6 w355) (snd_sq (snd_getIN (ci := 3) (k := 4) (by decide +kernel) rfl (by decide) (by decide) (by decide) iw_3 w203) (snd_sq (snd_aload_n (k := 0) (by decide +kernel) rfl) (snd_getR (ci := 6) (k := 2) (by decide +kernel) rfl (by decide) (by decide) rfl iw_6 w356)))))
set_option maxRecDepth 20000 in
theorem c_X6_closed_11 : CallV mX6_closed 11 mX2_goodStates 2 1 := kallV (site_VN rfl w602 (by decide +kernel) w638 w601 w30 w93 ⟨by decide, by decide, by decide +kernel⟩) (by decide) (by decide) (by unfold clsNo; rfl)
set_option maxRecDepth 20000 in
theorem s_X6_closed_14 : Snd mX6_closed 14 (sq (opCi (-1)) (sq opixor opiand)) 17 := (snd_sq (snd_iconst (k := -1) (by decide) (by decide +kernel)) (snd_sq (snd_ixor (by decide +kernel)) (snd_iand (by decide +kernel))))
set_option maxRecDepth 20000 in
theorem b_X6_closed_17 : Br_if_ne mX6_closed 17 24 := br_if_ne (off := 7) (by decide +kernel) (by decide)
set_option maxRecDepth 20000 in
theorem s_X6_closed_20 : Snd mX6_closed 20 (sq (opCi (1)) opNop) 25 := (snd_sq (snd_iconst (k := 1) (by decide) (by decide +kernel)) (snd_goto (off := 4) (by decide +kernel) (by decide)))
set_option maxRecDepth 20000 in
theorem s_X6_closed_24 : Snd mX6_closed 24 (opCi (0)) 25 := (snd_iconst (k := 0) (by decide) (by decide +kernel))
set_option maxRecDepth 20000 in
theorem s_X6_closed_25 : Snd mX6_closed 25 (sq (opStI 1) (opLdI 1)) 27 := (snd_sq (snd_istore_n (k := 1) (by decide +kernel) rfl (by decide)) (snd_iload_n (k := 1) (by decide +kernel) rfl))
set_option maxRecDepth 20000 in
theorem b_X6_closed_27 : Br_if_eq mX6_closed 27 44 := br_if_eq (off := 17) (by decide +kernel) (by decide)
set_option maxRecDepth 20000 in
theorem s_X6_closed_30 : Snd mX6_closed 30 (sq (opLdA 0) (opGetR 6 2)) 34 := (snd_sq (snd_aload_n (k := 0) (by decide +kernel) rfl) (snd_getR (ci := 6) (k := 2) (by decide +kernel) rfl (by decide) (by decide) rfl iw_6 w356))
set_option maxRecDepth 20000 in
theorem c_X6_closed_34 : CallV mX6_closed 34 mX2_weakStates 2 1 := kallV (site_VN rfl w634 (by decide +kernel) w631 w633 w34 w93 ⟨by decide, by decide, by decide +kernel⟩) (by decide) (by decide) (by unfold clsNo; rfl)
set_option maxRecDepth 20000 in
theorem b_X6_closed_37 : Br_if_ne mX6_closed 37 44 := br_if_ne (off := 7) (by decide +kernel) (by decide)
set_option maxRecDepth 20000 in
theorem s_X6_closed_40 : Snd mX6_closed 40 (sq (opCi (1)) opNop) 45 := (snd_sq (snd_iconst (k := 1) (by decide) (by decide +kernel)) (snd_goto (off := 4) (by decide +kernel) (by decide)))
set_option maxRecDepth 20000 in
theorem s_X6_closed_44 : Snd mX6_closed 44 (opCi (0)) 45 := (snd_iconst (k := 0) (by decide) (by decide +kernel))
set_option maxRecDepth 20000 in
theorem c_X6_closed_45 : CallS mX6_closed 45 mX6_bit 1 := kallS (site_S w468 (by decide +kernel) w466 w467 w90 ⟨by decide, by decide, by decide +kernel⟩) (by decide)
set_option maxRecDepth 20000 in
theorem r_X6_closed_48 : RtI mX6_closed 48 := rt_I (by decide +kernel) rfl
/-! ClaimChains.chance(I)I -/
set_option maxRecDepth 20000 in
theorem s_X6_chance_0 : Snd mX6_chance 0 (opLdI 1) 1 := (snd_iload_n (k := 1) (by decide +kernel) rfl)
set_option maxRecDepth 20000 in
theorem b_X6_chance_1 : Br_if_lt mX6_chance 1 10 := br_if_lt (off := 9) (by decide +kernel) (by decide)
set_option maxRecDepth 20000 in
theorem s_X6_chance_4 : Snd mX6_chance 4 (sq (opLdI 1) (opCi (8))) 7 := (snd_sq (snd_iload_n (k := 1) (by decide +kernel) rfl) (snd_bipush (k := 8) (by decide) (by decide +kernel)))
set_option maxRecDepth 20000 in
theorem b_X6_chance_7 : Br_ic_le mX6_chance 7 13 := br_ic_le (off := 6) (by decide +kernel) (by decide)
set_option maxRecDepth 20000 in
theorem s_X6_chance_10 : Snd mX6_chance 10 (opCi (-2)) 12 := (snd_bipush (k := -2) (by decide) (by decide +kernel))
set_option maxRecDepth 20000 in
theorem r_X6_chance_12 : RtI mX6_chance 12 := rt_I (by decide +kernel) rfl
set_option maxRecDepth 20000 in
theorem s_X6_chance_13 : Snd mX6_chance 13 (sq (opLdA 0) (sq (opGetR 6 1) (opGetI 3 4))) 20 := (snd_sq (snd_aload_n (k := 0) (by decide +kernel) rfl) (snd_sq (snd_getR (ci := 6) (k := 1) (by decide +kernel) rfl (by decide) (by decide) rfl iw_6 w355) (snd_getIN (ci := 3) (k := 4) (by decide +kernel) rfl (by decide) (by decide) (by decide) iw_3 w203)))
set_option maxRecDepth 20000 in
theorem c_X6_chance_20 : CallS mX6_chance 20 mJ6_bitCount 1 := kallS (site_S w539 (by decide +kernel) w537 w538 w99 ⟨by decide, by decide, by decide +kernel⟩) (by decide)
set_option maxRecDepth 20000 in
theorem s_X6_chance_23 : Snd mX6_chance 23 (sq (opStI 2) (opLdI 2)) 25 := (snd_sq (snd_istore_n (k := 2) (by decide +kernel) rfl (by decide)) (snd_iload_n (k := 2) (by decide +kernel) rfl))
set_option maxRecDepth 20000 in
theorem b_X6_chance_25 : Br_if_ne mX6_chance 25 31 := br_if_ne (off := 6) (by decide +kernel) (by decide)
set_option maxRecDepth 20000 in
theorem s_X6_chance_28 : Snd mX6_chance 28 (opCi (-3)) 30 := (snd_bipush (k := -3) (by decide) (by decide +kernel))
set_option maxRecDepth 20000 in
theorem r_X6_chance_30 : RtI mX6_chance 30 := rt_I (by decide +kernel) rfl
set_option maxRecDepth 20000 in
theorem s_X6_chance_31 : Snd mX6_chance 31 (sq (opLdI 2) (sq (opCi (2)) (sq (opLdI 1) (sq opimul (sq opishl (sq (opStI 3) (sq (opLdI 3) (sq (opLdA 0) (sq (opGetR 6 4) (opLdI 1)))))))))) 43 := (snd_sq (snd_iload_n (k := 2) (by decide +kernel) rfl) (snd_sq (snd_iconst (k := 2) (by decide) (by decide +kernel)) (snd_sq (snd_iload_n (k := 1) (by decide +kernel) rfl) (snd_sq (snd_imul (by decide +kernel)) (snd_sq (snd_ishl (by decide +kernel)) (snd_sq (snd_istore_n (k := 3) (by decide +kernel) rfl (by decide)) (snd_sq (snd_iload_n (k := 3) (by decide +kernel) rfl) (snd_sq (snd_aload_n (k := 0) (by decide +kernel) rfl) (snd_sq (snd_getR (ci := 6) (k := 4) (by decide +kernel) rfl (by decide) (by decide) rfl iw_6 w358) (snd_iload_n (k := 1) (by decide +kernel) rfl))))))))))
set_option maxRecDepth 20000 in
theorem c_X6_chance_43 : CallV mX6_chance 43 mX5_countSafe 5 2 := kallV (site_VN rfl w716 (by decide +kernel) w713 w715 w44 w95 ⟨by decide, by decide, by decide +kernel⟩) (by decide) (by decide) (by unfold clsNo; rfl)
set_option maxRecDepth 20000 in
theorem s_X6_chance_46 : Snd mX6_chance 46 (sq opisub (sq opi2l (sq (opLdI 3) (sq opi2l (sq (opCi (24)) (opCi (127))))))) 54 := (snd_sq (snd_isub (by decide +kernel)) (snd_sq (snd_i2l (by decide +kernel)) (snd_sq (snd_iload_n (k := 3) (by decide +kernel) rfl) (snd_sq (snd_i2l (by decide +kernel)) (snd_sq (snd_bipush (k := 24) (by decide) (by decide +kernel)) (snd_bipush (k := 127) (by decide) (by decide +kernel)))))))
set_option maxRecDepth 20000 in
theorem c_X6_chance_54 : CallS mX6_chance 54 mX6_nearestBits 4 := kallS (site_S w726 (by decide +kernel) w724 w725 w90 ⟨by decide, by decide, by decide +kernel⟩) (by decide)
set_option maxRecDepth 20000 in
theorem s_X6_chance_57 : Snd mX6_chance 57 opl2i 58 := (snd_l2i (by decide +kernel))
set_option maxRecDepth 20000 in
theorem r_X6_chance_58 : RtI mX6_chance 58 := rt_I (by decide +kernel) rfl
/-! ClaimChains.mean()J -/
set_option maxRecDepth 20000 in
theorem s_X6_mean_0 : Snd mX6_mean 0 (sq (opLdA 0) (sq (opGetR 6 1) (opGetI 3 10))) 7 := (snd_sq (snd_aload_n (k := 0) (by decide +kernel) rfl) (snd_sq (snd_getR (ci := 6) (k := 1) (by decide +kernel) rfl (by decide) (by decide) rfl iw_6 w355) (snd_getIN (ci := 3) (k := 10) (by decide +kernel) rfl (by decide) (by decide) (by decide) iw_3 w215)))
set_option maxRecDepth 20000 in
theorem c_X6_mean_7 : CallS mX6_mean 7 mJ6_bitCount 1 := kallS (site_S w539 (by decide +kernel) w537 w538 w99 ⟨by decide, by decide, by decide +kernel⟩) (by decide)
set_option maxRecDepth 20000 in
theorem s_X6_mean_10 : Snd mX6_mean 10 (sq (opStI 1) (opLdI 1)) 12 := (snd_sq (snd_istore_n (k := 1) (by decide +kernel) rfl (by decide)) (snd_iload_n (k := 1) (by decide +kernel) rfl))
set_option maxRecDepth 20000 in
theorem b_X6_mean_12 : Br_if_ne mX6_mean 12 19 := br_if_ne (off := 7) (by decide +kernel) (by decide)
set_option maxRecDepth 20000 in
theorem s_X6_mean_15 : Snd mX6_mean 15 (opCl (-9223372036854775808)) 18 := (snd_ldc2 w442 (by decide +kernel))
set_option maxRecDepth 20000 in
theorem r_X6_mean_18 : RtL mX6_mean 18 := rt_L (by decide +kernel) rfl
set_option maxRecDepth 20000 in
theorem s_X6_mean_19 : Snd mX6_mean 19 (sq (opLdA 0) (opGetR 6 1)) 23 := (snd_sq (snd_aload_n (k := 0) (by decide +kernel) rfl) (snd_getR (ci := 6) (k := 1) (by decide +kernel) rfl (by decide) (by decide) rfl iw_6 w355))
set_option maxRecDepth 20000 in
theorem c_X6_mean_23 : CallV mX6_mean 23 mX3_sumOfDistances 3 1 := kallV (site_VN rfl w735 (by decide +kernel) w732 w734 w46 w92 ⟨by decide, by decide, by decide +kernel⟩) (by decide) (by decide) (by unfold clsNo; rfl)
set_option maxRecDepth 20000 in
theorem s_X6_mean_26 : Snd mX6_mean 26 (sq opi2l (sq (opLdI 1) (sq opi2l (sq (opCi (53)) (opCi (1023)))))) 34 := (snd_sq (snd_i2l (by decide +kernel)) (snd_sq (snd_iload_n (k := 1) (by decide +kernel) rfl) (snd_sq (snd_i2l (by decide +kernel)) (snd_sq (snd_bipush (k := 53) (by decide) (by decide +kernel)) (snd_sipush (k := 1023) (by decide) (by decide +kernel))))))
set_option maxRecDepth 20000 in
theorem c_X6_mean_34 : CallS mX6_mean 34 mX6_nearestBits 4 := kallS (site_S w726 (by decide +kernel) w724 w725 w90 ⟨by decide, by decide, by decide +kernel⟩) (by decide)
set_option maxRecDepth 20000 in
theorem r_X6_mean_37 : RtL mX6_mean 37 := rt_L (by decide +kernel) rfl
/-! ClaimChains.box(III)I -/
set_option maxRecDepth 20000 in
theorem s_X6_box_0 : Snd mX6_box 0 (sq (opLdA 0) (sq (opCi (0)) (sq (opPutI 6 7) (opLdI 1)))) 6 := (snd_sq (snd_aload_n (k := 0) (by decide +kernel) rfl) (snd_sq (snd_iconst (k := 0) (by decide) (by decide +kernel)) (snd_sq (snd_putI (ci := 6) (k := 7) (by decide +kernel) rfl (by decide) (by decide) (by decide) iw_6 tyX6_ok nmX6 rfl (tyX6_ok 7 (by decide)) w361) (snd_iload_n (k := 1) (by decide +kernel) rfl))))
set_option maxRecDepth 20000 in
theorem c_X6_box_6 : CallS mX6_box 6 mX6_isBox 1 := kallS (site_S w683 (by decide +kernel) w681 w682 w90 ⟨by decide, by decide, by decide +kernel⟩) (by decide)
set_option maxRecDepth 20000 in
theorem b_X6_box_9 : Br_if_ne mX6_box 9 14 := br_if_ne (off := 5) (by decide +kernel) (by decide)
set_option maxRecDepth 20000 in
theorem s_X6_box_12 : Snd mX6_box 12 (opCi (-1)) 13 := (snd_iconst (k := -1) (by decide) (by decide +kernel))
set_option maxRecDepth 20000 in
theorem r_X6_box_13 : RtI mX6_box 13 := rt_I (by decide +kernel) rfl
set_option maxRecDepth 20000 in
theorem s_X6_box_14 : Snd mX6_box 14 (opLdI 2) 15 := (snd_iload_n (k := 2) (by decide +kernel) rfl)
set_option maxRecDepth 20000 in
theorem b_X6_box_15 : Br_if_lt mX6_box 15 29 := br_if_lt (off := 14) (by decide +kernel) (by decide)
set_option maxRecDepth 20000 in
theorem s_X6_box_18 : Snd mX6_box 18 (sq (opLdI 2) (opCi (3))) 20 := (snd_sq (snd_iload_n (k := 2) (by decide +kernel) rfl) (snd_iconst (k := 3) (by decide) (by decide +kernel)))
set_option maxRecDepth 20000 in
theorem b_X6_box_20 : Br_ic_gt mX6_box 20 29 := br_ic_gt (off := 9) (by decide +kernel) (by decide)
set_option maxRecDepth 20000 in
theorem s_X6_box_23 : Snd mX6_box 23 (sq (opLdI 3) (opCi (8))) 26 := (snd_sq (snd_iload_n (k := 3) (by decide +kernel) rfl) (snd_bipush (k := 8) (by decide) (by decide +kernel)))
set_option maxRecDepth 20000 in
theorem b_X6_box_26 : Br_ic_le mX6_box 26 32 := br_ic_le (off := 6) (by decide +kernel) (by decide)
set_option maxRecDepth 20000 in
theorem s_X6_box_29 : Snd mX6_box 29 (opCi (-2)) 31 := (snd_bipush (k := -2) (by decide) (by decide +kernel))
set_option maxRecDepth 20000 in
theorem r_X6_box_31 : RtI mX6_box 31 := rt_I (by decide +kernel) rfl
set_option maxRecDepth 20000 in
theorem s_X6_box_32 : Snd mX6_box 32 (opLdI 3) 33 := (snd_iload_n (k := 3) (by decide +kernel) rfl)
set_option maxRecDepth 20000 in
theorem b_X6_box_33 : Br_if_ge mX6_box 33 42 := br_if_ge (off := 9) (by decide +kernel) (by decide)
set_option maxRecDepth 20000 in
theorem s_X6_box_36 : Snd mX6_box 36 (sq (opLdA 0) (opCi (4))) 38 := (snd_sq (snd_aload_n (k := 0) (by decide +kernel) rfl) (snd_iconst (k := 4) (by decide) (by decide +kernel)))
set_option maxRecDepth 20000 in
theorem c_X6_box_38 : CallV mX6_box 38 mX6_faulted 6 2 := kallV (site_V rfl w691 (by decide +kernel) w688 w690 w42 w90 ⟨by decide, by decide, by decide +kernel⟩) (by decide) (by decide) (by unfold clsNo; rfl)
set_option maxRecDepth 20000 in
theorem r_X6_box_41 : RtI mX6_box 41 := rt_I (by decide +kernel) rfl
set_option maxRecDepth 20000 in
theorem s_X6_box_42 : Snd mX6_box 42 (sq (opLdA 0) (sq (opGetR 6 5) (sq (opLdI 1) (sq opAald (sq (opLdI 2) (opLdI 3)))))) 50 := (snd_sq (snd_aload_n (k := 0) (by decide +kernel) rfl) (snd_sq (snd_getR (ci := 6) (k := 5) (by decide +kernel) rfl (by decide) (by decide) rfl iw_6 w359) (snd_sq (snd_iload_n (k := 1) (by decide +kernel) rfl) (snd_sq (snd_aald (by decide +kernel)) (snd_sq (snd_iload_n (k := 2) (by decide +kernel) rfl) (snd_iload_n (k := 3) (by decide +kernel) rfl))))))
set_option maxRecDepth 20000 in
theorem c_X6_box_50 : CallV mX6_box 50 mX0_getNewRow 0 3 := kallV (site_VN rfl w743 (by decide +kernel) w740 w742 w47 w96 ⟨by decide, by decide, by decide +kernel⟩) (by decide) (by decide) (by unfold clsNo; rfl)
set_option maxRecDepth 20000 in
theorem s_X6_box_53 : Snd mX6_box 53 (opCi (1)) 54 := (snd_iconst (k := 1) (by decide) (by decide +kernel))
set_option maxRecDepth 20000 in
theorem r_X6_box_54 : RtI mX6_box 54 := rt_I (by decide +kernel) rfl
/-! ClaimChains.lay(III)I -/
set_option maxRecDepth 20000 in
theorem s_X6_lay_0 : Snd mX6_lay 0 (sq (opLdA 0) (sq (opCi (0)) (sq (opPutI 6 7) (opLdI 1)))) 6 := (snd_sq (snd_aload_n (k := 0) (by decide +kernel) rfl) (snd_sq (snd_iconst (k := 0) (by decide) (by decide +kernel)) (snd_sq (snd_putI (ci := 6) (k := 7) (by decide +kernel) rfl (by decide) (by decide) (by decide) iw_6 tyX6_ok nmX6 rfl (tyX6_ok 7 (by decide)) w361) (snd_iload_n (k := 1) (by decide +kernel) rfl))))
set_option maxRecDepth 20000 in
theorem c_X6_lay_6 : CallS mX6_lay 6 mX6_isBox 1 := kallS (site_S w683 (by decide +kernel) w681 w682 w90 ⟨by decide, by decide, by decide +kernel⟩) (by decide)
set_option maxRecDepth 20000 in
theorem b_X6_lay_9 : Br_if_eq mX6_lay 9 23 := br_if_eq (off := 14) (by decide +kernel) (by decide)
set_option maxRecDepth 20000 in
theorem s_X6_lay_12 : Snd mX6_lay 12 (sq (opLdA 0) (sq (opGetR 6 0) (opLdI 3))) 17 := (snd_sq (snd_aload_n (k := 0) (by decide +kernel) rfl) (snd_sq (snd_getR (ci := 6) (k := 0) (by decide +kernel) rfl (by decide) (by decide) rfl iw_6 w354) (snd_iload_n (k := 3) (by decide +kernel) rfl)))
set_option maxRecDepth 20000 in
theorem c_X6_lay_17 : CallV mX6_lay 17 mX4_has 4 2 := kallV (site_VN rfl w178 (by decide +kernel) w429 w177 w2 w91 ⟨by decide, by decide, by decide +kernel⟩) (by decide) (by decide) (by unfold clsNo; rfl)
set_option maxRecDepth 20000 in
theorem b_X6_lay_20 : Br_if_ne mX6_lay 20 25 := br_if_ne (off := 5) (by decide +kernel) (by decide)
set_option maxRecDepth 20000 in
theorem s_X6_lay_23 : Snd mX6_lay 23 (opCi (-1)) 24 := (snd_iconst (k := -1) (by decide) (by decide +kernel))
set_option maxRecDepth 20000 in
theorem r_X6_lay_24 : RtI mX6_lay 24 := rt_I (by decide +kernel) rfl
set_option maxRecDepth 20000 in
theorem s_X6_lay_25 : Snd mX6_lay 25 (sq (opLdA 0) (sq (opGetR 6 5) (sq (opLdI 1) (sq opAald (sq (opStA 4) (opLdA 4)))))) 35 := (snd_sq (snd_aload_n (k := 0) (by decide +kernel) rfl) (snd_sq (snd_getR (ci := 6) (k := 5) (by decide +kernel) rfl (by decide) (by decide) rfl iw_6 w359) (snd_sq (snd_iload_n (k := 1) (by decide +kernel) rfl) (snd_sq (snd_aald (by decide +kernel)) (snd_sq (snd_astore (by decide +kernel) (by decide)) (snd_aload (by decide +kernel)))))))
set_option maxRecDepth 20000 in
theorem c_X6_lay_35 : CallV mX6_lay 35 mX0_hasRow 0 1 := kallV (site_VN rfl w687 (by decide +kernel) w684 w686 w41 w96 ⟨by decide, by decide, by decide +kernel⟩) (by decide) (by decide) (by unfold clsNo; rfl)
set_option maxRecDepth 20000 in
theorem b_X6_lay_38 : Br_if_ne mX6_lay 38 47 := br_if_ne (off := 9) (by decide +kernel) (by decide)
set_option maxRecDepth 20000 in
theorem s_X6_lay_41 : Snd mX6_lay 41 (sq (opLdA 0) (opCi (1))) 43 := (snd_sq (snd_aload_n (k := 0) (by decide +kernel) rfl) (snd_iconst (k := 1) (by decide) (by decide +kernel)))
set_option maxRecDepth 20000 in
theorem c_X6_lay_43 : CallV mX6_lay 43 mX6_faulted 6 2 := kallV (site_V rfl w691 (by decide +kernel) w688 w690 w42 w90 ⟨by decide, by decide, by decide +kernel⟩) (by decide) (by decide) (by unfold clsNo; rfl)
set_option maxRecDepth 20000 in
theorem r_X6_lay_46 : RtI mX6_lay 46 := rt_I (by decide +kernel) rfl
set_option maxRecDepth 20000 in
theorem s_X6_lay_47 : Snd mX6_lay 47 (sq (opLdA 4) (opLdI 2)) 50 := (snd_sq (snd_aload (by decide +kernel)) (snd_iload_n (k := 2) (by decide +kernel) rfl))
set_option maxRecDepth 20000 in
theorem c_X6_lay_50 : CallV mX6_lay 50 mX0_hasPlace 0 2 := kallV (site_VN rfl w751 (by decide +kernel) w748 w750 w48 w96 ⟨by decide, by decide, by decide +kernel⟩) (by decide) (by decide) (by unfold clsNo; rfl)
set_option maxRecDepth 20000 in
theorem b_X6_lay_53 : Br_if_ne mX6_lay 53 62 := br_if_ne (off := 9) (by decide +kernel) (by decide)
set_option maxRecDepth 20000 in
theorem s_X6_lay_56 : Snd mX6_lay 56 (sq (opLdA 0) (opCi (3))) 58 := (snd_sq (snd_aload_n (k := 0) (by decide +kernel) rfl) (snd_iconst (k := 3) (by decide) (by decide +kernel)))
set_option maxRecDepth 20000 in
theorem c_X6_lay_58 : CallV mX6_lay 58 mX6_faulted 6 2 := kallV (site_V rfl w691 (by decide +kernel) w688 w690 w42 w90 ⟨by decide, by decide, by decide +kernel⟩) (by decide) (by decide) (by unfold clsNo; rfl)
set_option maxRecDepth 20000 in
theorem r_X6_lay_61 : RtI mX6_lay 61 := rt_I (by decide +kernel) rfl
set_option maxRecDepth 20000 in
theorem s_X6_lay_62 : Snd mX6_lay 62 (sq (opLdA 4) (sq (opLdA 0) (sq (opGetR 6 0) (sq (opGetR 4 0) (sq (opLdI 3) opIald))))) 73 := (snd_sq (snd_aload (by decide +kernel)) (snd_sq (snd_aload_n (k := 0) (by decide +kernel) rfl) (snd_sq (snd_getR (ci := 6) (k := 0) (by decide +kernel) rfl (by decide) (by decide) rfl iw_6 w354) (snd_sq (snd_getRN (ci := 4) (k := 0) (by decide +kernel) rfl (by decide) (by decide) rfl iw_4 w115) (snd_sq (snd_iload_n (k := 3) (by decide +kernel) rfl) (snd_iald (by decide +kernel)))))))
set_option maxRecDepth 20000 in
theorem c_X6_lay_73 : CallV mX6_lay 73 mX0_admits 0 2 := kallV (site_VN rfl w755 (by decide +kernel) w752 w754 w49 w96 ⟨by decide, by decide, by decide +kernel⟩) (by decide) (by decide) (by unfold clsNo; rfl)
set_option maxRecDepth 20000 in
theorem b_X6_lay_76 : Br_if_ne mX6_lay 76 85 := br_if_ne (off := 9) (by decide +kernel) (by decide)
set_option maxRecDepth 20000 in
theorem s_X6_lay_79 : Snd mX6_lay 79 (sq (opLdA 0) (opCi (2))) 81 := (snd_sq (snd_aload_n (k := 0) (by decide +kernel) rfl) (snd_iconst (k := 2) (by decide) (by decide +kernel)))
set_option maxRecDepth 20000 in
theorem c_X6_lay_81 : CallV mX6_lay 81 mX6_faulted 6 2 := kallV (site_V rfl w691 (by decide +kernel) w688 w690 w42 w90 ⟨by decide, by decide, by decide +kernel⟩) (by decide) (by decide) (by unfold clsNo; rfl)
set_option maxRecDepth 20000 in
theorem r_X6_lay_84 : RtI mX6_lay 84 := rt_I (by decide +kernel) rfl
set_option maxRecDepth 20000 in
theorem s_X6_lay_85 : Snd mX6_lay 85 (sq (opLdA 4) (sq (opGetR 0 0) (sq (opLdI 2) (sq (opLdI 3) (sq opIast (opCi (1))))))) 94 := (snd_sq (snd_aload (by decide +kernel)) (snd_sq (snd_getRN (ci := 0) (k := 0) (by decide +kernel) rfl (by decide) (by decide) rfl iw_0 w343) (snd_sq (snd_iload_n (k := 2) (by decide +kernel) rfl) (snd_sq (snd_iload_n (k := 3) (by decide +kernel) rfl) (snd_sq (snd_iast (by decide +kernel)) (snd_iconst (k := 1) (by decide) (by decide +kernel)))))))
set_option maxRecDepth 20000 in
theorem r_X6_lay_94 : RtI mX6_lay 94 := rt_I (by decide +kernel) rfl
/-! ClaimChains.take(II)I -/
set_option maxRecDepth 20000 in
theorem s_X6_take_0 : Snd mX6_take 0 (sq (opLdA 0) (sq (opCi (0)) (sq (opPutI 6 7) (opLdI 1)))) 6 := (snd_sq (snd_aload_n (k := 0) (by decide +kernel) rfl) (snd_sq (snd_iconst (k := 0) (by decide) (by decide +kernel)) (snd_sq (snd_putI (ci := 6) (k := 7) (by decide +kernel) rfl (by decide) (by decide) (by decide) iw_6 tyX6_ok nmX6 rfl (tyX6_ok 7 (by decide)) w361) (snd_iload_n (k := 1) (by decide +kernel) rfl))))
set_option maxRecDepth 20000 in
theorem c_X6_take_6 : CallS mX6_take 6 mX6_isBox 1 := kallS (site_S w683 (by decide +kernel) w681 w682 w90 ⟨by decide, by decide, by decide +kernel⟩) (by decide)
set_option maxRecDepth 20000 in
theorem b_X6_take_9 : Br_if_ne mX6_take 9 14 := br_if_ne (off := 5) (by decide +kernel) (by decide)
set_option maxRecDepth 20000 in
theorem s_X6_take_12 : Snd mX6_take 12 (opCi (-1)) 13 := (snd_iconst (k := -1) (by decide) (by decide +kernel))
set_option maxRecDepth 20000 in
theorem r_X6_take_13 : RtI mX6_take 13 := rt_I (by decide +kernel) rfl
set_option maxRecDepth 20000 in
theorem s_X6_take_14 : Snd mX6_take 14 (sq (opLdA 0) (sq (opGetR 6 5) (sq (opLdI 1) (sq opAald (sq (opStA 3) (opLdA 3)))))) 22 := (snd_sq (snd_aload_n (k := 0) (by decide +kernel) rfl) (snd_sq (snd_getR (ci := 6) (k := 5) (by decide +kernel) rfl (by decide) (by decide) rfl iw_6 w359) (snd_sq (snd_iload_n (k := 1) (by decide +kernel) rfl) (snd_sq (snd_aald (by decide +kernel)) (snd_sq (snd_astore_n (k := 3) (by decide +kernel) rfl (by decide)) (snd_aload_n (k := 3) (by decide +kernel) rfl))))))
set_option maxRecDepth 20000 in
theorem c_X6_take_22 : CallV mX6_take 22 mX0_hasRow 0 1 := kallV (site_VN rfl w687 (by decide +kernel) w684 w686 w41 w96 ⟨by decide, by decide, by decide +kernel⟩) (by decide) (by decide) (by unfold clsNo; rfl)
set_option maxRecDepth 20000 in
theorem b_X6_take_25 : Br_if_ne mX6_take 25 34 := br_if_ne (off := 9) (by decide +kernel) (by decide)
set_option maxRecDepth 20000 in
theorem s_X6_take_28 : Snd mX6_take 28 (sq (opLdA 0) (opCi (1))) 30 := (snd_sq (snd_aload_n (k := 0) (by decide +kernel) rfl) (snd_iconst (k := 1) (by decide) (by decide +kernel)))
set_option maxRecDepth 20000 in
theorem c_X6_take_30 : CallV mX6_take 30 mX6_faulted 6 2 := kallV (site_V rfl w691 (by decide +kernel) w688 w690 w42 w90 ⟨by decide, by decide, by decide +kernel⟩) (by decide) (by decide) (by unfold clsNo; rfl)
set_option maxRecDepth 20000 in
theorem r_X6_take_33 : RtI mX6_take 33 := rt_I (by decide +kernel) rfl
set_option maxRecDepth 20000 in
theorem s_X6_take_34 : Snd mX6_take 34 (sq (opLdA 3) (opLdI 2)) 36 := (snd_sq (snd_aload_n (k := 3) (by decide +kernel) rfl) (snd_iload_n (k := 2) (by decide +kernel) rfl))
set_option maxRecDepth 20000 in
theorem c_X6_take_36 : CallV mX6_take 36 mX0_hasPlace 0 2 := kallV (site_VN rfl w751 (by decide +kernel) w748 w750 w48 w96 ⟨by decide, by decide, by decide +kernel⟩) (by decide) (by decide) (by unfold clsNo; rfl)
set_option maxRecDepth 20000 in
theorem b_X6_take_39 : Br_if_ne mX6_take 39 48 := br_if_ne (off := 9) (by decide +kernel) (by decide)
set_option maxRecDepth 20000 in
theorem s_X6_take_42 : Snd mX6_take 42 (sq (opLdA 0) (opCi (3))) 44 := (snd_sq (snd_aload_n (k := 0) (by decide +kernel) rfl) (snd_iconst (k := 3) (by decide) (by decide +kernel)))
set_option maxRecDepth 20000 in
theorem c_X6_take_44 : CallV mX6_take 44 mX6_faulted 6 2 := kallV (site_V rfl w691 (by decide +kernel) w688 w690 w42 w90 ⟨by decide, by decide, by decide +kernel⟩) (by decide) (by decide) (by unfold clsNo; rfl)
set_option maxRecDepth 20000 in
theorem r_X6_take_47 : RtI mX6_take 47 := rt_I (by decide +kernel) rfl
set_option maxRecDepth 20000 in
theorem s_X6_take_48 : Snd mX6_take 48 (sq (opLdA 3) (sq (opGetR 0 0) (sq (opLdI 2) opIald))) 54 := (snd_sq (snd_aload_n (k := 3) (by decide +kernel) rfl) (snd_sq (snd_getRN (ci := 0) (k := 0) (by decide +kernel) rfl (by decide) (by decide) rfl iw_0 w343) (snd_sq (snd_iload_n (k := 2) (by decide +kernel) rfl) (snd_iald (by decide +kernel)))))
set_option maxRecDepth 20000 in
theorem r_X6_take_54 : RtI mX6_take 54 := rt_I (by decide +kernel) rfl
/-! ClaimChains.same(II)I -/
set_option maxRecDepth 20000 in
theorem s_X6_same_0 : Snd mX6_same 0 (sq (opLdA 0) (sq (opCi (0)) (sq (opPutI 6 7) (opLdI 1)))) 6 := (snd_sq (snd_aload_n (k := 0) (by decide +kernel) rfl) (snd_sq (snd_iconst (k := 0) (by decide) (by decide +kernel)) (snd_sq (snd_putI (ci := 6) (k := 7) (by decide +kernel) rfl (by decide) (by decide) (by decide) iw_6 tyX6_ok nmX6 rfl (tyX6_ok 7 (by decide)) w361) (snd_iload_n (k := 1) (by decide +kernel) rfl))))
set_option maxRecDepth 20000 in
theorem c_X6_same_6 : CallS mX6_same 6 mX6_isBox 1 := kallS (site_S w683 (by decide +kernel) w681 w682 w90 ⟨by decide, by decide, by decide +kernel⟩) (by decide)
set_option maxRecDepth 20000 in
theorem b_X6_same_9 : Br_if_eq mX6_same 9 19 := br_if_eq (off := 10) (by decide +kernel) (by decide)
set_option maxRecDepth 20000 in
theorem s_X6_same_12 : Snd mX6_same 12 (opLdI 2) 13 := (snd_iload_n (k := 2) (by decide +kernel) rfl)
set_option maxRecDepth 20000 in
theorem c_X6_same_13 : CallS mX6_same 13 mX6_isBox 1 := kallS (site_S w683 (by decide +kernel) w681 w682 w90 ⟨by decide, by decide, by decide +kernel⟩) (by decide)
set_option maxRecDepth 20000 in
theorem b_X6_same_16 : Br_if_ne mX6_same 16 21 := br_if_ne (off := 5) (by decide +kernel) (by decide)
set_option maxRecDepth 20000 in
theorem s_X6_same_19 : Snd mX6_same 19 (opCi (-1)) 20 := (snd_iconst (k := -1) (by decide) (by decide +kernel))
set_option maxRecDepth 20000 in
theorem r_X6_same_20 : RtI mX6_same 20 := rt_I (by decide +kernel) rfl
set_option maxRecDepth 20000 in
theorem s_X6_same_21 : Snd mX6_same 21 (sq (opLdA 0) (sq (opGetR 6 5) (sq (opLdI 2) (sq opAald (sq (opStA 3) (opLdA 3)))))) 29 := (snd_sq (snd_aload_n (k := 0) (by decide +kernel) rfl) (snd_sq (snd_getR (ci := 6) (k := 5) (by decide +kernel) rfl (by decide) (by decide) rfl iw_6 w359) (snd_sq (snd_iload_n (k := 2) (by decide +kernel) rfl) (snd_sq (snd_aald (by decide +kernel)) (snd_sq (snd_astore_n (k := 3) (by decide +kernel) rfl (by decide)) (snd_aload_n (k := 3) (by decide +kernel) rfl))))))
set_option maxRecDepth 20000 in
theorem c_X6_same_29 : CallV mX6_same 29 mX0_hasRow 0 1 := kallV (site_VN rfl w687 (by decide +kernel) w684 w686 w41 w96 ⟨by decide, by decide, by decide +kernel⟩) (by decide) (by decide) (by unfold clsNo; rfl)
set_option maxRecDepth 20000 in
theorem b_X6_same_32 : Br_if_ne mX6_same 32 41 := br_if_ne (off := 9) (by decide +kernel) (by decide)
set_option maxRecDepth 20000 in
theorem s_X6_same_35 : Snd mX6_same 35 (sq (opLdA 0) (opCi (1))) 37 := (snd_sq (snd_aload_n (k := 0) (by decide +kernel) rfl) (snd_iconst (k := 1) (by decide) (by decide +kernel)))
set_option maxRecDepth 20000 in
theorem c_X6_same_37 : CallV mX6_same 37 mX6_faulted 6 2 := kallV (site_V rfl w691 (by decide +kernel) w688 w690 w42 w90 ⟨by decide, by decide, by decide +kernel⟩) (by decide) (by decide) (by unfold clsNo; rfl)
set_option maxRecDepth 20000 in
theorem r_X6_same_40 : RtI mX6_same 40 := rt_I (by decide +kernel) rfl
set_option maxRecDepth 20000 in
theorem s_X6_same_41 : Snd mX6_same 41 (sq (opLdA 0) (sq (opGetR 6 5) (sq (opLdI 1) (sq opAald (opLdA 3))))) 48 := (snd_sq (snd_aload_n (k := 0) (by decide +kernel) rfl) (snd_sq (snd_getR (ci := 6) (k := 5) (by decide +kernel) rfl (by decide) (by decide) rfl iw_6 w359) (snd_sq (snd_iload_n (k := 1) (by decide +kernel) rfl) (snd_sq (snd_aald (by decide +kernel)) (snd_aload_n (k := 3) (by decide +kernel) rfl)))))
set_option maxRecDepth 20000 in
theorem c_X6_same_48 : CallV mX6_same 48 mX0_becomeLike 0 2 := kallV (site_VN rfl w767 (by decide +kernel) w764 w766 w50 w96 ⟨by decide, by decide, by decide +kernel⟩) (by decide) (by decide) (by unfold clsNo; rfl)
set_option maxRecDepth 20000 in
theorem s_X6_same_51 : Snd mX6_same 51 (sq (opLdA 3) (opGetI 0 2)) 55 := (snd_sq (snd_aload_n (k := 3) (by decide +kernel) rfl) (snd_getIN (ci := 0) (k := 2) (by decide +kernel) rfl (by decide) (by decide) (by decide) iw_0 w346))
set_option maxRecDepth 20000 in
theorem r_X6_same_55 : RtI mX6_same 55 := rt_I (by decide +kernel) rfl
/-! ClaimChains.move(IIIII)I -/
set_option maxRecDepth 20000 in
theorem s_X6_move_0 : Snd mX6_move 0 (sq (opLdA 0) (sq (opCi (0)) (sq (opPutI 6 7) (opLdI 1)))) 6 := (snd_sq (snd_aload_n (k := 0) (by decide +kernel) rfl) (snd_sq (snd_iconst (k := 0) (by decide) (by decide +kernel)) (snd_sq (snd_putI (ci := 6) (k := 7) (by decide +kernel) rfl (by decide) (by decide) (by decide) iw_6 tyX6_ok nmX6 rfl (tyX6_ok 7 (by decide)) w361) (snd_iload_n (k := 1) (by decide +kernel) rfl))))
set_option maxRecDepth 20000 in
theorem c_X6_move_6 : CallS mX6_move 6 mX6_isBox 1 := kallS (site_S w683 (by decide +kernel) w681 w682 w90 ⟨by decide, by decide, by decide +kernel⟩) (by decide)
set_option maxRecDepth 20000 in
theorem b_X6_move_9 : Br_if_eq mX6_move 9 19 := br_if_eq (off := 10) (by decide +kernel) (by decide)
set_option maxRecDepth 20000 in
theorem s_X6_move_12 : Snd mX6_move 12 (opLdI 3) 13 := (snd_iload_n (k := 3) (by decide +kernel) rfl)
set_option maxRecDepth 20000 in
theorem c_X6_move_13 : CallS mX6_move 13 mX6_isBox 1 := kallS (site_S w683 (by decide +kernel) w681 w682 w90 ⟨by decide, by decide, by decide +kernel⟩) (by decide)
set_option maxRecDepth 20000 in
theorem b_X6_move_16 : Br_if_ne mX6_move 16 21 := br_if_ne (off := 5) (by decide +kernel) (by decide)
set_option maxRecDepth 20000 in
theorem s_X6_move_19 : Snd mX6_move 19 (opCi (-1)) 20 := (snd_iconst (k := -1) (by decide) (by decide +kernel))
set_option maxRecDepth 20000 in
theorem r_X6_move_20 : RtI mX6_move 20 := rt_I (by decide +kernel) rfl
set_option maxRecDepth 20000 in
theorem s_X6_move_21 : Snd mX6_move 21 (sq (opLdA 0) (sq (opGetR 6 5) (sq (opLdI 1) (sq opAald (sq (opStA 6) (sq (opLdA 0) (sq (opGetR 6 5) (sq (opLdI 3) (sq opAald (sq (opStA 7) (opLdA 6))))))))))) 39 := (snd_sq (snd_aload_n (k := 0) (by decide +kernel) rfl) (snd_sq (snd_getR (ci := 6) (k := 5) (by decide +kernel) rfl (by decide) (by decide) rfl iw_6 w359) (snd_sq (snd_iload_n (k := 1) (by decide +kernel) rfl) (snd_sq (snd_aald (by decide +kernel)) (snd_sq (snd_astore (by decide +kernel) (by decide)) (snd_sq (snd_aload_n (k := 0) (by decide +kernel) rfl) (snd_sq (snd_getR (ci := 6) (k := 5) (by decide +kernel) rfl (by decide) (by decide) rfl iw_6 w359) (snd_sq (snd_iload_n (k := 3) (by decide +kernel) rfl) (snd_sq (snd_aald (by decide +kernel)) (snd_sq (snd_astore (by decide +kernel) (by decide)) (snd_aload (by decide +kernel))))))))))))
set_option maxRecDepth 20000 in
theorem c_X6_move_39 : CallV mX6_move 39 mX0_hasRow 0 1 := kallV (site_VN rfl w687 (by decide +kernel) w684 w686 w41 w96 ⟨by decide, by decide, by decide +kernel⟩) (by decide) (by decide) (by unfold clsNo; rfl)
set_option maxRecDepth 20000 in
theorem b_X6_move_42 : Br_if_eq mX6_move 42 53 := br_if_eq (off := 11) (by decide +kernel) (by decide)
set_option maxRecDepth 20000 in
theorem s_X6_move_45 : Snd mX6_move 45 (opLdA 7) 47 := (snd_aload (by decide +kernel))
set_option maxRecDepth 20000 in
theorem c_X6_move_47 : CallV mX6_move 47 mX0_hasRow 0 1 := kallV (site_VN rfl w687 (by decide +kernel) w684 w686 w41 w96 ⟨by decide, by decide, by decide +kernel⟩) (by decide) (by decide) (by unfold clsNo; rfl)
set_option maxRecDepth 20000 in
theorem b_X6_move_50 : Br_if_ne mX6_move 50 59 := br_if_ne (off := 9) (by decide +kernel) (by decide)
set_option maxRecDepth 20000 in
theorem s_X6_move_53 : Snd mX6_move 53 (sq (opLdA 0) (opCi (1))) 55 := (snd_sq (snd_aload_n (k := 0) (by decide +kernel) rfl) (snd_iconst (k := 1) (by decide) (by decide +kernel)))
set_option maxRecDepth 20000 in
theorem c_X6_move_55 : CallV mX6_move 55 mX6_faulted 6 2 := kallV (site_V rfl w691 (by decide +kernel) w688 w690 w42 w90 ⟨by decide, by decide, by decide +kernel⟩) (by decide) (by decide) (by unfold clsNo; rfl)
set_option maxRecDepth 20000 in
theorem r_X6_move_58 : RtI mX6_move 58 := rt_I (by decide +kernel) rfl
set_option maxRecDepth 20000 in
theorem s_X6_move_59 : Snd mX6_move 59 (sq (opLdA 6) (sq (opLdI 2) (opLdI 5))) 64 := (snd_sq (snd_aload (by decide +kernel)) (snd_sq (snd_iload_n (k := 2) (by decide +kernel) rfl) (snd_iload (by decide +kernel))))
set_option maxRecDepth 20000 in
theorem c_X6_move_64 : CallV mX6_move 64 mX0_hasRange 0 3 := kallV (site_VN rfl w775 (by decide +kernel) w772 w774 w51 w96 ⟨by decide, by decide, by decide +kernel⟩) (by decide) (by decide) (by unfold clsNo; rfl)
set_option maxRecDepth 20000 in
theorem b_X6_move_67 : Br_if_eq mX6_move 67 82 := br_if_eq (off := 15) (by decide +kernel) (by decide)
set_option maxRecDepth 20000 in
theorem s_X6_move_70 : Snd mX6_move 70 (sq (opLdA 7) (sq (opLdI 4) (opLdI 5))) 76 := (snd_sq (snd_aload (by decide +kernel)) (snd_sq (snd_iload (by decide +kernel)) (snd_iload (by decide +kernel))))
set_option maxRecDepth 20000 in
theorem c_X6_move_76 : CallV mX6_move 76 mX0_hasRange 0 3 := kallV (site_VN rfl w775 (by decide +kernel) w772 w774 w51 w96 ⟨by decide, by decide, by decide +kernel⟩) (by decide) (by decide) (by unfold clsNo; rfl)
set_option maxRecDepth 20000 in
theorem b_X6_move_79 : Br_if_ne mX6_move 79 88 := br_if_ne (off := 9) (by decide +kernel) (by decide)
set_option maxRecDepth 20000 in
theorem s_X6_move_82 : Snd mX6_move 82 (sq (opLdA 0) (opCi (3))) 84 := (snd_sq (snd_aload_n (k := 0) (by decide +kernel) rfl) (snd_iconst (k := 3) (by decide) (by decide +kernel)))
set_option maxRecDepth 20000 in
theorem c_X6_move_84 : CallV mX6_move 84 mX6_faulted 6 2 := kallV (site_V rfl w691 (by decide +kernel) w688 w690 w42 w90 ⟨by decide, by decide, by decide +kernel⟩) (by decide) (by decide) (by unfold clsNo; rfl)
set_option maxRecDepth 20000 in
theorem r_X6_move_87 : RtI mX6_move 87 := rt_I (by decide +kernel) rfl
set_option maxRecDepth 20000 in
theorem s_X6_move_88 : Snd mX6_move 88 (sq (opCi (0)) (opStI 8)) 91 := (snd_sq (snd_iconst (k := 0) (by decide) (by decide +kernel)) (snd_istore (by decide +kernel) (by decide)))
set_option maxRecDepth 20000 in
theorem s_X6_move_91 : Snd mX6_move 91 (sq (opLdI 8) (opLdI 5)) 95 := (snd_sq (snd_iload (by decide +kernel)) (snd_iload (by decide +kernel)))
set_option maxRecDepth 20000 in
theorem b_X6_move_95 : Br_ic_ge mX6_move 95 121 := br_ic_ge (off := 26) (by decide +kernel) (by decide)
set_option maxRecDepth 20000 in
theorem s_X6_move_98 : Snd mX6_move 98 (sq (opLdA 0) (sq (opGetR 6 6) (sq (opLdI 8) (sq (opLdA 6) (sq (opGetR 0 0) (sq (opLdI 2) (sq (opLdI 8) (sq opiadd (sq opIald (sq opIast (sq (opInc 8 (1)) opNop))))))))))) 91 := (snd_sq (snd_aload_n (k := 0) (by decide +kernel) rfl) (snd_sq (snd_getR (ci := 6) (k := 6) (by decide +kernel) rfl (by decide) (by decide) rfl iw_6 w360) (snd_sq (snd_iload (by decide +kernel)) (snd_sq (snd_aload (by decide +kernel)) (snd_sq (snd_getRN (ci := 0) (k := 0) (by decide +kernel) rfl (by decide) (by decide) rfl iw_0 w343) (snd_sq (snd_iload_n (k := 2) (by decide +kernel) rfl) (snd_sq (snd_iload (by decide +kernel)) (snd_sq (snd_iadd (by decide +kernel)) (snd_sq (snd_iald (by decide +kernel)) (snd_sq (snd_iast (by decide +kernel)) (snd_sq (snd_iinc (k := 1) (by decide +kernel) (by decide) (by decide)) (snd_goto (off := -27) (by decide +kernel) (by decide)))))))))))))
set_option maxRecDepth 20000 in
theorem s_X6_move_121 : Snd mX6_move 121 (sq (opCi (0)) (opStI 8)) 124 := (snd_sq (snd_iconst (k := 0) (by decide) (by decide +kernel)) (snd_istore (by decide +kernel) (by decide)))
set_option maxRecDepth 20000 in
theorem s_X6_move_124 : Snd mX6_move 124 (sq (opLdI 8) (opLdI 5)) 128 := (snd_sq (snd_iload (by decide +kernel)) (snd_iload (by decide +kernel)))
set_option maxRecDepth 20000 in
theorem b_X6_move_128 : Br_ic_ge mX6_move 128 195 := br_ic_ge (off := 67) (by decide +kernel) (by decide)
set_option maxRecDepth 20000 in
theorem s_X6_move_131 : Snd mX6_move 131 (sq (opLdA 0) (sq (opGetR 6 6) (sq (opLdI 8) (sq opIald (sq (opStI 9) (sq (opLdA 0) (sq (opGetR 6 0) (opLdI 9)))))))) 146 := (snd_sq (snd_aload_n (k := 0) (by decide +kernel) rfl) (snd_sq (snd_getR (ci := 6) (k := 6) (by decide +kernel) rfl (by decide) (by decide) rfl iw_6 w360) (snd_sq (snd_iload (by decide +kernel)) (snd_sq (snd_iald (by decide +kernel)) (snd_sq (snd_istore (by decide +kernel) (by decide)) (snd_sq (snd_aload_n (k := 0) (by decide +kernel) rfl) (snd_sq (snd_getR (ci := 6) (k := 0) (by decide +kernel) rfl (by decide) (by decide) rfl iw_6 w354) (snd_iload (by decide +kernel)))))))))
set_option maxRecDepth 20000 in
theorem c_X6_move_146 : CallV mX6_move 146 mX4_has 4 2 := kallV (site_VN rfl w178 (by decide +kernel) w429 w177 w2 w91 ⟨by decide, by decide, by decide +kernel⟩) (by decide) (by decide) (by unfold clsNo; rfl)
set_option maxRecDepth 20000 in
theorem b_X6_move_149 : Br_if_eq mX6_move 149 176 := br_if_eq (off := 27) (by decide +kernel) (by decide)
set_option maxRecDepth 20000 in
theorem s_X6_move_152 : Snd mX6_move 152 (sq (opLdA 7) (sq (opLdA 0) (sq (opGetR 6 0) (sq (opGetR 4 0) (sq (opLdI 9) opIald))))) 164 := (snd_sq (snd_aload (by decide +kernel)) (snd_sq (snd_aload_n (k := 0) (by decide +kernel) rfl) (snd_sq (snd_getR (ci := 6) (k := 0) (by decide +kernel) rfl (by decide) (by decide) rfl iw_6 w354) (snd_sq (snd_getRN (ci := 4) (k := 0) (by decide +kernel) rfl (by decide) (by decide) rfl iw_4 w115) (snd_sq (snd_iload (by decide +kernel)) (snd_iald (by decide +kernel)))))))
set_option maxRecDepth 20000 in
theorem c_X6_move_164 : CallV mX6_move 164 mX0_admits 0 2 := kallV (site_VN rfl w755 (by decide +kernel) w752 w754 w49 w96 ⟨by decide, by decide, by decide +kernel⟩) (by decide) (by decide) (by unfold clsNo; rfl)
set_option maxRecDepth 20000 in
theorem b_X6_move_167 : Br_if_ne mX6_move 167 176 := br_if_ne (off := 9) (by decide +kernel) (by decide)
set_option maxRecDepth 20000 in
theorem s_X6_move_170 : Snd mX6_move 170 (sq (opLdA 0) (opCi (2))) 172 := (snd_sq (snd_aload_n (k := 0) (by decide +kernel) rfl) (snd_iconst (k := 2) (by decide) (by decide +kernel)))
set_option maxRecDepth 20000 in
theorem c_X6_move_172 : CallV mX6_move 172 mX6_faulted 6 2 := kallV (site_V rfl w691 (by decide +kernel) w688 w690 w42 w90 ⟨by decide, by decide, by decide +kernel⟩) (by decide) (by decide) (by unfold clsNo; rfl)
set_option maxRecDepth 20000 in
theorem r_X6_move_175 : RtI mX6_move 175 := rt_I (by decide +kernel) rfl
set_option maxRecDepth 20000 in
theorem s_X6_move_176 : Snd mX6_move 176 (sq (opLdA 7) (sq (opGetR 0 0) (sq (opLdI 4) (sq (opLdI 8) (sq opiadd (sq (opLdI 9) (sq opIast (sq (opInc 8 (1)) opNop)))))))) 124 := (snd_sq (snd_aload (by decide +kernel)) (snd_sq (snd_getRN (ci := 0) (k := 0) (by decide +kernel) rfl (by decide) (by decide) rfl iw_0 w343) (snd_sq (snd_iload (by decide +kernel)) (snd_sq (snd_iload (by decide +kernel)) (snd_sq (snd_iadd (by decide +kernel)) (snd_sq (snd_iload (by decide +kernel)) (snd_sq (snd_iast (by decide +kernel)) (snd_sq (snd_iinc (k := 1) (by decide +kernel) (by decide) (by decide)) (snd_goto (off := -68) (by decide +kernel) (by decide))))))))))
set_option maxRecDepth 20000 in
theorem s_X6_move_195 : Snd mX6_move 195 (opLdI 5) 197 := (snd_iload (by decide +kernel))
set_option maxRecDepth 20000 in
theorem r_X6_move_197 : RtI mX6_move 197 := rt_I (by decide +kernel) rfl
/-! ClaimChains.states(III)I -/
set_option maxRecDepth 20000 in
theorem s_X6_states_0 : Snd mX6_states 0 (sq (opLdA 0) (sq (opCi (0)) (sq (opPutI 6 7) (opLdI 1)))) 6 := (snd_sq (snd_aload_n (k := 0) (by decide +kernel) rfl) (snd_sq (snd_iconst (k := 0) (by decide) (by decide +kernel)) (snd_sq (snd_putI (ci := 6) (k := 7) (by decide +kernel) rfl (by decide) (by decide) (by decide) iw_6 tyX6_ok nmX6 rfl (tyX6_ok 7 (by decide)) w361) (snd_iload_n (k := 1) (by decide +kernel) rfl))))
set_option maxRecDepth 20000 in
theorem c_X6_states_6 : CallS mX6_states 6 mX6_isBox 1 := kallS (site_S w683 (by decide +kernel) w681 w682 w90 ⟨by decide, by decide, by decide +kernel⟩) (by decide)
set_option maxRecDepth 20000 in
theorem b_X6_states_9 : Br_if_ne mX6_states 9 14 := br_if_ne (off := 5) (by decide +kernel) (by decide)
set_option maxRecDepth 20000 in
theorem s_X6_states_12 : Snd mX6_states 12 (opCi (-1)) 13 := (snd_iconst (k := -1) (by decide) (by decide +kernel))
set_option maxRecDepth 20000 in
theorem r_X6_states_13 : RtI mX6_states 13 := rt_I (by decide +kernel) rfl
set_option maxRecDepth 20000 in
theorem s_X6_states_14 : Snd mX6_states 14 (opLdI 2) 15 := (snd_iload_n (k := 2) (by decide +kernel) rfl)
set_option maxRecDepth 20000 in
theorem c_X6_states_15 : CallS mX6_states 15 mX6_isRow 1 := kallS (site_S w452 (by decide +kernel) w450 w451 w90 ⟨by decide, by decide, by decide +kernel⟩) (by decide)
set_option maxRecDepth 20000 in
theorem b_X6_states_18 : Br_if_eq mX6_states 18 30 := br_if_eq (off := 12) (by decide +kernel) (by decide)
set_option maxRecDepth 20000 in
theorem s_X6_states_21 : Snd mX6_states 21 (opLdI 3) 22 := (snd_iload_n (k := 3) (by decide +kernel) rfl)
set_option maxRecDepth 20000 in
theorem b_X6_states_22 : Br_if_lt mX6_states 22 30 := br_if_lt (off := 8) (by decide +kernel) (by decide)
set_option maxRecDepth 20000 in
theorem s_X6_states_25 : Snd mX6_states 25 (sq (opLdI 3) (opCi (1))) 27 := (snd_sq (snd_iload_n (k := 3) (by decide +kernel) rfl) (snd_iconst (k := 1) (by decide) (by decide +kernel)))
set_option maxRecDepth 20000 in
theorem b_X6_states_27 : Br_ic_le mX6_states 27 33 := br_ic_le (off := 6) (by decide +kernel) (by decide)
set_option maxRecDepth 20000 in
theorem s_X6_states_30 : Snd mX6_states 30 (opCi (-2)) 32 := (snd_bipush (k := -2) (by decide) (by decide +kernel))
set_option maxRecDepth 20000 in
theorem r_X6_states_32 : RtI mX6_states 32 := rt_I (by decide +kernel) rfl
set_option maxRecDepth 20000 in
theorem s_X6_states_33 : Snd mX6_states 33 (sq (opLdA 0) (sq (opGetR 6 5) (sq (opLdI 1) (sq opAald (sq (opStA 4) (opLdA 4)))))) 43 := (snd_sq (snd_aload_n (k := 0) (by decide +kernel) rfl) (snd_sq (snd_getR (ci := 6) (k := 5) (by decide +kernel) rfl (by decide) (by decide) rfl iw_6 w359) (snd_sq (snd_iload_n (k := 1) (by decide +kernel) rfl) (snd_sq (snd_aald (by decide +kernel)) (snd_sq (snd_astore (by decide +kernel) (by decide)) (snd_aload (by decide +kernel)))))))
set_option maxRecDepth 20000 in
theorem c_X6_states_43 : CallV mX6_states 43 mX0_hasRow 0 1 := kallV (site_VN rfl w687 (by decide +kernel) w684 w686 w41 w96 ⟨by decide, by decide, by decide +kernel⟩) (by decide) (by decide) (by unfold clsNo; rfl)
set_option maxRecDepth 20000 in
theorem b_X6_states_46 : Br_if_ne mX6_states 46 55 := br_if_ne (off := 9) (by decide +kernel) (by decide)
set_option maxRecDepth 20000 in
theorem s_X6_states_49 : Snd mX6_states 49 (sq (opLdA 0) (opCi (1))) 51 := (snd_sq (snd_aload_n (k := 0) (by decide +kernel) rfl) (snd_iconst (k := 1) (by decide) (by decide +kernel)))
set_option maxRecDepth 20000 in
theorem c_X6_states_51 : CallV mX6_states 51 mX6_faulted 6 2 := kallV (site_V rfl w691 (by decide +kernel) w688 w690 w42 w90 ⟨by decide, by decide, by decide +kernel⟩) (by decide) (by decide) (by unfold clsNo; rfl)
set_option maxRecDepth 20000 in
theorem r_X6_states_54 : RtI mX6_states 54 := rt_I (by decide +kernel) rfl
set_option maxRecDepth 20000 in
theorem s_X6_states_55 : Snd mX6_states 55 (sq (opCi (65535)) (sq (opStI 5) (sq (opCi (0)) (sq (opStI 6) (sq (opCi (0)) (opStI 7)))))) 65 := (snd_sq (snd_ldc w692 (by decide +kernel)) (snd_sq (snd_istore (by decide +kernel) (by decide)) (snd_sq (snd_iconst (k := 0) (by decide) (by decide +kernel)) (snd_sq (snd_istore (by decide +kernel) (by decide)) (snd_sq (snd_iconst (k := 0) (by decide) (by decide +kernel)) (snd_istore (by decide +kernel) (by decide)))))))
set_option maxRecDepth 20000 in
theorem s_X6_states_65 : Snd mX6_states 65 (sq (opLdI 7) (sq (opLdA 4) (opGetI 0 2))) 72 := (snd_sq (snd_iload (by decide +kernel)) (snd_sq (snd_aload (by decide +kernel)) (snd_getIN (ci := 0) (k := 2) (by decide +kernel) rfl (by decide) (by decide) (by decide) iw_0 w346)))
set_option maxRecDepth 20000 in
theorem b_X6_states_72 : Br_ic_ge mX6_states 72 136 := br_ic_ge (off := 64) (by decide +kernel) (by decide)
set_option maxRecDepth 20000 in
theorem s_X6_states_75 : Snd mX6_states 75 (sq (opLdA 4) (sq (opGetR 0 0) (sq (opLdI 7) (sq opIald (sq (opStI 8) (sq (opLdA 0) (sq (opGetR 6 0) (opLdI 8)))))))) 91 := (snd_sq (snd_aload (by decide +kernel)) (snd_sq (snd_getRN (ci := 0) (k := 0) (by decide +kernel) rfl (by decide) (by decide) rfl iw_0 w343) (snd_sq (snd_iload (by decide +kernel)) (snd_sq (snd_iald (by decide +kernel)) (snd_sq (snd_istore (by decide +kernel) (by decide)) (snd_sq (snd_aload_n (k := 0) (by decide +kernel) rfl) (snd_sq (snd_getR (ci := 6) (k := 0) (by decide +kernel) rfl (by decide) (by decide) rfl iw_6 w354) (snd_iload (by decide +kernel)))))))))
set_option maxRecDepth 20000 in
theorem c_X6_states_91 : CallV mX6_states 91 mX4_has 4 2 := kallV (site_VN rfl w178 (by decide +kernel) w429 w177 w2 w91 ⟨by decide, by decide, by decide +kernel⟩) (by decide) (by decide) (by unfold clsNo; rfl)
set_option maxRecDepth 20000 in
theorem b_X6_states_94 : Br_if_ne mX6_states 94 100 := br_if_ne (off := 6) (by decide +kernel) (by decide)
set_option maxRecDepth 20000 in
theorem s_X6_states_97 : Snd mX6_states 97 opNop 130 := (snd_goto (off := 33) (by decide +kernel) (by decide))
set_option maxRecDepth 20000 in
theorem s_X6_states_100 : Snd mX6_states 100 (sq (opLdI 5) (sq (opLdA 0) (sq (opGetR 6 0) (sq (opLdI 8) (opLdI 2))))) 109 := (snd_sq (snd_iload (by decide +kernel)) (snd_sq (snd_aload_n (k := 0) (by decide +kernel) rfl) (snd_sq (snd_getR (ci := 6) (k := 0) (by decide +kernel) rfl (by decide) (by decide) rfl iw_6 w354) (snd_sq (snd_iload (by decide +kernel)) (snd_iload_n (k := 2) (by decide +kernel) rfl)))))
set_option maxRecDepth 20000 in
theorem c_X6_states_109 : CallV mX6_states 109 mX4_trueStates 4 3 := kallV (site_VN rfl w456 (by decide +kernel) w453 w455 w12 w91 ⟨by decide, by decide, by decide +kernel⟩) (by decide) (by decide) (by unfold clsNo; rfl)
set_option maxRecDepth 20000 in
theorem s_X6_states_112 : Snd mX6_states 112 (sq opiand (sq (opStI 5) (sq (opLdI 6) (sq (opLdA 0) (sq (opGetR 6 0) (sq (opLdI 8) (opLdI 2))))))) 124 := (snd_sq (snd_iand (by decide +kernel)) (snd_sq (snd_istore (by decide +kernel) (by decide)) (snd_sq (snd_iload (by decide +kernel)) (snd_sq (snd_aload_n (k := 0) (by decide +kernel) rfl) (snd_sq (snd_getR (ci := 6) (k := 0) (by decide +kernel) rfl (by decide) (by decide) rfl iw_6 w354) (snd_sq (snd_iload (by decide +kernel)) (snd_iload_n (k := 2) (by decide +kernel) rfl)))))))
set_option maxRecDepth 20000 in
theorem c_X6_states_124 : CallV mX6_states 124 mX4_trueStates 4 3 := kallV (site_VN rfl w456 (by decide +kernel) w453 w455 w12 w91 ⟨by decide, by decide, by decide +kernel⟩) (by decide) (by decide) (by unfold clsNo; rfl)
set_option maxRecDepth 20000 in
theorem s_X6_states_127 : Snd mX6_states 127 (sq opior (opStI 6)) 130 := (snd_sq (snd_ior (by decide +kernel)) (snd_istore (by decide +kernel) (by decide)))
set_option maxRecDepth 20000 in
theorem s_X6_states_130 : Snd mX6_states 130 (sq (opInc 7 (1)) opNop) 65 := (snd_sq (snd_iinc (k := 1) (by decide +kernel) (by decide) (by decide)) (snd_goto (off := -68) (by decide +kernel) (by decide)))
set_option maxRecDepth 20000 in
theorem s_X6_states_136 : Snd mX6_states 136 (opLdI 3) 137 := (snd_iload_n (k := 3) (by decide +kernel) rfl)
set_option maxRecDepth 20000 in
theorem b_X6_states_137 : Br_if_ne mX6_states 137 145 := br_if_ne (off := 8) (by decide +kernel) (by decide)
set_option maxRecDepth 20000 in
theorem s_X6_states_140 : Snd mX6_states 140 (sq (opLdI 5) opNop) 147 := (snd_sq (snd_iload (by decide +kernel)) (snd_goto (off := 5) (by decide +kernel) (by decide)))
set_option maxRecDepth 20000 in
theorem s_X6_states_145 : Snd mX6_states 145 (opLdI 6) 147 := (snd_iload (by decide +kernel))
set_option maxRecDepth 20000 in
theorem r_X6_states_147 : RtI mX6_states 147 := rt_I (by decide +kernel) rfl
/-! ClaimChains.lose(I)I -/
set_option maxRecDepth 20000 in
theorem s_X6_lose_0 : Snd mX6_lose 0 (opLdI 1) 1 := (snd_iload_n (k := 1) (by decide +kernel) rfl)
set_option maxRecDepth 20000 in
theorem c_X6_lose_1 : CallS mX6_lose 1 mX6_isBox 1 := kallS (site_S w683 (by decide +kernel) w681 w682 w90 ⟨by decide, by decide, by decide +kernel⟩) (by decide)
set_option maxRecDepth 20000 in
theorem b_X6_lose_4 : Br_if_ne mX6_lose 4 9 := br_if_ne (off := 5) (by decide +kernel) (by decide)
set_option maxRecDepth 20000 in
theorem s_X6_lose_7 : Snd mX6_lose 7 (opCi (-1)) 8 := (snd_iconst (k := -1) (by decide) (by decide +kernel))
set_option maxRecDepth 20000 in
theorem r_X6_lose_8 : RtI mX6_lose 8 := rt_I (by decide +kernel) rfl
set_option maxRecDepth 20000 in
theorem s_X6_lose_9 : Snd mX6_lose 9 (sq (opLdA 0) (sq (opGetR 6 5) (sq (opLdI 1) opAald))) 15 := (snd_sq (snd_aload_n (k := 0) (by decide +kernel) rfl) (snd_sq (snd_getR (ci := 6) (k := 5) (by decide +kernel) rfl (by decide) (by decide) rfl iw_6 w359) (snd_sq (snd_iload_n (k := 1) (by decide +kernel) rfl) (snd_aald (by decide +kernel)))))
set_option maxRecDepth 20000 in
theorem c_X6_lose_15 : CallV mX6_lose 15 mX0_hasRow 0 1 := kallV (site_VN rfl w687 (by decide +kernel) w684 w686 w41 w96 ⟨by decide, by decide, by decide +kernel⟩) (by decide) (by decide) (by unfold clsNo; rfl)
set_option maxRecDepth 20000 in
theorem b_X6_lose_18 : Br_if_ne mX6_lose 18 23 := br_if_ne (off := 5) (by decide +kernel) (by decide)
set_option maxRecDepth 20000 in
theorem s_X6_lose_21 : Snd mX6_lose 21 (opCi (0)) 22 := (snd_iconst (k := 0) (by decide) (by decide +kernel))
set_option maxRecDepth 20000 in
theorem r_X6_lose_22 : RtI mX6_lose 22 := rt_I (by decide +kernel) rfl
set_option maxRecDepth 20000 in
theorem s_X6_lose_23 : Snd mX6_lose 23 (sq (opLdA 0) (sq (opGetR 6 5) (sq (opLdI 1) opAald))) 29 := (snd_sq (snd_aload_n (k := 0) (by decide +kernel) rfl) (snd_sq (snd_getR (ci := 6) (k := 5) (by decide +kernel) rfl (by decide) (by decide) rfl iw_6 w359) (snd_sq (snd_iload_n (k := 1) (by decide +kernel) rfl) (snd_aald (by decide +kernel)))))
set_option maxRecDepth 20000 in
theorem c_X6_lose_29 : CallV mX6_lose 29 mX0_loseRow 0 1 := kallV (site_VN rfl w787 (by decide +kernel) w784 w786 w52 w96 ⟨by decide, by decide, by decide +kernel⟩) (by decide) (by decide) (by unfold clsNo; rfl)
set_option maxRecDepth 20000 in
theorem s_X6_lose_32 : Snd mX6_lose 32 (opCi (1)) 33 := (snd_iconst (k := 1) (by decide) (by decide +kernel))
set_option maxRecDepth 20000 in
theorem r_X6_lose_33 : RtI mX6_lose 33 := rt_I (by decide +kernel) rfl
/-! ClaimChains.fault()I -/
set_option maxRecDepth 20000 in
theorem s_X6_fault_0 : Snd mX6_fault 0 (sq (opLdA 0) (opGetI 6 7)) 4 := (snd_sq (snd_aload_n (k := 0) (by decide +kernel) rfl) (snd_getI (ci := 6) (k := 7) (by decide +kernel) rfl (by decide) (by decide) (by decide) iw_6 w361))
set_option maxRecDepth 20000 in
theorem r_X6_fault_4 : RtI mX6_fault 4 := rt_I (by decide +kernel) rfl
/-! ClaimChains.many(I)I -/
set_option maxRecDepth 20000 in
theorem s_X6_many_0 : Snd mX6_many 0 (opLdI 1) 1 := (snd_iload_n (k := 1) (by decide +kernel) rfl)
set_option maxRecDepth 20000 in
theorem hw_X6_many_1 : decode (MI.bytes mX6_many) 1 = .ok (.tableswitch 93 0 5 #[39, 47, 55, 66, 77, 88], 39) := by decide +kernel
set_option maxRecDepth 20000 in
theorem w_X6_many_1 {d cap : Nat} {L : LT} {x : Int32} {st : List Value} {n : Nat} {R : RT} {I : IT} {J : JT} {Q : QT} (k0 : x = 0 → Ends mX6_many d cap 40 L st n R I J Q) (k1 : x = 1 → Ends mX6_many d cap 48 L st n R I J Q) (k2 : x = 2 → Ends mX6_many d cap 56 L st n R I J Q) (k3 : x = 3 → Ends mX6_many d cap 67 L st n R I J Q) (k4 : x = 4 → Ends mX6_many d cap 78 L st n R I J Q) (k5 : x = 5 → Ends mX6_many d cap 89 L st n R I J Q) (kd : ¬ x = 0 → ¬ x = 1 → ¬ x = 2 → ¬ x = 3 → ¬ x = 4 → ¬ x = 5 → Ends mX6_many d cap 94 L st n R I J Q) : Ends mX6_many d cap 1 L (.int x :: st) n R I J Q := by
  by_cases h0 : x.toInt < 0 ∨ 5 < x.toInt
  · exact sw_out hw_X6_many_1 h0 (by decide) (kd (fun h => by subst h; revert h0; decide) (fun h => by subst h; revert h0; decide) (fun h => by subst h; revert h0; decide) (fun h => by subst h; revert h0; decide) (fun h => by subst h; revert h0; decide) (fun h => by subst h; revert h0; decide))
  · have h1 : x.toInt = 0 ∨ x.toInt = 1 ∨ x.toInt = 2 ∨ x.toInt = 3 ∨ x.toInt = 4 ∨ x.toInt = 5 := by omega
    rcases h1 with h1 | h1 | h1 | h1 | h1 | h1
    · have h2 : x = 0 := i32_of h1 (by decide)
      subst h2
      exact sw_in (off := 39) hw_X6_many_1 (by decide) (by decide) (by decide +kernel) (by decide) (k0 rfl)
    · have h2 : x = 1 := i32_of h1 (by decide)
      subst h2
      exact sw_in (off := 47) hw_X6_many_1 (by decide) (by decide) (by decide +kernel) (by decide) (k1 rfl)
    · have h2 : x = 2 := i32_of h1 (by decide)
      subst h2
      exact sw_in (off := 55) hw_X6_many_1 (by decide) (by decide) (by decide +kernel) (by decide) (k2 rfl)
    · have h2 : x = 3 := i32_of h1 (by decide)
      subst h2
      exact sw_in (off := 66) hw_X6_many_1 (by decide) (by decide) (by decide +kernel) (by decide) (k3 rfl)
    · have h2 : x = 4 := i32_of h1 (by decide)
      subst h2
      exact sw_in (off := 77) hw_X6_many_1 (by decide) (by decide) (by decide +kernel) (by decide) (k4 rfl)
    · have h2 : x = 5 := i32_of h1 (by decide)
      subst h2
      exact sw_in (off := 88) hw_X6_many_1 (by decide) (by decide) (by decide +kernel) (by decide) (k5 rfl)
set_option maxRecDepth 20000 in
theorem s_X6_many_40 : Snd mX6_many 40 (sq (opLdA 0) (sq (opGetR 6 0) (opGetI 4 9))) 47 := (snd_sq (snd_aload_n (k := 0) (by decide +kernel) rfl) (snd_sq (snd_getR (ci := 6) (k := 0) (by decide +kernel) rfl (by decide) (by decide) rfl iw_6 w354) (snd_getIN (ci := 4) (k := 9) (by decide +kernel) rfl (by decide) (by decide) (by decide) iw_4 w136)))
set_option maxRecDepth 20000 in
theorem r_X6_many_47 : RtI mX6_many 47 := rt_I (by decide +kernel) rfl
set_option maxRecDepth 20000 in
theorem s_X6_many_48 : Snd mX6_many 48 (sq (opLdA 0) (sq (opGetR 6 2) (opGetI 2 3))) 55 := (snd_sq (snd_aload_n (k := 0) (by decide +kernel) rfl) (snd_sq (snd_getR (ci := 6) (k := 2) (by decide +kernel) rfl (by decide) (by decide) rfl iw_6 w356) (snd_getIN (ci := 2) (k := 3) (by decide +kernel) rfl (by decide) (by decide) (by decide) iw_2 w267)))
set_option maxRecDepth 20000 in
theorem r_X6_many_55 : RtI mX6_many 55 := rt_I (by decide +kernel) rfl
set_option maxRecDepth 20000 in
theorem s_X6_many_56 : Snd mX6_many 56 (sq (opLdA 0) (sq (opGetR 6 1) (opGetI 3 4))) 63 := (snd_sq (snd_aload_n (k := 0) (by decide +kernel) rfl) (snd_sq (snd_getR (ci := 6) (k := 1) (by decide +kernel) rfl (by decide) (by decide) rfl iw_6 w355) (snd_getIN (ci := 3) (k := 4) (by decide +kernel) rfl (by decide) (by decide) (by decide) iw_3 w203)))
set_option maxRecDepth 20000 in
theorem c_X6_many_63 : CallS mX6_many 63 mJ6_bitCount 1 := kallS (site_S w539 (by decide +kernel) w537 w538 w99 ⟨by decide, by decide, by decide +kernel⟩) (by decide)
set_option maxRecDepth 20000 in
theorem r_X6_many_66 : RtI mX6_many 66 := rt_I (by decide +kernel) rfl
set_option maxRecDepth 20000 in
theorem s_X6_many_67 : Snd mX6_many 67 (sq (opLdA 0) (sq (opGetR 6 1) (opGetI 3 5))) 74 := (snd_sq (snd_aload_n (k := 0) (by decide +kernel) rfl) (snd_sq (snd_getR (ci := 6) (k := 1) (by decide +kernel) rfl (by decide) (by decide) rfl iw_6 w355) (snd_getIN (ci := 3) (k := 5) (by decide +kernel) rfl (by decide) (by decide) (by decide) iw_3 w207)))
set_option maxRecDepth 20000 in
theorem c_X6_many_74 : CallS mX6_many 74 mJ6_bitCount 1 := kallS (site_S w539 (by decide +kernel) w537 w538 w99 ⟨by decide, by decide, by decide +kernel⟩) (by decide)
set_option maxRecDepth 20000 in
theorem r_X6_many_77 : RtI mX6_many 77 := rt_I (by decide +kernel) rfl
set_option maxRecDepth 20000 in
theorem s_X6_many_78 : Snd mX6_many 78 (sq (opLdA 0) (opGetR 6 2)) 82 := (snd_sq (snd_aload_n (k := 0) (by decide +kernel) rfl) (snd_getR (ci := 6) (k := 2) (by decide +kernel) rfl (by decide) (by decide) rfl iw_6 w356))
set_option maxRecDepth 20000 in
theorem c_X6_many_82 : CallV mX6_many 82 mX2_goodStates 2 1 := kallV (site_VN rfl w602 (by decide +kernel) w638 w601 w30 w93 ⟨by decide, by decide, by decide +kernel⟩) (by decide) (by decide) (by unfold clsNo; rfl)
set_option maxRecDepth 20000 in
theorem c_X6_many_85 : CallS mX6_many 85 mJ6_bitCount 1 := kallS (site_S w539 (by decide +kernel) w537 w538 w99 ⟨by decide, by decide, by decide +kernel⟩) (by decide)
set_option maxRecDepth 20000 in
theorem r_X6_many_88 : RtI mX6_many 88 := rt_I (by decide +kernel) rfl
set_option maxRecDepth 20000 in
theorem s_X6_many_89 : Snd mX6_many 89 (opLdA 0) 90 := (snd_aload_n (k := 0) (by decide +kernel) rfl)
set_option maxRecDepth 20000 in
theorem c_X6_many_90 : CallV mX6_many 90 mX6_countFilledBoxes 6 1 := kallV (site_V rfl w799 (by decide +kernel) w796 w798 w53 w90 ⟨by decide, by decide, by decide +kernel⟩) (by decide) (by decide) (by unfold clsNo; rfl)
set_option maxRecDepth 20000 in
theorem r_X6_many_93 : RtI mX6_many 93 := rt_I (by decide +kernel) rfl
set_option maxRecDepth 20000 in
theorem s_X6_many_94 : Snd mX6_many 94 (opCi (-2)) 96 := (snd_bipush (k := -2) (by decide) (by decide +kernel))
set_option maxRecDepth 20000 in
theorem r_X6_many_96 : RtI mX6_many 96 := rt_I (by decide +kernel) rfl
/-! ClaimChains.countFilledBoxes()I -/
set_option maxRecDepth 20000 in
theorem s_X6_countFilledBoxes_0 : Snd mX6_countFilledBoxes 0 (sq (opCi (0)) (sq (opStI 1) (sq (opCi (0)) (opStI 2)))) 4 := (snd_sq (snd_iconst (k := 0) (by decide) (by decide +kernel)) (snd_sq (snd_istore_n (k := 1) (by decide +kernel) rfl (by decide)) (snd_sq (snd_iconst (k := 0) (by decide) (by decide +kernel)) (snd_istore_n (k := 2) (by decide +kernel) rfl (by decide)))))
set_option maxRecDepth 20000 in
theorem s_X6_countFilledBoxes_4 : Snd mX6_countFilledBoxes 4 (sq (opLdI 2) (opCi (4))) 6 := (snd_sq (snd_iload_n (k := 2) (by decide +kernel) rfl) (snd_iconst (k := 4) (by decide) (by decide +kernel)))
set_option maxRecDepth 20000 in
theorem b_X6_countFilledBoxes_6 : Br_ic_ge mX6_countFilledBoxes 6 30 := br_ic_ge (off := 24) (by decide +kernel) (by decide)
set_option maxRecDepth 20000 in
theorem s_X6_countFilledBoxes_9 : Snd mX6_countFilledBoxes 9 (sq (opLdA 0) (sq (opGetR 6 5) (sq (opLdI 2) opAald))) 15 := (snd_sq (snd_aload_n (k := 0) (by decide +kernel) rfl) (snd_sq (snd_getR (ci := 6) (k := 5) (by decide +kernel) rfl (by decide) (by decide) rfl iw_6 w359) (snd_sq (snd_iload_n (k := 2) (by decide +kernel) rfl) (snd_aald (by decide +kernel)))))
set_option maxRecDepth 20000 in
theorem c_X6_countFilledBoxes_15 : CallV mX6_countFilledBoxes 15 mX0_hasRow 0 1 := kallV (site_VN rfl w687 (by decide +kernel) w684 w686 w41 w96 ⟨by decide, by decide, by decide +kernel⟩) (by decide) (by decide) (by unfold clsNo; rfl)
set_option maxRecDepth 20000 in
theorem b_X6_countFilledBoxes_18 : Br_if_eq mX6_countFilledBoxes 18 24 := br_if_eq (off := 6) (by decide +kernel) (by decide)
set_option maxRecDepth 20000 in
theorem s_X6_countFilledBoxes_21 : Snd mX6_countFilledBoxes 21 (opInc 1 (1)) 24 := (snd_iinc (k := 1) (by decide +kernel) (by decide) (by decide))
set_option maxRecDepth 20000 in
theorem s_X6_countFilledBoxes_24 : Snd mX6_countFilledBoxes 24 (sq (opInc 2 (1)) opNop) 4 := (snd_sq (snd_iinc (k := 1) (by decide +kernel) (by decide) (by decide)) (snd_goto (off := -23) (by decide +kernel) (by decide)))
set_option maxRecDepth 20000 in
theorem s_X6_countFilledBoxes_30 : Snd mX6_countFilledBoxes 30 (opLdI 1) 31 := (snd_iload_n (k := 1) (by decide +kernel) rfl)
set_option maxRecDepth 20000 in
theorem r_X6_countFilledBoxes_31 : RtI mX6_countFilledBoxes 31 := rt_I (by decide +kernel) rfl
/-! ClaimChains.faulted(I)I -/
set_option maxRecDepth 20000 in
theorem s_X6_faulted_0 : Snd mX6_faulted 0 (sq (opLdA 0) (sq (opLdI 1) (sq (opPutI 6 7) (sq (opCi (-10)) (sq (opLdI 1) opisub))))) 9 := (snd_sq (snd_aload_n (k := 0) (by decide +kernel) rfl) (snd_sq (snd_iload_n (k := 1) (by decide +kernel) rfl) (snd_sq (snd_putI (ci := 6) (k := 7) (by decide +kernel) rfl (by decide) (by decide) (by decide) iw_6 tyX6_ok nmX6 rfl (tyX6_ok 7 (by decide)) w361) (snd_sq (snd_bipush (k := -10) (by decide) (by decide +kernel)) (snd_sq (snd_iload_n (k := 1) (by decide +kernel) rfl) (snd_isub (by decide +kernel)))))))
set_option maxRecDepth 20000 in
theorem r_X6_faulted_9 : RtI mX6_faulted 9 := rt_I (by decide +kernel) rfl
/-! ClaimChains.isState(I)Z -/
set_option maxRecDepth 20000 in
theorem s_X6_isState_0 : Snd mX6_isState 0 (opLdI 0) 1 := (snd_iload_n (k := 0) (by decide +kernel) rfl)
set_option maxRecDepth 20000 in
theorem b_X6_isState_1 : Br_if_lt mX6_isState 1 14 := br_if_lt (off := 13) (by decide +kernel) (by decide)
set_option maxRecDepth 20000 in
theorem s_X6_isState_4 : Snd mX6_isState 4 (sq (opLdI 0) (opCi (16))) 7 := (snd_sq (snd_iload_n (k := 0) (by decide +kernel) rfl) (snd_bipush (k := 16) (by decide) (by decide +kernel)))
set_option maxRecDepth 20000 in
theorem b_X6_isState_7 : Br_ic_ge mX6_isState 7 14 := br_ic_ge (off := 7) (by decide +kernel) (by decide)
set_option maxRecDepth 20000 in
theorem s_X6_isState_10 : Snd mX6_isState 10 (sq (opCi (1)) opNop) 15 := (snd_sq (snd_iconst (k := 1) (by decide) (by decide +kernel)) (snd_goto (off := 4) (by decide +kernel) (by decide)))
set_option maxRecDepth 20000 in
theorem s_X6_isState_14 : Snd mX6_isState 14 (opCi (0)) 15 := (snd_iconst (k := 0) (by decide) (by decide +kernel))
set_option maxRecDepth 20000 in
theorem r_X6_isState_15 : RtZ mX6_isState 15 := rt_Z (by decide +kernel) rfl
/-! ClaimChains.isRow(I)Z -/
set_option maxRecDepth 20000 in
theorem s_X6_isRow_0 : Snd mX6_isRow 0 (opLdI 0) 1 := (snd_iload_n (k := 0) (by decide +kernel) rfl)
set_option maxRecDepth 20000 in
theorem b_X6_isRow_1 : Br_if_lt mX6_isRow 1 13 := br_if_lt (off := 12) (by decide +kernel) (by decide)
set_option maxRecDepth 20000 in
theorem s_X6_isRow_4 : Snd mX6_isRow 4 (sq (opLdI 0) (opCi (4))) 6 := (snd_sq (snd_iload_n (k := 0) (by decide +kernel) rfl) (snd_iconst (k := 4) (by decide) (by decide +kernel)))
set_option maxRecDepth 20000 in
theorem b_X6_isRow_6 : Br_ic_ge mX6_isRow 6 13 := br_ic_ge (off := 7) (by decide +kernel) (by decide)
set_option maxRecDepth 20000 in
theorem s_X6_isRow_9 : Snd mX6_isRow 9 (sq (opCi (1)) opNop) 14 := (snd_sq (snd_iconst (k := 1) (by decide) (by decide +kernel)) (snd_goto (off := 4) (by decide +kernel) (by decide)))
set_option maxRecDepth 20000 in
theorem s_X6_isRow_13 : Snd mX6_isRow 13 (opCi (0)) 14 := (snd_iconst (k := 0) (by decide) (by decide +kernel))
set_option maxRecDepth 20000 in
theorem r_X6_isRow_14 : RtZ mX6_isRow 14 := rt_Z (by decide +kernel) rfl
/-! ClaimChains.isBox(I)Z -/
set_option maxRecDepth 20000 in
theorem s_X6_isBox_0 : Snd mX6_isBox 0 (opLdI 0) 1 := (snd_iload_n (k := 0) (by decide +kernel) rfl)
set_option maxRecDepth 20000 in
theorem b_X6_isBox_1 : Br_if_lt mX6_isBox 1 13 := br_if_lt (off := 12) (by decide +kernel) (by decide)
set_option maxRecDepth 20000 in
theorem s_X6_isBox_4 : Snd mX6_isBox 4 (sq (opLdI 0) (opCi (4))) 6 := (snd_sq (snd_iload_n (k := 0) (by decide +kernel) rfl) (snd_iconst (k := 4) (by decide) (by decide +kernel)))
set_option maxRecDepth 20000 in
theorem b_X6_isBox_6 : Br_ic_ge mX6_isBox 6 13 := br_ic_ge (off := 7) (by decide +kernel) (by decide)
set_option maxRecDepth 20000 in
theorem s_X6_isBox_9 : Snd mX6_isBox 9 (sq (opCi (1)) opNop) 14 := (snd_sq (snd_iconst (k := 1) (by decide) (by decide +kernel)) (snd_goto (off := 4) (by decide +kernel) (by decide)))
set_option maxRecDepth 20000 in
theorem s_X6_isBox_13 : Snd mX6_isBox 13 (opCi (0)) 14 := (snd_iconst (k := 0) (by decide) (by decide +kernel))
set_option maxRecDepth 20000 in
theorem r_X6_isBox_14 : RtZ mX6_isBox 14 := rt_Z (by decide +kernel) rfl
/-! ClaimChains.isIn(II)Z -/
set_option maxRecDepth 20000 in
theorem s_X6_isIn_0 : Snd mX6_isIn 0 (sq (opLdI 1) (sq (opLdI 0) (sq opishr (sq (opCi (1)) (sq opiand (opCi (1))))))) 6 := (snd_sq (snd_iload_n (k := 1) (by decide +kernel) rfl) (snd_sq (snd_iload_n (k := 0) (by decide +kernel) rfl) (snd_sq (snd_ishr (by decide +kernel)) (snd_sq (snd_iconst (k := 1) (by decide) (by decide +kernel)) (snd_sq (snd_iand (by decide +kernel)) (snd_iconst (k := 1) (by decide) (by decide +kernel)))))))
set_option maxRecDepth 20000 in
theorem b_X6_isIn_6 : Br_ic_ne mX6_isIn 6 13 := br_ic_ne (off := 7) (by decide +kernel) (by decide)
set_option maxRecDepth 20000 in
theorem s_X6_isIn_9 : Snd mX6_isIn 9 (sq (opCi (1)) opNop) 14 := (snd_sq (snd_iconst (k := 1) (by decide) (by decide +kernel)) (snd_goto (off := 4) (by decide +kernel) (by decide)))
set_option maxRecDepth 20000 in
theorem s_X6_isIn_13 : Snd mX6_isIn 13 (opCi (0)) 14 := (snd_iconst (k := 0) (by decide) (by decide +kernel))
set_option maxRecDepth 20000 in
theorem r_X6_isIn_14 : RtZ mX6_isIn 14 := rt_Z (by decide +kernel) rfl
/-! ClaimChains.bit(Z)I -/
set_option maxRecDepth 20000 in
theorem s_X6_bit_0 : Snd mX6_bit 0 (opLdI 0) 1 := (snd_iload_n (k := 0) (by decide +kernel) rfl)
set_option maxRecDepth 20000 in
theorem b_X6_bit_1 : Br_if_eq mX6_bit 1 8 := br_if_eq (off := 7) (by decide +kernel) (by decide)
set_option maxRecDepth 20000 in
theorem s_X6_bit_4 : Snd mX6_bit 4 (sq (opCi (1)) opNop) 9 := (snd_sq (snd_iconst (k := 1) (by decide) (by decide +kernel)) (snd_goto (off := 4) (by decide +kernel) (by decide)))
set_option maxRecDepth 20000 in
theorem s_X6_bit_8 : Snd mX6_bit 8 (opCi (0)) 9 := (snd_iconst (k := 0) (by decide) (by decide +kernel))
set_option maxRecDepth 20000 in
theorem r_X6_bit_9 : RtI mX6_bit 9 := rt_I (by decide +kernel) rfl
/-! ClaimChains.leastOf(I)I -/
set_option maxRecDepth 20000 in
theorem s_X6_leastOf_0 : Snd mX6_leastOf 0 (sq (opCi (0)) (opStI 1)) 2 := (snd_sq (snd_iconst (k := 0) (by decide) (by decide +kernel)) (snd_istore_n (k := 1) (by decide +kernel) rfl (by decide)))
set_option maxRecDepth 20000 in
theorem s_X6_leastOf_2 : Snd mX6_leastOf 2 (sq (opLdI 1) (opCi (16))) 5 := (snd_sq (snd_iload_n (k := 1) (by decide +kernel) rfl) (snd_bipush (k := 16) (by decide) (by decide +kernel)))
set_option maxRecDepth 20000 in
theorem b_X6_leastOf_5 : Br_ic_ge mX6_leastOf 5 24 := br_ic_ge (off := 19) (by decide +kernel) (by decide)
set_option maxRecDepth 20000 in
theorem s_X6_leastOf_8 : Snd mX6_leastOf 8 (sq (opLdI 1) (opLdI 0)) 10 := (snd_sq (snd_iload_n (k := 1) (by decide +kernel) rfl) (snd_iload_n (k := 0) (by decide +kernel) rfl))
set_option maxRecDepth 20000 in
theorem c_X6_leastOf_10 : CallS mX6_leastOf 10 mX6_isIn 2 := kallS (site_S w191 (by decide +kernel) w497 w190 w90 ⟨by decide, by decide, by decide +kernel⟩) (by decide)
set_option maxRecDepth 20000 in
theorem b_X6_leastOf_13 : Br_if_eq mX6_leastOf 13 18 := br_if_eq (off := 5) (by decide +kernel) (by decide)
set_option maxRecDepth 20000 in
theorem s_X6_leastOf_16 : Snd mX6_leastOf 16 (opLdI 1) 17 := (snd_iload_n (k := 1) (by decide +kernel) rfl)
set_option maxRecDepth 20000 in
theorem r_X6_leastOf_17 : RtI mX6_leastOf 17 := rt_I (by decide +kernel) rfl
set_option maxRecDepth 20000 in
theorem s_X6_leastOf_18 : Snd mX6_leastOf 18 (sq (opInc 1 (1)) opNop) 2 := (snd_sq (snd_iinc (k := 1) (by decide +kernel) (by decide) (by decide)) (snd_goto (off := -19) (by decide +kernel) (by decide)))
set_option maxRecDepth 20000 in
theorem s_X6_leastOf_24 : Snd mX6_leastOf 24 (opCi (-9)) 26 := (snd_bipush (k := -9) (by decide) (by decide +kernel))
set_option maxRecDepth 20000 in
theorem r_X6_leastOf_26 : RtI mX6_leastOf 26 := rt_I (by decide +kernel) rfl
/-! ClaimChains.nearestBits(JJII)J -/
set_option maxRecDepth 20000 in
theorem s_X6_nearestBits_0 : Snd mX6_nearestBits 0 (sq (opLdL 0) (sq (opCl (0)) oplcmp)) 3 := (snd_sq (snd_lload_n (k := 0) (by decide +kernel) rfl) (snd_sq (snd_lconst (k := 0) (by decide) (by decide +kernel)) (snd_lcmp (by decide +kernel))))
set_option maxRecDepth 20000 in
theorem b_X6_nearestBits_3 : Br_if_le mX6_nearestBits 3 12 := br_if_le (off := 9) (by decide +kernel) (by decide)
set_option maxRecDepth 20000 in
theorem s_X6_nearestBits_6 : Snd mX6_nearestBits 6 (sq (opLdL 2) (sq (opCl (0)) oplcmp)) 9 := (snd_sq (snd_lload_n (k := 2) (by decide +kernel) rfl) (snd_sq (snd_lconst (k := 0) (by decide) (by decide +kernel)) (snd_lcmp (by decide +kernel))))
set_option maxRecDepth 20000 in
theorem b_X6_nearestBits_9 : Br_if_gt mX6_nearestBits 9 14 := br_if_gt (off := 5) (by decide +kernel) (by decide)
set_option maxRecDepth 20000 in
theorem s_X6_nearestBits_12 : Snd mX6_nearestBits 12 (opCl (0)) 13 := (snd_lconst (k := 0) (by decide) (by decide +kernel))
set_option maxRecDepth 20000 in
theorem r_X6_nearestBits_13 : RtL mX6_nearestBits 13 := rt_L (by decide +kernel) rfl
set_option maxRecDepth 20000 in
theorem s_X6_nearestBits_14 : Snd mX6_nearestBits 14 (sq (opCl (1)) (sq (opLdI 4) (sq (opCi (1)) (sq opisub (sq oplshl (sq (opStL 6) (sq (opCi (0)) (opStI 8)))))))) 25 := (snd_sq (snd_lconst (k := 1) (by decide) (by decide +kernel)) (snd_sq (snd_iload (by decide +kernel)) (snd_sq (snd_iconst (k := 1) (by decide) (by decide +kernel)) (snd_sq (snd_isub (by decide +kernel)) (snd_sq (snd_lshl (by decide +kernel)) (snd_sq (snd_lstore (by decide +kernel) (by decide)) (snd_sq (snd_iconst (k := 0) (by decide) (by decide +kernel)) (snd_istore (by decide +kernel) (by decide)))))))))
set_option maxRecDepth 20000 in
theorem s_X6_nearestBits_25 : Snd mX6_nearestBits 25 (sq (opLdI 8) (opCi (62))) 29 := (snd_sq (snd_iload (by decide +kernel)) (snd_bipush (k := 62) (by decide) (by decide +kernel)))
set_option maxRecDepth 20000 in
theorem b_X6_nearestBits_29 : Br_ic_ge mX6_nearestBits 29 50 := br_ic_ge (off := 21) (by decide +kernel) (by decide)
set_option maxRecDepth 20000 in
theorem s_X6_nearestBits_32 : Snd mX6_nearestBits 32 (sq (opLdL 0) (sq (opLdI 8) (sq oplshl (sq (opLdL 2) (sq (opLdL 6) (sq oplmul oplcmp)))))) 41 := (snd_sq (snd_lload_n (k := 0) (by decide +kernel) rfl) (snd_sq (snd_iload (by decide +kernel)) (snd_sq (snd_lshl (by decide +kernel)) (snd_sq (snd_lload_n (k := 2) (by decide +kernel) rfl) (snd_sq (snd_lload (by decide +kernel)) (snd_sq (snd_lmul (by decide +kernel)) (snd_lcmp (by decide +kernel))))))))
set_option maxRecDepth 20000 in
theorem b_X6_nearestBits_41 : Br_if_ge mX6_nearestBits 41 50 := br_if_ge (off := 9) (by decide +kernel) (by decide)
set_option maxRecDepth 20000 in
theorem s_X6_nearestBits_44 : Snd mX6_nearestBits 44 (sq (opInc 8 (1)) opNop) 25 := (snd_sq (snd_iinc (k := 1) (by decide +kernel) (by decide) (by decide)) (snd_goto (off := -22) (by decide +kernel) (by decide)))
set_option maxRecDepth 20000 in
theorem s_X6_nearestBits_50 : Snd mX6_nearestBits 50 (sq (opLdL 0) (sq (opLdI 8) (sq oplshl (sq (opLdL 2) (sq opldiv (sq (opStL 9) (sq (opLdL 0) (sq (opLdI 8) (sq oplshl (sq (opLdL 2) (sq oplrem (sq (opCl (2)) (sq oplmul (sq (opStL 11) (sq (opLdL 11) (sq (opLdL 2) oplcmp)))))))))))))))) 74 := (snd_sq (snd_lload_n (k := 0) (by decide +kernel) rfl) (snd_sq (snd_iload (by decide +kernel)) (snd_sq (snd_lshl (by decide +kernel)) (snd_sq (snd_lload_n (k := 2) (by decide +kernel) rfl) (snd_sq (snd_ldiv (by decide +kernel)) (snd_sq (snd_lstore (by decide +kernel) (by decide)) (snd_sq (snd_lload_n (k := 0) (by decide +kernel) rfl) (snd_sq (snd_iload (by decide +kernel)) (snd_sq (snd_lshl (by decide +kernel)) (snd_sq (snd_lload_n (k := 2) (by decide +kernel) rfl) (snd_sq (snd_lrem (by decide +kernel)) (snd_sq (snd_ldc2 w727 (by decide +kernel)) (snd_sq (snd_lmul (by decide +kernel)) (snd_sq (snd_lstore (by decide +kernel) (by decide)) (snd_sq (snd_lload (by decide +kernel)) (snd_sq (snd_lload_n (k := 2) (by decide +kernel) rfl) (snd_lcmp (by decide +kernel))))))))))))))))))
set_option maxRecDepth 20000 in
theorem b_X6_nearestBits_74 : Br_if_gt mX6_nearestBits 74 95 := br_if_gt (off := 21) (by decide +kernel) (by decide)
set_option maxRecDepth 20000 in
theorem s_X6_nearestBits_77 : Snd mX6_nearestBits 77 (sq (opLdL 11) (sq (opLdL 2) oplcmp)) 81 := (snd_sq (snd_lload (by decide +kernel)) (snd_sq (snd_lload_n (k := 2) (by decide +kernel) rfl) (snd_lcmp (by decide +kernel))))
set_option maxRecDepth 20000 in
theorem b_X6_nearestBits_81 : Br_if_ne mX6_nearestBits 81 101 := br_if_ne (off := 20) (by decide +kernel) (by decide)
set_option maxRecDepth 20000 in
theorem s_X6_nearestBits_84 : Snd mX6_nearestBits 84 (sq (opLdL 9) (sq (opCl (2)) (sq oplrem (sq (opCl (1)) oplcmp)))) 92 := (snd_sq (snd_lload (by decide +kernel)) (snd_sq (snd_ldc2 w727 (by decide +kernel)) (snd_sq (snd_lrem (by decide +kernel)) (snd_sq (snd_lconst (k := 1) (by decide) (by decide +kernel)) (snd_lcmp (by decide +kernel))))))
set_option maxRecDepth 20000 in
theorem b_X6_nearestBits_92 : Br_if_ne mX6_nearestBits 92 101 := br_if_ne (off := 9) (by decide +kernel) (by decide)
set_option maxRecDepth 20000 in
theorem s_X6_nearestBits_95 : Snd mX6_nearestBits 95 (sq (opLdL 9) (sq (opCl (1)) (sq opladd (opStL 9)))) 101 := (snd_sq (snd_lload (by decide +kernel)) (snd_sq (snd_lconst (k := 1) (by decide) (by decide +kernel)) (snd_sq (snd_ladd (by decide +kernel)) (snd_lstore (by decide +kernel) (by decide)))))
set_option maxRecDepth 20000 in
theorem s_X6_nearestBits_101 : Snd mX6_nearestBits 101 (sq (opLdI 5) (sq (opLdI 4) (sq opiadd (sq (opCi (1)) (sq opisub (sq (opLdI 8) (sq opisub (sq opi2l (sq (opLdL 6) (sq oplmul (sq (opLdL 9) (sq (opLdL 6) (sq oplsub opladd))))))))))))) 121 := (snd_sq (snd_iload (by decide +kernel)) (snd_sq (snd_iload (by decide +kernel)) (snd_sq (snd_iadd (by decide +kernel)) (snd_sq (snd_iconst (k := 1) (by decide) (by decide +kernel)) (snd_sq (snd_isub (by decide +kernel)) (snd_sq (snd_iload (by decide +kernel)) (snd_sq (snd_isub (by decide +kernel)) (snd_sq (snd_i2l (by decide +kernel)) (snd_sq (snd_lload (by decide +kernel)) (snd_sq (snd_lmul (by decide +kernel)) (snd_sq (snd_lload (by decide +kernel)) (snd_sq (snd_lload (by decide +kernel)) (snd_sq (snd_lsub (by decide +kernel)) (snd_ladd (by decide +kernel)))))))))))))))
set_option maxRecDepth 20000 in
theorem r_X6_nearestBits_121 : RtL mX6_nearestBits 121 := rt_L (by decide +kernel) rfl
