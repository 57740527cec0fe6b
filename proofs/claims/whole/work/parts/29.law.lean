/-! ClaimChainsLaw.law([I)Z -/
set_option maxRecDepth 20000 in
theorem n_L_law_0 : NewO mL_law 0 6 8 := fun h1 h2 h3 h4 => e_new (ci := 6) (by decide +kernel) rfl (by decide) iw_6 tyX6_ok w100 w101 w90 (by decide +kernel) h1 h2 h3 h4
set_option maxRecDepth 20000 in
theorem s_L_law_3 : Snd mL_law 3 opDup 4 := (snd_dup (by decide +kernel))
set_option maxRecDepth 20000 in
theorem i_L_law_4 : Site mL_law 4 mX6_init true 1 := site_I rfl rfl w104 (by decide +kernel) w102 w103 w90 ⟨by decide, by decide, by decide +kernel⟩
set_option maxRecDepth 20000 in
theorem s_L_law_7 : Snd mL_law 7 (opStA 1) 8 := (snd_astore_n (k := 1) (by decide +kernel) rfl (by decide))
set_option maxRecDepth 20000 in
theorem n_L_law_8 : NewO mL_law 8 7 30 := fun h1 h2 h3 h4 => e_new (ci := 7) (by decide +kernel) rfl (by decide) iw_7 tyX7_ok w800 w801 w97 (by decide +kernel) h1 h2 h3 h4
set_option maxRecDepth 20000 in
theorem s_L_law_11 : Snd mL_law 11 opDup 12 := (snd_dup (by decide +kernel))
set_option maxRecDepth 20000 in
theorem i_L_law_12 : Site mL_law 12 mX7_init true 1 := site_I rfl rfl w804 (by decide +kernel) w802 w803 w97 ⟨by decide, by decide, by decide +kernel⟩
set_option maxRecDepth 20000 in
theorem s_L_law_15 : Snd mL_law 15 (sq (opStA 2) (sq (opCi (0)) (opStI 3))) 18 := (snd_sq (snd_astore_n (k := 2) (by decide +kernel) rfl (by decide)) (snd_sq (snd_iconst (k := 0) (by decide) (by decide +kernel)) (snd_istore_n (k := 3) (by decide +kernel) rfl (by decide))))
set_option maxRecDepth 20000 in
theorem s_L_law_18 : Snd mL_law 18 (sq (opLdI 3) (sq (opLdA 0) (sq opLenX (sq (opCi (6)) opisub)))) 24 := (snd_sq (snd_iload_n (k := 3) (by decide +kernel) rfl) (snd_sq (snd_aload_n (k := 0) (by decide +kernel) rfl) (snd_sq (snd_lenX (by decide +kernel)) (snd_sq (snd_bipush (k := 6) (by decide) (by decide +kernel)) (snd_isub (by decide +kernel))))))
set_option maxRecDepth 20000 in
theorem b_L_law_24 : Br_ic_gt mL_law 24 1366 := br_ic_gt (off := 1342) (by decide +kernel) (by decide)
set_option maxRecDepth 20000 in
theorem s_L_law_27 : Snd mL_law 27 (sq (opLdA 0) (sq (opLdI 3) (sq opIaldX (sq (opCi (63)) opiand)))) 33 := (snd_sq (snd_aload_n (k := 0) (by decide +kernel) rfl) (snd_sq (snd_iload_n (k := 3) (by decide +kernel) rfl) (snd_sq (snd_ialdX (by decide +kernel)) (snd_sq (snd_bipush (k := 63) (by decide) (by decide +kernel)) (snd_iand (by decide +kernel))))))
set_option maxRecDepth 20000 in
theorem hw_L_law_33 : decode (MI.bytes mL_law) 33 = .ok (.tableswitch 1327 0 39 #[175, 208, 251, 294, 327, 351, 394, 427, 460, 483, 516, 539, 572, 595, 618, 641, 674, 697, 720, 743, 766, 789, 832, 855, 868, 891, 914, 927, 960, 973, 996, 1010, 1053, 1096, 1129, 1162, 1225, 1268, 1291, 1304], 175) := by decide +kernel
set_option maxRecDepth 20000 in
theorem w_L_law_33 {d cap : Nat} {L : LT} {x : Int32} {st : List Value} {n : Nat} {R : RT} {I : IT} {J : JT} {Q : QT} (k0 : x = 0 → Ends mL_law d cap 208 L st n R I J Q) (k1 : x = 1 → Ends mL_law d cap 241 L st n R I J Q) (k2 : x = 2 → Ends mL_law d cap 284 L st n R I J Q) (k3 : x = 3 → Ends mL_law d cap 327 L st n R I J Q) (k4 : x = 4 → Ends mL_law d cap 360 L st n R I J Q) (k5 : x = 5 → Ends mL_law d cap 384 L st n R I J Q) (k6 : x = 6 → Ends mL_law d cap 427 L st n R I J Q) (k7 : x = 7 → Ends mL_law d cap 460 L st n R I J Q) (k8 : x = 8 → Ends mL_law d cap 493 L st n R I J Q) (k9 : x = 9 → Ends mL_law d cap 516 L st n R I J Q) (k10 : x = 10 → Ends mL_law d cap 549 L st n R I J Q) (k11 : x = 11 → Ends mL_law d cap 572 L st n R I J Q) (k12 : x = 12 → Ends mL_law d cap 605 L st n R I J Q) (k13 : x = 13 → Ends mL_law d cap 628 L st n R I J Q) (k14 : x = 14 → Ends mL_law d cap 651 L st n R I J Q) (k15 : x = 15 → Ends mL_law d cap 674 L st n R I J Q) (k16 : x = 16 → Ends mL_law d cap 707 L st n R I J Q) (k17 : x = 17 → Ends mL_law d cap 730 L st n R I J Q) (k18 : x = 18 → Ends mL_law d cap 753 L st n R I J Q) (k19 : x = 19 → Ends mL_law d cap 776 L st n R I J Q) (k20 : x = 20 → Ends mL_law d cap 799 L st n R I J Q) (k21 : x = 21 → Ends mL_law d cap 822 L st n R I J Q) (k22 : x = 22 → Ends mL_law d cap 865 L st n R I J Q) (k23 : x = 23 → Ends mL_law d cap 888 L st n R I J Q) (k24 : x = 24 → Ends mL_law d cap 901 L st n R I J Q) (k25 : x = 25 → Ends mL_law d cap 924 L st n R I J Q) (k26 : x = 26 → Ends mL_law d cap 947 L st n R I J Q) (k27 : x = 27 → Ends mL_law d cap 960 L st n R I J Q) (k28 : x = 28 → Ends mL_law d cap 993 L st n R I J Q) (k29 : x = 29 → Ends mL_law d cap 1006 L st n R I J Q) (k30 : x = 30 → Ends mL_law d cap 1029 L st n R I J Q) (k31 : x = 31 → Ends mL_law d cap 1043 L st n R I J Q) (k32 : x = 32 → Ends mL_law d cap 1086 L st n R I J Q) (k33 : x = 33 → Ends mL_law d cap 1129 L st n R I J Q) (k34 : x = 34 → Ends mL_law d cap 1162 L st n R I J Q) (k35 : x = 35 → Ends mL_law d cap 1195 L st n R I J Q) (k36 : x = 36 → Ends mL_law d cap 1258 L st n R I J Q) (k37 : x = 37 → Ends mL_law d cap 1301 L st n R I J Q) (k38 : x = 38 → Ends mL_law d cap 1324 L st n R I J Q) (k39 : x = 39 → Ends mL_law d cap 1337 L st n R I J Q) (kd : ¬ x = 0 → ¬ x = 1 → ¬ x = 2 → ¬ x = 3 → ¬ x = 4 → ¬ x = 5 → ¬ x = 6 → ¬ x = 7 → ¬ x = 8 → ¬ x = 9 → ¬ x = 10 → ¬ x = 11 → ¬ x = 12 → ¬ x = 13 → ¬ x = 14 → ¬ x = 15 → ¬ x = 16 → ¬ x = 17 → ¬ x = 18 → ¬ x = 19 → ¬ x = 20 → ¬ x = 21 → ¬ x = 22 → ¬ x = 23 → ¬ x = 24 → ¬ x = 25 → ¬ x = 26 → ¬ x = 27 → ¬ x = 28 → ¬ x = 29 → ¬ x = 30 → ¬ x = 31 → ¬ x = 32 → ¬ x = 33 → ¬ x = 34 → ¬ x = 35 → ¬ x = 36 → ¬ x = 37 → ¬ x = 38 → ¬ x = 39 → Ends mL_law d cap 1360 L st n R I J Q) : Ends mL_law d cap 33 L (.int x :: st) n R I J Q := by
  by_cases h0 : x.toInt < 0 ∨ 39 < x.toInt
  · exact sw_out hw_L_law_33 h0 (by decide) (kd (fun h => by subst h; revert h0; decide) (fun h => by subst h; revert h0; decide) (fun h => by subst h; revert h0; decide) (fun h => by subst h; revert h0; decide) (fun h => by subst h; revert h0; decide) (fun h => by subst h; revert h0; decide) (fun h => by subst h; revert h0; decide) (fun h => by subst h; revert h0; decide) (fun h => by subst h; revert h0; decide) (fun h => by subst h; revert h0; decide) (fun h => by subst h; revert h0; decide) (fun h => by subst h; revert h0; decide) (fun h => by subst h; revert h0; decide) (fun h => by subst h; revert h0; decide) (fun h => by subst h; revert h0; decide) (fun h => by subst h; revert h0; decide) (fun h => by subst h; revert h0; decide) (fun h => by subst h; revert h0; decide) (fun h => by subst h; revert h0; decide) (fun h => by subst h; revert h0; decide) (fun h => by subst h; revert h0; decide) (fun h => by subst h; revert h0; decide) (fun h => by subst h; revert h0; decide) (fun h => by subst h; revert h0; decide) (fun h => by subst h; revert h0; decide) (fun h => by subst h; revert h0; decide) (fun h => by subst h; revert h0; decide) (fun h => by subst h; revert h0; decide) (fun h => by subst h; revert h0; decide) (fun h => by subst h; revert h0; decide) (fun h => by subst h; revert h0; decide) (fun h => by subst h; revert h0; decide) (fun h => by subst h; revert h0; decide) (fun h => by subst h; revert h0; decide) (fun h => by subst h; revert h0; decide) (fun h => by subst h; revert h0; decide) (fun h => by subst h; revert h0; decide) (fun h => by subst h; revert h0; decide) (fun h => by subst h; revert h0; decide) (fun h => by subst h; revert h0; decide))
  · have h1 : x.toInt = 0 ∨ x.toInt = 1 ∨ x.toInt = 2 ∨ x.toInt = 3 ∨ x.toInt = 4 ∨ x.toInt = 5 ∨ x.toInt = 6 ∨ x.toInt = 7 ∨ x.toInt = 8 ∨ x.toInt = 9 ∨ x.toInt = 10 ∨ x.toInt = 11 ∨ x.toInt = 12 ∨ x.toInt = 13 ∨ x.toInt = 14 ∨ x.toInt = 15 ∨ x.toInt = 16 ∨ x.toInt = 17 ∨ x.toInt = 18 ∨ x.toInt = 19 ∨ x.toInt = 20 ∨ x.toInt = 21 ∨ x.toInt = 22 ∨ x.toInt = 23 ∨ x.toInt = 24 ∨ x.toInt = 25 ∨ x.toInt = 26 ∨ x.toInt = 27 ∨ x.toInt = 28 ∨ x.toInt = 29 ∨ x.toInt = 30 ∨ x.toInt = 31 ∨ x.toInt = 32 ∨ x.toInt = 33 ∨ x.toInt = 34 ∨ x.toInt = 35 ∨ x.toInt = 36 ∨ x.toInt = 37 ∨ x.toInt = 38 ∨ x.toInt = 39 := by omega
    rcases h1 with h1 | h1 | h1 | h1 | h1 | h1 | h1 | h1 | h1 | h1 | h1 | h1 | h1 | h1 | h1 | h1 | h1 | h1 | h1 | h1 | h1 | h1 | h1 | h1 | h1 | h1 | h1 | h1 | h1 | h1 | h1 | h1 | h1 | h1 | h1 | h1 | h1 | h1 | h1 | h1
    · have h2 : x = 0 := i32_of h1 (by decide)
      subst h2
      exact sw_in (off := 175) hw_L_law_33 (by decide) (by decide) (by decide +kernel) (by decide) (k0 rfl)
    · have h2 : x = 1 := i32_of h1 (by decide)
      subst h2
      exact sw_in (off := 208) hw_L_law_33 (by decide) (by decide) (by decide +kernel) (by decide) (k1 rfl)
    · have h2 : x = 2 := i32_of h1 (by decide)
      subst h2
      exact sw_in (off := 251) hw_L_law_33 (by decide) (by decide) (by decide +kernel) (by decide) (k2 rfl)
    · have h2 : x = 3 := i32_of h1 (by decide)
      subst h2
      exact sw_in (off := 294) hw_L_law_33 (by decide) (by decide) (by decide +kernel) (by decide) (k3 rfl)
    · have h2 : x = 4 := i32_of h1 (by decide)
      subst h2
      exact sw_in (off := 327) hw_L_law_33 (by decide) (by decide) (by decide +kernel) (by decide) (k4 rfl)
    · have h2 : x = 5 := i32_of h1 (by decide)
      subst h2
      exact sw_in (off := 351) hw_L_law_33 (by decide) (by decide) (by decide +kernel) (by decide) (k5 rfl)
    · have h2 : x = 6 := i32_of h1 (by decide)
      subst h2
      exact sw_in (off := 394) hw_L_law_33 (by decide) (by decide) (by decide +kernel) (by decide) (k6 rfl)
    · have h2 : x = 7 := i32_of h1 (by decide)
      subst h2
      exact sw_in (off := 427) hw_L_law_33 (by decide) (by decide) (by decide +kernel) (by decide) (k7 rfl)
    · have h2 : x = 8 := i32_of h1 (by decide)
      subst h2
      exact sw_in (off := 460) hw_L_law_33 (by decide) (by decide) (by decide +kernel) (by decide) (k8 rfl)
    · have h2 : x = 9 := i32_of h1 (by decide)
      subst h2
      exact sw_in (off := 483) hw_L_law_33 (by decide) (by decide) (by decide +kernel) (by decide) (k9 rfl)
    · have h2 : x = 10 := i32_of h1 (by decide)
      subst h2
      exact sw_in (off := 516) hw_L_law_33 (by decide) (by decide) (by decide +kernel) (by decide) (k10 rfl)
    · have h2 : x = 11 := i32_of h1 (by decide)
      subst h2
      exact sw_in (off := 539) hw_L_law_33 (by decide) (by decide) (by decide +kernel) (by decide) (k11 rfl)
    · have h2 : x = 12 := i32_of h1 (by decide)
      subst h2
      exact sw_in (off := 572) hw_L_law_33 (by decide) (by decide) (by decide +kernel) (by decide) (k12 rfl)
    · have h2 : x = 13 := i32_of h1 (by decide)
      subst h2
      exact sw_in (off := 595) hw_L_law_33 (by decide) (by decide) (by decide +kernel) (by decide) (k13 rfl)
    · have h2 : x = 14 := i32_of h1 (by decide)
      subst h2
      exact sw_in (off := 618) hw_L_law_33 (by decide) (by decide) (by decide +kernel) (by decide) (k14 rfl)
    · have h2 : x = 15 := i32_of h1 (by decide)
      subst h2
      exact sw_in (off := 641) hw_L_law_33 (by decide) (by decide) (by decide +kernel) (by decide) (k15 rfl)
    · have h2 : x = 16 := i32_of h1 (by decide)
      subst h2
      exact sw_in (off := 674) hw_L_law_33 (by decide) (by decide) (by decide +kernel) (by decide) (k16 rfl)
    · have h2 : x = 17 := i32_of h1 (by decide)
      subst h2
      exact sw_in (off := 697) hw_L_law_33 (by decide) (by decide) (by decide +kernel) (by decide) (k17 rfl)
    · have h2 : x = 18 := i32_of h1 (by decide)
      subst h2
      exact sw_in (off := 720) hw_L_law_33 (by decide) (by decide) (by decide +kernel) (by decide) (k18 rfl)
    · have h2 : x = 19 := i32_of h1 (by decide)
      subst h2
      exact sw_in (off := 743) hw_L_law_33 (by decide) (by decide) (by decide +kernel) (by decide) (k19 rfl)
    · have h2 : x = 20 := i32_of h1 (by decide)
      subst h2
      exact sw_in (off := 766) hw_L_law_33 (by decide) (by decide) (by decide +kernel) (by decide) (k20 rfl)
    · have h2 : x = 21 := i32_of h1 (by decide)
      subst h2
      exact sw_in (off := 789) hw_L_law_33 (by decide) (by decide) (by decide +kernel) (by decide) (k21 rfl)
    · have h2 : x = 22 := i32_of h1 (by decide)
      subst h2
      exact sw_in (off := 832) hw_L_law_33 (by decide) (by decide) (by decide +kernel) (by decide) (k22 rfl)
    · have h2 : x = 23 := i32_of h1 (by decide)
      subst h2
      exact sw_in (off := 855) hw_L_law_33 (by decide) (by decide) (by decide +kernel) (by decide) (k23 rfl)
    · have h2 : x = 24 := i32_of h1 (by decide)
      subst h2
      exact sw_in (off := 868) hw_L_law_33 (by decide) (by decide) (by decide +kernel) (by decide) (k24 rfl)
    · have h2 : x = 25 := i32_of h1 (by decide)
      subst h2
      exact sw_in (off := 891) hw_L_law_33 (by decide) (by decide) (by decide +kernel) (by decide) (k25 rfl)
    · have h2 : x = 26 := i32_of h1 (by decide)
      subst h2
      exact sw_in (off := 914) hw_L_law_33 (by decide) (by decide) (by decide +kernel) (by decide) (k26 rfl)
    · have h2 : x = 27 := i32_of h1 (by decide)
      subst h2
      exact sw_in (off := 927) hw_L_law_33 (by decide) (by decide) (by decide +kernel) (by decide) (k27 rfl)
    · have h2 : x = 28 := i32_of h1 (by decide)
      subst h2
      exact sw_in (off := 960) hw_L_law_33 (by decide) (by decide) (by decide +kernel) (by decide) (k28 rfl)
    · have h2 : x = 29 := i32_of h1 (by decide)
      subst h2
      exact sw_in (off := 973) hw_L_law_33 (by decide) (by decide) (by decide +kernel) (by decide) (k29 rfl)
    · have h2 : x = 30 := i32_of h1 (by decide)
      subst h2
      exact sw_in (off := 996) hw_L_law_33 (by decide) (by decide) (by decide +kernel) (by decide) (k30 rfl)
    · have h2 : x = 31 := i32_of h1 (by decide)
      subst h2
      exact sw_in (off := 1010) hw_L_law_33 (by decide) (by decide) (by decide +kernel) (by decide) (k31 rfl)
    · have h2 : x = 32 := i32_of h1 (by decide)
      subst h2
      exact sw_in (off := 1053) hw_L_law_33 (by decide) (by decide) (by decide +kernel) (by decide) (k32 rfl)
    · have h2 : x = 33 := i32_of h1 (by decide)
      subst h2
      exact sw_in (off := 1096) hw_L_law_33 (by decide) (by decide) (by decide +kernel) (by decide) (k33 rfl)
    · have h2 : x = 34 := i32_of h1 (by decide)
      subst h2
      exact sw_in (off := 1129) hw_L_law_33 (by decide) (by decide) (by decide +kernel) (by decide) (k34 rfl)
    · have h2 : x = 35 := i32_of h1 (by decide)
      subst h2
      exact sw_in (off := 1162) hw_L_law_33 (by decide) (by decide) (by decide +kernel) (by decide) (k35 rfl)
    · have h2 : x = 36 := i32_of h1 (by decide)
      subst h2
      exact sw_in (off := 1225) hw_L_law_33 (by decide) (by decide) (by decide +kernel) (by decide) (k36 rfl)
    · have h2 : x = 37 := i32_of h1 (by decide)
      subst h2
      exact sw_in (off := 1268) hw_L_law_33 (by decide) (by decide) (by decide +kernel) (by decide) (k37 rfl)
    · have h2 : x = 38 := i32_of h1 (by decide)
      subst h2
      exact sw_in (off := 1291) hw_L_law_33 (by decide) (by decide) (by decide +kernel) (by decide) (k38 rfl)
    · have h2 : x = 39 := i32_of h1 (by decide)
      subst h2
      exact sw_in (off := 1304) hw_L_law_33 (by decide) (by decide) (by decide +kernel) (by decide) (k39 rfl)
set_option maxRecDepth 20000 in
theorem s_L_law_208 : Snd mL_law 208 (sq (opLdA 1) (sq (opLdA 0) (sq (opLdI 3) (sq (opCi (1)) (sq opiadd (sq opIaldX (sq (opLdA 0) (sq (opLdI 3) (sq (opCi (2)) (sq opiadd opIaldX)))))))))) 219 := (snd_sq (snd_aload_n (k := 1) (by decide +kernel) rfl) (snd_sq (snd_aload_n (k := 0) (by decide +kernel) rfl) (snd_sq (snd_iload_n (k := 3) (by decide +kernel) rfl) (snd_sq (snd_iconst (k := 1) (by decide) (by decide +kernel)) (snd_sq (snd_iadd (by decide +kernel)) (snd_sq (snd_ialdX (by decide +kernel)) (snd_sq (snd_aload_n (k := 0) (by decide +kernel) rfl) (snd_sq (snd_iload_n (k := 3) (by decide +kernel) rfl) (snd_sq (snd_iconst (k := 2) (by decide) (by decide +kernel)) (snd_sq (snd_iadd (by decide +kernel)) (snd_ialdX (by decide +kernel))))))))))))
set_option maxRecDepth 20000 in
theorem c_L_law_219 : CallV mL_law 219 mX6_leaf 6 3 := kallV (site_V rfl w382 (by decide +kernel) w379 w380 w381 w90 ⟨by decide, by decide, by decide +kernel⟩) (by decide) (by decide) (by unfold clsNo; rfl)
set_option maxRecDepth 20000 in
theorem s_L_law_222 : Snd mL_law 222 (sq (opLdA 2) (sq (opLdA 0) (sq (opLdI 3) (sq (opCi (1)) (sq opiadd (sq opIaldX (sq (opLdA 0) (sq (opLdI 3) (sq (opCi (2)) (sq opiadd opIaldX)))))))))) 233 := (snd_sq (snd_aload_n (k := 2) (by decide +kernel) rfl) (snd_sq (snd_aload_n (k := 0) (by decide +kernel) rfl) (snd_sq (snd_iload_n (k := 3) (by decide +kernel) rfl) (snd_sq (snd_iconst (k := 1) (by decide) (by decide +kernel)) (snd_sq (snd_iadd (by decide +kernel)) (snd_sq (snd_ialdX (by decide +kernel)) (snd_sq (snd_aload_n (k := 0) (by decide +kernel) rfl) (snd_sq (snd_iload_n (k := 3) (by decide +kernel) rfl) (snd_sq (snd_iconst (k := 2) (by decide) (by decide +kernel)) (snd_sq (snd_iadd (by decide +kernel)) (snd_ialdX (by decide +kernel))))))))))))
set_option maxRecDepth 20000 in
theorem c_L_law_233 : CallV mL_law 233 mX7_leaf 7 3 := kallV (site_V rfl w900 (by decide +kernel) w897 w898 w899 w97 ⟨by decide, by decide, by decide +kernel⟩) (by decide) (by decide) (by unfold clsNo; rfl)
set_option maxRecDepth 20000 in
theorem b_L_law_236 : Br_ic_eq mL_law 236 1360 := br_ic_eq (off := 1124) (by decide +kernel) (by decide)
set_option maxRecDepth 20000 in
theorem s_L_law_239 : Snd mL_law 239 (opCi (0)) 240 := (snd_iconst (k := 0) (by decide) (by decide +kernel))
set_option maxRecDepth 20000 in
theorem r_L_law_240 : RtZ mL_law 240 := rt_Z (by decide +kernel) rfl
set_option maxRecDepth 20000 in
theorem s_L_law_241 : Snd mL_law 241 (sq (opLdA 1) (sq (opLdA 0) (sq (opLdI 3) (sq (opCi (1)) (sq opiadd (sq opIaldX (sq (opLdA 0) (sq (opLdI 3) (sq (opCi (2)) (sq opiadd (sq opIaldX (sq (opLdA 0) (sq (opLdI 3) (sq (opCi (3)) (sq opiadd opIaldX))))))))))))))) 257 := (snd_sq (snd_aload_n (k := 1) (by decide +kernel) rfl) (snd_sq (snd_aload_n (k := 0) (by decide +kernel) rfl) (snd_sq (snd_iload_n (k := 3) (by decide +kernel) rfl) (snd_sq (snd_iconst (k := 1) (by decide) (by decide +kernel)) (snd_sq (snd_iadd (by decide +kernel)) (snd_sq (snd_ialdX (by decide +kernel)) (snd_sq (snd_aload_n (k := 0) (by decide +kernel) rfl) (snd_sq (snd_iload_n (k := 3) (by decide +kernel) rfl) (snd_sq (snd_iconst (k := 2) (by decide) (by decide +kernel)) (snd_sq (snd_iadd (by decide +kernel)) (snd_sq (snd_ialdX (by decide +kernel)) (snd_sq (snd_aload_n (k := 0) (by decide +kernel) rfl) (snd_sq (snd_iload_n (k := 3) (by decide +kernel) rfl) (snd_sq (snd_iconst (k := 3) (by decide) (by decide +kernel)) (snd_sq (snd_iadd (by decide +kernel)) (snd_ialdX (by decide +kernel)))))))))))))))))
set_option maxRecDepth 20000 in
theorem c_L_law_257 : CallV mL_law 257 mX6_gate 6 4 := kallV (site_V rfl w428 (by decide +kernel) w425 w426 w427 w90 ⟨by decide, by decide, by decide +kernel⟩) (by decide) (by decide) (by unfold clsNo; rfl)
set_option maxRecDepth 20000 in
theorem s_L_law_260 : Snd mL_law 260 (sq (opLdA 2) (sq (opLdA 0) (sq (opLdI 3) (sq (opCi (1)) (sq opiadd (sq opIaldX (sq (opLdA 0) (sq (opLdI 3) (sq (opCi (2)) (sq opiadd (sq opIaldX (sq (opLdA 0) (sq (opLdI 3) (sq (opCi (3)) (sq opiadd opIaldX))))))))))))))) 276 := (snd_sq (snd_aload_n (k := 2) (by decide +kernel) rfl) (snd_sq (snd_aload_n (k := 0) (by decide +kernel) rfl) (snd_sq (snd_iload_n (k := 3) (by decide +kernel) rfl) (snd_sq (snd_iconst (k := 1) (by decide) (by decide +kernel)) (snd_sq (snd_iadd (by decide +kernel)) (snd_sq (snd_ialdX (by decide +kernel)) (snd_sq (snd_aload_n (k := 0) (by decide +kernel) rfl) (snd_sq (snd_iload_n (k := 3) (by decide +kernel) rfl) (snd_sq (snd_iconst (k := 2) (by decide) (by decide +kernel)) (snd_sq (snd_iadd (by decide +kernel)) (snd_sq (snd_ialdX (by decide +kernel)) (snd_sq (snd_aload_n (k := 0) (by decide +kernel) rfl) (snd_sq (snd_iload_n (k := 3) (by decide +kernel) rfl) (snd_sq (snd_iconst (k := 3) (by decide) (by decide +kernel)) (snd_sq (snd_iadd (by decide +kernel)) (snd_ialdX (by decide +kernel)))))))))))))))))
set_option maxRecDepth 20000 in
theorem c_L_law_276 : CallV mL_law 276 mX7_gate 7 4 := kallV (site_V rfl w930 (by decide +kernel) w927 w928 w929 w97 ⟨by decide, by decide, by decide +kernel⟩) (by decide) (by decide) (by unfold clsNo; rfl)
set_option maxRecDepth 20000 in
theorem b_L_law_279 : Br_ic_eq mL_law 279 1360 := br_ic_eq (off := 1081) (by decide +kernel) (by decide)
set_option maxRecDepth 20000 in
theorem s_L_law_282 : Snd mL_law 282 (opCi (0)) 283 := (snd_iconst (k := 0) (by decide) (by decide +kernel))
set_option maxRecDepth 20000 in
theorem r_L_law_283 : RtZ mL_law 283 := rt_Z (by decide +kernel) rfl
set_option maxRecDepth 20000 in
theorem s_L_law_284 : Snd mL_law 284 (sq (opLdA 1) (sq (opLdA 0) (sq (opLdI 3) (sq (opCi (1)) (sq opiadd (sq opIaldX (sq (opLdA 0) (sq (opLdI 3) (sq (opCi (2)) (sq opiadd (sq opIaldX (sq (opLdA 0) (sq (opLdI 3) (sq (opCi (3)) (sq opiadd opIaldX))))))))))))))) 300 := (snd_sq (snd_aload_n (k := 1) (by decide +kernel) rfl) (snd_sq (snd_aload_n (k := 0) (by decide +kernel) rfl) (snd_sq (snd_iload_n (k := 3) (by decide +kernel) rfl) (snd_sq (snd_iconst (k := 1) (by decide) (by decide +kernel)) (snd_sq (snd_iadd (by decide +kernel)) (snd_sq (snd_ialdX (by decide +kernel)) (snd_sq (snd_aload_n (k := 0) (by decide +kernel) rfl) (snd_sq (snd_iload_n (k := 3) (by decide +kernel) rfl) (snd_sq (snd_iconst (k := 2) (by decide) (by decide +kernel)) (snd_sq (snd_iadd (by decide +kernel)) (snd_sq (snd_ialdX (by decide +kernel)) (snd_sq (snd_aload_n (k := 0) (by decide +kernel) rfl) (snd_sq (snd_iload_n (k := 3) (by decide +kernel) rfl) (snd_sq (snd_iconst (k := 3) (by decide) (by decide +kernel)) (snd_sq (snd_iadd (by decide +kernel)) (snd_ialdX (by decide +kernel)))))))))))))))))
set_option maxRecDepth 20000 in
theorem c_L_law_300 : CallV mL_law 300 mX6_choice 6 4 := kallV (site_V rfl w433 (by decide +kernel) w430 w431 w432 w90 ⟨by decide, by decide, by decide +kernel⟩) (by decide) (by decide) (by unfold clsNo; rfl)
set_option maxRecDepth 20000 in
theorem s_L_law_303 : Snd mL_law 303 (sq (opLdA 2) (sq (opLdA 0) (sq (opLdI 3) (sq (opCi (1)) (sq opiadd (sq opIaldX (sq (opLdA 0) (sq (opLdI 3) (sq (opCi (2)) (sq opiadd (sq opIaldX (sq (opLdA 0) (sq (opLdI 3) (sq (opCi (3)) (sq opiadd opIaldX))))))))))))))) 319 := (snd_sq (snd_aload_n (k := 2) (by decide +kernel) rfl) (snd_sq (snd_aload_n (k := 0) (by decide +kernel) rfl) (snd_sq (snd_iload_n (k := 3) (by decide +kernel) rfl) (snd_sq (snd_iconst (k := 1) (by decide) (by decide +kernel)) (snd_sq (snd_iadd (by decide +kernel)) (snd_sq (snd_ialdX (by decide +kernel)) (snd_sq (snd_aload_n (k := 0) (by decide +kernel) rfl) (snd_sq (snd_iload_n (k := 3) (by decide +kernel) rfl) (snd_sq (snd_iconst (k := 2) (by decide) (by decide +kernel)) (snd_sq (snd_iadd (by decide +kernel)) (snd_sq (snd_ialdX (by decide +kernel)) (snd_sq (snd_aload_n (k := 0) (by decide +kernel) rfl) (snd_sq (snd_iload_n (k := 3) (by decide +kernel) rfl) (snd_sq (snd_iconst (k := 3) (by decide) (by decide +kernel)) (snd_sq (snd_iadd (by decide +kernel)) (snd_ialdX (by decide +kernel)))))))))))))))))
set_option maxRecDepth 20000 in
theorem c_L_law_319 : CallV mL_law 319 mX7_choice 7 4 := kallV (site_V rfl w938 (by decide +kernel) w935 w936 w937 w97 ⟨by decide, by decide, by decide +kernel⟩) (by decide) (by decide) (by unfold clsNo; rfl)
set_option maxRecDepth 20000 in
theorem b_L_law_322 : Br_ic_eq mL_law 322 1360 := br_ic_eq (off := 1038) (by decide +kernel) (by decide)
set_option maxRecDepth 20000 in
theorem s_L_law_325 : Snd mL_law 325 (opCi (0)) 326 := (snd_iconst (k := 0) (by decide) (by decide +kernel))
set_option maxRecDepth 20000 in
theorem r_L_law_326 : RtZ mL_law 326 := rt_Z (by decide +kernel) rfl
set_option maxRecDepth 20000 in
theorem s_L_law_327 : Snd mL_law 327 (sq (opLdA 1) (sq (opLdA 0) (sq (opLdI 3) (sq (opCi (1)) (sq opiadd (sq opIaldX (sq (opLdA 0) (sq (opLdI 3) (sq (opCi (2)) (sq opiadd opIaldX)))))))))) 338 := (snd_sq (snd_aload_n (k := 1) (by decide +kernel) rfl) (snd_sq (snd_aload_n (k := 0) (by decide +kernel) rfl) (snd_sq (snd_iload_n (k := 3) (by decide +kernel) rfl) (snd_sq (snd_iconst (k := 1) (by decide) (by decide +kernel)) (snd_sq (snd_iadd (by decide +kernel)) (snd_sq (snd_ialdX (by decide +kernel)) (snd_sq (snd_aload_n (k := 0) (by decide +kernel) rfl) (snd_sq (snd_iload_n (k := 3) (by decide +kernel) rfl) (snd_sq (snd_iconst (k := 2) (by decide) (by decide +kernel)) (snd_sq (snd_iadd (by decide +kernel)) (snd_ialdX (by decide +kernel))))))))))))
set_option maxRecDepth 20000 in
theorem c_L_law_338 : CallV mL_law 338 mX6_ofTerm 6 3 := kallV (site_V rfl w437 (by decide +kernel) w434 w435 w436 w90 ⟨by decide, by decide, by decide +kernel⟩) (by decide) (by decide) (by unfold clsNo; rfl)
set_option maxRecDepth 20000 in
theorem s_L_law_341 : Snd mL_law 341 (sq (opLdA 2) (sq (opLdA 0) (sq (opLdI 3) (sq (opCi (1)) (sq opiadd (sq opIaldX (sq (opLdA 0) (sq (opLdI 3) (sq (opCi (2)) (sq opiadd opIaldX)))))))))) 352 := (snd_sq (snd_aload_n (k := 2) (by decide +kernel) rfl) (snd_sq (snd_aload_n (k := 0) (by decide +kernel) rfl) (snd_sq (snd_iload_n (k := 3) (by decide +kernel) rfl) (snd_sq (snd_iconst (k := 1) (by decide) (by decide +kernel)) (snd_sq (snd_iadd (by decide +kernel)) (snd_sq (snd_ialdX (by decide +kernel)) (snd_sq (snd_aload_n (k := 0) (by decide +kernel) rfl) (snd_sq (snd_iload_n (k := 3) (by decide +kernel) rfl) (snd_sq (snd_iconst (k := 2) (by decide) (by decide +kernel)) (snd_sq (snd_iadd (by decide +kernel)) (snd_ialdX (by decide +kernel))))))))))))
set_option maxRecDepth 20000 in
theorem c_L_law_352 : CallV mL_law 352 mX7_ofTerm 7 3 := kallV (site_V rfl w942 (by decide +kernel) w939 w940 w941 w97 ⟨by decide, by decide, by decide +kernel⟩) (by decide) (by decide) (by unfold clsNo; rfl)
set_option maxRecDepth 20000 in
theorem b_L_law_355 : Br_ic_eq mL_law 355 1360 := br_ic_eq (off := 1005) (by decide +kernel) (by decide)
set_option maxRecDepth 20000 in
theorem s_L_law_358 : Snd mL_law 358 (opCi (0)) 359 := (snd_iconst (k := 0) (by decide) (by decide +kernel))
set_option maxRecDepth 20000 in
theorem r_L_law_359 : RtZ mL_law 359 := rt_Z (by decide +kernel) rfl
set_option maxRecDepth 20000 in
theorem s_L_law_360 : Snd mL_law 360 (sq (opLdA 1) (sq (opLdA 0) (sq (opLdI 3) (sq (opCi (1)) (sq opiadd opIaldX))))) 366 := (snd_sq (snd_aload_n (k := 1) (by decide +kernel) rfl) (snd_sq (snd_aload_n (k := 0) (by decide +kernel) rfl) (snd_sq (snd_iload_n (k := 3) (by decide +kernel) rfl) (snd_sq (snd_iconst (k := 1) (by decide) (by decide +kernel)) (snd_sq (snd_iadd (by decide +kernel)) (snd_ialdX (by decide +kernel)))))))
set_option maxRecDepth 20000 in
theorem c_L_law_366 : CallV mL_law 366 mX6_leaves 6 2 := kallV (site_V rfl w441 (by decide +kernel) w438 w439 w440 w90 ⟨by decide, by decide, by decide +kernel⟩) (by decide) (by decide) (by unfold clsNo; rfl)
set_option maxRecDepth 20000 in
theorem s_L_law_369 : Snd mL_law 369 (sq (opLdA 2) (sq (opLdA 0) (sq (opLdI 3) (sq (opCi (1)) (sq opiadd opIaldX))))) 375 := (snd_sq (snd_aload_n (k := 2) (by decide +kernel) rfl) (snd_sq (snd_aload_n (k := 0) (by decide +kernel) rfl) (snd_sq (snd_iload_n (k := 3) (by decide +kernel) rfl) (snd_sq (snd_iconst (k := 1) (by decide) (by decide +kernel)) (snd_sq (snd_iadd (by decide +kernel)) (snd_ialdX (by decide +kernel)))))))
set_option maxRecDepth 20000 in
theorem c_L_law_375 : CallV mL_law 375 mX7_leaves 7 2 := kallV (site_V rfl w946 (by decide +kernel) w943 w944 w945 w97 ⟨by decide, by decide, by decide +kernel⟩) (by decide) (by decide) (by unfold clsNo; rfl)
set_option maxRecDepth 20000 in
theorem s_L_law_378 : Snd mL_law 378 oplcmp 379 := (snd_lcmp (by decide +kernel))
set_option maxRecDepth 20000 in
theorem b_L_law_379 : Br_if_eq mL_law 379 1360 := br_if_eq (off := 981) (by decide +kernel) (by decide)
set_option maxRecDepth 20000 in
theorem s_L_law_382 : Snd mL_law 382 (opCi (0)) 383 := (snd_iconst (k := 0) (by decide) (by decide +kernel))
set_option maxRecDepth 20000 in
theorem r_L_law_383 : RtZ mL_law 383 := rt_Z (by decide +kernel) rfl
set_option maxRecDepth 20000 in
theorem s_L_law_384 : Snd mL_law 384 (sq (opLdA 1) (sq (opLdA 0) (sq (opLdI 3) (sq (opCi (1)) (sq opiadd (sq opIaldX (sq (opLdA 0) (sq (opLdI 3) (sq (opCi (2)) (sq opiadd (sq opIaldX (sq (opLdA 0) (sq (opLdI 3) (sq (opCi (3)) (sq opiadd opIaldX))))))))))))))) 400 := (snd_sq (snd_aload_n (k := 1) (by decide +kernel) rfl) (snd_sq (snd_aload_n (k := 0) (by decide +kernel) rfl) (snd_sq (snd_iload_n (k := 3) (by decide +kernel) rfl) (snd_sq (snd_iconst (k := 1) (by decide) (by decide +kernel)) (snd_sq (snd_iadd (by decide +kernel)) (snd_sq (snd_ialdX (by decide +kernel)) (snd_sq (snd_aload_n (k := 0) (by decide +kernel) rfl) (snd_sq (snd_iload_n (k := 3) (by decide +kernel) rfl) (snd_sq (snd_iconst (k := 2) (by decide) (by decide +kernel)) (snd_sq (snd_iadd (by decide +kernel)) (snd_sq (snd_ialdX (by decide +kernel)) (snd_sq (snd_aload_n (k := 0) (by decide +kernel) rfl) (snd_sq (snd_iload_n (k := 3) (by decide +kernel) rfl) (snd_sq (snd_iconst (k := 3) (by decide) (by decide +kernel)) (snd_sq (snd_iadd (by decide +kernel)) (snd_ialdX (by decide +kernel)))))))))))))))))
set_option maxRecDepth 20000 in
theorem c_L_law_400 : CallV mL_law 400 mX6_value 6 4 := kallV (site_V rfl w446 (by decide +kernel) w443 w444 w445 w90 ⟨by decide, by decide, by decide +kernel⟩) (by decide) (by decide) (by unfold clsNo; rfl)
set_option maxRecDepth 20000 in
theorem s_L_law_403 : Snd mL_law 403 (sq (opLdA 2) (sq (opLdA 0) (sq (opLdI 3) (sq (opCi (1)) (sq opiadd (sq opIaldX (sq (opLdA 0) (sq (opLdI 3) (sq (opCi (2)) (sq opiadd (sq opIaldX (sq (opLdA 0) (sq (opLdI 3) (sq (opCi (3)) (sq opiadd opIaldX))))))))))))))) 419 := (snd_sq (snd_aload_n (k := 2) (by decide +kernel) rfl) (snd_sq (snd_aload_n (k := 0) (by decide +kernel) rfl) (snd_sq (snd_iload_n (k := 3) (by decide +kernel) rfl) (snd_sq (snd_iconst (k := 1) (by decide) (by decide +kernel)) (snd_sq (snd_iadd (by decide +kernel)) (snd_sq (snd_ialdX (by decide +kernel)) (snd_sq (snd_aload_n (k := 0) (by decide +kernel) rfl) (snd_sq (snd_iload_n (k := 3) (by decide +kernel) rfl) (snd_sq (snd_iconst (k := 2) (by decide) (by decide +kernel)) (snd_sq (snd_iadd (by decide +kernel)) (snd_sq (snd_ialdX (by decide +kernel)) (snd_sq (snd_aload_n (k := 0) (by decide +kernel) rfl) (snd_sq (snd_iload_n (k := 3) (by decide +kernel) rfl) (snd_sq (snd_iconst (k := 3) (by decide) (by decide +kernel)) (snd_sq (snd_iadd (by decide +kernel)) (snd_ialdX (by decide +kernel)))))))))))))))))
set_option maxRecDepth 20000 in
theorem c_L_law_419 : CallV mL_law 419 mX7_value 7 4 := kallV (site_V rfl w951 (by decide +kernel) w948 w949 w950 w97 ⟨by decide, by decide, by decide +kernel⟩) (by decide) (by decide) (by unfold clsNo; rfl)
set_option maxRecDepth 20000 in
theorem b_L_law_422 : Br_ic_eq mL_law 422 1360 := br_ic_eq (off := 938) (by decide +kernel) (by decide)
set_option maxRecDepth 20000 in
theorem s_L_law_425 : Snd mL_law 425 (opCi (0)) 426 := (snd_iconst (k := 0) (by decide) (by decide +kernel))
set_option maxRecDepth 20000 in
theorem r_L_law_426 : RtZ mL_law 426 := rt_Z (by decide +kernel) rfl
set_option maxRecDepth 20000 in
theorem s_L_law_427 : Snd mL_law 427 (sq (opLdA 1) (sq (opLdA 0) (sq (opLdI 3) (sq (opCi (1)) (sq opiadd (sq opIaldX (sq (opLdA 0) (sq (opLdI 3) (sq (opCi (2)) (sq opiadd opIaldX)))))))))) 438 := (snd_sq (snd_aload_n (k := 1) (by decide +kernel) rfl) (snd_sq (snd_aload_n (k := 0) (by decide +kernel) rfl) (snd_sq (snd_iload_n (k := 3) (by decide +kernel) rfl) (snd_sq (snd_iconst (k := 1) (by decide) (by decide +kernel)) (snd_sq (snd_iadd (by decide +kernel)) (snd_sq (snd_ialdX (by decide +kernel)) (snd_sq (snd_aload_n (k := 0) (by decide +kernel) rfl) (snd_sq (snd_iload_n (k := 3) (by decide +kernel) rfl) (snd_sq (snd_iconst (k := 2) (by decide) (by decide +kernel)) (snd_sq (snd_iadd (by decide +kernel)) (snd_ialdX (by decide +kernel))))))))))))
set_option maxRecDepth 20000 in
theorem c_L_law_438 : CallV mL_law 438 mX6_holds 6 3 := kallV (site_V rfl w461 (by decide +kernel) w458 w459 w460 w90 ⟨by decide, by decide, by decide +kernel⟩) (by decide) (by decide) (by unfold clsNo; rfl)
set_option maxRecDepth 20000 in
theorem s_L_law_441 : Snd mL_law 441 (sq (opLdA 2) (sq (opLdA 0) (sq (opLdI 3) (sq (opCi (1)) (sq opiadd (sq opIaldX (sq (opLdA 0) (sq (opLdI 3) (sq (opCi (2)) (sq opiadd opIaldX)))))))))) 452 := (snd_sq (snd_aload_n (k := 2) (by decide +kernel) rfl) (snd_sq (snd_aload_n (k := 0) (by decide +kernel) rfl) (snd_sq (snd_iload_n (k := 3) (by decide +kernel) rfl) (snd_sq (snd_iconst (k := 1) (by decide) (by decide +kernel)) (snd_sq (snd_iadd (by decide +kernel)) (snd_sq (snd_ialdX (by decide +kernel)) (snd_sq (snd_aload_n (k := 0) (by decide +kernel) rfl) (snd_sq (snd_iload_n (k := 3) (by decide +kernel) rfl) (snd_sq (snd_iconst (k := 2) (by decide) (by decide +kernel)) (snd_sq (snd_iadd (by decide +kernel)) (snd_ialdX (by decide +kernel))))))))))))
set_option maxRecDepth 20000 in
theorem c_L_law_452 : CallV mL_law 452 mX7_holds 7 3 := kallV (site_V rfl w961 (by decide +kernel) w958 w959 w960 w97 ⟨by decide, by decide, by decide +kernel⟩) (by decide) (by decide) (by unfold clsNo; rfl)
set_option maxRecDepth 20000 in
theorem b_L_law_455 : Br_ic_eq mL_law 455 1360 := br_ic_eq (off := 905) (by decide +kernel) (by decide)
set_option maxRecDepth 20000 in
theorem s_L_law_458 : Snd mL_law 458 (opCi (0)) 459 := (snd_iconst (k := 0) (by decide) (by decide +kernel))
set_option maxRecDepth 20000 in
theorem r_L_law_459 : RtZ mL_law 459 := rt_Z (by decide +kernel) rfl
set_option maxRecDepth 20000 in
theorem s_L_law_460 : Snd mL_law 460 (sq (opLdA 1) (sq (opLdA 0) (sq (opLdI 3) (sq (opCi (1)) (sq opiadd (sq opIaldX (sq (opLdA 0) (sq (opLdI 3) (sq (opCi (2)) (sq opiadd opIaldX)))))))))) 471 := (snd_sq (snd_aload_n (k := 1) (by decide +kernel) rfl) (snd_sq (snd_aload_n (k := 0) (by decide +kernel) rfl) (snd_sq (snd_iload_n (k := 3) (by decide +kernel) rfl) (snd_sq (snd_iconst (k := 1) (by decide) (by decide +kernel)) (snd_sq (snd_iadd (by decide +kernel)) (snd_sq (snd_ialdX (by decide +kernel)) (snd_sq (snd_aload_n (k := 0) (by decide +kernel) rfl) (snd_sq (snd_iload_n (k := 3) (by decide +kernel) rfl) (snd_sq (snd_iconst (k := 2) (by decide) (by decide +kernel)) (snd_sq (snd_iadd (by decide +kernel)) (snd_ialdX (by decide +kernel))))))))))))
set_option maxRecDepth 20000 in
theorem c_L_law_471 : CallV mL_law 471 mX6_alike 6 3 := kallV (site_V rfl w465 (by decide +kernel) w462 w463 w464 w90 ⟨by decide, by decide, by decide +kernel⟩) (by decide) (by decide) (by unfold clsNo; rfl)
set_option maxRecDepth 20000 in
theorem s_L_law_474 : Snd mL_law 474 (sq (opLdA 2) (sq (opLdA 0) (sq (opLdI 3) (sq (opCi (1)) (sq opiadd (sq opIaldX (sq (opLdA 0) (sq (opLdI 3) (sq (opCi (2)) (sq opiadd opIaldX)))))))))) 485 := (snd_sq (snd_aload_n (k := 2) (by decide +kernel) rfl) (snd_sq (snd_aload_n (k := 0) (by decide +kernel) rfl) (snd_sq (snd_iload_n (k := 3) (by decide +kernel) rfl) (snd_sq (snd_iconst (k := 1) (by decide) (by decide +kernel)) (snd_sq (snd_iadd (by decide +kernel)) (snd_sq (snd_ialdX (by decide +kernel)) (snd_sq (snd_aload_n (k := 0) (by decide +kernel) rfl) (snd_sq (snd_iload_n (k := 3) (by decide +kernel) rfl) (snd_sq (snd_iconst (k := 2) (by decide) (by decide +kernel)) (snd_sq (snd_iadd (by decide +kernel)) (snd_ialdX (by decide +kernel))))))))))))
set_option maxRecDepth 20000 in
theorem c_L_law_485 : CallV mL_law 485 mX7_alike 7 3 := kallV (site_V rfl w969 (by decide +kernel) w966 w967 w968 w97 ⟨by decide, by decide, by decide +kernel⟩) (by decide) (by decide) (by unfold clsNo; rfl)
set_option maxRecDepth 20000 in
theorem b_L_law_488 : Br_ic_eq mL_law 488 1360 := br_ic_eq (off := 872) (by decide +kernel) (by decide)
set_option maxRecDepth 20000 in
theorem s_L_law_491 : Snd mL_law 491 (opCi (0)) 492 := (snd_iconst (k := 0) (by decide) (by decide +kernel))
set_option maxRecDepth 20000 in
theorem r_L_law_492 : RtZ mL_law 492 := rt_Z (by decide +kernel) rfl
set_option maxRecDepth 20000 in
theorem s_L_law_493 : Snd mL_law 493 (sq (opLdA 1) (sq (opLdA 0) (sq (opLdI 3) (sq (opCi (1)) (sq opiadd opIaldX))))) 499 := (snd_sq (snd_aload_n (k := 1) (by decide +kernel) rfl) (snd_sq (snd_aload_n (k := 0) (by decide +kernel) rfl) (snd_sq (snd_iload_n (k := 3) (by decide +kernel) rfl) (snd_sq (snd_iconst (k := 1) (by decide) (by decide +kernel)) (snd_sq (snd_iadd (by decide +kernel)) (snd_ialdX (by decide +kernel)))))))
set_option maxRecDepth 20000 in
theorem c_L_law_499 : CallV mL_law 499 mX6_starts 6 2 := kallV (site_V rfl w472 (by decide +kernel) w469 w470 w471 w90 ⟨by decide, by decide, by decide +kernel⟩) (by decide) (by decide) (by unfold clsNo; rfl)
set_option maxRecDepth 20000 in
theorem s_L_law_502 : Snd mL_law 502 (sq (opLdA 2) (sq (opLdA 0) (sq (opLdI 3) (sq (opCi (1)) (sq opiadd opIaldX))))) 508 := (snd_sq (snd_aload_n (k := 2) (by decide +kernel) rfl) (snd_sq (snd_aload_n (k := 0) (by decide +kernel) rfl) (snd_sq (snd_iload_n (k := 3) (by decide +kernel) rfl) (snd_sq (snd_iconst (k := 1) (by decide) (by decide +kernel)) (snd_sq (snd_iadd (by decide +kernel)) (snd_ialdX (by decide +kernel)))))))
set_option maxRecDepth 20000 in
theorem c_L_law_508 : CallV mL_law 508 mX7_starts 7 2 := kallV (site_V rfl w973 (by decide +kernel) w970 w971 w972 w97 ⟨by decide, by decide, by decide +kernel⟩) (by decide) (by decide) (by unfold clsNo; rfl)
set_option maxRecDepth 20000 in
theorem b_L_law_511 : Br_ic_eq mL_law 511 1360 := br_ic_eq (off := 849) (by decide +kernel) (by decide)
set_option maxRecDepth 20000 in
theorem s_L_law_514 : Snd mL_law 514 (opCi (0)) 515 := (snd_iconst (k := 0) (by decide) (by decide +kernel))
set_option maxRecDepth 20000 in
theorem r_L_law_515 : RtZ mL_law 515 := rt_Z (by decide +kernel) rfl
set_option maxRecDepth 20000 in
theorem s_L_law_516 : Snd mL_law 516 (sq (opLdA 1) (sq (opLdA 0) (sq (opLdI 3) (sq (opCi (1)) (sq opiadd (sq opIaldX (sq (opLdA 0) (sq (opLdI 3) (sq (opCi (2)) (sq opiadd opIaldX)))))))))) 527 := (snd_sq (snd_aload_n (k := 1) (by decide +kernel) rfl) (snd_sq (snd_aload_n (k := 0) (by decide +kernel) rfl) (snd_sq (snd_iload_n (k := 3) (by decide +kernel) rfl) (snd_sq (snd_iconst (k := 1) (by decide) (by decide +kernel)) (snd_sq (snd_iadd (by decide +kernel)) (snd_sq (snd_ialdX (by decide +kernel)) (snd_sq (snd_aload_n (k := 0) (by decide +kernel) rfl) (snd_sq (snd_iload_n (k := 3) (by decide +kernel) rfl) (snd_sq (snd_iconst (k := 2) (by decide) (by decide +kernel)) (snd_sq (snd_iadd (by decide +kernel)) (snd_ialdX (by decide +kernel))))))))))))
set_option maxRecDepth 20000 in
theorem c_L_law_527 : CallV mL_law 527 mX6_next 6 3 := kallV (site_V rfl w506 (by decide +kernel) w503 w504 w505 w90 ⟨by decide, by decide, by decide +kernel⟩) (by decide) (by decide) (by unfold clsNo; rfl)
set_option maxRecDepth 20000 in
theorem s_L_law_530 : Snd mL_law 530 (sq (opLdA 2) (sq (opLdA 0) (sq (opLdI 3) (sq (opCi (1)) (sq opiadd (sq opIaldX (sq (opLdA 0) (sq (opLdI 3) (sq (opCi (2)) (sq opiadd opIaldX)))))))))) 541 := (snd_sq (snd_aload_n (k := 2) (by decide +kernel) rfl) (snd_sq (snd_aload_n (k := 0) (by decide +kernel) rfl) (snd_sq (snd_iload_n (k := 3) (by decide +kernel) rfl) (snd_sq (snd_iconst (k := 1) (by decide) (by decide +kernel)) (snd_sq (snd_iadd (by decide +kernel)) (snd_sq (snd_ialdX (by decide +kernel)) (snd_sq (snd_aload_n (k := 0) (by decide +kernel) rfl) (snd_sq (snd_iload_n (k := 3) (by decide +kernel) rfl) (snd_sq (snd_iconst (k := 2) (by decide) (by decide +kernel)) (snd_sq (snd_iadd (by decide +kernel)) (snd_ialdX (by decide +kernel))))))))))))
set_option maxRecDepth 20000 in
theorem c_L_law_541 : CallV mL_law 541 mX7_next 7 3 := kallV (site_V rfl w981 (by decide +kernel) w978 w979 w980 w97 ⟨by decide, by decide, by decide +kernel⟩) (by decide) (by decide) (by unfold clsNo; rfl)
set_option maxRecDepth 20000 in
theorem b_L_law_544 : Br_ic_eq mL_law 544 1360 := br_ic_eq (off := 816) (by decide +kernel) (by decide)
set_option maxRecDepth 20000 in
theorem s_L_law_547 : Snd mL_law 547 (opCi (0)) 548 := (snd_iconst (k := 0) (by decide) (by decide +kernel))
set_option maxRecDepth 20000 in
theorem r_L_law_548 : RtZ mL_law 548 := rt_Z (by decide +kernel) rfl
set_option maxRecDepth 20000 in
theorem s_L_law_549 : Snd mL_law 549 (sq (opLdA 1) (sq (opLdA 0) (sq (opLdI 3) (sq (opCi (1)) (sq opiadd opIaldX))))) 555 := (snd_sq (snd_aload_n (k := 1) (by decide +kernel) rfl) (snd_sq (snd_aload_n (k := 0) (by decide +kernel) rfl) (snd_sq (snd_iload_n (k := 3) (by decide +kernel) rfl) (snd_sq (snd_iconst (k := 1) (by decide) (by decide +kernel)) (snd_sq (snd_iadd (by decide +kernel)) (snd_ialdX (by decide +kernel)))))))
set_option maxRecDepth 20000 in
theorem c_L_law_555 : CallV mL_law 555 mX6_claim 6 2 := kallV (site_V rfl w514 (by decide +kernel) w511 w512 w513 w90 ⟨by decide, by decide, by decide +kernel⟩) (by decide) (by decide) (by unfold clsNo; rfl)
set_option maxRecDepth 20000 in
theorem s_L_law_558 : Snd mL_law 558 (sq (opLdA 2) (sq (opLdA 0) (sq (opLdI 3) (sq (opCi (1)) (sq opiadd opIaldX))))) 564 := (snd_sq (snd_aload_n (k := 2) (by decide +kernel) rfl) (snd_sq (snd_aload_n (k := 0) (by decide +kernel) rfl) (snd_sq (snd_iload_n (k := 3) (by decide +kernel) rfl) (snd_sq (snd_iconst (k := 1) (by decide) (by decide +kernel)) (snd_sq (snd_iadd (by decide +kernel)) (snd_ialdX (by decide +kernel)))))))
set_option maxRecDepth 20000 in
theorem c_L_law_564 : CallV mL_law 564 mX7_claim 7 2 := kallV (site_V rfl w985 (by decide +kernel) w982 w983 w984 w97 ⟨by decide, by decide, by decide +kernel⟩) (by decide) (by decide) (by unfold clsNo; rfl)
set_option maxRecDepth 20000 in
theorem b_L_law_567 : Br_ic_eq mL_law 567 1360 := br_ic_eq (off := 793) (by decide +kernel) (by decide)
set_option maxRecDepth 20000 in
theorem s_L_law_570 : Snd mL_law 570 (opCi (0)) 571 := (snd_iconst (k := 0) (by decide) (by decide +kernel))
set_option maxRecDepth 20000 in
theorem r_L_law_571 : RtZ mL_law 571 := rt_Z (by decide +kernel) rfl
set_option maxRecDepth 20000 in
theorem s_L_law_572 : Snd mL_law 572 (sq (opLdA 1) (sq (opLdA 0) (sq (opLdI 3) (sq (opCi (1)) (sq opiadd (sq opIaldX (sq (opLdA 0) (sq (opLdI 3) (sq (opCi (2)) (sq opiadd opIaldX)))))))))) 583 := (snd_sq (snd_aload_n (k := 1) (by decide +kernel) rfl) (snd_sq (snd_aload_n (k := 0) (by decide +kernel) rfl) (snd_sq (snd_iload_n (k := 3) (by decide +kernel) rfl) (snd_sq (snd_iconst (k := 1) (by decide) (by decide +kernel)) (snd_sq (snd_iadd (by decide +kernel)) (snd_sq (snd_ialdX (by decide +kernel)) (snd_sq (snd_aload_n (k := 0) (by decide +kernel) rfl) (snd_sq (snd_iload_n (k := 3) (by decide +kernel) rfl) (snd_sq (snd_iconst (k := 2) (by decide) (by decide +kernel)) (snd_sq (snd_iadd (by decide +kernel)) (snd_ialdX (by decide +kernel))))))))))))
set_option maxRecDepth 20000 in
theorem c_L_law_583 : CallV mL_law 583 mX6_step 6 3 := kallV (site_V rfl w522 (by decide +kernel) w519 w520 w521 w90 ⟨by decide, by decide, by decide +kernel⟩) (by decide) (by decide) (by unfold clsNo; rfl)
set_option maxRecDepth 20000 in
theorem s_L_law_586 : Snd mL_law 586 (sq (opLdA 2) (sq (opLdA 0) (sq (opLdI 3) (sq (opCi (1)) (sq opiadd (sq opIaldX (sq (opLdA 0) (sq (opLdI 3) (sq (opCi (2)) (sq opiadd opIaldX)))))))))) 597 := (snd_sq (snd_aload_n (k := 2) (by decide +kernel) rfl) (snd_sq (snd_aload_n (k := 0) (by decide +kernel) rfl) (snd_sq (snd_iload_n (k := 3) (by decide +kernel) rfl) (snd_sq (snd_iconst (k := 1) (by decide) (by decide +kernel)) (snd_sq (snd_iadd (by decide +kernel)) (snd_sq (snd_ialdX (by decide +kernel)) (snd_sq (snd_aload_n (k := 0) (by decide +kernel) rfl) (snd_sq (snd_iload_n (k := 3) (by decide +kernel) rfl) (snd_sq (snd_iconst (k := 2) (by decide) (by decide +kernel)) (snd_sq (snd_iadd (by decide +kernel)) (snd_ialdX (by decide +kernel))))))))))))
set_option maxRecDepth 20000 in
theorem c_L_law_597 : CallV mL_law 597 mX7_step 7 3 := kallV (site_V rfl w989 (by decide +kernel) w986 w987 w988 w97 ⟨by decide, by decide, by decide +kernel⟩) (by decide) (by decide) (by unfold clsNo; rfl)
set_option maxRecDepth 20000 in
theorem b_L_law_600 : Br_ic_eq mL_law 600 1360 := br_ic_eq (off := 760) (by decide +kernel) (by decide)
set_option maxRecDepth 20000 in
theorem s_L_law_603 : Snd mL_law 603 (opCi (0)) 604 := (snd_iconst (k := 0) (by decide) (by decide +kernel))
set_option maxRecDepth 20000 in
theorem r_L_law_604 : RtZ mL_law 604 := rt_Z (by decide +kernel) rfl
set_option maxRecDepth 20000 in
theorem s_L_law_605 : Snd mL_law 605 (sq (opLdA 1) (sq (opLdA 0) (sq (opLdI 3) (sq (opCi (1)) (sq opiadd opIaldX))))) 611 := (snd_sq (snd_aload_n (k := 1) (by decide +kernel) rfl) (snd_sq (snd_aload_n (k := 0) (by decide +kernel) rfl) (snd_sq (snd_iload_n (k := 3) (by decide +kernel) rfl) (snd_sq (snd_iconst (k := 1) (by decide) (by decide +kernel)) (snd_sq (snd_iadd (by decide +kernel)) (snd_ialdX (by decide +kernel)))))))
set_option maxRecDepth 20000 in
theorem c_L_law_611 : CallV mL_law 611 mX6_before 6 2 := kallV (site_V rfl w527 (by decide +kernel) w524 w525 w526 w90 ⟨by decide, by decide, by decide +kernel⟩) (by decide) (by decide) (by unfold clsNo; rfl)
set_option maxRecDepth 20000 in
theorem s_L_law_614 : Snd mL_law 614 (sq (opLdA 2) (sq (opLdA 0) (sq (opLdI 3) (sq (opCi (1)) (sq opiadd opIaldX))))) 620 := (snd_sq (snd_aload_n (k := 2) (by decide +kernel) rfl) (snd_sq (snd_aload_n (k := 0) (by decide +kernel) rfl) (snd_sq (snd_iload_n (k := 3) (by decide +kernel) rfl) (snd_sq (snd_iconst (k := 1) (by decide) (by decide +kernel)) (snd_sq (snd_iadd (by decide +kernel)) (snd_ialdX (by decide +kernel)))))))
set_option maxRecDepth 20000 in
theorem c_L_law_620 : CallV mL_law 620 mX7_before 7 2 := kallV (site_V rfl w997 (by decide +kernel) w994 w995 w996 w97 ⟨by decide, by decide, by decide +kernel⟩) (by decide) (by decide) (by unfold clsNo; rfl)
set_option maxRecDepth 20000 in
theorem b_L_law_623 : Br_ic_eq mL_law 623 1360 := br_ic_eq (off := 737) (by decide +kernel) (by decide)
set_option maxRecDepth 20000 in
theorem s_L_law_626 : Snd mL_law 626 (opCi (0)) 627 := (snd_iconst (k := 0) (by decide) (by decide +kernel))
set_option maxRecDepth 20000 in
theorem r_L_law_627 : RtZ mL_law 627 := rt_Z (by decide +kernel) rfl
set_option maxRecDepth 20000 in
theorem s_L_law_628 : Snd mL_law 628 (sq (opLdA 1) (sq (opLdA 0) (sq (opLdI 3) (sq (opCi (1)) (sq opiadd opIaldX))))) 634 := (snd_sq (snd_aload_n (k := 1) (by decide +kernel) rfl) (snd_sq (snd_aload_n (k := 0) (by decide +kernel) rfl) (snd_sq (snd_iload_n (k := 3) (by decide +kernel) rfl) (snd_sq (snd_iconst (k := 1) (by decide) (by decide +kernel)) (snd_sq (snd_iadd (by decide +kernel)) (snd_ialdX (by decide +kernel)))))))
set_option maxRecDepth 20000 in
theorem c_L_law_634 : CallV mL_law 634 mX6_distance 6 2 := kallV (site_V rfl w532 (by decide +kernel) w529 w530 w531 w90 ⟨by decide, by decide, by decide +kernel⟩) (by decide) (by decide) (by unfold clsNo; rfl)
set_option maxRecDepth 20000 in
theorem s_L_law_637 : Snd mL_law 637 (sq (opLdA 2) (sq (opLdA 0) (sq (opLdI 3) (sq (opCi (1)) (sq opiadd opIaldX))))) 643 := (snd_sq (snd_aload_n (k := 2) (by decide +kernel) rfl) (snd_sq (snd_aload_n (k := 0) (by decide +kernel) rfl) (snd_sq (snd_iload_n (k := 3) (by decide +kernel) rfl) (snd_sq (snd_iconst (k := 1) (by decide) (by decide +kernel)) (snd_sq (snd_iadd (by decide +kernel)) (snd_ialdX (by decide +kernel)))))))
set_option maxRecDepth 20000 in
theorem c_L_law_643 : CallV mL_law 643 mX7_distance 7 2 := kallV (site_V rfl w1005 (by decide +kernel) w1002 w1003 w1004 w97 ⟨by decide, by decide, by decide +kernel⟩) (by decide) (by decide) (by unfold clsNo; rfl)
set_option maxRecDepth 20000 in
theorem b_L_law_646 : Br_ic_eq mL_law 646 1360 := br_ic_eq (off := 714) (by decide +kernel) (by decide)
set_option maxRecDepth 20000 in
theorem s_L_law_649 : Snd mL_law 649 (opCi (0)) 650 := (snd_iconst (k := 0) (by decide) (by decide +kernel))
set_option maxRecDepth 20000 in
theorem r_L_law_650 : RtZ mL_law 650 := rt_Z (by decide +kernel) rfl
set_option maxRecDepth 20000 in
theorem s_L_law_651 : Snd mL_law 651 (sq (opLdA 1) (sq (opLdA 0) (sq (opLdI 3) (sq (opCi (1)) (sq opiadd opIaldX))))) 657 := (snd_sq (snd_aload_n (k := 1) (by decide +kernel) rfl) (snd_sq (snd_aload_n (k := 0) (by decide +kernel) rfl) (snd_sq (snd_iload_n (k := 3) (by decide +kernel) rfl) (snd_sq (snd_iconst (k := 1) (by decide) (by decide +kernel)) (snd_sq (snd_iadd (by decide +kernel)) (snd_ialdX (by decide +kernel)))))))
set_option maxRecDepth 20000 in
theorem c_L_law_657 : CallV mL_law 657 mX6_met 6 2 := kallV (site_V rfl w536 (by decide +kernel) w533 w534 w535 w90 ⟨by decide, by decide, by decide +kernel⟩) (by decide) (by decide) (by unfold clsNo; rfl)
set_option maxRecDepth 20000 in
theorem s_L_law_660 : Snd mL_law 660 (sq (opLdA 2) (sq (opLdA 0) (sq (opLdI 3) (sq (opCi (1)) (sq opiadd opIaldX))))) 666 := (snd_sq (snd_aload_n (k := 2) (by decide +kernel) rfl) (snd_sq (snd_aload_n (k := 0) (by decide +kernel) rfl) (snd_sq (snd_iload_n (k := 3) (by decide +kernel) rfl) (snd_sq (snd_iconst (k := 1) (by decide) (by decide +kernel)) (snd_sq (snd_iadd (by decide +kernel)) (snd_ialdX (by decide +kernel)))))))
set_option maxRecDepth 20000 in
theorem c_L_law_666 : CallV mL_law 666 mX7_met 7 2 := kallV (site_V rfl w1018 (by decide +kernel) w1015 w1016 w1017 w97 ⟨by decide, by decide, by decide +kernel⟩) (by decide) (by decide) (by unfold clsNo; rfl)
set_option maxRecDepth 20000 in
theorem b_L_law_669 : Br_ic_eq mL_law 669 1360 := br_ic_eq (off := 691) (by decide +kernel) (by decide)
set_option maxRecDepth 20000 in
theorem s_L_law_672 : Snd mL_law 672 (opCi (0)) 673 := (snd_iconst (k := 0) (by decide) (by decide +kernel))
set_option maxRecDepth 20000 in
theorem r_L_law_673 : RtZ mL_law 673 := rt_Z (by decide +kernel) rfl
set_option maxRecDepth 20000 in
theorem s_L_law_674 : Snd mL_law 674 (sq (opLdA 1) (sq (opLdA 0) (sq (opLdI 3) (sq (opCi (1)) (sq opiadd (sq opIaldX (sq (opLdA 0) (sq (opLdI 3) (sq (opCi (2)) (sq opiadd opIaldX)))))))))) 685 := (snd_sq (snd_aload_n (k := 1) (by decide +kernel) rfl) (snd_sq (snd_aload_n (k := 0) (by decide +kernel) rfl) (snd_sq (snd_iload_n (k := 3) (by decide +kernel) rfl) (snd_sq (snd_iconst (k := 1) (by decide) (by decide +kernel)) (snd_sq (snd_iadd (by decide +kernel)) (snd_sq (snd_ialdX (by decide +kernel)) (snd_sq (snd_aload_n (k := 0) (by decide +kernel) rfl) (snd_sq (snd_iload_n (k := 3) (by decide +kernel) rfl) (snd_sq (snd_iconst (k := 2) (by decide) (by decide +kernel)) (snd_sq (snd_iadd (by decide +kernel)) (snd_ialdX (by decide +kernel))))))))))))
set_option maxRecDepth 20000 in
theorem c_L_law_685 : CallV mL_law 685 mX6_way 6 3 := kallV (site_V rfl w550 (by decide +kernel) w547 w548 w549 w90 ⟨by decide, by decide, by decide +kernel⟩) (by decide) (by decide) (by unfold clsNo; rfl)
set_option maxRecDepth 20000 in
theorem s_L_law_688 : Snd mL_law 688 (sq (opLdA 2) (sq (opLdA 0) (sq (opLdI 3) (sq (opCi (1)) (sq opiadd (sq opIaldX (sq (opLdA 0) (sq (opLdI 3) (sq (opCi (2)) (sq opiadd opIaldX)))))))))) 699 := (snd_sq (snd_aload_n (k := 2) (by decide +kernel) rfl) (snd_sq (snd_aload_n (k := 0) (by decide +kernel) rfl) (snd_sq (snd_iload_n (k := 3) (by decide +kernel) rfl) (snd_sq (snd_iconst (k := 1) (by decide) (by decide +kernel)) (snd_sq (snd_iadd (by decide +kernel)) (snd_sq (snd_ialdX (by decide +kernel)) (snd_sq (snd_aload_n (k := 0) (by decide +kernel) rfl) (snd_sq (snd_iload_n (k := 3) (by decide +kernel) rfl) (snd_sq (snd_iconst (k := 2) (by decide) (by decide +kernel)) (snd_sq (snd_iadd (by decide +kernel)) (snd_ialdX (by decide +kernel))))))))))))
set_option maxRecDepth 20000 in
theorem c_L_law_699 : CallV mL_law 699 mX7_way 7 3 := kallV (site_V rfl w1041 (by decide +kernel) w1038 w1039 w1040 w97 ⟨by decide, by decide, by decide +kernel⟩) (by decide) (by decide) (by unfold clsNo; rfl)
set_option maxRecDepth 20000 in
theorem b_L_law_702 : Br_ic_eq mL_law 702 1360 := br_ic_eq (off := 658) (by decide +kernel) (by decide)
set_option maxRecDepth 20000 in
theorem s_L_law_705 : Snd mL_law 705 (opCi (0)) 706 := (snd_iconst (k := 0) (by decide) (by decide +kernel))
set_option maxRecDepth 20000 in
theorem r_L_law_706 : RtZ mL_law 706 := rt_Z (by decide +kernel) rfl
set_option maxRecDepth 20000 in
theorem s_L_law_707 : Snd mL_law 707 (sq (opLdA 1) (sq (opLdA 0) (sq (opLdI 3) (sq (opCi (1)) (sq opiadd opIaldX))))) 713 := (snd_sq (snd_aload_n (k := 1) (by decide +kernel) rfl) (snd_sq (snd_aload_n (k := 0) (by decide +kernel) rfl) (snd_sq (snd_iload_n (k := 3) (by decide +kernel) rfl) (snd_sq (snd_iconst (k := 1) (by decide) (by decide +kernel)) (snd_sq (snd_iadd (by decide +kernel)) (snd_ialdX (by decide +kernel)))))))
set_option maxRecDepth 20000 in
theorem c_L_law_713 : CallV mL_law 713 mX6_loose 6 2 := kallV (site_V rfl w554 (by decide +kernel) w551 w552 w553 w90 ⟨by decide, by decide, by decide +kernel⟩) (by decide) (by decide) (by unfold clsNo; rfl)
set_option maxRecDepth 20000 in
theorem s_L_law_716 : Snd mL_law 716 (sq (opLdA 2) (sq (opLdA 0) (sq (opLdI 3) (sq (opCi (1)) (sq opiadd opIaldX))))) 722 := (snd_sq (snd_aload_n (k := 2) (by decide +kernel) rfl) (snd_sq (snd_aload_n (k := 0) (by decide +kernel) rfl) (snd_sq (snd_iload_n (k := 3) (by decide +kernel) rfl) (snd_sq (snd_iconst (k := 1) (by decide) (by decide +kernel)) (snd_sq (snd_iadd (by decide +kernel)) (snd_ialdX (by decide +kernel)))))))
set_option maxRecDepth 20000 in
theorem c_L_law_722 : CallV mL_law 722 mX7_loose 7 2 := kallV (site_V rfl w1053 (by decide +kernel) w1050 w1051 w1052 w97 ⟨by decide, by decide, by decide +kernel⟩) (by decide) (by decide) (by unfold clsNo; rfl)
set_option maxRecDepth 20000 in
theorem b_L_law_725 : Br_ic_eq mL_law 725 1360 := br_ic_eq (off := 635) (by decide +kernel) (by decide)
set_option maxRecDepth 20000 in
theorem s_L_law_728 : Snd mL_law 728 (opCi (0)) 729 := (snd_iconst (k := 0) (by decide) (by decide +kernel))
set_option maxRecDepth 20000 in
theorem r_L_law_729 : RtZ mL_law 729 := rt_Z (by decide +kernel) rfl
set_option maxRecDepth 20000 in
theorem s_L_law_730 : Snd mL_law 730 (sq (opLdA 1) (sq (opLdA 0) (sq (opLdI 3) (sq (opCi (1)) (sq opiadd opIaldX))))) 736 := (snd_sq (snd_aload_n (k := 1) (by decide +kernel) rfl) (snd_sq (snd_aload_n (k := 0) (by decide +kernel) rfl) (snd_sq (snd_iload_n (k := 3) (by decide +kernel) rfl) (snd_sq (snd_iconst (k := 1) (by decide) (by decide +kernel)) (snd_sq (snd_iadd (by decide +kernel)) (snd_ialdX (by decide +kernel)))))))
set_option maxRecDepth 20000 in
theorem c_L_law_736 : CallV mL_law 736 mX6_cone 6 2 := kallV (site_V rfl w570 (by decide +kernel) w567 w568 w569 w90 ⟨by decide, by decide, by decide +kernel⟩) (by decide) (by decide) (by unfold clsNo; rfl)
set_option maxRecDepth 20000 in
theorem s_L_law_739 : Snd mL_law 739 (sq (opLdA 2) (sq (opLdA 0) (sq (opLdI 3) (sq (opCi (1)) (sq opiadd opIaldX))))) 745 := (snd_sq (snd_aload_n (k := 2) (by decide +kernel) rfl) (snd_sq (snd_aload_n (k := 0) (by decide +kernel) rfl) (snd_sq (snd_iload_n (k := 3) (by decide +kernel) rfl) (snd_sq (snd_iconst (k := 1) (by decide) (by decide +kernel)) (snd_sq (snd_iadd (by decide +kernel)) (snd_ialdX (by decide +kernel)))))))
set_option maxRecDepth 20000 in
theorem c_L_law_745 : CallV mL_law 745 mX7_cone 7 2 := kallV (site_V rfl w1061 (by decide +kernel) w1058 w1059 w1060 w97 ⟨by decide, by decide, by decide +kernel⟩) (by decide) (by decide) (by unfold clsNo; rfl)
set_option maxRecDepth 20000 in
theorem b_L_law_748 : Br_ic_eq mL_law 748 1360 := br_ic_eq (off := 612) (by decide +kernel) (by decide)
set_option maxRecDepth 20000 in
theorem s_L_law_751 : Snd mL_law 751 (opCi (0)) 752 := (snd_iconst (k := 0) (by decide) (by decide +kernel))
set_option maxRecDepth 20000 in
theorem r_L_law_752 : RtZ mL_law 752 := rt_Z (by decide +kernel) rfl
set_option maxRecDepth 20000 in
theorem s_L_law_753 : Snd mL_law 753 (sq (opLdA 1) (sq (opLdA 0) (sq (opLdI 3) (sq (opCi (1)) (sq opiadd opIaldX))))) 759 := (snd_sq (snd_aload_n (k := 1) (by decide +kernel) rfl) (snd_sq (snd_aload_n (k := 0) (by decide +kernel) rfl) (snd_sq (snd_iload_n (k := 3) (by decide +kernel) rfl) (snd_sq (snd_iconst (k := 1) (by decide) (by decide +kernel)) (snd_sq (snd_iadd (by decide +kernel)) (snd_ialdX (by decide +kernel)))))))
set_option maxRecDepth 20000 in
theorem c_L_law_759 : CallV mL_law 759 mX6_clear 6 2 := kallV (site_V rfl w582 (by decide +kernel) w579 w580 w581 w90 ⟨by decide, by decide, by decide +kernel⟩) (by decide) (by decide) (by unfold clsNo; rfl)
set_option maxRecDepth 20000 in
theorem s_L_law_762 : Snd mL_law 762 (sq (opLdA 2) (sq (opLdA 0) (sq (opLdI 3) (sq (opCi (1)) (sq opiadd opIaldX))))) 768 := (snd_sq (snd_aload_n (k := 2) (by decide +kernel) rfl) (snd_sq (snd_aload_n (k := 0) (by decide +kernel) rfl) (snd_sq (snd_iload_n (k := 3) (by decide +kernel) rfl) (snd_sq (snd_iconst (k := 1) (by decide) (by decide +kernel)) (snd_sq (snd_iadd (by decide +kernel)) (snd_ialdX (by decide +kernel)))))))
set_option maxRecDepth 20000 in
theorem c_L_law_768 : CallV mL_law 768 mX7_clear 7 2 := kallV (site_V rfl w1065 (by decide +kernel) w1062 w1063 w1064 w97 ⟨by decide, by decide, by decide +kernel⟩) (by decide) (by decide) (by unfold clsNo; rfl)
set_option maxRecDepth 20000 in
theorem b_L_law_771 : Br_ic_eq mL_law 771 1360 := br_ic_eq (off := 589) (by decide +kernel) (by decide)
set_option maxRecDepth 20000 in
theorem s_L_law_774 : Snd mL_law 774 (opCi (0)) 775 := (snd_iconst (k := 0) (by decide) (by decide +kernel))
set_option maxRecDepth 20000 in
theorem r_L_law_775 : RtZ mL_law 775 := rt_Z (by decide +kernel) rfl
set_option maxRecDepth 20000 in
theorem s_L_law_776 : Snd mL_law 776 (sq (opLdA 1) (sq (opLdA 0) (sq (opLdI 3) (sq (opCi (1)) (sq opiadd opIaldX))))) 782 := (snd_sq (snd_aload_n (k := 1) (by decide +kernel) rfl) (snd_sq (snd_aload_n (k := 0) (by decide +kernel) rfl) (snd_sq (snd_iload_n (k := 3) (by decide +kernel) rfl) (snd_sq (snd_iconst (k := 1) (by decide) (by decide +kernel)) (snd_sq (snd_iadd (by decide +kernel)) (snd_ialdX (by decide +kernel)))))))
set_option maxRecDepth 20000 in
theorem c_L_law_782 : CallV mL_law 782 mX6_shut 6 2 := kallV (site_V rfl w590 (by decide +kernel) w587 w588 w589 w90 ⟨by decide, by decide, by decide +kernel⟩) (by decide) (by decide) (by unfold clsNo; rfl)
set_option maxRecDepth 20000 in
theorem s_L_law_785 : Snd mL_law 785 (sq (opLdA 2) (sq (opLdA 0) (sq (opLdI 3) (sq (opCi (1)) (sq opiadd opIaldX))))) 791 := (snd_sq (snd_aload_n (k := 2) (by decide +kernel) rfl) (snd_sq (snd_aload_n (k := 0) (by decide +kernel) rfl) (snd_sq (snd_iload_n (k := 3) (by decide +kernel) rfl) (snd_sq (snd_iconst (k := 1) (by decide) (by decide +kernel)) (snd_sq (snd_iadd (by decide +kernel)) (snd_ialdX (by decide +kernel)))))))
set_option maxRecDepth 20000 in
theorem c_L_law_791 : CallV mL_law 791 mX7_shut 7 2 := kallV (site_V rfl w1073 (by decide +kernel) w1070 w1071 w1072 w97 ⟨by decide, by decide, by decide +kernel⟩) (by decide) (by decide) (by unfold clsNo; rfl)
set_option maxRecDepth 20000 in
theorem b_L_law_794 : Br_ic_eq mL_law 794 1360 := br_ic_eq (off := 566) (by decide +kernel) (by decide)
set_option maxRecDepth 20000 in
theorem s_L_law_797 : Snd mL_law 797 (opCi (0)) 798 := (snd_iconst (k := 0) (by decide) (by decide +kernel))
set_option maxRecDepth 20000 in
theorem r_L_law_798 : RtZ mL_law 798 := rt_Z (by decide +kernel) rfl
set_option maxRecDepth 20000 in
theorem s_L_law_799 : Snd mL_law 799 (sq (opLdA 1) (sq (opLdA 0) (sq (opLdI 3) (sq (opCi (1)) (sq opiadd opIaldX))))) 805 := (snd_sq (snd_aload_n (k := 1) (by decide +kernel) rfl) (snd_sq (snd_aload_n (k := 0) (by decide +kernel) rfl) (snd_sq (snd_iload_n (k := 3) (by decide +kernel) rfl) (snd_sq (snd_iconst (k := 1) (by decide) (by decide +kernel)) (snd_sq (snd_iadd (by decide +kernel)) (snd_ialdX (by decide +kernel)))))))
set_option maxRecDepth 20000 in
theorem c_L_law_805 : CallV mL_law 805 mX6_settle 6 2 := kallV (site_V rfl w621 (by decide +kernel) w618 w619 w620 w90 ⟨by decide, by decide, by decide +kernel⟩) (by decide) (by decide) (by unfold clsNo; rfl)
set_option maxRecDepth 20000 in
theorem s_L_law_808 : Snd mL_law 808 (sq (opLdA 2) (sq (opLdA 0) (sq (opLdI 3) (sq (opCi (1)) (sq opiadd opIaldX))))) 814 := (snd_sq (snd_aload_n (k := 2) (by decide +kernel) rfl) (snd_sq (snd_aload_n (k := 0) (by decide +kernel) rfl) (snd_sq (snd_iload_n (k := 3) (by decide +kernel) rfl) (snd_sq (snd_iconst (k := 1) (by decide) (by decide +kernel)) (snd_sq (snd_iadd (by decide +kernel)) (snd_ialdX (by decide +kernel)))))))
set_option maxRecDepth 20000 in
theorem c_L_law_814 : CallV mL_law 814 mX7_settle 7 2 := kallV (site_V rfl w1105 (by decide +kernel) w1102 w1103 w1104 w97 ⟨by decide, by decide, by decide +kernel⟩) (by decide) (by decide) (by unfold clsNo; rfl)
set_option maxRecDepth 20000 in
theorem b_L_law_817 : Br_ic_eq mL_law 817 1360 := br_ic_eq (off := 543) (by decide +kernel) (by decide)
set_option maxRecDepth 20000 in
theorem s_L_law_820 : Snd mL_law 820 (opCi (0)) 821 := (snd_iconst (k := 0) (by decide) (by decide +kernel))
set_option maxRecDepth 20000 in
theorem r_L_law_821 : RtZ mL_law 821 := rt_Z (by decide +kernel) rfl
set_option maxRecDepth 20000 in
theorem s_L_law_822 : Snd mL_law 822 (sq (opLdA 1) (sq (opLdA 0) (sq (opLdI 3) (sq (opCi (1)) (sq opiadd (sq opIaldX (sq (opLdA 0) (sq (opLdI 3) (sq (opCi (2)) (sq opiadd (sq opIaldX (sq (opLdA 0) (sq (opLdI 3) (sq (opCi (3)) (sq opiadd opIaldX))))))))))))))) 838 := (snd_sq (snd_aload_n (k := 1) (by decide +kernel) rfl) (snd_sq (snd_aload_n (k := 0) (by decide +kernel) rfl) (snd_sq (snd_iload_n (k := 3) (by decide +kernel) rfl) (snd_sq (snd_iconst (k := 1) (by decide) (by decide +kernel)) (snd_sq (snd_iadd (by decide +kernel)) (snd_sq (snd_ialdX (by decide +kernel)) (snd_sq (snd_aload_n (k := 0) (by decide +kernel) rfl) (snd_sq (snd_iload_n (k := 3) (by decide +kernel) rfl) (snd_sq (snd_iconst (k := 2) (by decide) (by decide +kernel)) (snd_sq (snd_iadd (by decide +kernel)) (snd_sq (snd_ialdX (by decide +kernel)) (snd_sq (snd_aload_n (k := 0) (by decide +kernel) rfl) (snd_sq (snd_iload_n (k := 3) (by decide +kernel) rfl) (snd_sq (snd_iconst (k := 3) (by decide) (by decide +kernel)) (snd_sq (snd_iadd (by decide +kernel)) (snd_ialdX (by decide +kernel)))))))))))))))))
set_option maxRecDepth 20000 in
theorem c_L_law_838 : CallV mL_law 838 mX6_chain 6 4 := kallV (site_V rfl w626 (by decide +kernel) w623 w624 w625 w90 ⟨by decide, by decide, by decide +kernel⟩) (by decide) (by decide) (by unfold clsNo; rfl)
set_option maxRecDepth 20000 in
theorem s_L_law_841 : Snd mL_law 841 (sq (opLdA 2) (sq (opLdA 0) (sq (opLdI 3) (sq (opCi (1)) (sq opiadd (sq opIaldX (sq (opLdA 0) (sq (opLdI 3) (sq (opCi (2)) (sq opiadd (sq opIaldX (sq (opLdA 0) (sq (opLdI 3) (sq (opCi (3)) (sq opiadd opIaldX))))))))))))))) 857 := (snd_sq (snd_aload_n (k := 2) (by decide +kernel) rfl) (snd_sq (snd_aload_n (k := 0) (by decide +kernel) rfl) (snd_sq (snd_iload_n (k := 3) (by decide +kernel) rfl) (snd_sq (snd_iconst (k := 1) (by decide) (by decide +kernel)) (snd_sq (snd_iadd (by decide +kernel)) (snd_sq (snd_ialdX (by decide +kernel)) (snd_sq (snd_aload_n (k := 0) (by decide +kernel) rfl) (snd_sq (snd_iload_n (k := 3) (by decide +kernel) rfl) (snd_sq (snd_iconst (k := 2) (by decide) (by decide +kernel)) (snd_sq (snd_iadd (by decide +kernel)) (snd_sq (snd_ialdX (by decide +kernel)) (snd_sq (snd_aload_n (k := 0) (by decide +kernel) rfl) (snd_sq (snd_iload_n (k := 3) (by decide +kernel) rfl) (snd_sq (snd_iconst (k := 3) (by decide) (by decide +kernel)) (snd_sq (snd_iadd (by decide +kernel)) (snd_ialdX (by decide +kernel)))))))))))))))))
set_option maxRecDepth 20000 in
theorem c_L_law_857 : CallV mL_law 857 mX7_chain 7 4 := kallV (site_V rfl w1109 (by decide +kernel) w1106 w1107 w1108 w97 ⟨by decide, by decide, by decide +kernel⟩) (by decide) (by decide) (by unfold clsNo; rfl)
set_option maxRecDepth 20000 in
theorem b_L_law_860 : Br_ic_eq mL_law 860 1360 := br_ic_eq (off := 500) (by decide +kernel) (by decide)
set_option maxRecDepth 20000 in
theorem s_L_law_863 : Snd mL_law 863 (opCi (0)) 864 := (snd_iconst (k := 0) (by decide) (by decide +kernel))
set_option maxRecDepth 20000 in
theorem r_L_law_864 : RtZ mL_law 864 := rt_Z (by decide +kernel) rfl
set_option maxRecDepth 20000 in
theorem s_L_law_865 : Snd mL_law 865 (sq (opLdA 1) (sq (opLdA 0) (sq (opLdI 3) (sq (opCi (1)) (sq opiadd opIaldX))))) 871 := (snd_sq (snd_aload_n (k := 1) (by decide +kernel) rfl) (snd_sq (snd_aload_n (k := 0) (by decide +kernel) rfl) (snd_sq (snd_iload_n (k := 3) (by decide +kernel) rfl) (snd_sq (snd_iconst (k := 1) (by decide) (by decide +kernel)) (snd_sq (snd_iadd (by decide +kernel)) (snd_ialdX (by decide +kernel)))))))
set_option maxRecDepth 20000 in
theorem c_L_law_871 : CallV mL_law 871 mX6_weak 6 2 := kallV (site_V rfl w630 (by decide +kernel) w627 w628 w629 w90 ⟨by decide, by decide, by decide +kernel⟩) (by decide) (by decide) (by unfold clsNo; rfl)
set_option maxRecDepth 20000 in
theorem s_L_law_874 : Snd mL_law 874 (sq (opLdA 2) (sq (opLdA 0) (sq (opLdI 3) (sq (opCi (1)) (sq opiadd opIaldX))))) 880 := (snd_sq (snd_aload_n (k := 2) (by decide +kernel) rfl) (snd_sq (snd_aload_n (k := 0) (by decide +kernel) rfl) (snd_sq (snd_iload_n (k := 3) (by decide +kernel) rfl) (snd_sq (snd_iconst (k := 1) (by decide) (by decide +kernel)) (snd_sq (snd_iadd (by decide +kernel)) (snd_ialdX (by decide +kernel)))))))
set_option maxRecDepth 20000 in
theorem c_L_law_880 : CallV mL_law 880 mX7_weak 7 2 := kallV (site_V rfl w1113 (by decide +kernel) w1110 w1111 w1112 w97 ⟨by decide, by decide, by decide +kernel⟩) (by decide) (by decide) (by unfold clsNo; rfl)
set_option maxRecDepth 20000 in
theorem b_L_law_883 : Br_ic_eq mL_law 883 1360 := br_ic_eq (off := 477) (by decide +kernel) (by decide)
set_option maxRecDepth 20000 in
theorem s_L_law_886 : Snd mL_law 886 (opCi (0)) 887 := (snd_iconst (k := 0) (by decide) (by decide +kernel))
set_option maxRecDepth 20000 in
theorem r_L_law_887 : RtZ mL_law 887 := rt_Z (by decide +kernel) rfl
set_option maxRecDepth 20000 in
theorem s_L_law_888 : Snd mL_law 888 (opLdA 1) 889 := (snd_aload_n (k := 1) (by decide +kernel) rfl)
set_option maxRecDepth 20000 in
theorem c_L_law_889 : CallV mL_law 889 mX6_strengthen 6 1 := kallV (site_V rfl w642 (by decide +kernel) w639 w640 w641 w90 ⟨by decide, by decide, by decide +kernel⟩) (by decide) (by decide) (by unfold clsNo; rfl)
set_option maxRecDepth 20000 in
theorem s_L_law_892 : Snd mL_law 892 (opLdA 2) 893 := (snd_aload_n (k := 2) (by decide +kernel) rfl)
set_option maxRecDepth 20000 in
theorem c_L_law_893 : CallV mL_law 893 mX7_strengthen 7 1 := kallV (site_V rfl w1121 (by decide +kernel) w1118 w1119 w1120 w97 ⟨by decide, by decide, by decide +kernel⟩) (by decide) (by decide) (by unfold clsNo; rfl)
set_option maxRecDepth 20000 in
theorem b_L_law_896 : Br_ic_eq mL_law 896 1360 := br_ic_eq (off := 464) (by decide +kernel) (by decide)
set_option maxRecDepth 20000 in
theorem s_L_law_899 : Snd mL_law 899 (opCi (0)) 900 := (snd_iconst (k := 0) (by decide) (by decide +kernel))
set_option maxRecDepth 20000 in
theorem r_L_law_900 : RtZ mL_law 900 := rt_Z (by decide +kernel) rfl
set_option maxRecDepth 20000 in
theorem s_L_law_901 : Snd mL_law 901 (sq (opLdA 1) (sq (opLdA 0) (sq (opLdI 3) (sq (opCi (1)) (sq opiadd opIaldX))))) 907 := (snd_sq (snd_aload_n (k := 1) (by decide +kernel) rfl) (snd_sq (snd_aload_n (k := 0) (by decide +kernel) rfl) (snd_sq (snd_iload_n (k := 3) (by decide +kernel) rfl) (snd_sq (snd_iconst (k := 1) (by decide) (by decide +kernel)) (snd_sq (snd_iadd (by decide +kernel)) (snd_ialdX (by decide +kernel)))))))
set_option maxRecDepth 20000 in
theorem c_L_law_907 : CallV mL_law 907 mX6_lemma 6 2 := kallV (site_V rfl w672 (by decide +kernel) w669 w670 w671 w90 ⟨by decide, by decide, by decide +kernel⟩) (by decide) (by decide) (by unfold clsNo; rfl)
set_option maxRecDepth 20000 in
theorem s_L_law_910 : Snd mL_law 910 (sq (opLdA 2) (sq (opLdA 0) (sq (opLdI 3) (sq (opCi (1)) (sq opiadd opIaldX))))) 916 := (snd_sq (snd_aload_n (k := 2) (by decide +kernel) rfl) (snd_sq (snd_aload_n (k := 0) (by decide +kernel) rfl) (snd_sq (snd_iload_n (k := 3) (by decide +kernel) rfl) (snd_sq (snd_iconst (k := 1) (by decide) (by decide +kernel)) (snd_sq (snd_iadd (by decide +kernel)) (snd_ialdX (by decide +kernel)))))))
set_option maxRecDepth 20000 in
theorem c_L_law_916 : CallV mL_law 916 mX7_lemma 7 2 := kallV (site_V rfl w1140 (by decide +kernel) w1137 w1138 w1139 w97 ⟨by decide, by decide, by decide +kernel⟩) (by decide) (by decide) (by unfold clsNo; rfl)
set_option maxRecDepth 20000 in
theorem b_L_law_919 : Br_ic_eq mL_law 919 1360 := br_ic_eq (off := 441) (by decide +kernel) (by decide)
set_option maxRecDepth 20000 in
theorem s_L_law_922 : Snd mL_law 922 (opCi (0)) 923 := (snd_iconst (k := 0) (by decide) (by decide +kernel))
set_option maxRecDepth 20000 in
theorem r_L_law_923 : RtZ mL_law 923 := rt_Z (by decide +kernel) rfl
set_option maxRecDepth 20000 in
theorem s_L_law_924 : Snd mL_law 924 (sq (opLdA 1) (sq (opLdA 0) (sq (opLdI 3) (sq (opCi (1)) (sq opiadd opIaldX))))) 930 := (snd_sq (snd_aload_n (k := 1) (by decide +kernel) rfl) (snd_sq (snd_aload_n (k := 0) (by decide +kernel) rfl) (snd_sq (snd_iload_n (k := 3) (by decide +kernel) rfl) (snd_sq (snd_iconst (k := 1) (by decide) (by decide +kernel)) (snd_sq (snd_iadd (by decide +kernel)) (snd_ialdX (by decide +kernel)))))))
set_option maxRecDepth 20000 in
theorem c_L_law_930 : CallV mL_law 930 mX6_block 6 2 := kallV (site_V rfl w680 (by decide +kernel) w677 w678 w679 w90 ⟨by decide, by decide, by decide +kernel⟩) (by decide) (by decide) (by unfold clsNo; rfl)
set_option maxRecDepth 20000 in
theorem s_L_law_933 : Snd mL_law 933 (sq (opLdA 2) (sq (opLdA 0) (sq (opLdI 3) (sq (opCi (1)) (sq opiadd opIaldX))))) 939 := (snd_sq (snd_aload_n (k := 2) (by decide +kernel) rfl) (snd_sq (snd_aload_n (k := 0) (by decide +kernel) rfl) (snd_sq (snd_iload_n (k := 3) (by decide +kernel) rfl) (snd_sq (snd_iconst (k := 1) (by decide) (by decide +kernel)) (snd_sq (snd_iadd (by decide +kernel)) (snd_ialdX (by decide +kernel)))))))
set_option maxRecDepth 20000 in
theorem c_L_law_939 : CallV mL_law 939 mX7_block 7 2 := kallV (site_V rfl w1148 (by decide +kernel) w1145 w1146 w1147 w97 ⟨by decide, by decide, by decide +kernel⟩) (by decide) (by decide) (by unfold clsNo; rfl)
set_option maxRecDepth 20000 in
theorem b_L_law_942 : Br_ic_eq mL_law 942 1360 := br_ic_eq (off := 418) (by decide +kernel) (by decide)
set_option maxRecDepth 20000 in
theorem s_L_law_945 : Snd mL_law 945 (opCi (0)) 946 := (snd_iconst (k := 0) (by decide) (by decide +kernel))
set_option maxRecDepth 20000 in
theorem r_L_law_946 : RtZ mL_law 946 := rt_Z (by decide +kernel) rfl
set_option maxRecDepth 20000 in
theorem s_L_law_947 : Snd mL_law 947 (opLdA 1) 948 := (snd_aload_n (k := 1) (by decide +kernel) rfl)
set_option maxRecDepth 20000 in
theorem c_L_law_948 : CallV mL_law 948 mX6_back 6 1 := kallV (site_V rfl w696 (by decide +kernel) w693 w694 w695 w90 ⟨by decide, by decide, by decide +kernel⟩) (by decide) (by decide) (by unfold clsNo; rfl)
set_option maxRecDepth 20000 in
theorem s_L_law_951 : Snd mL_law 951 (opLdA 2) 952 := (snd_aload_n (k := 2) (by decide +kernel) rfl)
set_option maxRecDepth 20000 in
theorem c_L_law_952 : CallV mL_law 952 mX7_back 7 1 := kallV (site_V rfl w1159 (by decide +kernel) w1156 w1157 w1158 w97 ⟨by decide, by decide, by decide +kernel⟩) (by decide) (by decide) (by unfold clsNo; rfl)
set_option maxRecDepth 20000 in
theorem b_L_law_955 : Br_ic_eq mL_law 955 1360 := br_ic_eq (off := 405) (by decide +kernel) (by decide)
set_option maxRecDepth 20000 in
theorem s_L_law_958 : Snd mL_law 958 (opCi (0)) 959 := (snd_iconst (k := 0) (by decide) (by decide +kernel))
set_option maxRecDepth 20000 in
theorem r_L_law_959 : RtZ mL_law 959 := rt_Z (by decide +kernel) rfl
set_option maxRecDepth 20000 in
theorem s_L_law_960 : Snd mL_law 960 (sq (opLdA 1) (sq (opLdA 0) (sq (opLdI 3) (sq (opCi (1)) (sq opiadd (sq opIaldX (sq (opLdA 0) (sq (opLdI 3) (sq (opCi (2)) (sq opiadd opIaldX)))))))))) 971 := (snd_sq (snd_aload_n (k := 1) (by decide +kernel) rfl) (snd_sq (snd_aload_n (k := 0) (by decide +kernel) rfl) (snd_sq (snd_iload_n (k := 3) (by decide +kernel) rfl) (snd_sq (snd_iconst (k := 1) (by decide) (by decide +kernel)) (snd_sq (snd_iadd (by decide +kernel)) (snd_sq (snd_ialdX (by decide +kernel)) (snd_sq (snd_aload_n (k := 0) (by decide +kernel) rfl) (snd_sq (snd_iload_n (k := 3) (by decide +kernel) rfl) (snd_sq (snd_iconst (k := 2) (by decide) (by decide +kernel)) (snd_sq (snd_iadd (by decide +kernel)) (snd_ialdX (by decide +kernel))))))))))))
set_option maxRecDepth 20000 in
theorem c_L_law_971 : CallV mL_law 971 mX6_ofLemma 6 3 := kallV (site_V rfl w704 (by decide +kernel) w701 w702 w703 w90 ⟨by decide, by decide, by decide +kernel⟩) (by decide) (by decide) (by unfold clsNo; rfl)
set_option maxRecDepth 20000 in
theorem s_L_law_974 : Snd mL_law 974 (sq (opLdA 2) (sq (opLdA 0) (sq (opLdI 3) (sq (opCi (1)) (sq opiadd (sq opIaldX (sq (opLdA 0) (sq (opLdI 3) (sq (opCi (2)) (sq opiadd opIaldX)))))))))) 985 := (snd_sq (snd_aload_n (k := 2) (by decide +kernel) rfl) (snd_sq (snd_aload_n (k := 0) (by decide +kernel) rfl) (snd_sq (snd_iload_n (k := 3) (by decide +kernel) rfl) (snd_sq (snd_iconst (k := 1) (by decide) (by decide +kernel)) (snd_sq (snd_iadd (by decide +kernel)) (snd_sq (snd_ialdX (by decide +kernel)) (snd_sq (snd_aload_n (k := 0) (by decide +kernel) rfl) (snd_sq (snd_iload_n (k := 3) (by decide +kernel) rfl) (snd_sq (snd_iconst (k := 2) (by decide) (by decide +kernel)) (snd_sq (snd_iadd (by decide +kernel)) (snd_ialdX (by decide +kernel))))))))))))
set_option maxRecDepth 20000 in
theorem c_L_law_985 : CallV mL_law 985 mX7_ofLemma 7 3 := kallV (site_V rfl w1163 (by decide +kernel) w1160 w1161 w1162 w97 ⟨by decide, by decide, by decide +kernel⟩) (by decide) (by decide) (by unfold clsNo; rfl)
set_option maxRecDepth 20000 in
theorem b_L_law_988 : Br_ic_eq mL_law 988 1360 := br_ic_eq (off := 372) (by decide +kernel) (by decide)
set_option maxRecDepth 20000 in
theorem s_L_law_991 : Snd mL_law 991 (opCi (0)) 992 := (snd_iconst (k := 0) (by decide) (by decide +kernel))
set_option maxRecDepth 20000 in
theorem r_L_law_992 : RtZ mL_law 992 := rt_Z (by decide +kernel) rfl
set_option maxRecDepth 20000 in
theorem s_L_law_993 : Snd mL_law 993 (opLdA 1) 994 := (snd_aload_n (k := 1) (by decide +kernel) rfl)
set_option maxRecDepth 20000 in
theorem c_L_law_994 : CallV mL_law 994 mX6_closed 6 1 := kallV (site_V rfl w708 (by decide +kernel) w705 w706 w707 w90 ⟨by decide, by decide, by decide +kernel⟩) (by decide) (by decide) (by unfold clsNo; rfl)
set_option maxRecDepth 20000 in
theorem s_L_law_997 : Snd mL_law 997 (opLdA 2) 998 := (snd_aload_n (k := 2) (by decide +kernel) rfl)
set_option maxRecDepth 20000 in
theorem c_L_law_998 : CallV mL_law 998 mX7_closed 7 1 := kallV (site_V rfl w1167 (by decide +kernel) w1164 w1165 w1166 w97 ⟨by decide, by decide, by decide +kernel⟩) (by decide) (by decide) (by unfold clsNo; rfl)
set_option maxRecDepth 20000 in
theorem b_L_law_1001 : Br_ic_eq mL_law 1001 1360 := br_ic_eq (off := 359) (by decide +kernel) (by decide)
set_option maxRecDepth 20000 in
theorem s_L_law_1004 : Snd mL_law 1004 (opCi (0)) 1005 := (snd_iconst (k := 0) (by decide) (by decide +kernel))
set_option maxRecDepth 20000 in
theorem r_L_law_1005 : RtZ mL_law 1005 := rt_Z (by decide +kernel) rfl
set_option maxRecDepth 20000 in
theorem s_L_law_1006 : Snd mL_law 1006 (sq (opLdA 1) (sq (opLdA 0) (sq (opLdI 3) (sq (opCi (1)) (sq opiadd opIaldX))))) 1012 := (snd_sq (snd_aload_n (k := 1) (by decide +kernel) rfl) (snd_sq (snd_aload_n (k := 0) (by decide +kernel) rfl) (snd_sq (snd_iload_n (k := 3) (by decide +kernel) rfl) (snd_sq (snd_iconst (k := 1) (by decide) (by decide +kernel)) (snd_sq (snd_iadd (by decide +kernel)) (snd_ialdX (by decide +kernel)))))))
set_option maxRecDepth 20000 in
theorem c_L_law_1012 : CallV mL_law 1012 mX6_chance 6 2 := kallV (site_V rfl w712 (by decide +kernel) w709 w710 w711 w90 ⟨by decide, by decide, by decide +kernel⟩) (by decide) (by decide) (by unfold clsNo; rfl)
set_option maxRecDepth 20000 in
theorem s_L_law_1015 : Snd mL_law 1015 (sq (opLdA 2) (sq (opLdA 0) (sq (opLdI 3) (sq (opCi (1)) (sq opiadd opIaldX))))) 1021 := (snd_sq (snd_aload_n (k := 2) (by decide +kernel) rfl) (snd_sq (snd_aload_n (k := 0) (by decide +kernel) rfl) (snd_sq (snd_iload_n (k := 3) (by decide +kernel) rfl) (snd_sq (snd_iconst (k := 1) (by decide) (by decide +kernel)) (snd_sq (snd_iadd (by decide +kernel)) (snd_ialdX (by decide +kernel)))))))
set_option maxRecDepth 20000 in
theorem c_L_law_1021 : CallV mL_law 1021 mX7_chance 7 2 := kallV (site_V rfl w1171 (by decide +kernel) w1168 w1169 w1170 w97 ⟨by decide, by decide, by decide +kernel⟩) (by decide) (by decide) (by unfold clsNo; rfl)
set_option maxRecDepth 20000 in
theorem b_L_law_1024 : Br_ic_eq mL_law 1024 1360 := br_ic_eq (off := 336) (by decide +kernel) (by decide)
set_option maxRecDepth 20000 in
theorem s_L_law_1027 : Snd mL_law 1027 (opCi (0)) 1028 := (snd_iconst (k := 0) (by decide) (by decide +kernel))
set_option maxRecDepth 20000 in
theorem r_L_law_1028 : RtZ mL_law 1028 := rt_Z (by decide +kernel) rfl
set_option maxRecDepth 20000 in
theorem s_L_law_1029 : Snd mL_law 1029 (opLdA 1) 1030 := (snd_aload_n (k := 1) (by decide +kernel) rfl)
set_option maxRecDepth 20000 in
theorem c_L_law_1030 : CallV mL_law 1030 mX6_mean 6 1 := kallV (site_V rfl w731 (by decide +kernel) w728 w729 w730 w90 ⟨by decide, by decide, by decide +kernel⟩) (by decide) (by decide) (by unfold clsNo; rfl)
set_option maxRecDepth 20000 in
theorem s_L_law_1033 : Snd mL_law 1033 (opLdA 2) 1034 := (snd_aload_n (k := 2) (by decide +kernel) rfl)
set_option maxRecDepth 20000 in
theorem c_L_law_1034 : CallV mL_law 1034 mX7_mean 7 1 := kallV (site_V rfl w1179 (by decide +kernel) w1176 w1177 w1178 w97 ⟨by decide, by decide, by decide +kernel⟩) (by decide) (by decide) (by unfold clsNo; rfl)
set_option maxRecDepth 20000 in
theorem s_L_law_1037 : Snd mL_law 1037 oplcmp 1038 := (snd_lcmp (by decide +kernel))
set_option maxRecDepth 20000 in
theorem b_L_law_1038 : Br_if_eq mL_law 1038 1360 := br_if_eq (off := 322) (by decide +kernel) (by decide)
set_option maxRecDepth 20000 in
theorem s_L_law_1041 : Snd mL_law 1041 (opCi (0)) 1042 := (snd_iconst (k := 0) (by decide) (by decide +kernel))
set_option maxRecDepth 20000 in
theorem r_L_law_1042 : RtZ mL_law 1042 := rt_Z (by decide +kernel) rfl
set_option maxRecDepth 20000 in
theorem s_L_law_1043 : Snd mL_law 1043 (sq (opLdA 1) (sq (opLdA 0) (sq (opLdI 3) (sq (opCi (1)) (sq opiadd (sq opIaldX (sq (opLdA 0) (sq (opLdI 3) (sq (opCi (2)) (sq opiadd (sq opIaldX (sq (opLdA 0) (sq (opLdI 3) (sq (opCi (3)) (sq opiadd opIaldX))))))))))))))) 1059 := (snd_sq (snd_aload_n (k := 1) (by decide +kernel) rfl) (snd_sq (snd_aload_n (k := 0) (by decide +kernel) rfl) (snd_sq (snd_iload_n (k := 3) (by decide +kernel) rfl) (snd_sq (snd_iconst (k := 1) (by decide) (by decide +kernel)) (snd_sq (snd_iadd (by decide +kernel)) (snd_sq (snd_ialdX (by decide +kernel)) (snd_sq (snd_aload_n (k := 0) (by decide +kernel) rfl) (snd_sq (snd_iload_n (k := 3) (by decide +kernel) rfl) (snd_sq (snd_iconst (k := 2) (by decide) (by decide +kernel)) (snd_sq (snd_iadd (by decide +kernel)) (snd_sq (snd_ialdX (by decide +kernel)) (snd_sq (snd_aload_n (k := 0) (by decide +kernel) rfl) (snd_sq (snd_iload_n (k := 3) (by decide +kernel) rfl) (snd_sq (snd_iconst (k := 3) (by decide) (by decide +kernel)) (snd_sq (snd_iadd (by decide +kernel)) (snd_ialdX (by decide +kernel)))))))))))))))))
set_option maxRecDepth 20000 in
theorem c_L_law_1059 : CallV mL_law 1059 mX6_box 6 4 := kallV (site_V rfl w739 (by decide +kernel) w736 w737 w738 w90 ⟨by decide, by decide, by decide +kernel⟩) (by decide) (by decide) (by unfold clsNo; rfl)
set_option maxRecDepth 20000 in
theorem s_L_law_1062 : Snd mL_law 1062 (sq (opLdA 2) (sq (opLdA 0) (sq (opLdI 3) (sq (opCi (1)) (sq opiadd (sq opIaldX (sq (opLdA 0) (sq (opLdI 3) (sq (opCi (2)) (sq opiadd (sq opIaldX (sq (opLdA 0) (sq (opLdI 3) (sq (opCi (3)) (sq opiadd opIaldX))))))))))))))) 1078 := (snd_sq (snd_aload_n (k := 2) (by decide +kernel) rfl) (snd_sq (snd_aload_n (k := 0) (by decide +kernel) rfl) (snd_sq (snd_iload_n (k := 3) (by decide +kernel) rfl) (snd_sq (snd_iconst (k := 1) (by decide) (by decide +kernel)) (snd_sq (snd_iadd (by decide +kernel)) (snd_sq (snd_ialdX (by decide +kernel)) (snd_sq (snd_aload_n (k := 0) (by decide +kernel) rfl) (snd_sq (snd_iload_n (k := 3) (by decide +kernel) rfl) (snd_sq (snd_iconst (k := 2) (by decide) (by decide +kernel)) (snd_sq (snd_iadd (by decide +kernel)) (snd_sq (snd_ialdX (by decide +kernel)) (snd_sq (snd_aload_n (k := 0) (by decide +kernel) rfl) (snd_sq (snd_iload_n (k := 3) (by decide +kernel) rfl) (snd_sq (snd_iconst (k := 3) (by decide) (by decide +kernel)) (snd_sq (snd_iadd (by decide +kernel)) (snd_ialdX (by decide +kernel)))))))))))))))))
set_option maxRecDepth 20000 in
theorem c_L_law_1078 : CallV mL_law 1078 mX7_box 7 4 := kallV (site_V rfl w1183 (by decide +kernel) w1180 w1181 w1182 w97 ⟨by decide, by decide, by decide +kernel⟩) (by decide) (by decide) (by unfold clsNo; rfl)
set_option maxRecDepth 20000 in
theorem b_L_law_1081 : Br_ic_eq mL_law 1081 1360 := br_ic_eq (off := 279) (by decide +kernel) (by decide)
set_option maxRecDepth 20000 in
theorem s_L_law_1084 : Snd mL_law 1084 (opCi (0)) 1085 := (snd_iconst (k := 0) (by decide) (by decide +kernel))
set_option maxRecDepth 20000 in
theorem r_L_law_1085 : RtZ mL_law 1085 := rt_Z (by decide +kernel) rfl
set_option maxRecDepth 20000 in
theorem s_L_law_1086 : Snd mL_law 1086 (sq (opLdA 1) (sq (opLdA 0) (sq (opLdI 3) (sq (opCi (1)) (sq opiadd (sq opIaldX (sq (opLdA 0) (sq (opLdI 3) (sq (opCi (2)) (sq opiadd (sq opIaldX (sq (opLdA 0) (sq (opLdI 3) (sq (opCi (3)) (sq opiadd opIaldX))))))))))))))) 1102 := (snd_sq (snd_aload_n (k := 1) (by decide +kernel) rfl) (snd_sq (snd_aload_n (k := 0) (by decide +kernel) rfl) (snd_sq (snd_iload_n (k := 3) (by decide +kernel) rfl) (snd_sq (snd_iconst (k := 1) (by decide) (by decide +kernel)) (snd_sq (snd_iadd (by decide +kernel)) (snd_sq (snd_ialdX (by decide +kernel)) (snd_sq (snd_aload_n (k := 0) (by decide +kernel) rfl) (snd_sq (snd_iload_n (k := 3) (by decide +kernel) rfl) (snd_sq (snd_iconst (k := 2) (by decide) (by decide +kernel)) (snd_sq (snd_iadd (by decide +kernel)) (snd_sq (snd_ialdX (by decide +kernel)) (snd_sq (snd_aload_n (k := 0) (by decide +kernel) rfl) (snd_sq (snd_iload_n (k := 3) (by decide +kernel) rfl) (snd_sq (snd_iconst (k := 3) (by decide) (by decide +kernel)) (snd_sq (snd_iadd (by decide +kernel)) (snd_ialdX (by decide +kernel)))))))))))))))))
set_option maxRecDepth 20000 in
theorem c_L_law_1102 : CallV mL_law 1102 mX6_lay 6 4 := kallV (site_V rfl w747 (by decide +kernel) w744 w745 w746 w90 ⟨by decide, by decide, by decide +kernel⟩) (by decide) (by decide) (by unfold clsNo; rfl)
set_option maxRecDepth 20000 in
theorem s_L_law_1105 : Snd mL_law 1105 (sq (opLdA 2) (sq (opLdA 0) (sq (opLdI 3) (sq (opCi (1)) (sq opiadd (sq opIaldX (sq (opLdA 0) (sq (opLdI 3) (sq (opCi (2)) (sq opiadd (sq opIaldX (sq (opLdA 0) (sq (opLdI 3) (sq (opCi (3)) (sq opiadd opIaldX))))))))))))))) 1121 := (snd_sq (snd_aload_n (k := 2) (by decide +kernel) rfl) (snd_sq (snd_aload_n (k := 0) (by decide +kernel) rfl) (snd_sq (snd_iload_n (k := 3) (by decide +kernel) rfl) (snd_sq (snd_iconst (k := 1) (by decide) (by decide +kernel)) (snd_sq (snd_iadd (by decide +kernel)) (snd_sq (snd_ialdX (by decide +kernel)) (snd_sq (snd_aload_n (k := 0) (by decide +kernel) rfl) (snd_sq (snd_iload_n (k := 3) (by decide +kernel) rfl) (snd_sq (snd_iconst (k := 2) (by decide) (by decide +kernel)) (snd_sq (snd_iadd (by decide +kernel)) (snd_sq (snd_ialdX (by decide +kernel)) (snd_sq (snd_aload_n (k := 0) (by decide +kernel) rfl) (snd_sq (snd_iload_n (k := 3) (by decide +kernel) rfl) (snd_sq (snd_iconst (k := 3) (by decide) (by decide +kernel)) (snd_sq (snd_iadd (by decide +kernel)) (snd_ialdX (by decide +kernel)))))))))))))))))
set_option maxRecDepth 20000 in
theorem c_L_law_1121 : CallV mL_law 1121 mX7_lay 7 4 := kallV (site_V rfl w1187 (by decide +kernel) w1184 w1185 w1186 w97 ⟨by decide, by decide, by decide +kernel⟩) (by decide) (by decide) (by unfold clsNo; rfl)
set_option maxRecDepth 20000 in
theorem b_L_law_1124 : Br_ic_eq mL_law 1124 1360 := br_ic_eq (off := 236) (by decide +kernel) (by decide)
set_option maxRecDepth 20000 in
theorem s_L_law_1127 : Snd mL_law 1127 (opCi (0)) 1128 := (snd_iconst (k := 0) (by decide) (by decide +kernel))
set_option maxRecDepth 20000 in
theorem r_L_law_1128 : RtZ mL_law 1128 := rt_Z (by decide +kernel) rfl
set_option maxRecDepth 20000 in
theorem s_L_law_1129 : Snd mL_law 1129 (sq (opLdA 1) (sq (opLdA 0) (sq (opLdI 3) (sq (opCi (1)) (sq opiadd (sq opIaldX (sq (opLdA 0) (sq (opLdI 3) (sq (opCi (2)) (sq opiadd opIaldX)))))))))) 1140 := (snd_sq (snd_aload_n (k := 1) (by decide +kernel) rfl) (snd_sq (snd_aload_n (k := 0) (by decide +kernel) rfl) (snd_sq (snd_iload_n (k := 3) (by decide +kernel) rfl) (snd_sq (snd_iconst (k := 1) (by decide) (by decide +kernel)) (snd_sq (snd_iadd (by decide +kernel)) (snd_sq (snd_ialdX (by decide +kernel)) (snd_sq (snd_aload_n (k := 0) (by decide +kernel) rfl) (snd_sq (snd_iload_n (k := 3) (by decide +kernel) rfl) (snd_sq (snd_iconst (k := 2) (by decide) (by decide +kernel)) (snd_sq (snd_iadd (by decide +kernel)) (snd_ialdX (by decide +kernel))))))))))))
set_option maxRecDepth 20000 in
theorem c_L_law_1140 : CallV mL_law 1140 mX6_take 6 3 := kallV (site_V rfl w759 (by decide +kernel) w756 w757 w758 w90 ⟨by decide, by decide, by decide +kernel⟩) (by decide) (by decide) (by unfold clsNo; rfl)
set_option maxRecDepth 20000 in
theorem s_L_law_1143 : Snd mL_law 1143 (sq (opLdA 2) (sq (opLdA 0) (sq (opLdI 3) (sq (opCi (1)) (sq opiadd (sq opIaldX (sq (opLdA 0) (sq (opLdI 3) (sq (opCi (2)) (sq opiadd opIaldX)))))))))) 1154 := (snd_sq (snd_aload_n (k := 2) (by decide +kernel) rfl) (snd_sq (snd_aload_n (k := 0) (by decide +kernel) rfl) (snd_sq (snd_iload_n (k := 3) (by decide +kernel) rfl) (snd_sq (snd_iconst (k := 1) (by decide) (by decide +kernel)) (snd_sq (snd_iadd (by decide +kernel)) (snd_sq (snd_ialdX (by decide +kernel)) (snd_sq (snd_aload_n (k := 0) (by decide +kernel) rfl) (snd_sq (snd_iload_n (k := 3) (by decide +kernel) rfl) (snd_sq (snd_iconst (k := 2) (by decide) (by decide +kernel)) (snd_sq (snd_iadd (by decide +kernel)) (snd_ialdX (by decide +kernel))))))))))))
set_option maxRecDepth 20000 in
theorem c_L_law_1154 : CallV mL_law 1154 mX7_take 7 3 := kallV (site_V rfl w1195 (by decide +kernel) w1192 w1193 w1194 w97 ⟨by decide, by decide, by decide +kernel⟩) (by decide) (by decide) (by unfold clsNo; rfl)
set_option maxRecDepth 20000 in
theorem b_L_law_1157 : Br_ic_eq mL_law 1157 1360 := br_ic_eq (off := 203) (by decide +kernel) (by decide)
set_option maxRecDepth 20000 in
theorem s_L_law_1160 : Snd mL_law 1160 (opCi (0)) 1161 := (snd_iconst (k := 0) (by decide) (by decide +kernel))
set_option maxRecDepth 20000 in
theorem r_L_law_1161 : RtZ mL_law 1161 := rt_Z (by decide +kernel) rfl
set_option maxRecDepth 20000 in
theorem s_L_law_1162 : Snd mL_law 1162 (sq (opLdA 1) (sq (opLdA 0) (sq (opLdI 3) (sq (opCi (1)) (sq opiadd (sq opIaldX (sq (opLdA 0) (sq (opLdI 3) (sq (opCi (2)) (sq opiadd opIaldX)))))))))) 1173 := (snd_sq (snd_aload_n (k := 1) (by decide +kernel) rfl) (snd_sq (snd_aload_n (k := 0) (by decide +kernel) rfl) (snd_sq (snd_iload_n (k := 3) (by decide +kernel) rfl) (snd_sq (snd_iconst (k := 1) (by decide) (by decide +kernel)) (snd_sq (snd_iadd (by decide +kernel)) (snd_sq (snd_ialdX (by decide +kernel)) (snd_sq (snd_aload_n (k := 0) (by decide +kernel) rfl) (snd_sq (snd_iload_n (k := 3) (by decide +kernel) rfl) (snd_sq (snd_iconst (k := 2) (by decide) (by decide +kernel)) (snd_sq (snd_iadd (by decide +kernel)) (snd_ialdX (by decide +kernel))))))))))))
set_option maxRecDepth 20000 in
theorem c_L_law_1173 : CallV mL_law 1173 mX6_same 6 3 := kallV (site_V rfl w763 (by decide +kernel) w760 w761 w762 w90 ⟨by decide, by decide, by decide +kernel⟩) (by decide) (by decide) (by unfold clsNo; rfl)
set_option maxRecDepth 20000 in
theorem s_L_law_1176 : Snd mL_law 1176 (sq (opLdA 2) (sq (opLdA 0) (sq (opLdI 3) (sq (opCi (1)) (sq opiadd (sq opIaldX (sq (opLdA 0) (sq (opLdI 3) (sq (opCi (2)) (sq opiadd opIaldX)))))))))) 1187 := (snd_sq (snd_aload_n (k := 2) (by decide +kernel) rfl) (snd_sq (snd_aload_n (k := 0) (by decide +kernel) rfl) (snd_sq (snd_iload_n (k := 3) (by decide +kernel) rfl) (snd_sq (snd_iconst (k := 1) (by decide) (by decide +kernel)) (snd_sq (snd_iadd (by decide +kernel)) (snd_sq (snd_ialdX (by decide +kernel)) (snd_sq (snd_aload_n (k := 0) (by decide +kernel) rfl) (snd_sq (snd_iload_n (k := 3) (by decide +kernel) rfl) (snd_sq (snd_iconst (k := 2) (by decide) (by decide +kernel)) (snd_sq (snd_iadd (by decide +kernel)) (snd_ialdX (by decide +kernel))))))))))))
set_option maxRecDepth 20000 in
theorem c_L_law_1187 : CallV mL_law 1187 mX7_same 7 3 := kallV (site_V rfl w1199 (by decide +kernel) w1196 w1197 w1198 w97 ⟨by decide, by decide, by decide +kernel⟩) (by decide) (by decide) (by unfold clsNo; rfl)
set_option maxRecDepth 20000 in
theorem b_L_law_1190 : Br_ic_eq mL_law 1190 1360 := br_ic_eq (off := 170) (by decide +kernel) (by decide)
set_option maxRecDepth 20000 in
theorem s_L_law_1193 : Snd mL_law 1193 (opCi (0)) 1194 := (snd_iconst (k := 0) (by decide) (by decide +kernel))
set_option maxRecDepth 20000 in
theorem r_L_law_1194 : RtZ mL_law 1194 := rt_Z (by decide +kernel) rfl
set_option maxRecDepth 20000 in
theorem s_L_law_1195 : Snd mL_law 1195 (sq (opLdA 1) (sq (opLdA 0) (sq (opLdI 3) (sq (opCi (1)) (sq opiadd (sq opIaldX (sq (opLdA 0) (sq (opLdI 3) (sq (opCi (2)) (sq opiadd (sq opIaldX (sq (opLdA 0) (sq (opLdI 3) (sq (opCi (3)) (sq opiadd (sq opIaldX (sq (opLdA 0) (sq (opLdI 3) (sq (opCi (4)) (sq opiadd (sq opIaldX (sq (opLdA 0) (sq (opLdI 3) (sq (opCi (5)) (sq opiadd opIaldX))))))))))))))))))))))))) 1221 := (snd_sq (snd_aload_n (k := 1) (by decide +kernel) rfl) (snd_sq (snd_aload_n (k := 0) (by decide +kernel) rfl) (snd_sq (snd_iload_n (k := 3) (by decide +kernel) rfl) (snd_sq (snd_iconst (k := 1) (by decide) (by decide +kernel)) (snd_sq (snd_iadd (by decide +kernel)) (snd_sq (snd_ialdX (by decide +kernel)) (snd_sq (snd_aload_n (k := 0) (by decide +kernel) rfl) (snd_sq (snd_iload_n (k := 3) (by decide +kernel) rfl) (snd_sq (snd_iconst (k := 2) (by decide) (by decide +kernel)) (snd_sq (snd_iadd (by decide +kernel)) (snd_sq (snd_ialdX (by decide +kernel)) (snd_sq (snd_aload_n (k := 0) (by decide +kernel) rfl) (snd_sq (snd_iload_n (k := 3) (by decide +kernel) rfl) (snd_sq (snd_iconst (k := 3) (by decide) (by decide +kernel)) (snd_sq (snd_iadd (by decide +kernel)) (snd_sq (snd_ialdX (by decide +kernel)) (snd_sq (snd_aload_n (k := 0) (by decide +kernel) rfl) (snd_sq (snd_iload_n (k := 3) (by decide +kernel) rfl) (snd_sq (snd_iconst (k := 4) (by decide) (by decide +kernel)) (snd_sq (snd_iadd (by decide +kernel)) (snd_sq (snd_ialdX (by decide +kernel)) (snd_sq (snd_aload_n (k := 0) (by decide +kernel) rfl) (snd_sq (snd_iload_n (k := 3) (by decide +kernel) rfl) (snd_sq (snd_iconst (k := 5) (by decide) (by decide +kernel)) (snd_sq (snd_iadd (by decide +kernel)) (snd_ialdX (by decide +kernel)))))))))))))))))))))))))))
set_option maxRecDepth 20000 in
theorem c_L_law_1221 : CallV mL_law 1221 mX6_move 6 6 := kallV (site_V rfl w771 (by decide +kernel) w768 w769 w770 w90 ⟨by decide, by decide, by decide +kernel⟩) (by decide) (by decide) (by unfold clsNo; rfl)
set_option maxRecDepth 20000 in
theorem s_L_law_1224 : Snd mL_law 1224 (sq (opLdA 2) (sq (opLdA 0) (sq (opLdI 3) (sq (opCi (1)) (sq opiadd (sq opIaldX (sq (opLdA 0) (sq (opLdI 3) (sq (opCi (2)) (sq opiadd (sq opIaldX (sq (opLdA 0) (sq (opLdI 3) (sq (opCi (3)) (sq opiadd (sq opIaldX (sq (opLdA 0) (sq (opLdI 3) (sq (opCi (4)) (sq opiadd (sq opIaldX (sq (opLdA 0) (sq (opLdI 3) (sq (opCi (5)) (sq opiadd opIaldX))))))))))))))))))))))))) 1250 := (snd_sq (snd_aload_n (k := 2) (by decide +kernel) rfl) (snd_sq (snd_aload_n (k := 0) (by decide +kernel) rfl) (snd_sq (snd_iload_n (k := 3) (by decide +kernel) rfl) (snd_sq (snd_iconst (k := 1) (by decide) (by decide +kernel)) (snd_sq (snd_iadd (by decide +kernel)) (snd_sq (snd_ialdX (by decide +kernel)) (snd_sq (snd_aload_n (k := 0) (by decide +kernel) rfl) (snd_sq (snd_iload_n (k := 3) (by decide +kernel) rfl) (snd_sq (snd_iconst (k := 2) (by decide) (by decide +kernel)) (snd_sq (snd_iadd (by decide +kernel)) (snd_sq (snd_ialdX (by decide +kernel)) (snd_sq (snd_aload_n (k := 0) (by decide +kernel) rfl) (snd_sq (snd_iload_n (k := 3) (by decide +kernel) rfl) (snd_sq (snd_iconst (k := 3) (by decide) (by decide +kernel)) (snd_sq (snd_iadd (by decide +kernel)) (snd_sq (snd_ialdX (by decide +kernel)) (snd_sq (snd_aload_n (k := 0) (by decide +kernel) rfl) (snd_sq (snd_iload_n (k := 3) (by decide +kernel) rfl) (snd_sq (snd_iconst (k := 4) (by decide) (by decide +kernel)) (snd_sq (snd_iadd (by decide +kernel)) (snd_sq (snd_ialdX (by decide +kernel)) (snd_sq (snd_aload_n (k := 0) (by decide +kernel) rfl) (snd_sq (snd_iload_n (k := 3) (by decide +kernel) rfl) (snd_sq (snd_iconst (k := 5) (by decide) (by decide +kernel)) (snd_sq (snd_iadd (by decide +kernel)) (snd_ialdX (by decide +kernel)))))))))))))))))))))))))))
set_option maxRecDepth 20000 in
theorem c_L_law_1250 : CallV mL_law 1250 mX7_move 7 6 := kallV (site_V rfl w1203 (by decide +kernel) w1200 w1201 w1202 w97 ⟨by decide, by decide, by decide +kernel⟩) (by decide) (by decide) (by unfold clsNo; rfl)
set_option maxRecDepth 20000 in
theorem b_L_law_1253 : Br_ic_eq mL_law 1253 1360 := br_ic_eq (off := 107) (by decide +kernel) (by decide)
set_option maxRecDepth 20000 in
theorem s_L_law_1256 : Snd mL_law 1256 (opCi (0)) 1257 := (snd_iconst (k := 0) (by decide) (by decide +kernel))
set_option maxRecDepth 20000 in
theorem r_L_law_1257 : RtZ mL_law 1257 := rt_Z (by decide +kernel) rfl
set_option maxRecDepth 20000 in
theorem s_L_law_1258 : Snd mL_law 1258 (sq (opLdA 1) (sq (opLdA 0) (sq (opLdI 3) (sq (opCi (1)) (sq opiadd (sq opIaldX (sq (opLdA 0) (sq (opLdI 3) (sq (opCi (2)) (sq opiadd (sq opIaldX (sq (opLdA 0) (sq (opLdI 3) (sq (opCi (3)) (sq opiadd opIaldX))))))))))))))) 1274 := (snd_sq (snd_aload_n (k := 1) (by decide +kernel) rfl) (snd_sq (snd_aload_n (k := 0) (by decide +kernel) rfl) (snd_sq (snd_iload_n (k := 3) (by decide +kernel) rfl) (snd_sq (snd_iconst (k := 1) (by decide) (by decide +kernel)) (snd_sq (snd_iadd (by decide +kernel)) (snd_sq (snd_ialdX (by decide +kernel)) (snd_sq (snd_aload_n (k := 0) (by decide +kernel) rfl) (snd_sq (snd_iload_n (k := 3) (by decide +kernel) rfl) (snd_sq (snd_iconst (k := 2) (by decide) (by decide +kernel)) (snd_sq (snd_iadd (by decide +kernel)) (snd_sq (snd_ialdX (by decide +kernel)) (snd_sq (snd_aload_n (k := 0) (by decide +kernel) rfl) (snd_sq (snd_iload_n (k := 3) (by decide +kernel) rfl) (snd_sq (snd_iconst (k := 3) (by decide) (by decide +kernel)) (snd_sq (snd_iadd (by decide +kernel)) (snd_ialdX (by decide +kernel)))))))))))))))))
set_option maxRecDepth 20000 in
theorem c_L_law_1274 : CallV mL_law 1274 mX6_states 6 4 := kallV (site_V rfl w779 (by decide +kernel) w776 w777 w778 w90 ⟨by decide, by decide, by decide +kernel⟩) (by decide) (by decide) (by unfold clsNo; rfl)
set_option maxRecDepth 20000 in
theorem s_L_law_1277 : Snd mL_law 1277 (sq (opLdA 2) (sq (opLdA 0) (sq (opLdI 3) (sq (opCi (1)) (sq opiadd (sq opIaldX (sq (opLdA 0) (sq (opLdI 3) (sq (opCi (2)) (sq opiadd (sq opIaldX (sq (opLdA 0) (sq (opLdI 3) (sq (opCi (3)) (sq opiadd opIaldX))))))))))))))) 1293 := (snd_sq (snd_aload_n (k := 2) (by decide +kernel) rfl) (snd_sq (snd_aload_n (k := 0) (by decide +kernel) rfl) (snd_sq (snd_iload_n (k := 3) (by decide +kernel) rfl) (snd_sq (snd_iconst (k := 1) (by decide) (by decide +kernel)) (snd_sq (snd_iadd (by decide +kernel)) (snd_sq (snd_ialdX (by decide +kernel)) (snd_sq (snd_aload_n (k := 0) (by decide +kernel) rfl) (snd_sq (snd_iload_n (k := 3) (by decide +kernel) rfl) (snd_sq (snd_iconst (k := 2) (by decide) (by decide +kernel)) (snd_sq (snd_iadd (by decide +kernel)) (snd_sq (snd_ialdX (by decide +kernel)) (snd_sq (snd_aload_n (k := 0) (by decide +kernel) rfl) (snd_sq (snd_iload_n (k := 3) (by decide +kernel) rfl) (snd_sq (snd_iconst (k := 3) (by decide) (by decide +kernel)) (snd_sq (snd_iadd (by decide +kernel)) (snd_ialdX (by decide +kernel)))))))))))))))))
set_option maxRecDepth 20000 in
theorem c_L_law_1293 : CallV mL_law 1293 mX7_states 7 4 := kallV (site_V rfl w1207 (by decide +kernel) w1204 w1205 w1206 w97 ⟨by decide, by decide, by decide +kernel⟩) (by decide) (by decide) (by unfold clsNo; rfl)
set_option maxRecDepth 20000 in
theorem b_L_law_1296 : Br_ic_eq mL_law 1296 1360 := br_ic_eq (off := 64) (by decide +kernel) (by decide)
set_option maxRecDepth 20000 in
theorem s_L_law_1299 : Snd mL_law 1299 (opCi (0)) 1300 := (snd_iconst (k := 0) (by decide) (by decide +kernel))
set_option maxRecDepth 20000 in
theorem r_L_law_1300 : RtZ mL_law 1300 := rt_Z (by decide +kernel) rfl
set_option maxRecDepth 20000 in
theorem s_L_law_1301 : Snd mL_law 1301 (sq (opLdA 1) (sq (opLdA 0) (sq (opLdI 3) (sq (opCi (1)) (sq opiadd opIaldX))))) 1307 := (snd_sq (snd_aload_n (k := 1) (by decide +kernel) rfl) (snd_sq (snd_aload_n (k := 0) (by decide +kernel) rfl) (snd_sq (snd_iload_n (k := 3) (by decide +kernel) rfl) (snd_sq (snd_iconst (k := 1) (by decide) (by decide +kernel)) (snd_sq (snd_iadd (by decide +kernel)) (snd_ialdX (by decide +kernel)))))))
set_option maxRecDepth 20000 in
theorem c_L_law_1307 : CallV mL_law 1307 mX6_lose 6 2 := kallV (site_V rfl w783 (by decide +kernel) w780 w781 w782 w90 ⟨by decide, by decide, by decide +kernel⟩) (by decide) (by decide) (by unfold clsNo; rfl)
set_option maxRecDepth 20000 in
theorem s_L_law_1310 : Snd mL_law 1310 (sq (opLdA 2) (sq (opLdA 0) (sq (opLdI 3) (sq (opCi (1)) (sq opiadd opIaldX))))) 1316 := (snd_sq (snd_aload_n (k := 2) (by decide +kernel) rfl) (snd_sq (snd_aload_n (k := 0) (by decide +kernel) rfl) (snd_sq (snd_iload_n (k := 3) (by decide +kernel) rfl) (snd_sq (snd_iconst (k := 1) (by decide) (by decide +kernel)) (snd_sq (snd_iadd (by decide +kernel)) (snd_ialdX (by decide +kernel)))))))
set_option maxRecDepth 20000 in
theorem c_L_law_1316 : CallV mL_law 1316 mX7_lose 7 2 := kallV (site_V rfl w1211 (by decide +kernel) w1208 w1209 w1210 w97 ⟨by decide, by decide, by decide +kernel⟩) (by decide) (by decide) (by unfold clsNo; rfl)
set_option maxRecDepth 20000 in
theorem b_L_law_1319 : Br_ic_eq mL_law 1319 1360 := br_ic_eq (off := 41) (by decide +kernel) (by decide)
set_option maxRecDepth 20000 in
theorem s_L_law_1322 : Snd mL_law 1322 (opCi (0)) 1323 := (snd_iconst (k := 0) (by decide) (by decide +kernel))
set_option maxRecDepth 20000 in
theorem r_L_law_1323 : RtZ mL_law 1323 := rt_Z (by decide +kernel) rfl
set_option maxRecDepth 20000 in
theorem s_L_law_1324 : Snd mL_law 1324 (opLdA 1) 1325 := (snd_aload_n (k := 1) (by decide +kernel) rfl)
set_option maxRecDepth 20000 in
theorem c_L_law_1325 : CallV mL_law 1325 mX6_fault 6 1 := kallV (site_V rfl w791 (by decide +kernel) w788 w789 w790 w90 ⟨by decide, by decide, by decide +kernel⟩) (by decide) (by decide) (by unfold clsNo; rfl)
set_option maxRecDepth 20000 in
theorem s_L_law_1328 : Snd mL_law 1328 (opLdA 2) 1329 := (snd_aload_n (k := 2) (by decide +kernel) rfl)
set_option maxRecDepth 20000 in
theorem c_L_law_1329 : CallV mL_law 1329 mX7_fault 7 1 := kallV (site_V rfl w1215 (by decide +kernel) w1212 w1213 w1214 w97 ⟨by decide, by decide, by decide +kernel⟩) (by decide) (by decide) (by unfold clsNo; rfl)
set_option maxRecDepth 20000 in
theorem b_L_law_1332 : Br_ic_eq mL_law 1332 1360 := br_ic_eq (off := 28) (by decide +kernel) (by decide)
set_option maxRecDepth 20000 in
theorem s_L_law_1335 : Snd mL_law 1335 (opCi (0)) 1336 := (snd_iconst (k := 0) (by decide) (by decide +kernel))
set_option maxRecDepth 20000 in
theorem r_L_law_1336 : RtZ mL_law 1336 := rt_Z (by decide +kernel) rfl
set_option maxRecDepth 20000 in
theorem s_L_law_1337 : Snd mL_law 1337 (sq (opLdA 1) (sq (opLdA 0) (sq (opLdI 3) (sq (opCi (1)) (sq opiadd opIaldX))))) 1343 := (snd_sq (snd_aload_n (k := 1) (by decide +kernel) rfl) (snd_sq (snd_aload_n (k := 0) (by decide +kernel) rfl) (snd_sq (snd_iload_n (k := 3) (by decide +kernel) rfl) (snd_sq (snd_iconst (k := 1) (by decide) (by decide +kernel)) (snd_sq (snd_iadd (by decide +kernel)) (snd_ialdX (by decide +kernel)))))))
set_option maxRecDepth 20000 in
theorem c_L_law_1343 : CallV mL_law 1343 mX6_many 6 2 := kallV (site_V rfl w795 (by decide +kernel) w792 w793 w794 w90 ⟨by decide, by decide, by decide +kernel⟩) (by decide) (by decide) (by unfold clsNo; rfl)
set_option maxRecDepth 20000 in
theorem s_L_law_1346 : Snd mL_law 1346 (sq (opLdA 2) (sq (opLdA 0) (sq (opLdI 3) (sq (opCi (1)) (sq opiadd opIaldX))))) 1352 := (snd_sq (snd_aload_n (k := 2) (by decide +kernel) rfl) (snd_sq (snd_aload_n (k := 0) (by decide +kernel) rfl) (snd_sq (snd_iload_n (k := 3) (by decide +kernel) rfl) (snd_sq (snd_iconst (k := 1) (by decide) (by decide +kernel)) (snd_sq (snd_iadd (by decide +kernel)) (snd_ialdX (by decide +kernel)))))))
set_option maxRecDepth 20000 in
theorem c_L_law_1352 : CallV mL_law 1352 mX7_many 7 2 := kallV (site_V rfl w1219 (by decide +kernel) w1216 w1217 w1218 w97 ⟨by decide, by decide, by decide +kernel⟩) (by decide) (by decide) (by unfold clsNo; rfl)
set_option maxRecDepth 20000 in
theorem b_L_law_1355 : Br_ic_eq mL_law 1355 1360 := br_ic_eq (off := 5) (by decide +kernel) (by decide)
set_option maxRecDepth 20000 in
theorem s_L_law_1358 : Snd mL_law 1358 (opCi (0)) 1359 := (snd_iconst (k := 0) (by decide) (by decide +kernel))
set_option maxRecDepth 20000 in
theorem r_L_law_1359 : RtZ mL_law 1359 := rt_Z (by decide +kernel) rfl
set_option maxRecDepth 20000 in
theorem s_L_law_1360 : Snd mL_law 1360 (sq (opInc 3 (6)) opNop) 18 := (snd_sq (snd_iinc (k := 6) (by decide +kernel) (by decide) (by decide)) (snd_goto (off := -1345) (by decide +kernel) (by decide)))
set_option maxRecDepth 20000 in
theorem s_L_law_1366 : Snd mL_law 1366 (opCi (1)) 1367 := (snd_iconst (k := 1) (by decide) (by decide +kernel))
set_option maxRecDepth 20000 in
theorem r_L_law_1367 : RtZ mL_law 1367 := rt_Z (by decide +kernel) rfl
