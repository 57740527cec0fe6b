/-! CONSTRUCTORS -/
section CTOR
variable {I : IT} {J : JT}
def tmR (R : RT) : RT := (up2 (rs2 (up2 (rs2 (up2 (rs2 (up2 (rs2 (up2 (rs2 (up2 (rs2 (up2 (rs2 (up2 (rs2 (up2 (rs2 R 2 none) 1 0 (some 2)) 3 none) 1 1 (some 3)) 4 none) 1 2 (some 4)) 5 none) 1 3 (some 5)) 6 none) 1 4 (some 6)) 7 none) 1 5 (some 7)) 8 none) 1 6 (some 8)) 9 none) 1 7 (some 9)) 10 none) 1 8 (some 10))
theorem ct_tmR {R : RT} : Ct mX4_init 1 [.ref 1] 2 R I J 11 (fun r R' I' J' => R' = tmR R ∧ r = none ∧ I' 1 9 = 0 ∧ ∀ o, o = 0 ∨ 11 ≤ o → I' o = I o) := by
  refine ct_of (by decide) rfl (Nat.le_of_ble_eq_true rfl) ?_
  refine blk s_X4_init_0 (nm ?_)
  refine o_X4_init_1 (by decide) (by decide) (nm ?_)
  refine blk s_X4_init_4 (nm ?_)
  refine n_X4_init_7 (len := 40) (by decide) (by decide) (by decide) rfl (by decide) rfl rfl (nm ?_)
  refine blk s_X4_init_9 (nm ?_)
  refine n_X4_init_15 (len := 40) (by decide) (by decide) (by decide) rfl (by decide) rfl rfl (nm ?_)
  refine blk s_X4_init_17 (nm ?_)
  refine n_X4_init_23 (len := 40) (by decide) (by decide) (by decide) rfl (by decide) rfl rfl (nm ?_)
  refine blk s_X4_init_25 (nm ?_)
  refine n_X4_init_31 (len := 40) (by decide) (by decide) (by decide) rfl (by decide) rfl rfl (nm ?_)
  refine blk s_X4_init_33 (nm ?_)
  refine n_X4_init_39 (len := 40) (by decide) (by decide) (by decide) rfl (by decide) rfl rfl (nm ?_)
  refine blk s_X4_init_41 (nm ?_)
  refine n_X4_init_47 (len := 40) (by decide) (by decide) (by decide) rfl (by decide) rfl rfl (nm ?_)
  refine blk s_X4_init_49 (nm ?_)
  refine n_X4_init_55 (len := 40) (by decide) (by decide) (by decide) rfl (by decide) rfl rfl (nm ?_)
  refine blk s_X4_init_57 (nm ?_)
  refine n_X4_init_63 (len := 40) (by decide) (by decide) (by decide) rfl (by decide) rfl rfl (nm ?_)
  refine blk s_X4_init_65 (nm ?_)
  refine n_X4_init_71 (len := 40) (by decide) (by decide) (by decide) rfl (by decide) rfl rfl (nm ?_)
  refine blk s_X4_init_73 (nm ?_)
  refine r_X4_init_81 ⟨rfl, rfl, fun o ho => ?_⟩
  repeat (first | rw [up2_o (by omega)] | rw [rs2_o (by omega)])
def lmR (R : RT) : RT := (up2 (up2 (rs2 (up2 (rs2 R 20 none) 19 1 (some 20)) 21 none) 19 2 (some 21)) 19 0 (some 11))
theorem ct_lmR {R : RT} : Ct mX2_init 1 [.ref 19, .ref 11] 20 R I J 22 (fun r R' I' J' => R' = lmR R ∧ r = none ∧ (I' 19 3 = 0 ∧ I' 19 4 = 65535) ∧ ∀ o, o < 19 ∨ 21 < o → I' o = I o) := by
  refine ct_of (by decide) rfl (Nat.le_of_ble_eq_true rfl) ?_
  refine blk s_X2_init_0 (nm ?_)
  refine o_X2_init_1 (by decide) (by decide) (nm ?_)
  refine blk s_X2_init_4 (nm ?_)
  refine n_X2_init_7 (len := 8) (by decide) (by decide) (by decide) rfl (by decide) rfl rfl (nm ?_)
  refine blk s_X2_init_9 (nm ?_)
  refine n_X2_init_15 (len := 8) (by decide) (by decide) (by decide) rfl (by decide) rfl rfl (nm ?_)
  refine blk s_X2_init_17 (nm ?_)
  refine r_X2_init_36 ⟨rfl, ⟨rfl, rfl⟩, fun o ho => ?_⟩
  repeat (first | rw [up2_o (by omega)] | rw [rs2_o (by omega)])
def chR (R : RT) : RT := (up2 (up2 (up2 (rs2 (up2 (rs2 (up2 (rs2 R 23 none) 22 2 (some 23)) 24 none) 22 3 (some 24)) 25 none) 22 4 (some 25)) 22 0 (some 11)) 22 1 (some 19))
theorem ct_chR {R : RT} : Ct mX1_init 1 [.ref 22, .ref 11, .ref 19] 23 R I J 26 (fun r R' I' J' => R' = chR R ∧ r = none ∧ (I' 22 5 = 0 ∧ I' 22 6 = -9 ∧ I' 22 9 = 0) ∧ ∀ o, o < 22 ∨ 25 < o → I' o = I o) := by
  refine ct_of (by decide) rfl (Nat.le_of_ble_eq_true rfl) ?_
  refine blk s_X1_init_0 (nm ?_)
  refine o_X1_init_1 (by decide) (by decide) (nm ?_)
  refine blk s_X1_init_4 (nm ?_)
  refine n_X1_init_7 (len := 9) (by decide) (by decide) (by decide) rfl (by decide) rfl rfl (nm ?_)
  refine blk s_X1_init_9 (nm ?_)
  refine n_X1_init_15 (len := 8) (by decide) (by decide) (by decide) rfl (by decide) rfl rfl (nm ?_)
  refine blk s_X1_init_17 (nm ?_)
  refine n_X1_init_23 (len := 9) (by decide) (by decide) (by decide) rfl (by decide) rfl rfl (nm ?_)
  refine blk s_X1_init_25 (And.intro (Or.inl rfl) (nm ?_))
  refine r_X1_init_64 ⟨rfl, ⟨rfl, rfl, rfl⟩, fun o ho => ?_⟩
  repeat (first | rw [up2_o (by omega)] | rw [rs2_o (by omega)])
def wkR (R : RT) : RT := (up2 (up2 (rs2 (up2 (rs2 R 27 none) 26 1 (some 27)) 28 none) 26 2 (some 28)) 26 0 (some 11))
theorem ct_wkR {R : RT} : Ct mX5_init 1 [.ref 26, .ref 11] 27 R I J 29 (fun r R' I' J' => R' = wkR R ∧ r = none ∧ ∀ o, o < 26 ∨ 28 < o → I' o = I o) := by
  refine ct_of (by decide) rfl (Nat.le_of_ble_eq_true rfl) ?_
  refine blk s_X5_init_0 (nm ?_)
  refine o_X5_init_1 (by decide) (by decide) (nm ?_)
  refine blk s_X5_init_4 (nm ?_)
  refine n_X5_init_7 (len := 16) (by decide) (by decide) (by decide) rfl (by decide) rfl rfl (nm ?_)
  refine blk s_X5_init_9 (nm ?_)
  refine n_X5_init_15 (len := 16) (by decide) (by decide) (by decide) rfl (by decide) rfl rfl (nm ?_)
  refine blk s_X5_init_17 (nm ?_)
  refine r_X5_init_25 ⟨rfl, fun o ho => ?_⟩
  repeat (first | rw [up2_o (by omega)] | rw [rs2_o (by omega)])
def bxR0 (R : RT) : RT := (up2 (rs2 R 31 none) 30 0 (some 31))
theorem ct_bxR0 {R : RT} : Ct mX0_init 1 [.ref 30] 31 R I J 32 (fun r R' I' J' => R' = bxR0 R ∧ r = none ∧ I' 30 2 = -9 ∧ ∀ o, o < 30 ∨ 31 < o → I' o = I o) := by
  refine ct_of (by decide) rfl (Nat.le_of_ble_eq_true rfl) ?_
  refine blk s_X0_init_0 (nm ?_)
  refine o_X0_init_1 (by decide) (by decide) (nm ?_)
  refine blk s_X0_init_4 (nm ?_)
  refine n_X0_init_7 (len := 8) (by decide) (by decide) (by decide) rfl (by decide) rfl rfl (nm ?_)
  refine blk s_X0_init_9 (nm ?_)
  refine r_X0_init_23 ⟨rfl, rfl, fun o ho => ?_⟩
  repeat (first | rw [up2_o (by omega)] | rw [rs2_o (by omega)])
def bxR1 (R : RT) : RT := (up2 (rs2 R 33 none) 32 0 (some 33))
theorem ct_bxR1 {R : RT} : Ct mX0_init 1 [.ref 32] 33 R I J 34 (fun r R' I' J' => R' = bxR1 R ∧ r = none ∧ I' 32 2 = -9 ∧ ∀ o, o < 32 ∨ 33 < o → I' o = I o) := by
  refine ct_of (by decide) rfl (Nat.le_of_ble_eq_true rfl) ?_
  refine blk s_X0_init_0 (nm ?_)
  refine o_X0_init_1 (by decide) (by decide) (nm ?_)
  refine blk s_X0_init_4 (nm ?_)
  refine n_X0_init_7 (len := 8) (by decide) (by decide) (by decide) rfl (by decide) rfl rfl (nm ?_)
  refine blk s_X0_init_9 (nm ?_)
  refine r_X0_init_23 ⟨rfl, rfl, fun o ho => ?_⟩
  repeat (first | rw [up2_o (by omega)] | rw [rs2_o (by omega)])
def bxR2 (R : RT) : RT := (up2 (rs2 R 35 none) 34 0 (some 35))
theorem ct_bxR2 {R : RT} : Ct mX0_init 1 [.ref 34] 35 R I J 36 (fun r R' I' J' => R' = bxR2 R ∧ r = none ∧ I' 34 2 = -9 ∧ ∀ o, o < 34 ∨ 35 < o → I' o = I o) := by
  refine ct_of (by decide) rfl (Nat.le_of_ble_eq_true rfl) ?_
  refine blk s_X0_init_0 (nm ?_)
  refine o_X0_init_1 (by decide) (by decide) (nm ?_)
  refine blk s_X0_init_4 (nm ?_)
  refine n_X0_init_7 (len := 8) (by decide) (by decide) (by decide) rfl (by decide) rfl rfl (nm ?_)
  refine blk s_X0_init_9 (nm ?_)
  refine r_X0_init_23 ⟨rfl, rfl, fun o ho => ?_⟩
  repeat (first | rw [up2_o (by omega)] | rw [rs2_o (by omega)])
def bxR3 (R : RT) : RT := (up2 (rs2 R 37 none) 36 0 (some 37))
theorem ct_bxR3 {R : RT} : Ct mX0_init 1 [.ref 36] 37 R I J 38 (fun r R' I' J' => R' = bxR3 R ∧ r = none ∧ I' 36 2 = -9 ∧ ∀ o, o < 36 ∨ 37 < o → I' o = I o) := by
  refine ct_of (by decide) rfl (Nat.le_of_ble_eq_true rfl) ?_
  refine blk s_X0_init_0 (nm ?_)
  refine o_X0_init_1 (by decide) (by decide) (nm ?_)
  refine blk s_X0_init_4 (nm ?_)
  refine n_X0_init_7 (len := 8) (by decide) (by decide) (by decide) rfl (by decide) rfl rfl (nm ?_)
  refine blk s_X0_init_9 (nm ?_)
  refine r_X0_init_23 ⟨rfl, rfl, fun o ho => ?_⟩
  repeat (first | rw [up2_o (by omega)] | rw [rs2_o (by omega)])
def mdR (R : RT) : RT := (up2 (rs2 (up2 (rs2 (up2 (rs2 (up2 (rs2 (up2 (rs2 (up2 (rs2 (up2 (rs2 (up2 (rs2 (up2 (rs2 (up2 (rs2 (up2 (rs2 (up2 (rs2 (up2 (rs2 (up2 (rs2 (up2 (rs2 (up2 (rs2 (up2 (rs2 (up2 (rs2 (up2 (rs2 (up2 (rs2 (up2 (rs2 (up2 (rs2 R 40 none) 39 2 (some 40)) 41 none) 39 3 (some 41)) 42 none) 39 4 (some 42)) 43 none) 39 5 (some 43)) 44 none) 39 6 (some 44)) 45 none) 39 7 (some 45)) 46 none) 39 8 (some 46)) 47 none) 39 11 (some 47)) 48 none) 39 12 (some 48)) 49 none) 39 14 (some 49)) 50 none) 39 15 (some 50)) 51 none) 39 17 (some 51)) 52 none) 39 18 (some 52)) 53 none) 39 19 (some 53)) 54 none) 39 20 (some 54)) 55 none) 39 21 (some 55)) 56 none) 39 24 (some 56)) 57 none) 39 25 (some 57)) 58 none) 39 26 (some 58)) 59 none) 39 27 (some 59)) 60 none) 39 28 (some 60)) 61 none) 39 29 (some 61))
theorem ct_mdR {R : RT} (h0 : ∀ m, I 39 m = 0) : Ct mX7_init 1 [.ref 39] 40 R I J 62 (fun r R' I' J' => R' = mdR R ∧ r = none ∧ (I' 39 0 = 0 ∧ I' 39 1 = 0 ∧ I' 39 9 = -9 ∧ I' 39 10 = -9 ∧ I' 39 16 = 0) ∧ (∀ v, v < 4 → I' 47 v = -9 ∧ I' 58 v = -9) ∧ ∀ o, o < 39 ∨ 61 < o → I' o = I o) := by
  refine ct_of (by decide) rfl (Nat.le_of_ble_eq_true rfl) ?_
  refine blk s_X7_init_0 (nm ?_)
  refine o_X7_init_1 (by decide) (by decide) (nm ?_)
  refine blk s_X7_init_4 (nm ?_)
  refine n_X7_init_7 (len := 40) (by decide) (by decide) (by decide) rfl (by decide) rfl rfl (nm ?_)
  refine blk s_X7_init_9 (nm ?_)
  refine n_X7_init_15 (len := 120) (by decide) (by decide) (by decide) rfl (by decide) rfl rfl (nm ?_)
  refine blk s_X7_init_17 (nm ?_)
  refine n_X7_init_23 (len := 40) (by decide) (by decide) (by decide) rfl (by decide) rfl rfl (nm ?_)
  refine blk s_X7_init_25 (nm ?_)
  refine n_X7_init_31 (len := 40) (by decide) (by decide) (by decide) rfl (by decide) rfl rfl (nm ?_)
  refine blk s_X7_init_33 (nm ?_)
  refine n_X7_init_39 (len := 40) (by decide) (by decide) (by decide) rfl (by decide) rfl rfl (nm ?_)
  refine blk s_X7_init_41 (nm ?_)
  refine n_X7_init_47 (len := 40) (by decide) (by decide) (by decide) rfl (by decide) rfl rfl (nm ?_)
  refine blk s_X7_init_49 (nm ?_)
  refine n_X7_init_56 (len := 2560) (by decide) (by decide) (by decide) rfl (by decide) rfl rfl (nm ?_)
  refine blk s_X7_init_58 (nm ?_)
  refine n_X7_init_75 (len := 4) (by decide) (by decide) (by decide) rfl (by decide) rfl rfl (nm ?_)
  refine blk s_X7_init_77 (And.intro rfl (And.intro (by unfold vp_in; decide) (And.intro rfl (And.intro (by unfold vp_in; decide) (And.intro rfl (And.intro (by unfold vp_in; decide) (And.intro rfl (And.intro (by unfold vp_in; decide) (nm ?_)))))))))
  refine n_X7_init_103 (len := 16) (by decide) (by decide) (by decide) rfl (by decide) rfl rfl (nm ?_)
  refine blk s_X7_init_105 (nm ?_)
  refine n_X7_init_111 (len := 17) (by decide) (by decide) (by decide) rfl (by decide) rfl rfl (nm ?_)
  refine blk s_X7_init_113 (nm ?_)
  refine n_X7_init_119 (len := 16) (by decide) (by decide) (by decide) rfl (by decide) rfl rfl (nm ?_)
  refine blk s_X7_init_121 (nm ?_)
  refine n_X7_init_127 (len := 8) (by decide) (by decide) (by decide) rfl (by decide) rfl rfl (nm ?_)
  refine blk s_X7_init_129 (nm ?_)
  refine n_X7_init_135 (len := 8) (by decide) (by decide) (by decide) rfl (by decide) rfl rfl (nm ?_)
  refine blk s_X7_init_137 (nm ?_)
  refine n_X7_init_143 (len := 9) (by decide) (by decide) (by decide) rfl (by decide) rfl rfl (nm ?_)
  refine blk s_X7_init_145 (nm ?_)
  refine n_X7_init_151 (len := 9) (by decide) (by decide) (by decide) rfl (by decide) rfl rfl (nm ?_)
  refine blk s_X7_init_153 (nm ?_)
  refine n_X7_init_159 (len := 64) (by decide) (by decide) (by decide) rfl (by decide) rfl rfl (nm ?_)
  refine blk s_X7_init_161 (nm ?_)
  refine n_X7_init_167 (len := 16) (by decide) (by decide) (by decide) rfl (by decide) rfl rfl (nm ?_)
  refine blk s_X7_init_169 (nm ?_)
  refine n_X7_init_175 (len := 16) (by decide) (by decide) (by decide) rfl (by decide) rfl rfl (nm ?_)
  refine blk s_X7_init_177 (nm ?_)
  refine n_X7_init_182 (len := 4) (by decide) (by decide) (by decide) rfl (by decide) rfl rfl (nm ?_)
  refine blk s_X7_init_184 (And.intro rfl (And.intro (by unfold vp_in; decide) (And.intro rfl (And.intro (by unfold vp_in; decide) (And.intro rfl (And.intro (by unfold vp_in; decide) (And.intro rfl (And.intro (by unfold vp_in; decide) (nm ?_)))))))))
  refine n_X7_init_209 (len := 4) (by decide) (by decide) (by decide) rfl (by decide) rfl rfl (nm ?_)
  refine blk s_X7_init_211 (nm ?_)
  refine n_X7_init_217 (len := 32) (by decide) (by decide) (by decide) rfl (by decide) rfl rfl (nm ?_)
  refine blk s_X7_init_219 (nm ?_)
  refine n_X7_init_225 (len := 8) (by decide) (by decide) (by decide) rfl (by decide) rfl rfl (nm ?_)
  refine blk s_X7_init_227 (nm ?_)
  refine r_X7_init_230 ⟨rfl, ⟨h0 0, h0 1, rfl, rfl, h0 16⟩, fun v hv => ?_, fun o ho => ?_⟩
  · rcases b4 hv with rfl | rfl | rfl | rfl <;> exact ⟨rfl, rfl⟩
  · repeat (first | rw [up2_o (by omega)] | rw [rs2_o (by omega)])
end CTOR
