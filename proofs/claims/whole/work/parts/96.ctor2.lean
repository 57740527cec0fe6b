/-! CONSTRUCTORS: Machine -/
def Rg (R : RT) : Prop := ∀ o k, 62 ≤ o ∨ 31 ≤ k → R o k = none
theorem nth_out {α : Type} (d : α) : ∀ (l : List α) (k : Nat), l.length ≤ k → nth d l k = d
  | [], _, _ => by unfold nth; rfl
  | a :: l, 0, h => absurd h (by simp)
  | a :: l, k + 1, h => by
    unfold nth
    exact nth_out d l k (by simp at h; omega)
theorem Rg_RF : Rg RF := by
  intro o k h
  unfold RF
  by_cases ho : 62 ≤ o
  · have hlen : RFL.length ≤ 62 := by decide +kernel
    rw [nth_out [] RFL o (Nat.le_trans hlen ho)]; exact nth_out none [] k (Nat.zero_le _)
  · have key : ∀ o, o < 62 → (nth [] RFL o).length ≤ 31 := by decide +kernel
    have := key o (by omega)
    exact nth_out none _ k (by omega)
theorem Rg_0 : Rg (fun _ _ => none) := fun _ _ _ => rfl
theorem Rg_up {R : RT} (h : Rg R) {o k : Nat} {v : Option Nat} (ho : o < 62) (hk : k < 31) : Rg (up2 R o k v) := by
  intro a b hab
  by_cases e : a = o
  · subst e
    rw [up2_k (by omega)]; exact h a b hab
  · rw [up2_o e]; exact h a b hab
theorem Rg_rs {R : RT} (h : Rg R) {o : Nat} : Rg (rs2 R o none) := by
  intro a b hab
  by_cases e : a = o
  · subst e; rw [rs2_s]
  · rw [rs2_o e]; exact h a b hab
theorem R_eq {R R' : RT} (h : Rg R) (h' : Rg R') (he : ∀ o, o < 62 → ∀ k, k < 31 → R o k = R' o k) : R = R' := by
  funext o k
  by_cases hk : 62 ≤ o ∨ 31 ≤ k
  · rw [h o k hk, h' o k hk]
  · exact he o (by omega) k (by omega)
def RA0 : RT := fun _ _ => none
def RB1 : RT := rs2 RA0 0 none
def R2 : RT := rs2 RB1 1 none
def R12 : RT := rs2 (up2 (tmR R2) 0 0 (some 1)) 11 none
def mcR (R : RT) : RT := (up2 (up2 (rs2 (up2 (rs2 (up2 (rs2 (up2 (rs2 (up2 (rs2 (up2 (rs2 (up2 (rs2 R 12 none) 11 3 (some 12)) 13 none) 11 6 (some 13)) 14 none) 11 7 (some 14)) 15 none) 11 9 (some 15)) 16 none) 11 12 (some 16)) 17 none) 11 13 (some 17)) 18 none) 11 14 (some 18)) 11 0 (some 1))
def R19 : RT := mcR R12
theorem Rg_19 : Rg R19 := by
  unfold R19 mcR R12 tmR R2 RB1
  repeat (first | exact Rg_0 | refine Rg_up ?_ (by decide) (by decide) | refine Rg_rs ?_)
theorem RM_19 : RM R19 = R19 := by
  refine R_eq (fun o k h => ?_) Rg_19 ?_
  · unfold RM
    split
    · exact Rg_RF o k h
    · exact Rg_19 o k h
  · decide +kernel
def nx0 : Nat → Option Nat := fun _ => none
theorem ct_mcR {I : IT} {J : JT} (h1 : I 1 9 = 0) : Ct mX3_init 3 [.ref 11, .ref 1] 12 R12 I J 19 (fun r R' I' J' => R' = R19 ∧ r = none ∧ MD I' J' 0 nx0 none none ∧ I' 11 8 = 1 ∧ I' 11 11 = -9 ∧ ∀ o, o < 11 ∨ 18 < o → I' o = I o) := by
  refine ct_of (by decide) rfl (Nat.le_of_ble_eq_true rfl) ?_
  refine blk s_X3_init_0 (nm ?_)
  refine o_X3_init_1 (by decide) (by decide) (nm ?_)
  refine blk s_X3_init_4 (nm ?_)
  refine n_X3_init_18 (len := 4) (by decide) (by decide) (by decide) rfl (by decide) rfl rfl (nm ?_)
  refine blk s_X3_init_20 (nm ?_)
  refine n_X3_init_37 (len := 64) (by decide) (by decide) (by decide) rfl (by decide) rfl rfl (nm ?_)
  refine blk s_X3_init_39 (nm ?_)
  refine n_X3_init_45 (len := 16) (by decide) (by decide) (by decide) rfl (by decide) rfl rfl (nm ?_)
  refine blk s_X3_init_47 (nm ?_)
  refine n_X3_init_58 (len := 16) (by decide) (by decide) (by decide) rfl (by decide) rfl rfl (nm ?_)
  refine blk s_X3_init_60 (nm ?_)
  refine n_X3_init_77 (len := 16) (by decide) (by decide) (by decide) rfl (by decide) rfl rfl (nm ?_)
  refine blk s_X3_init_79 (nm ?_)
  refine n_X3_init_85 (len := 15) (by decide) (by decide) (by decide) rfl (by decide) rfl rfl (nm ?_)
  refine blk s_X3_init_87 (nm ?_)
  refine n_X3_init_93 (len := 16) (by decide) (by decide) (by decide) rfl (by decide) rfl rfl (nm ?_)
  refine blk s_X3_init_95 (nm ?_)
  show EN 19 R19 mX3_init 3 105 [(0, .ref 11), (1, .ref 1), (2, .int 0)] [] _ _ _
  generalize hI1 : (rs2 _ _ _ : IT) = I1
  generalize (rs2 _ _ _ : JT) = J1
  have f1 : I1 1 9 = 0 := by rw [← hI1]; exact h1
  have f2 : I1 11 1 = -9 ∧ I1 11 2 = -9 ∧ I1 11 4 = 65535 ∧ I1 11 5 = 0 ∧ I1 11 8 = 0 ∧ I1 11 11 = -9 := by rw [← hI1]; exact ⟨rfl, rfl, rfl, rfl, rfl, rfl⟩
  have f3 : ∀ o, o < 11 ∨ 18 < o → I1 o = I o := fun o ho => by
    rw [← hI1]
    repeat (first | rw [up2_o (by omega)] | rw [rs2_o (by omega)])
  clear hI1
  obtain ⟨g1, g2, g4, g5, g8, g11⟩ := f2
  let X : IT := fl I1 12 (fun _ => -9) 4
  have hX : ∀ o, o ≠ 12 → X o = I1 o := fun o ho => fl_o ho
  have hNX : NXok X 0 nx0 := ⟨by rw [hX 1 (by decide)]; exact f1, by decide, fun v hv => fl_in hv, fun v t hv h => by cases h⟩
  let Y : IT := rsI X J1
  have hY : ∀ o, o ≠ 11 → o ≠ 13 → o ≠ 14 → Y o = X o := fun o o1 o3 o4 => by show fl (fl _ _ _ _) _ _ _ o = _; rw [fl_o o4, fl_o o3, up2_o o1]
  have hY11 : ∀ k, k ≠ 8 → Y 11 k = I1 11 k := fun k hk => by show fl (fl _ _ _ _) _ _ _ 11 k = _; rw [fl_o (by decide), fl_o (by decide), up2_k hk, hX 11 (by decide)]
  have hY8 : Y 11 8 = I1 11 8 + 1 := by show fl (fl _ _ _ _) _ _ _ 11 8 = _; rw [fl_o (by decide), fl_o (by decide), up2_s, hX 11 (by decide)]
  have hY13 : TOk Y (Tx J1 nx0) := ⟨fun s r hs hr => by
    show fl (fl _ _ _ _) _ _ _ 13 (16 * r + s) = _
    rw [fl_o (by decide), fl_in (by omega), ← TT_Tx hNX hs hr]
    exact bsN4 _, fun s r _ _ => Tx_lt _ _ _ _⟩
  have hY14 : ∀ s, s < 16 → Y 14 s = bs (rc (Tx J1 nx0) s) := fun s hs => by
    show fl (fl _ _ _ _) _ _ _ 14 s = _
    rw [fl_in hs]
    exact bsN_cg fun u _ => rc_cg (fun r hr => TT_Tx hNX hs hr) u
  let Z : IT := rdI Y (rc (Tx J1 nx0)) (Sx J1 none)
  have hZ : ∀ o, o ≠ 11 → o ≠ 15 → Z o = Y o := fun o o1 o2 => Sd_o o2 o1
  have hZ11 : ∀ k, k ≠ 10 → Z 11 k = Y 11 k := fun k hk => Sd_11 hk
  have h5 : I1 11 4 = bs (Sx J1 none) := g4.trans bs_all.symm
  have h6 : I1 11 5 = bs (Bx J1 none) := g5.trans (show (0 : Int32) = bs (fun _ => false) by decide +kernel)
  have hMD : MD Z J1 0 nx0 none none :=
    ⟨⟨by rw [hZ 1 (by decide) (by decide), hY 1 (by decide) (by decide) (by decide)]; exact hNX.1, by decide, fun u hu => by rw [hZ 12 (by decide) (by decide), hY 12 (by decide) (by decide) (by decide)]; exact hNX.2.2.1 u hu, hNX.2.2.2⟩,
      by rw [hZ11 1 (by decide), hY11 1 (by decide)]; exact g1, fun t h => (by cases h), by rw [hZ11 2 (by decide), hY11 2 (by decide)]; exact g2, fun t h => (by cases h), by rw [hZ11 4 (by decide), hY11 4 (by decide)]; exact h5, by rw [hZ11 5 (by decide), hY11 5 (by decide)]; exact h6,
      ⟨fun s r hs hr => by rw [hZ 13 (by decide) (by decide)]; exact hY13.1 s r hs hr, hY13.2⟩, fun s hs => by rw [hZ 14 (by decide) (by decide)]; exact hY14 s hs, fun s hs => Sd_15 hs, Sd_10⟩
  have c1 : CN 19 R19 mX3_renewSteps 2 [.ref 11] X J1 (RX none Y J1) := by
    have h := ctG_X3_renewSteps (m := 0) (R' := R19) (I := X) (J := J1) (C := 0) hNX.1 (by decide)
    rw [RM_19] at h; exact h
  have c2 : CN 19 R19 mX3_renewDistances 2 [.ref 11] Y J1 (RX none Z J1) := by
    have h := ctG_X3_renewDistances (m := 0) (R' := R19) (I := Y) (J := J1) (rr := rc (Tx J1 nx0)) (S := Sx J1 none) hY14 (by rw [hY11 4 (by decide)]; exact h5)
    rw [RM_19] at h; exact h
  have hfin : ∀ o, o < 11 ∨ 18 < o → Z o = I o := fun o ho => by
    rw [hZ o (by omega) (by omega), hY o (by omega) (by omega) (by omega), hX o (by omega)]; exact f3 o ho
  have e8 : Z 11 8 = 1 := by rw [hZ11 8 (by decide), hY8, g8]; rfl
  have e11 : Z 11 11 = -9 := by rw [hZ11 11 (by decide), hY11 11 (by decide)]; exact g11
  clear_value Z
  refine en_I (fl_0 (I := I1) (o := 12) (g := fun _ => -9)).symm ?_
  refine dn (P := fun k => EN 19 R19 mX3_init 3 105 [(0, .ref 11), (1, .ref 1), (2, .int (nI k))] [] (fl I1 12 (fun _ => -9) k) J1 (fun r I' J' => r = none ∧ MD I' J' 0 nx0 none none ∧ I' 11 8 = 1 ∧ I' 11 11 = -9 ∧ ∀ o, o < 11 ∨ 18 < o → I' o = I o)) (N := 4) (a := 0) ?_ ?_ (Nat.zero_le _)
  · refine blk s_X3_init_105 (nm ?_)
    refine b_X3_init_107 (fun h => ?_) (fun h => absurd (Int32.le_refl _) h)
    refine blk s_X3_init_124 (nm ?_)
    refine c_X3_init_125 c1 rfl (by decide) rfl (Nat.le_of_ble_eq_true rfl) (by decide) rfl (rx ?_)
    refine blk s_X3_init_128 (nm ?_)
    refine c_X3_init_129 c2 rfl (by decide) rfl (Nat.le_of_ble_eq_true rfl) (by decide) rfl (rx ?_)
    exact r_X3_init_132 ⟨rfl, hMD, e8, e11, hfin⟩
  · intro k hk ih
    refine blk s_X3_init_105 (nm ?_)
    refine b_X3_init_107 (fun h => absurd h (nI_ge hk (by decide))) (fun h => ?_)
    refine blk s_X3_init_110 (And.intro (ib hk) (nm ?_))
    rw [cl k]
    exact en_L (by rw [nI_s]) (en_I (fl_s rfl) ih)
