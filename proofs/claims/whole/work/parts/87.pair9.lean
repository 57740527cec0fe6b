/-! PAIRS: boxes -/
section PAIR9
variable {sc : Nat → Nat → Int32} {V V' : Nat} {I I1 I2 : IT} {J : JT} {f : IT} {g : JT} {C : Nat} {nx : Nat → Option Nat} {os oc : Option Nat} {K : Nat} {bx : BXT} {fa : Int32}
abbrev BR := Int32 × Int32 × BXT
def ubx (bx : BXT) (k : Nat) (q : Option (Nat × Nat × (Nat → Option Nat))) : BXT := fun c => if c = k then q else bx c
theorem ubx_s {k : Nat} {q : Option (Nat × Nat × (Nat → Option Nat))} : ubx bx k q k = q := if_pos rfl
theorem ubx_o {k c : Nat} {q : Option (Nat × Nat × (Nat → Option Nat))} (h : c ≠ k) : ubx bx k q c = bx c := if_neg h
def CFr (I I1 : IT) : Prop := ∀ o, o ≠ 0 → ¬ (30 ≤ o ∧ o ≤ 38) → I1 o = I o
def MFr (I I1 : IT) : Prop := (∀ o, o ≠ 39 → ¬ (58 ≤ o ∧ o ≤ 61) → I1 o = I o) ∧ ∀ m, m ≠ 0 → I1 39 m = I 39 m
def CBQ (I : IT) (J : JT) (q : BR) : IQ := fun r I1 J1 => r = some (.int q.1) ∧ J1 = J ∧ CFr I I1 ∧ CBX q.2.2 I1 ∧ I1 0 7 = q.2.1
def MBQ (I : IT) (J : JT) (q : BR) : IQ := fun r I1 J1 => r = some (.int q.1) ∧ J1 = J ∧ MFr I I1 ∧ RBX q.2.2 I1 ∧ I1 39 0 = q.2.1
theorem pr_b {dX dM : Nat} {mX mM : MI} {ax : List Value} {q : Nat → IT → JT → BXT → Int32 → BR} (h : ∀ (I : IT) (J : JT) (C : Nat) (nx : Nat → Option Nat) (os oc : Option Nat) (K V' : Nat) (bx : BXT) (fa : Int32), BOK C bx → CL C nx os oc K V' bx fa I J → BOK C (q C I J bx fa).2.2 ∧ CN 62 RF mX dX (.ref 0 :: ax) I J (CBQ I J (q C I J bx fa)) ∧ ∀ I1 : IT, RE I J C nx os oc K bx fa I1 J → CN 62 RF mM dM (.ref 39 :: ax) I1 J (MBQ I1 J (q C I J bx fa))) : PR sc V mX mM dX dM ax := by
  rintro I J ⟨C, nx, os, oc, K, V', bx, fa, hV, hb, hC, hR, hs⟩
  obtain ⟨h0, h1, h2⟩ := h I J C nx os oc K V' bx fa hb hC
  refine ⟨(q C I J bx fa).1, cn_mono h1 ?_⟩
  rintro r I1 J1 ⟨hr, hJ1, hf, hx, h7⟩
  obtain rfl := hJ1.symm
  have R1 : RE I J C nx os oc K bx fa I1 J := RE_fr hR (fun o a b => hf o (by omega) (by omega)) rfl
  refine ⟨hr, fun o ho => (hf o (by omega) (by omega)).trans (hs o ho), cn_mono (h2 I1 R1) ?_⟩
  rintro r2 I2 J2 ⟨hr2, hJ2, ⟨f1, f2⟩, hx2, h72⟩
  obtain rfl := hJ2.symm
  obtain ⟨c1, c2, c3, c4, c5⟩ := hC
  have C1 : CL C nx os oc K V' (q C I J bx fa).2.2 (q C I J bx fa).2.1 I1 J := by
    refine ⟨MX_cg c1 fun o ho => hf o (by omega) (by omega), LM_cg c2 (hf 19 (by decide) (by decide)) (hf 20 (by decide) (by decide)), ⟨?_, KpOk_cg c3.2 (hf 22 (by decide) (by decide)) (hf 23 (by decide) (by decide)) (hf 24 (by decide) (by decide))⟩, hx, h7⟩
    rw [hf 11 (by decide) (by decide)]; exact c3.1
  obtain ⟨r1, r2, r3, r4, r5⟩ := R1
  refine ⟨hr2, C, nx, os, oc, K, V', (q C I J bx fa).2.2, (q C I J bx fa).2.1, Nat.le_succ_of_le hV, h0, CL_cg C1 (fun o ho => f1 o (by omega) (by omega)) rfl, ⟨RB_cg r1 ⟨f2 1 (by decide), f2 9 (by decide), f2 10 (by decide)⟩ (f1 46 (by decide) (by decide)) (f1 47 (by decide) (by decide)), ?_, ?_, hx2, h72⟩, fun o ho => ?_⟩
  · refine RTm_gh (f := I) (g := J) ?_ (fun o a b => (f1 o (by omega) (by omega)).trans (hf o (by omega) (by omega))) rfl
    unfold RTm at *
    rw [f1 40 (by decide) (by decide), f1 41 (by decide) (by decide), f1 42 (by decide) (by decide), f1 43 (by decide) (by decide), f1 44 (by decide) (by decide)]; exact r2
  · rw [f2 16 (by decide), f1 51 (by decide) (by decide), f1 52 (by decide) (by decide), f1 20 (by decide) (by decide), f1 21 (by decide) (by decide), hf 20 (by decide) (by decide), hf 21 (by decide) (by decide)]; exact r3
  · rw [f1 o (by omega) (by omega), hf o (by omega) (by omega), hs o ho]
theorem CBX_f (h : CBX bx I) (w : Int32) : CBX bx (up2 I 0 7 w) := CBX_cg h fun o a b => up2_o (by omega)
theorem RBX_f (h : RBX bx I) (w : Int32) : RBX bx (up2 I 39 0 w) := RBX_cg h (up2_o (by decide)) (up2_o (by decide)) (up2_o (by decide))
theorem CFr_r (I : IT) : CFr I I := fun _ _ _ => rfl
theorem CFr_t (h : CFr I I1) (h2 : CFr I1 I2) : CFr I I2 := fun o a b => (h2 o a b).trans (h o a b)
theorem CFr_0 {m : Nat} (w : Int32) : CFr I (up2 I 0 m w) := fun o a _ => up2_o a
theorem CFr_u {o m : Nat} {w : Int32} (h : 30 ≤ o ∧ o ≤ 38) : CFr I (up2 I o m w) := fun q _ b => up2_o (by omega)
theorem CFr_l {o n : Nat} {w : Nat → Int32} (h : 30 ≤ o ∧ o ≤ 38) : CFr I (fl I o w n) := fun q _ b => fl_o (by omega)
theorem MFr_r (I : IT) : MFr I I := ⟨fun _ _ _ => rfl, fun _ _ => rfl⟩
theorem MFr_t (h : MFr I I1) (h2 : MFr I1 I2) : MFr I I2 := ⟨fun o a b => (h2.1 o a b).trans (h.1 o a b), fun m a => (h2.2 m a).trans (h.2 m a)⟩
theorem MFr_0 (w : Int32) : MFr I (up2 I 39 0 w) := ⟨fun o a _ => up2_o a, fun m a => up2_k a⟩
theorem MFr_u {o m : Nat} {w : Int32} (h : 58 ≤ o ∧ o ≤ 61) : MFr I (up2 I o m w) := ⟨fun q _ b => up2_o (by omega), fun m a => by rw [up2_o (by omega)]⟩
theorem bO_ne {b c : Nat} (h : c ≠ b) : bO c ≠ bO b ∧ bP c ≠ bP b ∧ bO c ≠ bP b ∧ bP c ≠ bO b := by
  show 30 + 2 * c ≠ 30 + 2 * b ∧ 31 + 2 * c ≠ 31 + 2 * b ∧ 30 + 2 * c ≠ 31 + 2 * b ∧ 31 + 2 * c ≠ 30 + 2 * b
  omega
theorem CBX_u {k : Nat} {q : Option (Nat × Nat × (Nat → Option Nat))} (h : CBX bx I) (ho : ∀ c, c < 4 → c ≠ k → I1 (bO c) = I (bO c) ∧ I1 (bP c) = I (bP c)) (hk : (q = none → I1 (bO k) 2 = -9) ∧ ∀ so l p, q = some (so, l, p) → I1 (bO k) 1 = nI so ∧ I1 (bO k) 2 = nI l ∧ ∀ i, i < 8 → I1 (bP k) i = o2i (p i)) : CBX (ubx bx k q) I1 := by
  intro c hc
  by_cases e : c = k
  · subst e; rw [ubx_s]; exact hk
  · rw [ubx_o e, (ho c hc e).1, (ho c hc e).2]; exact h c hc
theorem RBX_u {k : Nat} {q : Option (Nat × Nat × (Nat → Option Nat))} (h : RBX bx I) (ho : ∀ c, c < 4 → c ≠ k → I1 58 c = I 58 c ∧ I1 59 c = I 59 c ∧ ∀ i, i < 8 → I1 60 (8 * c + i) = I 60 (8 * c + i)) (hk : (q = none → I1 58 k = -9) ∧ ∀ so l p, q = some (so, l, p) → I1 58 k = nI so ∧ I1 59 k = nI l ∧ ∀ i, i < 8 → I1 60 (8 * k + i) = o2i (p i)) : RBX (ubx bx k q) I1 := by
  intro c hc
  by_cases e : c = k
  · subst e; rw [ubx_s]; exact hk
  · obtain ⟨o1, o2, o3⟩ := ho c hc e
    rw [ubx_o e, o1, o2]
    refine ⟨(h c hc).1, fun so l p hq => ?_⟩
    obtain ⟨e1, e2, e3⟩ := (h c hc).2 so l p hq
    exact ⟨e1, e2, fun i hi => (o3 i hi).trans (e3 i hi)⟩
theorem BOK_u {k : Nat} {q : Option (Nat × Nat × (Nat → Option Nat))} (h : BOK C bx) (hk : ∀ so l p, q = some (so, l, p) → so < 4 ∧ l ≤ 8 ∧ ∀ i t, i < 8 → p i = some t → t < C) : BOK C (ubx bx k q) := by
  intro c so l p hc he
  by_cases e : c = k
  · subst e; rw [ubx_s] at he; exact hk so l p he
  · rw [ubx_o e] at he; exact h c so l p hc he
-- take
def tkS (bx : BXT) (b i : Int32) : BR := match ltB b 4 with
  | false => (-1, 0, bx)
  | true => match bx b.toNatClampNeg with
    | none => (-11, 1, bx)
    | some q => match hsB q.2.1 i with
      | false => (-13, 3, bx)
      | true => (o2i (q.2.2 i.toNatClampNeg), 0, bx)
theorem ct_X6_take (hb : BOK C bx) (hx : CBX bx I) (b i : Int32) : CN 62 RF mX6_take 1 [.ref 0, .int b, .int i] I J (CBQ I J (tkS bx b i)) := by
  unfold tkS
  refine cn_of (by decide) rfl (Nat.le_of_ble_eq_true rfl) ?_
  refine blk s_X6_take_0 (nm ?_)
  have hx0 := CBX_f hx 0
  have hf0 : CFr I (up2 I 0 7 0) := CFr_0 0
  have h70 : up2 I 0 7 0 0 7 = 0 := up2_s
  generalize up2 I 0 7 0 = I0 at hx0 hf0 h70 ⊢
  refine c_X6_take_6 (ct_X6_isBox b) rfl (by decide) rfl (Nat.le_of_ble_eq_true rfl) (rx ?_)
  cases hB : ltB b 4 with
  | false =>
    refine b_X6_take_9 (fun h => absurd rfl h) (fun h => ?_)
    refine blk s_X6_take_12 (nm ?_)
    exact r_X6_take_13 ⟨rfl, rfl, hf0, hx0, h70⟩
  | true =>
    obtain ⟨k, hk, rfl⟩ := lt_ex (N := 4) (by decide) hB
    refine b_X6_take_9 (fun h => ?_) (fun h => absurd h (by decide))
    rw [cl k]
    rcases b4 hk with rfl | rfl | rfl | rfl
    all_goals
      refine blk s_X6_take_14 (And.intro (ib hk) (nm ?_))
      refine c_X6_take_22 (ct_X0_hasRow hk) rfl (by decide) rfl (Nat.le_of_ble_eq_true rfl) (by decide) rfl (rx ?_)
      rw [hr_bx hb hx0 hk]
      cases e : bx _ with
      | none =>
        refine b_X6_take_25 (fun h => absurd rfl h) (fun h => ?_)
        refine blk s_X6_take_28 (nm ?_)
        refine c_X6_take_30 (ct_X6_faulted 1) rfl (by decide) rfl (Nat.le_of_ble_eq_true rfl) (by decide) rfl (rx ?_)
        exact r_X6_take_33 ⟨rfl, rfl, CFr_t hf0 (CFr_0 1), CBX_f hx0 1, up2_s⟩
      | some q =>
        obtain ⟨so, l, p⟩ := q
        obtain ⟨x1, x2, x3⟩ := (hx0 _ hk).2 so l p e
        have hl := (hb _ so l p hk e).2.1
        refine b_X6_take_25 (fun h => ?_) (fun h => absurd h (show ¬ b2i true = 0 by decide))
        refine blk s_X6_take_34 (nm ?_)
        refine c_X6_take_36 (ct_X0_hasPlace hk i) rfl (by decide) rfl (Nat.le_of_ble_eq_true rfl) (by decide) rfl (rx ?_)
        rw [x2, show hpB i (nI l) = hsB l i from rfl]
        cases hi : hsB l i with
        | false =>
          refine b_X6_take_39 (fun h => absurd rfl h) (fun h => ?_)
          refine blk s_X6_take_42 (nm ?_)
          refine c_X6_take_44 (ct_X6_faulted 3) rfl (by decide) rfl (Nat.le_of_ble_eq_true rfl) (by decide) rfl (rx ?_)
          refine r_X6_take_47 ⟨?_, rfl, CFr_t hf0 (CFr_0 3), ?_, ?_⟩
          · dsimp only; rw [hi]; rfl
          · dsimp only; rw [hi]; exact CBX_f hx0 3
          · dsimp only; rw [hi]; exact up2_s
        | true =>
          obtain ⟨m, hm, rfl⟩ := hs_ex (by omega) hi
          refine b_X6_take_39 (fun h => ?_) (fun h => absurd h (by decide))
          refine blk s_X6_take_48 (And.intro (ib (show m < 8 by omega)) (nm ?_))
          refine r_X6_take_54 ⟨?_, rfl, hf0, ?_, ?_⟩
          · dsimp only; rw [hi, cl m]; exact congrArg (fun z => some (Value.int z)) (x3 m (by omega))
          · dsimp only; rw [hi]; exact hx0
          · dsimp only; rw [hi]; exact h70
theorem n58 (hb : BOK C bx) (h : RBX bx I) {b : Nat} (hb4 : b < 4) {so l : Nat} {p : Nat → Option Nat} (e : bx b = some (so, l, p)) : ¬ I 58 b = -9 := by
  rw [((h b hb4).2 so l p e).1]
  exact o2i_ne (show so < 2 ^ 31 by have := (hb b so l p hb4 e).1; omega)
theorem ix8 (k m : Nat) : (8 : Int32) * nI k + nI m = nI (8 * k + m) := by rw [show (8 : Int32) = nI 8 from rfl, nI_mul, nI_add]
theorem ct_X7_take (hb : BOK C bx) (hx : RBX bx I) (b i : Int32) : CN 62 RF mX7_take 2 [.ref 39, .int b, .int i] I J (MBQ I J (tkS bx b i)) := by
  unfold tkS
  refine cn_of (by decide) rfl (Nat.le_of_ble_eq_true rfl) ?_
  refine blk s_X7_take_0 (nm ?_)
  have hx0 := RBX_f hx 0
  have hf0 : MFr I (up2 I 39 0 0) := MFr_0 0
  have h70 : up2 I 39 0 0 39 0 = 0 := up2_s
  generalize up2 I 39 0 0 = I0 at hx0 hf0 h70 ⊢
  refine c_X7_take_6 (ct_X7_isBoxC b) rfl (by decide) rfl (Nat.le_of_ble_eq_true rfl) (rx ?_)
  cases hB : ltB b 4 with
  | false =>
    refine b_X7_take_9 (fun h => absurd rfl h) (fun h => ?_)
    refine blk s_X7_take_12 (nm ?_)
    exact r_X7_take_13 ⟨rfl, rfl, hf0, hx0, h70⟩
  | true =>
    obtain ⟨k, hk, rfl⟩ := lt_ex (N := 4) (by decide) hB
    refine b_X7_take_9 (fun h => ?_) (fun h => absurd h (by decide))
    refine blk s_X7_take_14 (And.intro (ib hk) (nm ?_))
    rw [cl k]
    cases e : bx k with
    | none =>
      rw [(hx0 k hk).1 e]
      refine b_X7_take_22 (fun h => absurd rfl h) (fun h => ?_)
      refine blk s_X7_take_25 (nm ?_)
      refine c_X7_take_27 (ct_X7_fails 1) rfl (by decide) rfl (Nat.le_of_ble_eq_true rfl) (by decide) rfl (rx ?_)
      exact r_X7_take_30 ⟨rfl, rfl, MFr_t hf0 (MFr_0 1), RBX_f hx0 1, up2_s⟩
    | some q =>
      obtain ⟨so, l, p⟩ := q
      obtain ⟨x1, x2, x3⟩ := (hx0 _ hk).2 so l p e
      have hl := (hb _ so l p hk e).2.1
      refine b_X7_take_22 (fun h => ?_) (fun h => absurd h (n58 hb hx0 hk e))
      refine blk s_X7_take_31 (And.intro (ib hk) (nm ?_))
      rw [cl k, x2]
      refine c_X7_take_41 (ct_X7_within _ _ _) rfl (by decide) rfl (Nat.le_of_ble_eq_true rfl) (rx ?_)
      rw [wi_has (show l < 2 ^ 31 by omega)]
      show EN 62 RF mX7_take 2 44 _ [.int (b2i (hsB l i))] I0 J _
      dsimp only
      cases hi : hsB l i with
      | false =>
        refine b_X7_take_44 (fun h => ?_) (fun h => absurd rfl h)
        refine blk s_X7_take_61 (nm ?_)
        refine c_X7_take_63 (ct_X7_fails 3) rfl (by decide) rfl (Nat.le_of_ble_eq_true rfl) (by decide) rfl (rx ?_)
        exact r_X7_take_66 ⟨rfl, rfl, MFr_t hf0 (MFr_0 3), RBX_f hx0 3, up2_s⟩
      | true =>
        obtain ⟨m, hm, rfl⟩ := hs_ex (by omega) hi
        refine b_X7_take_44 (fun h => absurd h (by decide)) (fun h => ?_)
        refine blk s_X7_take_47 (And.intro (show vp_in ((8 : Int32) * nI k + nI m) 32 from by rw [ix8]; exact ib (by omega)) (nm ?_))
        rw [ix8, cl (8 * k + m), x3 m (by omega), cl m]
        exact r_X7_take_66 ⟨rfl, rfl, hf0, hx0, h70⟩
theorem tkS_b (hb : BOK C bx) (b i : Int32) : BOK C (tkS bx b i).2.2 := by
  have e : (tkS bx b i).2.2 = bx := by
    unfold tkS
    cases ltB b 4 with
    | false => rfl
    | true =>
      dsimp only
      cases bx b.toNatClampNeg with
      | none => rfl
      | some q => dsimp only; cases hsB q.2.1 i <;> rfl
  rw [e]; exact hb
theorem p_take (b i : Int32) : PR sc V mX6_take mX7_take 1 2 [.int b, .int i] := pr_b (q := fun _ _ _ bx _ => tkS bx b i) fun I J C nx os oc K V' bx fa hb hC =>
  ⟨tkS_b hb b i, ct_X6_take hb hC.2.2.2.1 b i, fun I1 h1 => ct_X7_take hb h1.2.2.2.1 b i⟩
-- lose
def lsS (bx : BXT) (fa b : Int32) : BR := match ltB b 4 with
  | false => (-1, fa, bx)
  | true => match bx b.toNatClampNeg with
    | none => (0, fa, bx)
    | some _ => (1, fa, ubx bx b.toNatClampNeg none)
theorem ct_X6_lose (hb : BOK C bx) (hx : CBX bx I) (hfa : I 0 7 = fa) (b : Int32) : CN 62 RF mX6_lose 1 [.ref 0, .int b] I J (CBQ I J (lsS bx fa b)) := by
  unfold lsS
  refine cn_of (by decide) rfl (Nat.le_of_ble_eq_true rfl) ?_
  refine blk s_X6_lose_0 (nm ?_)
  refine c_X6_lose_1 (ct_X6_isBox b) rfl (by decide) rfl (Nat.le_of_ble_eq_true rfl) (rx ?_)
  cases hB : ltB b 4 with
  | false =>
    refine b_X6_lose_4 (fun h => absurd rfl h) (fun h => ?_)
    refine blk s_X6_lose_7 (nm ?_)
    exact r_X6_lose_8 ⟨rfl, rfl, CFr_r I, hx, hfa⟩
  | true =>
    obtain ⟨k, hk, rfl⟩ := lt_ex (N := 4) (by decide) hB
    refine b_X6_lose_4 (fun h => ?_) (fun h => absurd h (by decide))
    rw [cl k]
    rcases b4 hk with rfl | rfl | rfl | rfl
    all_goals
      refine blk s_X6_lose_9 (And.intro (ib hk) (nm ?_))
      refine c_X6_lose_15 (ct_X0_hasRow hk) rfl (by decide) rfl (Nat.le_of_ble_eq_true rfl) (by decide) rfl (rx ?_)
      rw [hr_bx hb hx hk]
      cases e : bx _ with
      | none =>
        refine b_X6_lose_18 (fun h => absurd rfl h) (fun h => ?_)
        refine blk s_X6_lose_21 (nm ?_)
        exact r_X6_lose_22 ⟨rfl, rfl, CFr_r I, hx, hfa⟩
      | some q =>
        refine b_X6_lose_18 (fun h => ?_) (fun h => absurd h (show ¬ b2i true = 0 by decide))
        refine blk s_X6_lose_23 (And.intro (ib hk) (nm ?_))
        refine c_X6_lose_29 (ct_X0_loseRow hk) rfl (by decide) rfl (Nat.le_of_ble_eq_true rfl) (by decide) rfl (rx ?_)
        refine blk s_X6_lose_32 (nm ?_)
        exact r_X6_lose_33 ⟨rfl, rfl, CFr_u (by decide), CBX_u hx (fun c hc hne => ⟨up2_o (bO_ne hne).1, up2_o (bO_ne hne).2.2.2⟩) ⟨fun _ => up2_s, fun so l p h => by cases h⟩, by rw [up2_o (by decide)]; exact hfa⟩
theorem ct_X7_lose (hb : BOK C bx) (hx : RBX bx I) (hfa : I 39 0 = fa) (b : Int32) : CN 62 RF mX7_lose 2 [.ref 39, .int b] I J (MBQ I J (lsS bx fa b)) := by
  unfold lsS
  refine cn_of (by decide) rfl (Nat.le_of_ble_eq_true rfl) ?_
  refine blk s_X7_lose_0 (nm ?_)
  refine c_X7_lose_1 (ct_X7_isBoxC b) rfl (by decide) rfl (Nat.le_of_ble_eq_true rfl) (rx ?_)
  cases hB : ltB b 4 with
  | false =>
    refine b_X7_lose_4 (fun h => absurd rfl h) (fun h => ?_)
    refine blk s_X7_lose_7 (nm ?_)
    exact r_X7_lose_8 ⟨rfl, rfl, MFr_r I, hx, hfa⟩
  | true =>
    obtain ⟨k, hk, rfl⟩ := lt_ex (N := 4) (by decide) hB
    have hu : RBX (ubx bx k none) (up2 I 58 k (-9)) := RBX_u hx (fun c hc hne => ⟨up2_k hne, by rw [up2_o (by decide)], fun i hi => by rw [up2_o (by decide)]⟩) ⟨fun _ => up2_s, fun so l p h => by cases h⟩
    have h9 : up2 I 58 k (-9) 39 0 = fa := by rw [up2_o (by decide)]; exact hfa
    refine b_X7_lose_4 (fun h => ?_) (fun h => absurd h (by decide))
    refine blk s_X7_lose_9 (And.intro (ib hk) (nm ?_))
    rw [cl k]
    cases e : bx k with
    | none =>
      have hi9 := (hx k hk).1 e
      rw [hi9]
      refine b_X7_lose_17 (fun h => absurd rfl h) (fun h => ?_)
      refine blk s_X7_lose_20 (nm ?_)
      refine blk s_X7_lose_25 (And.intro (ib hk) (nm ?_))
      rw [cl k, ← hi9, up2_id]
      exact r_X7_lose_35 ⟨rfl, rfl, MFr_r I, hx, hfa⟩
    | some q =>
      obtain ⟨so, l, p⟩ := q
      refine b_X7_lose_17 (fun h => ?_) (fun h => absurd h (n58 hb hx hk e))
      refine blk s_X7_lose_24 (nm ?_)
      refine blk s_X7_lose_25 (And.intro (ib hk) (nm ?_))
      rw [cl k]
      exact r_X7_lose_35 ⟨rfl, rfl, MFr_u (by decide), hu, h9⟩
theorem lsS_b (hb : BOK C bx) (b : Int32) : BOK C (lsS bx fa b).2.2 := by
  unfold lsS
  cases ltB b 4 with
  | false => exact hb
  | true =>
    dsimp only
    cases bx b.toNatClampNeg with
    | none => exact hb
    | some q => exact BOK_u hb (fun so l p h => by cases h)
theorem p_lose (b : Int32) : PR sc V mX6_lose mX7_lose 1 2 [.int b] := pr_b (q := fun _ _ _ bx fa => lsS bx fa b) fun I J C nx os oc K V' bx fa hb hC =>
  ⟨lsS_b hb b, ct_X6_lose hb hC.2.2.2.1 hC.2.2.2.2 b, fun I1 h1 => ct_X7_lose hb h1.2.2.2.1 h1.2.2.2.2 b⟩
end PAIR9
