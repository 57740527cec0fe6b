/-! PAIRS: same -/
section PAIR11
variable {sc : Nat → Nat → Int32} {V V' : Nat} {I I1 I2 : IT} {J : JT} {f : IT} {g : JT} {C : Nat} {nx : Nat → Option Nat} {os oc : Option Nat} {K : Nat} {bx : BXT} {fa : Int32}
def saS (bx : BXT) (b c : Int32) : BR := match ltB b 4, ltB c 4 with
  | true, true => match bx c.toNatClampNeg with
    | none => (-11, 1, bx)
    | some q => (nI q.2.1, 0, ubx bx b.toNatClampNeg (some q))
  | _, _ => (-1, 0, bx)
theorem bl_o {k q o : Nat} (h1 : o ≠ bO k) (h2 : o ≠ bP k) : blI I k q o = I o := by
  unfold blI; rw [fl_o h2, up2_o h1, up2_o h1]
theorem bl_C {k q so l : Nat} {p : Nat → Option Nat} (hk : k < 4) (hq : q < 4) (hx : CBX bx I) (e : bx q = some (so, l, p)) : CBX (ubx bx k (some (so, l, p))) (blI I k q) := by
  obtain ⟨x1, x2, x3⟩ := (hx q hq).2 so l p e
  have hOP : bO k ≠ bP k := by show 30 + 2 * k ≠ 31 + 2 * k; omega
  refine CBX_u hx (fun c hc hne => ⟨bl_o (bO_ne hne).1 (bO_ne hne).2.2.1, bl_o (bO_ne hne).2.2.2 (bO_ne hne).2.1⟩) ⟨fun h => by (cases h), fun so' l' p' h => ?_⟩
  cases h
  unfold blI
  refine ⟨?_, ?_, fun i hi => ?_⟩
  · rw [fl_o hOP, up2_k (by decide), up2_s]; exact x1
  · rw [fl_o hOP, up2_s]; exact x2
  · rw [fl_in hi]; exact x3 i hi
theorem bl_F {k q : Nat} (hk : k < 4) : CFr I (blI I k q) := by
  obtain ⟨o1, o2, o3, o4⟩ := bO_lt hk
  exact fun o a b => bl_o (by omega) (by omega)
theorem bl_z {k q : Nat} (hk : k < 4) : blI I k q 0 = I 0 := by
  obtain ⟨o1, o2, o3, o4⟩ := bO_lt hk
  exact bl_o (by omega) (by omega)
theorem bl_len {k q so l : Nat} {p : Nat → Option Nat} (hk : k < 4) (hq : q < 4) (hx : CBX bx I) (e : bx q = some (so, l, p)) : blI I k q (bO q) 2 = nI l := by
  have hfin := bl_C hk hq hx e
  by_cases ek : q = k
  · subst ek; exact ((hfin q hq).2 so l p ubx_s).2.1
  · exact ((hfin q hq).2 so l p (by rw [ubx_o ek]; exact e)).2.1
theorem ct_X6_same (hb : BOK C bx) (hx : CBX bx I) (b c : Int32) : CN 62 RF mX6_same 1 [.ref 0, .int b, .int c] I J (CBQ I J (saS bx b c)) := by
  unfold saS
  refine cn_of (by decide) rfl (Nat.le_of_ble_eq_true rfl) ?_
  refine blk s_X6_same_0 (nm ?_)
  have hx0 := CBX_f hx 0
  have hf0 : CFr I (up2 I 0 7 0) := CFr_0 0
  have h70 : up2 I 0 7 0 0 7 = 0 := up2_s
  generalize up2 I 0 7 0 = I0 at hx0 hf0 h70 ⊢
  refine c_X6_same_6 (ct_X6_isBox b) rfl (by decide) rfl (Nat.le_of_ble_eq_true rfl) (rx ?_)
  cases hB : ltB b 4 with
  | false =>
    refine b_X6_same_9 (fun h => ?_) (fun h => absurd rfl h)
    refine blk s_X6_same_19 (nm ?_)
    exact r_X6_same_20 ⟨rfl, rfl, hf0, hx0, h70⟩
  | true =>
    obtain ⟨k, hk, rfl⟩ := lt_ex (N := 4) (by decide) hB
    refine b_X6_same_9 (fun h => absurd h (by decide)) (fun h => ?_)
    refine blk s_X6_same_12 (nm ?_)
    refine c_X6_same_13 (ct_X6_isBox c) rfl (by decide) rfl (Nat.le_of_ble_eq_true rfl) (rx ?_)
    cases hC : ltB c 4 with
    | false =>
      refine b_X6_same_16 (fun h => absurd rfl h) (fun h => ?_)
      refine blk s_X6_same_19 (nm ?_)
      exact r_X6_same_20 ⟨rfl, rfl, hf0, hx0, h70⟩
    | true =>
      obtain ⟨q, hq, rfl⟩ := lt_ex (N := 4) (by decide) hC
      refine b_X6_same_16 (fun h => ?_) (fun h => absurd h (by decide))
      rw [cl k, cl q]
      rcases b4 hq with rfl | rfl | rfl | rfl
      all_goals
        refine blk s_X6_same_21 (And.intro (ib hq) (nm ?_))
        refine c_X6_same_29 (ct_X0_hasRow hq) rfl (by decide) rfl (Nat.le_of_ble_eq_true rfl) (by decide) rfl (rx ?_)
        rw [hr_bx hb hx0 hq]
        cases e : bx _ with
        | none =>
          refine b_X6_same_32 (fun h => absurd rfl h) (fun h => ?_)
          refine blk s_X6_same_35 (nm ?_)
          refine c_X6_same_37 (ct_X6_faulted 1) rfl (by decide) rfl (Nat.le_of_ble_eq_true rfl) (by decide) rfl (rx ?_)
          exact r_X6_same_40 ⟨rfl, rfl, CFr_t hf0 (CFr_0 1), CBX_f hx0 1, up2_s⟩
        | some qq =>
          obtain ⟨so, l, p⟩ := qq
          obtain ⟨x1, x2, x3⟩ := (hx0 _ hq).2 so l p e
          refine b_X6_same_32 (fun h => ?_) (fun h => absurd h (show ¬ b2i true = 0 by decide))
          rcases b4 hk with rfl | rfl | rfl | rfl
          all_goals
            refine blk s_X6_same_41 (And.intro (ib hk) (nm ?_))
            refine c_X6_same_48 (ct_X0_becomeLike hk hq) rfl (by decide) rfl (Nat.le_of_ble_eq_true rfl) (by decide) rfl (rx ?_)
            refine blk s_X6_same_51 (nm ?_)
            exact r_X6_same_55 ⟨congrArg (fun z => some (Value.int z)) (bl_len hk hq hx0 e), rfl, CFr_t hf0 (bl_F hk), bl_C hk hq hx0 e, by rw [bl_z hk]; exact h70⟩
theorem ct_X7_same (hb : BOK C bx) (hx : RBX bx I) (b c : Int32) : CN 62 RF mX7_same 2 [.ref 39, .int b, .int c] I J (MBQ I J (saS bx b c)) := by
  unfold saS
  refine cn_of (by decide) rfl (Nat.le_of_ble_eq_true rfl) ?_
  refine blk s_X7_same_0 (nm ?_)
  have hx0 := RBX_f hx 0
  have hf0 : MFr I (up2 I 39 0 0) := MFr_0 0
  have h70 : up2 I 39 0 0 39 0 = 0 := up2_s
  generalize up2 I 39 0 0 = I0 at hx0 hf0 h70 ⊢
  refine c_X7_same_6 (ct_X7_isBoxC b) rfl (by decide) rfl (Nat.le_of_ble_eq_true rfl) (rx ?_)
  cases hB : ltB b 4 with
  | false =>
    refine b_X7_same_9 (fun h => ?_) (fun h => absurd rfl h)
    refine blk s_X7_same_19 (nm ?_)
    exact r_X7_same_20 ⟨rfl, rfl, hf0, hx0, h70⟩
  | true =>
    obtain ⟨k, hk, rfl⟩ := lt_ex (N := 4) (by decide) hB
    refine b_X7_same_9 (fun h => absurd h (by decide)) (fun h => ?_)
    refine blk s_X7_same_12 (nm ?_)
    refine c_X7_same_13 (ct_X7_isBoxC c) rfl (by decide) rfl (Nat.le_of_ble_eq_true rfl) (rx ?_)
    cases hC : ltB c 4 with
    | false =>
      refine b_X7_same_16 (fun h => absurd rfl h) (fun h => ?_)
      refine blk s_X7_same_19 (nm ?_)
      exact r_X7_same_20 ⟨rfl, rfl, hf0, hx0, h70⟩
    | true =>
      obtain ⟨q, hq, rfl⟩ := lt_ex (N := 4) (by decide) hC
      refine b_X7_same_16 (fun h => ?_) (fun h => absurd h (by decide))
      refine blk s_X7_same_21 (And.intro (ib hq) (nm ?_))
      rw [cl k, cl q]
      dsimp only
      cases e : bx q with
      | none =>
        rw [(hx0 q hq).1 e]
        refine b_X7_same_29 (fun h => absurd rfl h) (fun h => ?_)
        refine blk s_X7_same_32 (nm ?_)
        refine c_X7_same_34 (ct_X7_fails 1) rfl (by decide) rfl (Nat.le_of_ble_eq_true rfl) (by decide) rfl (rx ?_)
        exact r_X7_same_37 ⟨rfl, rfl, MFr_t hf0 (MFr_0 1), RBX_f hx0 1, up2_s⟩
      | some qq =>
        obtain ⟨so, l, p⟩ := qq
        obtain ⟨x1, x2, x3⟩ := (hx0 _ hq).2 so l p e
        refine b_X7_same_29 (fun h => ?_) (fun h => absurd h (n58 hb hx0 hq e))
        refine blk s_X7_same_38 (And.intro (ib hq) (And.intro (ib hk) (And.intro (ib hq) (And.intro (ib hk) (nm ?_)))))
        rw [cl k, cl q, up2_o (show (59 : Nat) ≠ 58 by decide), x1, x2]
        dsimp only
        generalize hI1 : up2 (up2 I0 58 k (nI so)) 59 k (nI l) = I1
        have hfr : MFr I I1 := by rw [← hI1]; exact MFr_t hf0 (MFr_t (MFr_u (o := 58) (by decide)) (MFr_u (o := 59) (by decide)))
        have e60 : I1 60 = I0 60 := by rw [← hI1, up2_o (by decide), up2_o (by decide)]
        refine en_I (plI_0 (I := I1) (k := k) (v := fun i => o2i (p i))).symm ?_
        refine dn (P := fun i => EN 62 RF mX7_same 2 64 [(0, .ref 39), (1, .int (nI k)), (2, .int (nI q)), (3, .int (nI i))] [] (plI I1 k (fun i => o2i (p i)) i) J (MBQ I J (nI l, 0, ubx bx k (some (so, l, p))))) (N := 8) (a := 0) ?_ ?_ (Nat.zero_le _)
        · refine blk s_X7_same_64 (nm ?_)
          refine b_X7_same_67 (fun h => ?_) (fun h => absurd (Int32.le_refl _) h)
          refine blk s_X7_same_98 (And.intro (ib hk) (nm ?_))
          have e58 : plI I1 k (fun i => o2i (p i)) 8 58 = up2 I0 58 k (nI so) 58 := by rw [plI_o (by decide), ← hI1, up2_o (by decide)]
          have e59 : plI I1 k (fun i => o2i (p i)) 8 59 = up2 (up2 I0 58 k (nI so)) 59 k (nI l) 59 := by rw [plI_o (by decide), ← hI1]
          rw [cl k]
          refine r_X7_same_104 ⟨?_, rfl, MFr_t hfr MFr_p, RBX_u hx0 (fun c hc hne => ⟨?_, ?_, fun i hi => ?_⟩) ⟨fun h => by (cases h), fun so' l' p' h => ?_⟩, ?_⟩
          · rw [e59, up2_s]
          · rw [e58, up2_k hne]
          · rw [e59, up2_k hne, up2_o (by decide)]
          · rw [plI_out (by decide) hne hi, e60]
          · cases h
            exact ⟨by rw [e58, up2_s], by rw [e59, up2_s], fun i hi => by rw [plI_in hi]⟩
          · rw [plI_o (by decide), ← hI1, up2_o (by decide), up2_o (by decide)]; exact h70
        · intro i hi ih
          refine blk s_X7_same_64 (nm ?_)
          refine b_X7_same_67 (fun h => absurd h (nI_ge hi (by decide))) (fun h => ?_)
          refine blk s_X7_same_70 (And.intro (show vp_in ((8 : Int32) * nI q + nI i) 32 from by rw [ix8]; exact ib (by omega)) (And.intro (show vp_in ((8 : Int32) * nI k + nI i) 32 from by rw [ix8]; exact ib (by omega)) (nm ?_)))
          rw [ix8, ix8, cl (8 * k + i), cl (8 * q + i)]
          have hv : plI I1 k (fun i => o2i (p i)) i 60 (8 * q + i) = o2i (p i) := by
            by_cases ek : q = k
            · subst ek
              unfold plI; rw [if_neg (by omega), e60]; exact x3 i hi
            · rw [plI_out (by omega) ek hi, e60]; exact x3 i hi
          exact en_L (by rw [nI_s]) (en_I (plI_s hv) ih)
theorem saS_b (hb : BOK C bx) (b c : Int32) : BOK C (saS bx b c).2.2 := by
  unfold saS
  cases hB : ltB b 4 with
  | false => cases ltB c 4 <;> exact hb
  | true =>
    cases hC : ltB c 4 with
    | false => exact hb
    | true =>
      obtain ⟨q, hq, rfl⟩ := lt_ex (N := 4) (by decide) hC
      dsimp only
      rw [cl q]
      cases e : bx q with
      | none => exact hb
      | some qq =>
        obtain ⟨so, l, p⟩ := qq
        refine BOK_u hb (fun so' l' p' h => ?_)
        cases h
        exact hb q so l p hq e
theorem p_same (b c : Int32) : PR sc V mX6_same mX7_same 1 2 [.int b, .int c] := pr_b (q := fun _ _ _ bx _ => saS bx b c) fun I J C nx os oc K V' bx fa hb hC =>
  ⟨saS_b hb b c, ct_X6_same hb hC.2.2.2.1 b c, fun I1 h1 => ct_X7_same hb h1.2.2.2.1 b c⟩
end PAIR11
