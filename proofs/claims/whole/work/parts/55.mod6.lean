/-! THE REFERENCE: the search for a chain -/
section MOD7
variable {J : JT} {T : Nat → Nat → Nat} {G L : Nat → Bool}
theorem nr_none {u : Nat → Bool} {j s r0 r2 : Nat} (h0 : ∀ r, r < r0 → cand T G L j u s r = none) (h1 : ∀ r, r0 ≤ r → r < r2 → nrC T G L u j s r = false) : ∀ n r, r < n → r < r2 → cand T G L j u s r = none
  | 0, r, h, _ => by omega
  | n + 1, r, h, h2 => by
    by_cases hr : r < r0
    · exact h0 r hr
    · by_cases hc : (!(u (T s r)) && okS G L j (T s r)) = true
      · have h3 := h1 r (by omega) h2
        unfold nrC at h3
        rw [Bool.and_comm (okS G L j (T s r)), hc, Bool.true_and] at h3
        have h4 : ∃ l, l < r ∧ T s l = T s r := by
          refine Classical.byContradiction fun hn => ?_
          have : alN (fun l => !decide (T s l = T s r)) r = true := alN_iff.mpr fun l hl => by
            rw [decide_eq_false (fun e => hn ⟨l, hl, e⟩)]; rfl
          rw [this] at h3; cases h3
        obtain ⟨l, hl, he⟩ := h4
        exact cand_same he (nr_none h0 h1 n l (by omega) (by omega))
      · exact cand_none fun h => absurd h hc
theorem nI_m1 (i : Nat) : nI (i + 1) + (-1) = nI i := by rw [← Int32.sub_eq_add_neg]; exact nI_pred i
def DF (I0 I : IT) (i : Nat) : Prop := (∀ o, o ≠ 53 → o ≠ 54 → I o = I0 o) ∧ (∀ m, m ≤ i → I 53 m = I0 53 m) ∧ ∀ m, m < i → I 54 m = I0 54 m
def DS (T : Nat → Nat → Nat) (I : IT) (i j s : Nat) (rows : List Nat) : Prop := (∀ m, m ≤ j → I 53 (i + m) = nI (rnS T (fun m => rows.getD m 0) s m)) ∧ ∀ m, m < j → I 54 (i + m) = nI (rows.getD m 0)
theorem dfs (hT : ∀ s r, s < 16 → r < 4 → T s r < 16) {k : Nat} (hk : k ≤ 8) {Q : IQ} : ∀ (j i : Nat) (p : Nat → Nat) (u : Nat → Bool) (I0 : IT), i + j = k → DI I0 T G L → (∀ m, m ≤ i → I0 53 m = nI (p m) ∧ p m < 16) → (∀ x, x < 16 → u x = anN (fun m => decide (p m = x)) (i + 1)) → I0 54 i = -1 →
    (∀ I' rows, chO T G L j u (p i) = some rows → DF I0 I' i → DS T I' i j (p i) rows → EN 62 RF mX7_extend 2 9 [(0, .ref 39), (1, .int (nI k)), (2, .int (nI k))] [] I' J Q) →
    (∀ I', chO T G L j u (p i) = none → DF I0 I' i → EN 62 RF mX7_extend 2 9 [(0, .ref 39), (1, .int (nI k)), (2, .int (nI i + (-1)))] [] I' J Q) →
    EN 62 RF mX7_extend 2 9 [(0, .ref 39), (1, .int (nI k)), (2, .int (nI i))] [] I0 J Q
  | 0, i, p, u, I0, hij, hD, hp, hu, h54, hs, hf => by
    have : i = k := by omega
    subst this
    refine hs I0 [] rfl ⟨fun _ _ _ => rfl, fun _ _ => rfl, fun _ _ => rfl⟩ ⟨fun m hm => ?_, fun m hm => absurd hm (by omega)⟩
    have : m = 0 := by omega
    subst this
    exact (hp i (Nat.le_refl _)).1
  | j + 1, i, p, u, I0, hij, hD0, hp0, hu, h54, hs, hf => by
    have hs16 := (hp0 i (Nat.le_refl _)).2
    have hpi0 := (hp0 i (Nat.le_refl _)).1
    have hkj : k - 1 - i = j := by omega
    have inner : ∀ n r0 I, r0 ≤ 4 → 4 - r0 ≤ n → DF I0 I i → I 54 i + 1 = nI r0 → (∀ r, r < r0 → cand T G L j u (p i) r = none) → EN 62 RF mX7_extend 2 9 [(0, .ref 39), (1, .int (nI k)), (2, .int (nI i))] [] I J Q := by
      intro n
      induction n with
      | zero =>
        intro r0 I hr4 hn hDF hr0 hc
        have hD : DI I T G L := by unfold DI; rw [hDF.1 39 (by decide) (by decide), hDF.1 55 (by decide) (by decide)]; exact hD0
        have hp : ∀ m, m ≤ i → I 53 m = nI (p m) ∧ p m < 16 := fun m hm => by rw [hDF.2.1 m hm]; exact hp0 m hm
        refine blk s_X7_extend_9 (nm ?_)
        refine b_X7_extend_10 (fun h => absurd h (nI_pos (by omega))) (fun h => ?_)
        refine blk s_X7_extend_13 (nm ?_)
        refine b_X7_extend_15 (fun h => absurd h (nI_ge (by omega) (by omega))) (fun h => ?_)
        refine blk s_X7_extend_18 (nm ?_)
        refine c_X7_extend_21 (ct_X7_nextRow hD hT (by omega) hk hp hr0 hr4 hu) rfl (by decide) rfl (Nat.le_of_ble_eq_true rfl) (by decide) rfl (rx ?_)
        rw [hkj]
        have hno : lsN (nrP T G L u j (p i) r0) 4 = none := lsN_none.mpr fun r hr => by unfold nrP; rw [decide_eq_false (by omega), Bool.false_and]
        rw [hno]
        refine blk s_X7_extend_24 (nm ?_)
        refine b_X7_extend_28 (fun h => absurd rfl h) (fun h => ?_)
        refine blk s_X7_extend_31 (nm ?_)
        refine blk s_X7_extend_77 (nm ?_)
        refine wkt 3 (hf I ?_ hDF)
        rw [chO_s]
        exact fsN_none fun r hr => hc r (by omega)
      | succ n ihn =>
        intro r0 I hr4 hn hDF hr0 hc
        have hD : DI I T G L := by unfold DI; rw [hDF.1 39 (by decide) (by decide), hDF.1 55 (by decide) (by decide)]; exact hD0
        have hp : ∀ m, m ≤ i → I 53 m = nI (p m) ∧ p m < 16 := fun m hm => by rw [hDF.2.1 m hm]; exact hp0 m hm
        refine blk s_X7_extend_9 (nm ?_)
        refine b_X7_extend_10 (fun h => absurd h (nI_pos (by omega))) (fun h => ?_)
        refine blk s_X7_extend_13 (nm ?_)
        refine b_X7_extend_15 (fun h => absurd h (nI_ge (by omega) (by omega))) (fun h => ?_)
        refine blk s_X7_extend_18 (nm ?_)
        refine c_X7_extend_21 (ct_X7_nextRow hD hT (by omega) hk hp hr0 hr4 hu) rfl (by decide) rfl (Nat.le_of_ble_eq_true rfl) (by decide) rfl (rx ?_)
        rw [hkj]
        refine blk s_X7_extend_24 (nm ?_)
        cases hl : lsN (nrP T G L u j (p i) r0) 4 with
        | none =>
          refine b_X7_extend_28 (fun h => absurd rfl h) (fun h => ?_)
          refine blk s_X7_extend_31 (nm ?_)
          refine blk s_X7_extend_77 (nm ?_)
          refine wkt 3 (hf I ?_ hDF)
          rw [chO_s]
          refine fsN_none fun r hr => nr_none (r2 := 4) hc (fun r h1 h2 => ?_) 4 r hr hr
          have := lsN_none.mp hl r h2
          unfold nrP at this
          rw [decide_eq_true h1, Bool.true_and] at this
          exact this
        | some r =>
          obtain ⟨hr, hPr, hbef⟩ := lsN_some hl
          unfold nrP at hPr
          have hPr2 := Bool.and_eq_true_iff.mp hPr
          have h0r : r0 ≤ r := of_decide_eq_true hPr2.1
          have hC : nrC T G L u j (p i) r = true := hPr2.2
          have hok : (!(u (T (p i) r)) && okS G L j (T (p i) r)) = true := by
            unfold nrC at hC
            have := (Bool.and_eq_true_iff.mp hC).1
            rw [Bool.and_comm]; exact this
          have hlow : ∀ r', r' < r → cand T G L j u (p i) r' = none := fun r' hr' => nr_none (r2 := r) hc (fun r'' h1 h2 => by
            have := hbef r'' h2
            unfold nrP at this
            rw [decide_eq_true h1, Bool.true_and] at this
            exact this) r r' hr' hr'
          have hTr := hT (p i) r hs16 hr
          have hpi : I 53 i = nI (p i) := (hp i (Nat.le_refl _)).1
          generalize hse : p i = s at *
          have e4 : (4 : Int32) * nI s + nI r = nI (4 * s + r) := by rw [show (4 : Int32) = nI 4 from rfl, nI_mul, nI_add]
          have e53 : up2 I 54 i (nI r) 53 = I 53 := up2_o (by decide)
          have e55 : up2 I 54 i (nI r) 55 = I 55 := up2_o (by decide)
          refine b_X7_extend_28 (fun h => ?_) (fun h => absurd h (o2i_ne (by omega)))
          rw [show o2i (some r) = nI r from rfl]
          refine blk s_X7_extend_37 (And.intro (ib (show i < 9 by omega)) (And.intro (ib (show i < 9 by omega)) (And.intro ?_ (And.intro ?_ (And.intro ?_ (nm ?_))))))
          · show vp_in ((4 : Int32) * (up2 I 54 (nI i).toNatClampNeg (nI r)) 53 (nI i).toNatClampNeg + nI r) 64
            rw [cl i, e53, hpi, e4]; exact ib (by omega)
          · show vp_in (nI i + 1) 9
            rw [nI_s]; exact ib (by omega)
          · show vp_in (nI i + 1) 9
            rw [nI_s]; exact ib (by omega)
          · rw [cl i, nI_s, cl (i + 1), e53, e55, hpi, e4, cl (4 * s + r), hD.2.2 s r hs16 hr]
            refine blk s_X7_extend_77 (nm ?_)
            refine wkt 3 ?_
            generalize hI2 : up2 (up2 (up2 I 54 i (nI r)) 53 (i + 1) (nI (T s r))) 54 (i + 1) (-1) = I2
            have f1 : ∀ o, o ≠ 53 → o ≠ 54 → I2 o = I o := fun o h1 h2 => by rw [← hI2, up2_o h2, up2_o h1, up2_o h2]
            have f2 : ∀ m, m ≤ i → I2 53 m = I 53 m := fun m hm => by rw [← hI2, up2_o (by decide), up2_k (by omega), up2_o (by decide)]
            have f3 : ∀ m, m < i → I2 54 m = I 54 m := fun m hm => by rw [← hI2, up2_k (by omega), up2_o (by decide), up2_k (by omega)]
            have f4 : I2 53 (i + 1) = nI (T s r) := by rw [← hI2, up2_o (by decide), up2_s]
            have f5 : I2 54 i = nI r := by rw [← hI2, up2_k (by omega), up2_o (by decide), up2_s]
            have f6 : I2 54 (i + 1) = -1 := by rw [← hI2, up2_s]
            clear hI2
            have hu2 : ∀ x, x < 16 → (fun x => u x || decide (x = T s r)) x = anN (fun m => decide ((fun m => if m = i + 1 then T s r else p m) m = x)) (i + 1 + 1) := by
              intro x hx
              show (u x || decide (x = T s r)) = (anN (fun m => decide ((if m = i + 1 then T s r else p m) = x)) (i + 1) || decide ((if i + 1 = i + 1 then T s r else p (i + 1)) = x))
              rw [if_pos rfl, hu x hx, anN_cg (q := fun m => decide ((if m = i + 1 then T s r else p m) = x)) (fun m hm => by rw [if_neg (by omega)])]
              by_cases e : x = T s r
              · rw [decide_eq_true e, decide_eq_true e.symm]
              · rw [decide_eq_false e, decide_eq_false (fun e2 => e e2.symm)]
            refine dfs hT hk j (i + 1) (fun m => if m = i + 1 then T s r else p m) (fun x => u x || decide (x = T s r)) I2 (by omega) ?_ ?_ hu2 f6 ?_ ?_
            · unfold DI; rw [f1 39 (by decide) (by decide), f1 55 (by decide) (by decide)]; exact hD
            · intro m hm
              show I2 53 m = nI (if m = i + 1 then T s r else p m) ∧ (if m = i + 1 then T s r else p m) < 16
              by_cases e : m = i + 1
              · rw [if_pos e, e]; exact ⟨f4, hTr⟩
              · rw [if_neg e, f2 m (by omega)]; exact hp m (by omega)
            · intro I' rows hch hDF2 hDS2
              change chO T G L j (fun x => u x || decide (x = T s r)) (if i + 1 = i + 1 then T s r else p (i + 1)) = some rows at hch
              change DS T I' (i + 1) j (if i + 1 = i + 1 then T s r else p (i + 1)) rows at hDS2
              rw [if_pos rfl] at hch hDS2
              have hcd : cand T G L j u s r = some (r :: rows) := by
                unfold cand; rw [hok]
                show (chO T G L j (fun x => u x || decide (x = T s r)) (T s r)).map _ = _
                rw [hch]; rfl
              refine hs I' (r :: rows) ?_ ⟨fun o h1 h2 => ?_, fun m hm => ?_, fun m hm => ?_⟩ ⟨fun m hm => ?_, fun m hm => ?_⟩
              · rw [chO_s]; exact fsN_first hlow hcd hr
              · rw [hDF2.1 o h1 h2, f1 o h1 h2, hDF.1 o h1 h2]
              · rw [hDF2.2.1 m (by omega), f2 m hm, hDF.2.1 m hm]
              · rw [hDF2.2.2 m (by omega), f3 m hm, hDF.2.2 m hm]
              · cases m with
                | zero => rw [Nat.add_zero, hDF2.2.1 i (by omega), f2 i (Nat.le_refl _), hpi]; rfl
                | succ m =>
                  rw [rnS_cons, show i + (m + 1) = i + 1 + m by omega]
                  exact hDS2.1 m (by omega)
              · cases m with
                | zero => rw [Nat.add_zero, hDF2.2.2 i (by omega), f5]; rfl
                | succ m =>
                  rw [show i + (m + 1) = i + 1 + m by omega]
                  exact hDS2.2 m (by omega)
            · intro I' hch hDF2
              change chO T G L j (fun x => u x || decide (x = T s r)) (if i + 1 = i + 1 then T s r else p (i + 1)) = none at hch
              rw [if_pos rfl] at hch
              have hcd : cand T G L j u s r = none := cand_none fun _ => hch
              refine en_L (show _ = [(0, .ref 39), (1, .int (nI k)), (2, .int (nI i))] from by rw [nI_m1 i]) ?_
              refine ihn (r + 1) I' (by omega) (by omega) ⟨fun o h1 h2 => ?_, fun m hm => ?_, fun m hm => ?_⟩ ?_ ?_
              · rw [hDF2.1 o h1 h2, f1 o h1 h2, hDF.1 o h1 h2]
              · rw [hDF2.2.1 m (by omega), f2 m hm, hDF.2.1 m hm]
              · rw [hDF2.2.2 m (by omega), f3 m hm, hDF.2.2 m hm]
              · rw [hDF2.2.2 i (by omega), f5, nI_s]
              · intro r' hr'
                by_cases e : r' = r
                · rw [e]; exact hcd
                · exact hlow r' (by omega)
    exact inner 4 0 I0 (by omega) (by omega) ⟨fun _ _ _ => rfl, fun _ _ => rfl, fun _ _ => rfl⟩ (by rw [h54]; rfl) (fun r hr => absurd hr (by omega))
def EdQ (T : Nat → Nat → Nat) (I : IT) (J : JT) (k s : Nat) (res : Option (List Nat)) : IQ := fun r I' J' =>
  r = some (.int (b2i res.isSome)) ∧ J' = J ∧ (∀ o, o ≠ 53 → o ≠ 54 → I' o = I o) ∧ ∀ rows, res = some rows → DS T I' 0 k s rows
theorem ct_X7_extend {I : IT} (hT : ∀ s r, s < 16 → r < 4 → T s r < 16) {k : Nat} (hk : k ≤ 8) (hD : DI I T G L) {s : Nat} (hs : s < 16) (h53 : I 53 0 = nI s) : CN 62 RF mX7_extend 2 [.ref 39, .int (nI k)] I J (EdQ T I J k s (chO T G L k (fun x => decide (x = s)) s)) := by
  generalize hres : chO T G L k (fun x => decide (x = s)) s = res
  refine cn_of (by decide) rfl (Nat.le_of_ble_eq_true rfl) ?_
  refine blk s_X7_extend_0 (And.intro (by unfold vp_in; decide) (nm ?_))
  have e0 : Int32.toNatClampNeg 0 = 0 := rfl
  rw [e0]
  refine dfs (G := G) (L := L) hT hk k 0 (fun _ => s) (fun x => decide (x = s)) (up2 I 54 0 (-1)) (by omega) ?_ ?_ ?_ up2_s ?_ ?_
  · unfold DI; rw [up2_o (by decide), up2_o (by decide)]; exact hD
  · intro m hm
    have : m = 0 := by omega
    subst this
    rw [up2_o (by decide)]; exact ⟨h53, hs⟩
  · intro x hx
    show decide (x = s) = (false || decide (s = x))
    rw [Bool.false_or]
    by_cases e : x = s
    · rw [decide_eq_true e, decide_eq_true e.symm]
    · rw [decide_eq_false e, decide_eq_false (fun e2 => e e2.symm)]
  · intro I' rows hch hDF hDS
    rw [hres] at hch
    refine blk s_X7_extend_9 (nm ?_)
    refine b_X7_extend_10 (fun h => absurd h (nI_pos (by omega))) (fun h => ?_)
    refine blk s_X7_extend_13 (nm ?_)
    refine b_X7_extend_15 (fun h => ?_) (fun h => absurd (Int32.le_refl _) h)
    refine blk s_X7_extend_80 (nm ?_)
    refine b_X7_extend_82 (fun h => absurd rfl h) (fun h => ?_)
    refine blk s_X7_extend_85 (nm ?_)
    refine r_X7_extend_90 (Or.inr rfl) ⟨by rw [hch]; rfl, rfl, fun o h1 h2 => ?_, fun rows' h => ?_⟩
    · rw [hDF.1 o h1 h2, up2_o h2]
    · rw [hch] at h; cases h; exact hDS
  · intro I' hch hDF
    rw [hres] at hch
    refine blk s_X7_extend_9 (nm ?_)
    refine b_X7_extend_10 (fun h => ?_) (fun h => absurd (show (nI 0 + (-1) : Int32) < 0 by decide) h)
    refine blk s_X7_extend_80 (nm ?_)
    refine b_X7_extend_82 (fun h => ?_) (fun h => ?_)
    · refine blk s_X7_extend_89 (nm ?_)
      refine r_X7_extend_90 (Or.inl rfl) ⟨by rw [hch]; rfl, rfl, fun o h1 h2 => ?_, fun rows' h => ?_⟩
      · rw [hDF.1 o h1 h2, up2_o h2]
      · rw [hch] at h; cases h
    · exfalso
      have := nI_pos (n := k) (by omega)
      rw [← show (nI 0 + (-1) : Int32) = nI k from h] at this
      exact this (by decide)
end MOD7
