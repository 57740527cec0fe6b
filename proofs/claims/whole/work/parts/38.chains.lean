/-! CHAINS: the first one, row by row -/
def fsN {α : Type} (f : Nat → Option α) : Nat → Option α
  | 0 => none
  | k + 1 => match fsN f k with
    | some x => some x
    | none => f k
theorem fsN_none {α : Type} {f : Nat → Option α} : ∀ {k : Nat}, (∀ j, j < k → f j = none) → fsN f k = none
  | 0, _ => rfl
  | k + 1, h => by
    show (match fsN f k with | some x => some x | none => f k) = none
    rw [fsN_none (fun j hj => h j (by omega))]; exact h k (by omega)
theorem fsN_first {α : Type} {f : Nat → Option α} {j : Nat} {x : α} (hn : ∀ i, i < j → f i = none) (hx : f j = some x) : ∀ {k : Nat}, j < k → fsN f k = some x
  | 0, h => by omega
  | k + 1, h => by
    show (match fsN f k with | some x => some x | none => f k) = some x
    by_cases hj : j < k
    · rw [fsN_first hn hx hj]
    · have : j = k := by omega
      subst this
      rw [fsN_none hn]; exact hx
theorem fsN_some {α : Type} {f : Nat → Option α} {x : α} : ∀ {k : Nat}, fsN f k = some x → ∃ j, j < k ∧ f j = some x ∧ ∀ i, i < j → f i = none
  | 0, h => by cases h
  | k + 1, h => by
    change (match fsN f k with | some x => some x | none => f k) = some x at h
    cases hk : fsN f k with
    | some y =>
      rw [hk] at h
      cases h
      obtain ⟨j, h1, h2, h3⟩ := fsN_some hk
      exact ⟨j, by omega, h2, h3⟩
    | none =>
      rw [hk] at h
      refine ⟨k, by omega, h, fun i hi => ?_⟩
      cases hi2 : f i with
      | none => rfl
      | some y =>
        exfalso
        obtain ⟨m, hm⟩ : ∃ m, fsN f k = some m := by
          clear h
          induction k with
          | zero => omega
          | succ k ih =>
            by_cases hik : i < k
            · cases hk2 : fsN f k with
              | some z => exact ⟨z, by show (match fsN f k with | some x => some x | none => f k) = _; rw [hk2]⟩
              | none =>
                obtain ⟨m, hm⟩ := ih hk2 hik
                rw [hm] at hk2; cases hk2
            · have : i = k := by omega
              subst this
              cases hk2 : fsN f i with
              | some z => exact ⟨z, by show (match fsN f i with | some x => some x | none => f i) = _; rw [hk2]⟩
              | none => exact ⟨y, by show (match fsN f i with | some x => some x | none => f i) = _; rw [hk2]; exact hi2⟩
        rw [hm] at hk; cases hk
def okS (G L : Nat → Bool) (j t : Nat) : Bool := match j with
  | 0 => L t
  | _ + 1 => G t
/-- how a chain goes on by j steps from s, past the states u (s among them): its rows -/
def chO (T : Nat → Nat → Nat) (G L : Nat → Bool) : Nat → (Nat → Bool) → Nat → Option (List Nat)
  | 0, _, _ => some []
  | j + 1, u, s => fsN (fun r => match !(u (T s r)) && okS G L j (T s r) with
    | true => (chO T G L j (fun x => u x || decide (x = T s r)) (T s r)).map (r :: ·)
    | false => none) 4
def cand (T : Nat → Nat → Nat) (G L : Nat → Bool) (j : Nat) (u : Nat → Bool) (s r : Nat) : Option (List Nat) := match !(u (T s r)) && okS G L j (T s r) with
  | true => (chO T G L j (fun x => u x || decide (x = T s r)) (T s r)).map (r :: ·)
  | false => none
theorem chO_s (T : Nat → Nat → Nat) (G L : Nat → Bool) (j : Nat) (u : Nat → Bool) (s : Nat) : chO T G L (j + 1) u s = fsN (cand T G L j u s) 4 := rfl
theorem cand_none {T : Nat → Nat → Nat} {G L : Nat → Bool} {j : Nat} {u : Nat → Bool} {s r : Nat} (h : (!(u (T s r)) && okS G L j (T s r)) = true → chO T G L j (fun x => u x || decide (x = T s r)) (T s r) = none) : cand T G L j u s r = none := by
  unfold cand
  cases hh : (!(u (T s r)) && okS G L j (T s r))
  · rfl
  · show (chO T G L j (fun x => u x || decide (x = T s r)) (T s r)).map _ = none
    rw [h hh]; rfl
theorem cand_same {T : Nat → Nat → Nat} {G L : Nat → Bool} {j : Nat} {u : Nat → Bool} {s r r' : Nat} (e : T s r' = T s r) (h : cand T G L j u s r' = none) : cand T G L j u s r = none := by
  refine cand_none fun hh => ?_
  unfold cand at h
  rw [e, hh] at h
  exact Option.map_eq_none_iff.mp h
/-- the states from which m steps over good ones can end in the last set -/
def ldP (T : Nat → Nat → Nat) (G L : Nat → Bool) : Nat → Nat → Bool
  | 0 => L
  | m + 1 => fun s => G s && so (rc T) (ldP T G L m) s
theorem ld_of_ch {T : Nat → Nat → Nat} (hT : ∀ s r, s < 16 → r < 4 → T s r < 16) {G L : Nat → Bool} : ∀ {j : Nat} {u : Nat → Bool} {s : Nat}, s < 16 → okS G L j s = true → (chO T G L j u s).isSome = true → ldP T G L j s = true
  | 0, u, s, hs, h1, h2 => h1
  | j + 1, u, s, hs, h1, h2 => by
    obtain ⟨x, hx⟩ := Option.isSome_iff_exists.mp h2
    rw [chO_s] at hx
    obtain ⟨r, hr, hc, -⟩ := fsN_some hx
    have hc2 : (!(u (T s r)) && okS G L j (T s r)) = true ∧ (chO T G L j (fun x => u x || decide (x = T s r)) (T s r)).isSome = true := by
      unfold cand at hc
      cases hh : (!(u (T s r)) && okS G L j (T s r))
      · rw [hh] at hc; cases hc
      · rw [hh] at hc
        refine ⟨rfl, ?_⟩
        cases hq : chO T G L j (fun x => u x || decide (x = T s r)) (T s r) with
        | none => rw [hq] at hc; cases hc
        | some y => rfl
    have ht := hT s r hs hr
    have ih := ld_of_ch hT ht (by have := hc2.1; rw [Bool.and_eq_true] at this; exact this.2) hc2.2
    show (G s && so (rc T) (ldP T G L j) s) = true
    rw [Bool.and_eq_true]
    refine ⟨h1, anN_iff.mpr ⟨T s r, ht, ?_⟩⟩
    rw [ih, Bool.and_true]
    exact anN_iff.mpr ⟨r, hr, decide_eq_true rfl⟩
theorem ld_ok {T : Nat → Nat → Nat} {G L : Nat → Bool} : ∀ {j s : Nat}, ldP T G L j s = true → okS G L j s = true
  | 0, s, h => h
  | j + 1, s, h => by
    have : (G s && so (rc T) (ldP T G L j) s) = true := h
    rw [Bool.and_eq_true] at this; exact this.1
theorem rnS_cons {T : Nat → Nat → Nat} {r : Nat} {rs : List Nat} {s : Nat} : ∀ j, rnS T (fun m => (r :: rs).getD m 0) s (j + 1) = rnS T (fun m => rs.getD m 0) (T s r) j
  | 0 => rfl
  | j + 1 => by
    show T (rnS T (fun m => (r :: rs).getD m 0) s (j + 1)) ((r :: rs).getD (j + 1) 0) = T (rnS T (fun m => rs.getD m 0) (T s r) j) (rs.getD j 0)
    rw [rnS_cons j]; rfl
/-- what extend leaves behind it -/
def ExQ (T : Nat → Nat → Nat) (I : IT) (J : JT) (i j s : Nat) (res : Option (List Nat)) : IQ := fun r I' J' =>
  r = some (.int (b2i res.isSome)) ∧ J' = J ∧ (∀ o, o ≠ 23 → o ≠ 24 → I' o = I o) ∧ (∀ m, m < i → I' 23 m = I 23 m ∧ I' 24 m = I 24 m) ∧ ∀ rows, res = some rows → (∀ m, m ≤ j → I' 23 (i + m) = nI (rnS T (fun m => rows.getD m 0) s m)) ∧ ∀ m, m < j → I' 24 (i + m) = nI (rows.getD m 0)
theorem ct_X1_extend {T : Nat → Nat → Nat} {G L : Nat → Bool} {J : JT} {k : Nat} (hk : k ≤ 8) : ∀ (j i s : Nat) (u0 : Nat → Bool) (I : IT), i + j = k → TOk I T → (∀ m, m ≤ k → I 25 m = bs (ldP T G L m)) → s < 16 →
    CN 62 RF mX1_extend (j + 1) [.ref 22, .int (nI s), .int (nI i), .int (bs u0), .int (nI k)] I J (ExQ T I J i j s (chO T G L j (fun x => u0 x || decide (x = s)) s)) := by
  intro j
  induction j with
  | zero =>
    intro i s u0 I hij hT hL hs
    refine cn_of (by decide) rfl (Nat.le_of_ble_eq_true rfl) ?_
    refine blk s_X1_extend_0 (And.intro (ib (by omega)) (nm ?_))
    rw [cl i]
    refine b_X1_extend_10 (fun h => absurd ((nI_ltI (by omega) (by omega)).mp h) (by omega)) (fun h => ?_)
    refine blk s_X1_extend_13 (nm ?_)
    refine r_X1_extend_14 (Or.inr rfl) ⟨rfl, rfl, fun o h1 h2 => up2_o h1, fun m hm => ⟨up2_k (by omega), by rw [up2_o (by decide)]⟩, fun rows hr => ⟨fun m hm => ?_, fun m hm => by omega⟩⟩
    have : m = 0 := by omega
    subst this
    exact up2_s
  | succ j ihj =>
    intro i s u0 I hij hT hL hs
    generalize hu : (fun x => u0 x || decide (x = s)) = u
    have hub : bs u0 ||| (1 : Int32) <<< (nI s &&& 31) = bs u := by rw [bs_one hs, bs_or, ← hu]
    generalize hQ : ExQ T I J i (j + 1) s (chO T G L (j + 1) u s) = Q
    refine cn_of (by decide) rfl (Nat.le_of_ble_eq_true rfl) ?_
    refine blk s_X1_extend_0 (And.intro (ib (by omega)) (nm ?_))
    rw [cl i]
    refine b_X1_extend_10 (fun h => ?_) (fun h => absurd ((nI_ltI (by omega) (by omega)).mpr (by omega)) h)
    refine blk s_X1_extend_15 (nm ?_)
    rw [hub]
    have hTl := hT.2
    have loop : ∀ r, r ≤ 4 → ∀ (I1 : IT) (tr : Nat → Bool), (∀ o, o ≠ 23 → o ≠ 24 → I1 o = I o) → I1 23 i = nI s → (∀ m, m < i → I1 23 m = I 23 m ∧ I1 24 m = I 24 m) → (∀ r', r' < r → cand T G L j u s r' = none) → (∀ x, x < 16 → tr x = true → u x = true ∨ ∃ r', r' < r ∧ T s r' = x) → (∀ x, x < 16 → u x = true → tr x = true) →
        EN 62 RF mX1_extend (j + 2) 25 [(0, .ref 22), (1, .int (nI s)), (2, .int (nI i)), (3, .int (bs u0)), (4, .int (nI k)), (5, .int (bs tr)), (6, .int (nI r))] [] I1 J Q := by
      intro r hr
      refine dn (P := fun r => ∀ (I1 : IT) (tr : Nat → Bool), (∀ o, o ≠ 23 → o ≠ 24 → I1 o = I o) → I1 23 i = nI s → (∀ m, m < i → I1 23 m = I 23 m ∧ I1 24 m = I 24 m) → (∀ r', r' < r → cand T G L j u s r' = none) → (∀ x, x < 16 → tr x = true → u x = true ∨ ∃ r', r' < r ∧ T s r' = x) → (∀ x, x < 16 → u x = true → tr x = true) →
        EN 62 RF mX1_extend (j + 2) 25 [(0, .ref 22), (1, .int (nI s)), (2, .int (nI i)), (3, .int (bs u0)), (4, .int (nI k)), (5, .int (bs tr)), (6, .int (nI r))] [] I1 J Q) (N := 4) ?_ ?_ hr
      · intro I1 tr f1 f2 f3 f4 f5 f6
        refine blk s_X1_extend_25 (nm ?_)
        refine b_X1_extend_28 (fun h => ?_) (fun h => absurd (Int32.le_refl _) h)
        refine blk s_X1_extend_119 (nm ?_)
        have hno : chO T G L (j + 1) u s = none := by rw [chO_s]; exact fsN_none f4
        refine r_X1_extend_120 (Or.inl rfl) ?_
        rw [← hQ, hno]
        exact ⟨rfl, rfl, f1, f3, fun rows h => by cases h⟩
      · intro r hr ih I1 tr f1 f2 f3 f4 f5 f6
        have ht := hTl s r hs hr
        have h13 : ∀ v, (up2 I1 24 i v) 13 = I 13 := fun v => by rw [up2_o (by decide)]; exact f1 13 (by decide) (by decide)
        have next : cand T G L j u s r = none → ∀ (I2 : IT) (tr2 : Nat → Bool), (∀ o, o ≠ 23 → o ≠ 24 → I2 o = I o) → I2 23 i = nI s → (∀ m, m < i → I2 23 m = I 23 m ∧ I2 24 m = I 24 m) → (∀ x, x < 16 → tr2 x = true → u x = true ∨ ∃ r', r' < r + 1 ∧ T s r' = x) → (∀ x, x < 16 → u x = true → tr2 x = true) →
            EN 62 RF mX1_extend (j + 2) 113 [(0, .ref 22), (1, .int (nI s)), (2, .int (nI i)), (3, .int (bs u0)), (4, .int (nI k)), (5, .int (bs tr2)), (6, .int (nI r)), (7, .int (nI (T s r)))] [] I2 J Q := by
          intro hc I2 tr2 g1 g2 g3 g4 g5
          refine blk s_X1_extend_113 (nm ?_)
          refine wkt 7 (en_L (by rw [nI_s]; rfl) (ih I2 tr2 g1 g2 g3 (fun r' hr' => ?_) g4 g5))
          by_cases h : r' = r
          · subst h; exact hc
          · exact f4 r' (by omega)
        have grow : ∀ x, x < 16 → tr x = true → u x = true ∨ ∃ r', r' < r + 1 ∧ T s r' = x := fun x hx h => (f5 x hx h).imp id (fun ⟨r', h1, h2⟩ => ⟨r', by omega, h2⟩)
        refine blk s_X1_extend_25 (nm ?_)
        refine b_X1_extend_28 (fun h => absurd h (nI_ge hr (by decide))) (fun h => ?_)
        refine blk s_X1_extend_31 (nm ?_)
        refine c_X1_extend_38 (ct_X3_target hs hr) rfl (by omega) rfl (Nat.le_of_ble_eq_true rfl) (by decide) rfl (rx ?_)
        rw [show I1 13 (16 * r + s) = nI (T s r) from by rw [f1 13 (by decide) (by decide)]; exact hT.1 s r hs hr]
        refine blk s_X1_extend_41 (nm ?_)
        refine c_X1_extend_47 (ct_X6_isInN (by omega) _) rfl (by omega) rfl (Nat.le_of_ble_eq_true rfl) (rx ?_)
        rw [mb_bs1 _ ht]
        refine b_X1_extend_50 (fun h => ?_) (fun h => ?_)
        · -- tried already
          refine next ?_ I1 tr f1 f2 f3 grow f6
          rcases f5 _ ht (b2t h) with h1 | ⟨r', h1, h2⟩
          · exact cand_none (fun hh => by rw [h1] at hh; cases hh)
          · exact cand_same h2 (f4 r' h1)
        · have htr : tr (T s r) = false := (b2i_0 _).mp h
          have hnu : u (T s r) = false := by
            cases hh : u (T s r)
            · rfl
            · rw [f6 _ ht hh] at htr; cases htr
          have ek : nI k - 1 - nI i = nI j := by
            rw [show nI k - 1 = nI (k - 1) from pk_sub (b := 1) (by omega), pk_sub (by omega)]
            congr 1; omega
          refine blk s_X1_extend_53 (And.intro (by rw [ek]; exact ib (by omega)) (nm ?_))
          rw [ek, cl j, show I1 25 j = bs (ldP T G L j) from by rw [f1 25 (by decide) (by decide)]; exact hL j (by omega)]
          refine c_X1_extend_66 (ct_X6_isInN (by omega) _) rfl (by omega) rfl (Nat.le_of_ble_eq_true rfl) (rx ?_)
          rw [mb_bs1 _ ht]
          refine b_X1_extend_69 (fun h2 => ?_) (fun h2 => ?_)
          · have hld := b2t h2
            have hok := ld_ok hld
            refine blk s_X1_extend_75 (And.intro (ib (by omega)) (nm ?_))
            rw [hub, cl i, nI_s, bs_one ht, bs_or]
            generalize hX : up2 I1 24 i (nI r) = X at *
            have x1 : ∀ o, o ≠ 23 → o ≠ 24 → X o = I o := fun o h1 h2 => by rw [← hX, up2_o h2]; exact f1 o h1 h2
            have x23 : ∀ m, X 23 m = I1 23 m := fun m => by rw [← hX, up2_o (by decide)]
            have x24 : ∀ m, m < i → X 24 m = I 24 m := fun m hm => by rw [← hX, up2_k (by omega)]; exact (f3 m hm).2
            have x24i : X 24 i = nI r := by rw [← hX, up2_s]
            refine c_X1_extend_105 (ihj (i + 1) (T s r) u X (by omega) ⟨fun a b h1 h2 => by rw [x1 13 (by decide) (by decide)]; exact hT.1 a b h1 h2, hTl⟩ (fun m hm => by rw [x1 25 (by decide) (by decide)]; exact hL m hm) ht) rfl (by omega) rfl (Nat.le_of_ble_eq_true rfl) (by decide) rfl (fun rv I' J' hq => ?_)
            obtain ⟨rfl, rfl, q1, q2, q3⟩ := hq
            have p23 : ∀ m, m ≤ i → I' 23 m = I1 23 m := fun m hm => by rw [(q2 m (by omega)).1]; exact x23 m
            refine b_X1_extend_108 (fun h3 => ?_) (fun h3 => ?_)
            · have hn : chO T G L j (fun x => u x || decide (x = T s r)) (T s r) = none := by
                cases hh : chO T G L j (fun x => u x || decide (x = T s r)) (T s r)
                · rfl
                · rw [hh] at h3; cases h3
              refine next (cand_none fun _ => hn) I' _ (fun o h1 h2 => by rw [q1 o h1 h2]; exact x1 o h1 h2) (by rw [p23 i (Nat.le_refl i)]; exact f2) (fun m hm => ⟨by rw [p23 m (by omega)]; exact (f3 m hm).1, by rw [(q2 m (by omega)).2]; exact x24 m hm⟩) (fun x hx hh => ?_) (fun x hx hh => ?_)
              · rw [Bool.or_eq_true, decide_eq_true_eq] at hh
                rcases hh with hh | hh
                · exact grow x hx hh
                · exact Or.inr ⟨r, by omega, hh.symm⟩
              · rw [f6 x hx hh]; rfl
            · obtain ⟨rows, hrows⟩ := Option.isSome_iff_exists.mp (b2t h3)
              have hc : cand T G L j u s r = some (r :: rows) := by
                unfold cand
                rw [hnu, hok]
                show (chO T G L j (fun x => u x || decide (x = T s r)) (T s r)).map _ = _
                rw [hrows]; rfl
              have hres : chO T G L (j + 1) u s = some (r :: rows) := by rw [chO_s]; exact fsN_first f4 hc hr
              obtain ⟨q4, q5⟩ := q3 rows hrows
              refine blk s_X1_extend_111 (nm ?_)
              refine r_X1_extend_112 (Or.inr rfl) ?_
              rw [← hQ, hres]
              refine ⟨rfl, rfl, fun o h1 h2 => by rw [q1 o h1 h2]; exact x1 o h1 h2, fun m hm => ⟨by rw [p23 m (by omega)]; exact (f3 m hm).1, by rw [(q2 m (by omega)).2]; exact x24 m hm⟩, fun rows' hr' => ?_⟩
              cases hr'
              refine ⟨fun m hm => ?_, fun m hm => ?_⟩
              · cases m with
                | zero => rw [Nat.add_zero, p23 i (Nat.le_refl i)]; exact f2
                | succ m =>
                  rw [rnS_cons, show i + (m + 1) = i + 1 + m by omega]
                  exact q4 m (by omega)
              · cases m with
                | zero => rw [Nat.add_zero, (q2 i (by omega)).2, x24i]; rfl
                | succ m =>
                  rw [show i + (m + 1) = i + 1 + m by omega]
                  exact q5 m (by omega)
          · -- no chain can go on there
            refine blk s_X1_extend_72 (nm ?_)
            refine next (cand_none fun hh => ?_) I1 tr f1 f2 f3 grow f6
            cases hq : chO T G L j (fun x => u x || decide (x = T s r)) (T s r) with
            | none => rfl
            | some y =>
              rw [Bool.and_eq_true] at hh
              have := ld_of_ch hTl ht hh.2 (by rw [hq]; rfl)
              rw [this] at h2
              exact absurd h2 (by decide)
    refine loop 0 (by omega) _ u (fun o h1 h2 => up2_o h1) up2_s (fun m hm => ⟨up2_k (by omega), by rw [up2_o (by decide)]⟩) (fun r' h => by omega) (fun x _ h => Or.inl h) (fun x _ h => h)
/-- the first chain of k: its first state and its rows -/
def fcO (T : Nat → Nat → Nat) (G L : Nat → Bool) (k : Nat) : Option (Nat × List Nat) := fsN (fun s => match okS G L k s with
  | true => (chO T G L k (fun x => decide (x = s)) s).map (fun rows => (s, rows))
  | false => none) 16
def fcC (T : Nat → Nat → Nat) (G L : Nat → Bool) (k s : Nat) : Option (Nat × List Nat) := match okS G L k s with
  | true => (chO T G L k (fun x => decide (x = s)) s).map (fun rows => (s, rows))
  | false => none
/-- path and rows hold the chain -/
def PthOk (T : Nat → Nat → Nat) (I : IT) (k : Nat) (c : Nat × List Nat) : Prop := (∀ m, m ≤ k → I 23 m = nI (rnS T (fun m => c.2.getD m 0) c.1 m)) ∧ ∀ m, m < k → I 24 m = nI (c.2.getD m 0)
def SeQ (T : Nat → Nat → Nat) (I : IT) (J : JT) (k : Nat) (res : Option (Nat × List Nat)) : IQ := fun r I' J' =>
  r = some (.int (b2i res.isSome)) ∧ J' = J ∧ (∀ o, o ≠ 23 → o ≠ 24 → o ≠ 25 → I' o = I o) ∧ ∀ c, res = some c → PthOk T I' k c
theorem ct_X1_search {T : Nat → Nat → Nat} {G L : Nat → Bool} {I : IT} {J : JT} {k : Nat} (hk : k ≤ 8) (hT : TOk I T) (hR : ∀ s, s < 16 → I 14 s = bs (rc T s)) (hG : I 22 7 = bs G) (hL : I 22 8 = bs L) :
    CN 62 RF mX1_search 10 [.ref 22, .int (nI k)] I J (SeQ T I J k (fcO T G L k)) := by
  generalize hQ : SeQ T I J k (fcO T G L k) = Q
  refine cn_of (by decide) rfl (Nat.le_of_ble_eq_true rfl) ?_
  refine blk s_X1_search_0 (And.intro (by unfold vp_in; decide) (nm ?_))
  rw [hL]
  let g : Nat → Int32 := fun m => bs (ldP T G L m)
  refine en_I (I' := fl I 25 g 1) (fl_1 rfl) ?_
  refine dn1 (P := fun m => EN 62 RF mX1_search 10 12 [(0, .ref 22), (1, .int (nI k)), (2, .int (nI m))] [] (fl I 25 g m) J Q) (N := k + 1) (a := 1) ?_ ?_ (by omega)
  · refine blk s_X1_search_12 (nm ?_)
    refine b_X1_search_14 (fun h => ?_) (fun h => absurd ((nI_ltI (by omega) (by omega)).mpr (by omega)) h)
    refine blk s_X1_search_49 (nm ?_)
    generalize hX : fl I 25 g (k + 1) = X
    have x1 : ∀ o, o ≠ 25 → X o = I o := fun o h => by rw [← hX]; exact fl_o h
    have x25 : ∀ m, m ≤ k → X 25 m = bs (ldP T G L m) := fun m hm => by rw [← hX]; exact fl_in (by omega)
    have loop : ∀ s, s ≤ 16 → ∀ I1 : IT, (∀ o, o ≠ 23 → o ≠ 24 → I1 o = X o) → (∀ s', s' < s → fcC T G L k s' = none) → EN 62 RF mX1_search 10 51 [(0, .ref 22), (1, .int (nI k)), (2, .int (nI s))] [] I1 J Q := by
      intro s hs
      refine dn (P := fun s => ∀ I1 : IT, (∀ o, o ≠ 23 → o ≠ 24 → I1 o = X o) → (∀ s', s' < s → fcC T G L k s' = none) → EN 62 RF mX1_search 10 51 [(0, .ref 22), (1, .int (nI k)), (2, .int (nI s))] [] I1 J Q) (N := 16) ?_ ?_ hs
      · intro I1 f1 f2
        refine blk s_X1_search_51 (nm ?_)
        refine b_X1_search_54 (fun h => ?_) (fun h => absurd (Int32.le_refl _) h)
        refine blk s_X1_search_89 (nm ?_)
        have hno : fcO T G L k = none := fsN_none f2
        refine r_X1_search_90 (Or.inl rfl) ?_
        rw [← hQ, hno]
        exact ⟨rfl, rfl, fun o h1 h2 h3 => by rw [f1 o h1 h2, x1 o h3], fun c h => by cases h⟩
      · intro s hs ih I1 f1 f2
        have next : fcC T G L k s = none → ∀ I2 : IT, (∀ o, o ≠ 23 → o ≠ 24 → I2 o = X o) → EN 62 RF mX1_search 10 83 [(0, .ref 22), (1, .int (nI k)), (2, .int (nI s))] [] I2 J Q := by
          intro hc I2 g1
          refine blk s_X1_search_83 (nm ?_)
          refine en_L (by rw [nI_s]) (ih I2 g1 (fun s' hs' => ?_))
          by_cases h : s' = s
          · subst h; exact hc
          · exact f2 s' (by omega)
        refine blk s_X1_search_51 (nm ?_)
        refine b_X1_search_54 (fun h => absurd h (nI_ge hs (by decide))) (fun h => ?_)
        refine blk s_X1_search_57 (And.intro (ib (by omega)) (nm ?_))
        rw [cl k, show I1 25 k = bs (ldP T G L k) from by rw [f1 25 (by decide) (by decide)]; exact x25 k (Nat.le_refl k)]
        refine c_X1_search_64 (ct_X6_isInN (by omega) _) rfl (by decide) rfl (Nat.le_of_ble_eq_true rfl) (rx ?_)
        rw [mb_bs1 _ hs]
        refine b_X1_search_67 (fun h => ?_) (fun h => ?_)
        · refine next ?_ I1 f1
          unfold fcC
          cases ho : okS G L k s
          · rfl
          · show (chO T G L k (fun x => decide (x = s)) s).map _ = none
            cases hq : chO T G L k (fun x => decide (x = s)) s with
            | none => rfl
            | some y =>
              have := ld_of_ch hT.2 hs ho (by rw [hq]; rfl)
              rw [this] at h; cases h
        · have hok := ld_ok (b2t h)
          refine blk s_X1_search_70 (nm ?_)
          have e0 : (0 : Int32) = bs (fun _ => false) := zero_bs
          refine en_S (st' := [.int (nI k), .int (bs (fun _ => false)), .int (nI 0), .int (nI s), .ref 22]) (by rw [← e0]; rfl) ?_
          refine c_X1_search_75 (cn_mono (ct_X1_extend (G := G) (L := L) hk k 0 s (fun _ => false) I1 (by omega) ⟨fun a b h1 h2 => by rw [f1 13 (by decide) (by decide), x1 13 (by decide)]; exact hT.1 a b h1 h2, hT.2⟩ (fun m hm => by rw [f1 25 (by decide) (by decide)]; exact x25 m hm) hs) (fun _ _ _ h => h)) rfl (by omega) rfl (Nat.le_of_ble_eq_true rfl) (by decide) rfl (fun rv I' J' hq => ?_)
          · obtain ⟨rfl, rfl, q1, q2, q3⟩ := hq
            have eu : (fun x => false || decide (x = s)) = (fun x => decide (x = s)) := funext fun x => Bool.false_or _
            rw [eu] at q3 ⊢
            refine b_X1_search_78 (fun h3 => ?_) (fun h3 => ?_)
            · refine next ?_ I' (fun o h1 h2 => by rw [q1 o h1 h2]; exact f1 o h1 h2)
              unfold fcC
              rw [hok]
              show (chO T G L k (fun x => decide (x = s)) s).map _ = none
              cases hh : chO T G L k (fun x => decide (x = s)) s with
              | none => rfl
              | some y => rw [hh] at h3; cases h3
            · obtain ⟨rows, hrows⟩ := Option.isSome_iff_exists.mp (b2t h3)
              have hc : fcC T G L k s = some (s, rows) := by
                unfold fcC
                rw [hok]
                show (chO T G L k (fun x => decide (x = s)) s).map _ = _
                rw [hrows]; rfl
              have hres : fcO T G L k = some (s, rows) := fsN_first f2 hc hs
              obtain ⟨q4, q5⟩ := q3 rows hrows
              refine blk s_X1_search_81 (nm ?_)
              refine r_X1_search_82 (Or.inr rfl) ?_
              rw [← hQ, hres]
              refine ⟨rfl, rfl, fun o h1 h2 h3 => by rw [q1 o h1 h2, f1 o h1 h2, x1 o h3], fun c hc2 => ?_⟩
              cases hc2
              exact ⟨fun m hm => by have := q4 m (by omega); rw [Nat.zero_add] at this; exact this, fun m hm => by have := q5 m (by omega); rw [Nat.zero_add] at this; exact this⟩
    exact loop 0 (by omega) X (fun _ _ _ => rfl) (fun s' h => by omega)
  · intro m hm1 hm ih
    refine blk s_X1_search_12 (nm ?_)
    refine b_X1_search_14 (fun h => absurd ((nI_ltI (by omega) (by omega)).mp h) (by omega)) (fun h => ?_)
    have e1 : nI m - 1 = nI (m - 1) := pk_sub (b := 1) hm1
    refine blk s_X1_search_17 (And.intro (by rw [e1]; exact ib (by omega)) (nm ?_))
    rw [e1, cl (m - 1), fl_in (by omega), show (fl I 25 g m) 22 7 = bs G from by rw [fl_o (by decide)]; exact hG]
    refine c_X1_search_38 (ct_X3_sources (rr := rc T) (fun s hs => by rw [fl_o (by decide)]; exact hR s hs) _) rfl (by decide) rfl (Nat.le_of_ble_eq_true rfl) (by decide) rfl (rx ?_)
    refine blk s_X1_search_41 (And.intro (ib (by omega)) (nm ?_))
    rw [cl m, bs_and]
    refine en_L (by rw [nI_s]) (en_I (fl_s ?_) ih)
    obtain ⟨q, rfl⟩ : ∃ q, m = q + 1 := ⟨m - 1, by omega⟩
    show _ = bs (ldP T G L (q + 1))
    refine bsN_cg fun s _ => ?_
    show (G s && so (rc T) (mb (bs (ldP T G L q))) s) = (G s && so (rc T) (ldP T G L q) s)
    rw [so_cg (fun t ht => mb_bs1 _ ht)]
/-- the kept chain is that of the steps, while their version is the kept one -/
def KpOk (T : Nat → Nat → Nat) (I : IT) (V : Nat) : Prop := ∃ v : Nat, I 22 9 = nI v ∧ v ≤ V ∧ (I 22 5 = 0 ∨ I 22 5 = 1) ∧ (v = V → I 22 6 = -9 ∨ ∃ (k : Nat) (G L : Nat → Bool), k ≤ 8 ∧ I 22 6 = nI k ∧ I 22 7 = bs G ∧ I 22 8 = bs L ∧ I 22 5 = b2i (fcO T G L k).isSome ∧ ∀ c, fcO T G L k = some c → PthOk T I k c)
theorem okS_cg {G G' L L' : Nat → Bool} (hG : ∀ s, s < 16 → G s = G' s) (hL : ∀ s, s < 16 → L s = L' s) (j : Nat) {t : Nat} (ht : t < 16) : okS G L j t = okS G' L' j t := by
  cases j
  · exact hL t ht
  · exact hG t ht
theorem fsN_cg {α : Type} {f g : Nat → Option α} : ∀ {k : Nat}, (∀ j, j < k → f j = g j) → fsN f k = fsN g k
  | 0, _ => rfl
  | k + 1, h => by
    show (match fsN f k with | some x => some x | none => f k) = (match fsN g k with | some x => some x | none => g k)
    rw [fsN_cg (fun j hj => h j (by omega)), h k (by omega)]
theorem chO_cg {T : Nat → Nat → Nat} (hT : ∀ s r, s < 16 → r < 4 → T s r < 16) {G G' L L' : Nat → Bool} (hG : ∀ s, s < 16 → G s = G' s) (hL : ∀ s, s < 16 → L s = L' s) : ∀ (j : Nat) (u u' : Nat → Bool) (s : Nat), (∀ x, x < 16 → u x = u' x) → s < 16 → chO T G L j u s = chO T G' L' j u' s
  | 0, _, _, _, _, _ => rfl
  | j + 1, u, u', s, hu, hs => by
    rw [chO_s, chO_s]
    refine fsN_cg fun r hr => ?_
    have ht := hT s r hs hr
    unfold cand
    rw [hu _ ht, okS_cg hG hL j ht, chO_cg hT hG hL j (fun x => u x || decide (x = T s r)) (fun x => u' x || decide (x = T s r)) (T s r) (fun x hx => by rw [hu x hx]) ht]
theorem fcO_cg {T : Nat → Nat → Nat} (hT : ∀ s r, s < 16 → r < 4 → T s r < 16) {G G' L L' : Nat → Bool} (hG : ∀ s, s < 16 → G s = G' s) (hL : ∀ s, s < 16 → L s = L' s) (k : Nat) : fcO T G L k = fcO T G' L' k := by
  refine fsN_cg fun s hs => ?_
  show (match okS G L k s with | true => _ | false => _) = (match okS G' L' k s with | true => _ | false => _)
  rw [okS_cg hG hL k hs, chO_cg hT hG hL k _ _ s (fun _ _ => rfl) hs]
theorem kept_bs {G G' : Nat → Bool} (h : bs G = bs G') : ∀ s, s < 16 → G s = G' s := fun s hs => bs_inj h hs
section FIND
variable {T : Nat → Nat → Nat} {A B : Nat → Bool} {I : IT} {J : JT} {k V : Nat}
theorem ct_X1_isKept (hA : I 19 4 = bs A) (hB : I 11 5 = bs B) (kk : Int32) : CN 62 RF mX1_isKept 1 [.ref 22, .int kk] I J (RX (some (.int (b2i (decide (I 22 6 = kk) && decide (I 22 9 = I 11 8) && decide (I 22 7 = bs (fun s => A s && !B s)) && decide (I 22 8 = bs (fun s => A s && B s)))))) I J) := by
  refine cn_of (by decide) rfl (Nat.le_of_ble_eq_true rfl) ?_
  refine blk s_X1_isKept_0 (nm ?_)
  refine b_X1_isKept_5 (fun h => ?_) (fun h => ?_)
  · refine blk s_X1_isKept_54 (nm ?_)
    exact r_X1_isKept_55 (Or.inl rfl) (rz0 (by rw [decide_eq_false h]; rfl))
  · refine blk s_X1_isKept_8 (nm ?_)
    refine b_X1_isKept_19 (fun h2 => ?_) (fun h2 => ?_)
    · refine blk s_X1_isKept_54 (nm ?_)
      exact r_X1_isKept_55 (Or.inl rfl) (rz0 (by rw [decide_eq_false h2]; simp))
    · refine blk s_X1_isKept_22 (nm ?_)
      refine c_X1_isKept_30 (ct_X2_goodStates hA hB) rfl (by decide) rfl (Nat.le_of_ble_eq_true rfl) (by decide) rfl (rx ?_)
      refine b_X1_isKept_33 (fun h3 => ?_) (fun h3 => ?_)
      · refine blk s_X1_isKept_54 (nm ?_)
        exact r_X1_isKept_55 (Or.inl rfl) (rz0 (by rw [decide_eq_false h3]; simp))
      · refine blk s_X1_isKept_36 (nm ?_)
        refine c_X1_isKept_44 (ct_X2_threats hA hB) rfl (by decide) rfl (Nat.le_of_ble_eq_true rfl) (by decide) rfl (rx ?_)
        refine b_X1_isKept_47 (fun h4 => ?_) (fun h4 => ?_)
        · refine blk s_X1_isKept_54 (nm ?_)
          exact r_X1_isKept_55 (Or.inl rfl) (rz0 (by rw [decide_eq_false h4]; simp))
        · refine blk s_X1_isKept_50 (nm ?_)
          exact r_X1_isKept_55 (Or.inr rfl) (rz1 (by rw [decide_eq_true h, decide_eq_true h2, decide_eq_true h3, decide_eq_true h4]; rfl))
/-- find's end: whether there is a chain; the first one is there; only Chains' own things have changed -/
def FdQ (T : Nat → Nat → Nat) (I : IT) (J : JT) (V k : Nat) (res : Option (Nat × List Nat)) : IQ := fun r I' J' =>
  r = some (.int (b2i res.isSome)) ∧ J' = J ∧ (∀ o, ¬ (22 ≤ o ∧ o ≤ 25) → I' o = I o) ∧ KpOk T I' V ∧ ∀ c, res = some c → PthOk T I' k c
theorem ct_X1_find (hk : k ≤ 8) (hT : TOk I T) (hR : ∀ s, s < 16 → I 14 s = bs (rc T s)) (hA : I 19 4 = bs A) (hB : I 11 5 = bs B) (hV : I 11 8 = nI V) (hV2 : V < 2 ^ 31) (hKp : KpOk T I V) :
    CN 62 RF mX1_find 11 [.ref 22, .int (nI k)] I J (FdQ T I J V k (fcO T (fun s => A s && !B s) (fun s => A s && B s) k)) := by
  generalize hQ : FdQ T I J V k (fcO T (fun s => A s && !B s) (fun s => A s && B s) k) = Q
  refine cn_of (by decide) rfl (Nat.le_of_ble_eq_true rfl) ?_
  refine blk s_X1_find_0 (nm ?_)
  refine c_X1_find_2 (ct_X1_isKept hA hB _) rfl (by decide) rfl (Nat.le_of_ble_eq_true rfl) (by decide) rfl (rx ?_)
  refine b_X1_find_5 (fun h => ?_) (fun h => ?_)
  · -- not kept: search
    refine blk s_X1_find_13 (nm ?_)
    generalize hX1 : up2 I 22 6 (nI k) = X1
    have y1 : ∀ o, o ≠ 22 → X1 o = I o := fun o h => by rw [← hX1]; exact up2_o h
    refine c_X1_find_23 (ct_X2_goodStates (A := A) (B := B) (by rw [y1 19 (by decide)]; exact hA) (by rw [y1 11 (by decide)]; exact hB)) rfl (by decide) rfl (Nat.le_of_ble_eq_true rfl) (by decide) rfl (rx ?_)
    refine blk s_X1_find_26 (nm ?_)
    generalize hX2 : up2 X1 22 7 (bs fun s => A s && !B s) = X2
    have y2 : ∀ o, o ≠ 22 → X2 o = I o := fun o h => by rw [← hX2, up2_o h]; exact y1 o h
    refine c_X1_find_34 (ct_X2_threats (A := A) (B := B) (by rw [y2 19 (by decide)]; exact hA) (by rw [y2 11 (by decide)]; exact hB)) rfl (by decide) rfl (Nat.le_of_ble_eq_true rfl) (by decide) rfl (rx ?_)
    refine blk s_X1_find_37 (nm ?_)
    rw [show (up2 X2 22 8 (bs fun s => A s && B s)) 11 8 = nI V from by rw [up2_o (by decide), y2 11 (by decide)]; exact hV]
    generalize hX3 : up2 (up2 X2 22 8 (bs fun s => A s && B s)) 22 9 (nI V) = X3
    have y3 : ∀ o, o ≠ 22 → X3 o = I o := fun o h => by rw [← hX3, up2_o h, up2_o h]; exact y2 o h
    have z9 : X3 22 9 = nI V := by rw [← hX3, up2_s]
    have z8 : X3 22 8 = bs fun s => A s && B s := by rw [← hX3, up2_k (by decide), up2_s]
    have z7 : X3 22 7 = bs fun s => A s && !B s := by rw [← hX3, up2_k (by decide), up2_k (by decide), ← hX2, up2_s]
    have z6 : X3 22 6 = nI k := by rw [← hX3, up2_k (by decide), up2_k (by decide), ← hX2, up2_k (by decide), ← hX1, up2_s]
    refine c_X1_find_54 (ct_X1_search hk ⟨fun a b h1 h2 => by rw [y3 13 (by decide)]; exact hT.1 a b h1 h2, hT.2⟩ (fun s hs => by rw [y3 14 (by decide)]; exact hR s hs) z7 z8) rfl (by decide) rfl (Nat.le_of_ble_eq_true rfl) (by decide) rfl (fun rv I' J' hq => ?_)
    obtain ⟨rfl, rfl, q1, q2⟩ := hq
    refine blk s_X1_find_57 (And.intro (b2i_z _) (nm ?_))
    rw [up2_s]
    refine r_X1_find_64 (b2i_z _) ?_
    rw [← hQ]
    have w22 : ∀ m, m ≠ 5 → (up2 I' 22 5 (b2i (fcO T (fun s => A s && !B s) (fun s => A s && B s) k).isSome)) 22 m = X3 22 m := fun m hm => by rw [up2_k hm, q1 22 (by decide) (by decide) (by decide)]
    have wP : ∀ c, fcO T (fun s => A s && !B s) (fun s => A s && B s) k = some c → PthOk T (up2 I' 22 5 (b2i (fcO T (fun s => A s && !B s) (fun s => A s && B s) k).isSome)) k c := fun c hc => ⟨fun m hm => by rw [up2_o (by decide)]; exact (q2 c hc).1 m hm, fun m hm => by rw [up2_o (by decide)]; exact (q2 c hc).2 m hm⟩
    refine ⟨rfl, rfl, fun o ho => by rw [up2_o (by omega), q1 o (by omega) (by omega) (by omega)]; exact y3 o (by omega), ⟨V, by rw [w22 9 (by decide)]; exact z9, Nat.le_refl V, by rw [up2_s]; exact b2i_z _, fun _ => Or.inr ⟨k, _, _, hk, by rw [w22 6 (by decide)]; exact z6, by rw [w22 7 (by decide)]; exact z7, by rw [w22 8 (by decide)]; exact z8, up2_s, wP⟩⟩, wP⟩
  · -- kept
    have hb := b2t h
    simp only [Bool.and_eq_true, decide_eq_true_eq] at hb
    obtain ⟨⟨⟨b1, b2⟩, b3⟩, b4⟩ := hb
    obtain ⟨v, k1, k2, k3, k4⟩ := hKp
    have hvV : v = V := by rw [k1, hV] at b2; exact (nI_eq (by omega) hV2).mp b2
    have hcase := k4 hvV
    have key : I 22 5 = b2i (fcO T (fun s => A s && !B s) (fun s => A s && B s) k).isSome ∧ ∀ c, fcO T (fun s => A s && !B s) (fun s => A s && B s) k = some c → PthOk T I k c := by
      rcases hcase with h9 | ⟨k', G, L, g1, g2, g3, g4, g5, g6⟩
      · rw [b1] at h9; exact absurd h9 (o2i_ne (by omega))
      · have ek : k' = k := (nI_eq (by omega) (by omega)).mp (g2.symm.trans b1)
        subst ek
        rw [fcO_cg hT.2 (kept_bs (b3.symm.trans g3)) (kept_bs (b4.symm.trans g4)) k']
        exact ⟨g5, g6⟩
    refine blk s_X1_find_8 (nm ?_)
    refine r_X1_find_12 k3 ?_
    rw [← hQ]
    exact ⟨by rw [key.1], rfl, fun o _ => rfl, ⟨v, k1, k2, k3, k4⟩, key.2⟩
end FIND
