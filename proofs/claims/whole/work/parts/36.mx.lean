/-! WHAT THE CLASS HOLDS OF THE MACHINE, in the document's words: C terms; os, oc, nx: the terms told for the starts, as the claim, for the variables -/
def Sx (J : JT) (os : Option Nat) (s : Nat) : Bool := match os with
  | none => true
  | some t => vl J t s 0
def Bx (J : JT) (oc : Option Nat) (s : Nat) : Bool := match oc with
  | none => false
  | some t => !vl J t s 0
def nbX (J : JT) (nx : Nat → Option Nat) (s r v : Nat) : Bool := match nx v with
  | none => s.testBit v
  | some t => vl J t s r
def Tx (J : JT) (nx : Nat → Option Nat) (s r : Nat) : Nat := tN (nbX J nx s r)
theorem Tx_lt (J : JT) (nx : Nat → Option Nat) (s r : Nat) : Tx J nx s r < 16 := tN_lt _
/-- the least of some states' distances -/
def lbO (p : Nat → Bool) (d : Nat → Option Nat) : Nat → Option Nat
  | 0 => none
  | k + 1 => match p k, d k, lbO p d k with
    | true, some x, none => some x
    | true, some x, some y => if x < y then some x else some y
    | _, _, o => o
theorem lbO_lt {p : Nat → Bool} {d : Nat → Option Nat} {N : Nat} (hd : ∀ k x, d k = some x → x < N) : ∀ {k w : Nat}, lbO p d k = some w → w < N
  | 0, w, h => by cases h
  | k + 1, w, h => by
    have ih : ∀ y, lbO p d k = some y → y < N := fun y hy => lbO_lt hd hy
    change (match p k, d k, lbO p d k with | true, some x, none => some x | true, some x, some y => if x < y then some x else some y | _, _, o => o) = some w at h
    cases hp : p k <;> cases hdk : d k <;> cases hl : lbO p d k <;> rw [hp, hdk, hl] at h
    · cases h
    · cases h; exact ih _ hl
    · cases h
    · cases h; exact ih _ hl
    · cases h
    · cases h; exact ih _ hl
    · cases h; exact hd _ _ hdk
    · rename_i x y
      change (if x < y then some x else some y) = some w at h
      split at h
      · cases h; exact hd _ _ hdk
      · cases h; exact ih _ hl
theorem o2i_ne {k : Nat} (h : k < 2 ^ 31) : ¬ nI k = -9 := fun e => by have := nI_pos h; rw [e] at this; exact this (by decide)
theorem lbO_F {p : Nat → Bool} {d : Nat → Option Nat} {N : Nat} (hN : N < 2 ^ 31) (hd : ∀ k x, d k = some x → x < N) : ∀ k, lbF (fun s => p s && (d s).isSome) (fun s => o2i (d s)) k = o2i (lbO p d k)
  | 0 => rfl
  | k + 1 => by
    have ih := lbO_F hN hd (p := p) k
    have hlt : ∀ y, lbO p d k = some y → y < N := fun y hy => lbO_lt hd hy
    show (if (p k && (d k).isSome) = true ∧ (lbF _ _ k = -9 ∨ o2i (d k) < lbF _ _ k) then o2i (d k) else lbF _ _ k) = o2i (match p k, d k, lbO p d k with | true, some x, none => some x | true, some x, some y => if x < y then some x else some y | _, _, o => o)
    rw [ih]
    cases hp : p k <;> cases hdk : d k <;> cases hl : lbO p d k
    · rw [if_neg (fun h => by cases h.1)]
    · rw [if_neg (fun h => by cases h.1)]
    · rw [if_neg (fun h => by cases h.1)]
    · rw [if_neg (fun h => by cases h.1)]
    · rw [if_neg (fun h => by cases h.1)]
    · rw [if_neg (fun h => by cases h.1)]
    · rw [if_pos ⟨rfl, Or.inl rfl⟩]
    · rename_i x y
      have hx := hd _ _ hdk
      have hy := hlt _ hl
      by_cases hxy : x < y
      · refine (if_pos ⟨rfl, Or.inr ((nI_ltI (by omega) (by omega)).mpr hxy)⟩).trans ?_
        show o2i (some x) = o2i (if x < y then some x else some y)
        rw [if_pos hxy]
      · refine (if_neg (fun h => h.2.elim (o2i_ne (by omega)) (fun h2 => hxy ((nI_ltI (by omega) (by omega)).mp h2)))).trans ?_
        show o2i (some y) = o2i (if x < y then some x else some y)
        rw [if_neg hxy]
theorem dsO_lt {rr : Nat → Nat → Bool} {S : Nat → Bool} : ∀ {k s d : Nat}, dsO rr S k s = some d → d < k
  | 0, s, d, h => by cases h
  | k + 1, s, d, h => by
    change (if (lvl rr S k).1 s = true then some k else dsO rr S k s) = some d at h
    split at h
    · cases h; omega
    · have := dsO_lt h; omega
theorem met_iff {rr : Nat → Nat → Bool} {S : Nat → Bool} : ∀ k s, (lvl rr S k).2 s = (dsO rr S k s).isSome
  | 0, s => rfl
  | k + 1, s => by
    show ((lvl rr S k).2 s || (lvl rr S k).1 s) = (if (lvl rr S k).1 s = true then some k else dsO rr S k s).isSome
    rw [met_iff k s]
    cases (lvl rr S k).1 s
    · rw [Bool.or_false]; rfl
    · rw [Bool.or_true]; rfl
def lwX (rr : Nat → Nat → Bool) (S B : Nat → Bool) : Option Nat := lbO B (dsO rr S 16) 16
theorem lwX_lt {rr : Nat → Nat → Bool} {S B : Nat → Bool} {w : Nat} (h : lwX rr S B = some w) : w ≤ 15 := by
  have := lbO_lt (N := 16) (fun k x hx => dsO_lt hx) h; omega
/-- terms told, and all that follows but THE WAY -/
def MD (I : IT) (J : JT) (C : Nat) (nx : Nat → Option Nat) (os oc : Option Nat) : Prop :=
  NXok I C nx ∧ I 11 1 = o2i os ∧ (∀ t, os = some t → t < C) ∧ I 11 2 = o2i oc ∧ (∀ t, oc = some t → t < C) ∧
  I 11 4 = bs (Sx J os) ∧ I 11 5 = bs (Bx J oc) ∧ TOk I (Tx J nx) ∧ (∀ s, s < 16 → I 14 s = bs (rc (Tx J nx) s)) ∧
  (∀ s, s < 16 → I 15 s = o2i (dsO (rc (Tx J nx)) (Sx J os) 16 s)) ∧ I 11 10 = bs (lvl (rc (Tx J nx)) (Sx J os) 16).2
def MW (I : IT) (J : JT) (nx : Nat → Option Nat) (os oc : Option Nat) : Prop :=
  I 11 11 = o2i (lwX (rc (Tx J nx)) (Sx J os) (Bx J oc)) ∧ ∀ w, lwX (rc (Tx J nx)) (Sx J os) (Bx J oc) = some w → (∀ k, k ≤ w → I 16 k = nI (wyS (Tx J nx) (rc (Tx J nx)) (Sx J os) (Bx J oc) w k)) ∧ ∀ k, k < w → I 17 k = nI (wyR (Tx J nx) (rc (Tx J nx)) (Sx J os) (Bx J oc) w k)
def MX (I : IT) (J : JT) (C : Nat) (nx : Nat → Option Nat) (os oc : Option Nat) : Prop := MD I J C nx os oc ∧ MW I J nx os oc
def FrX (I I' : IT) : Prop := ∀ o, ¬ (11 ≤ o ∧ o ≤ 18) → I' o = I o
theorem lbv_of {I : IT} {rr : Nat → Nat → Bool} {S B : Nat → Bool} (hB : I 11 5 = bs B) (hD : ∀ s, s < 16 → I 15 s = o2i (dsO rr S 16 s)) (hm : I 11 10 = bs (lvl rr S 16).2) : lbv I = o2i (lwX rr S B) := by
  unfold lwX
  rw [← lbO_F (N := 16) (by decide) (fun k x hx => dsO_lt hx)]
  refine lbF_cg fun s hs => ⟨?_, hD s hs⟩
  rw [hB, hm, bs_and, mb_bs1 _ hs, met_iff]
theorem ct_X3_renewWayM {I : IT} {J : JT} {C : Nat} {nx : Nat → Option Nat} {os oc : Option Nat} (h : MD I J C nx os oc) : ∃ I', CN 62 RF mX3_renewWay 2 [.ref 11] I J (RX none I' J) ∧ MX I' J C nx os oc ∧ FrX I I' ∧ I' 11 8 = I 11 8 := by
  obtain ⟨⟨a1, a2, a3, a4⟩, h1, h2, h3, h4, h5, h6, h7, h8, h9, h10⟩ := h
  have hlb := lbv_of h6 h9 h10
  refine ⟨_, ct_X3_renewWay h7 h8 h5 h6 _ hlb (fun w hw => lwX_lt hw), ?_⟩
  generalize hl : lwX (rc (Tx J nx)) (Sx J os) (Bx J oc) = lw
  have key : ∃ I', I' = rwI I (Tx J nx) (rc (Tx J nx)) (Sx J os) (Bx J oc) lw ∧ (∀ o, ¬ (o = 11 ∨ o = 16 ∨ o = 17 ∨ o = 18) → I' o = I o) ∧ (∀ k, k ≠ 11 → I' 11 k = I 11 k) ∧ I' 11 11 = o2i lw ∧ ∀ w, lw = some w → (∀ k, k ≤ w → I' 16 k = nI (wyS (Tx J nx) (rc (Tx J nx)) (Sx J os) (Bx J oc) w k)) ∧ ∀ k, k < w → I' 17 k = nI (wyR (Tx J nx) (rc (Tx J nx)) (Sx J os) (Bx J oc) w k) := by
    cases lw with
    | none => exact ⟨_, rfl, fun o ho => up2_o (by omega), fun k hk => up2_k hk, up2_s, fun w hw => by cases hw⟩
    | some w =>
      refine ⟨_, rfl, fun o ho => ?_, fun k hk => ?_, ?_, fun w' hw => ?_⟩
      · simp only [rwI]
        rw [fl_o (by omega), fl_o (by omega), fl_o (by omega), up2_o (by omega)]
      · simp only [rwI]
        rw [fl_o (by decide), fl_o (by decide), fl_o (by decide), up2_k hk]
      · simp only [rwI]
        rw [fl_o (by decide), fl_o (by decide), fl_o (by decide), up2_s]; rfl
      · cases hw
        refine ⟨fun k hk => ?_, fun k hk => ?_⟩
        · simp only [rwI]
          rw [fl_o (by decide), fl_in (by omega)]
        · simp only [rwI]
          rw [fl_in hk]
  obtain ⟨I', e, f1, f2, f3, f4⟩ := key
  rw [← e]
  refine ⟨⟨⟨⟨by rw [f1 1 (by decide)]; exact a1, a2, fun v hv => by rw [f1 12 (by decide)]; exact a3 v hv, a4⟩, by rw [f2 1 (by decide)]; exact h1, h2, by rw [f2 2 (by decide)]; exact h3, h4, by rw [f2 4 (by decide)]; exact h5, by rw [f2 5 (by decide)]; exact h6, ⟨fun s r hs hr => by rw [f1 13 (by decide)]; exact h7.1 s r hs hr, h7.2⟩, fun s hs => by rw [f1 14 (by decide)]; exact h8 s hs, fun s hs => by rw [f1 15 (by decide)]; exact h9 s hs, by rw [f2 10 (by decide)]; exact h10⟩, ?_⟩, fun o ho => f1 o (by omega), f2 8 (by decide)⟩
  unfold MW
  rw [hl]
  exact ⟨f3, f4⟩
theorem ct_X3_tellStarts {I : IT} {J : JT} {C : Nat} {nx : Nat → Option Nat} {os oc : Option Nat} (h : MX I J C nx os oc) {t : Nat} (ht : t < C) : ∃ I', CN 62 RF mX3_tellStarts 3 [.ref 11, .int (nI t)] I J (RX (some (.int (o2i os))) I' J) ∧ MX I' J C nx (some t) oc ∧ FrX I I' ∧ I' 11 8 = I 11 8 := by
  obtain ⟨⟨⟨a1, a2, a3, a4⟩, h1, h2, h3, h4, h5, h6, h7, h8, h9, h10⟩, -⟩ := h
  let X : IT := up2 (up2 I 11 1 (nI t)) 11 4 (tsX J t 0)
  have hX : ∀ o, o ≠ 11 → X o = I o := fun o ho => by show up2 _ _ _ _ o = _; rw [up2_o ho, up2_o ho]
  have hX11 : ∀ k, k ≠ 1 → k ≠ 4 → X 11 k = I 11 k := fun k k1 k4 => by show up2 _ _ _ _ 11 k = _; rw [up2_k k4, up2_k k1]
  let Y : IT := rdI X (rc (Tx J nx)) (Sx J (some t))
  have hY : ∀ o, o ≠ 11 → o ≠ 15 → Y o = I o := fun o o1 o2 => by show Sd _ _ _ o = _; rw [Sd_o o2 o1]; exact hX o o1
  have hY11 : ∀ k, k ≠ 10 → Y 11 k = X 11 k := fun k hk => Sd_11 hk
  have hMD : MD Y J C nx (some t) oc :=
    ⟨⟨by rw [hY 1 (by decide) (by decide)]; exact a1, a2, fun v hv => by rw [hY 12 (by decide) (by decide)]; exact a3 v hv, a4⟩, by rw [hY11 1 (by decide)]; show up2 _ _ _ _ 11 1 = _; rw [up2_k (by decide), up2_s]; rfl, fun t' ht' => by cases ht'; exact ht, by rw [hY11 2 (by decide), hX11 2 (by decide) (by decide)]; exact h3, h4,
      by rw [hY11 4 (by decide)]; exact up2_s, by rw [hY11 5 (by decide), hX11 5 (by decide) (by decide)]; exact h6, ⟨fun s r hs hr => by rw [hY 13 (by decide) (by decide)]; exact h7.1 s r hs hr, h7.2⟩, fun s hs => by rw [hY 14 (by decide) (by decide)]; exact h8 s hs, fun s hs => Sd_15 hs, Sd_10⟩
  obtain ⟨I', c1, c2, c3, c4⟩ := ct_X3_renewWayM hMD
  refine ⟨I', ?_, c2, fun o ho => by rw [c3 o ho]; exact hY o (by omega) (by omega), by rw [c4, hY11 8 (by decide), hX11 8 (by decide) (by decide)]⟩
  refine cn_of (by decide) rfl (Nat.le_of_ble_eq_true rfl) ?_
  refine blk s_X3_tellStarts_0 (nm ?_)
  refine c_X3_tellStarts_17 (ct_X4_trueStates (r := 0) (by omega) (by decide)) rfl (by decide) rfl (Nat.le_of_ble_eq_true rfl) (by decide) rfl (rx ?_)
  refine blk s_X3_tellStarts_20 (nm ?_)
  refine c_X3_tellStarts_24 (ct_X3_renewDistances (I := X) (rr := rc (Tx J nx)) (S := Sx J (some t)) (fun s hs => by rw [hX 14 (by decide)]; exact h8 s hs) up2_s) rfl (by decide) rfl (Nat.le_of_ble_eq_true rfl) (by decide) rfl (rx ?_)
  refine blk s_X3_tellStarts_27 (nm ?_)
  refine c_X3_tellStarts_28 c1 rfl (by decide) rfl (Nat.le_of_ble_eq_true rfl) (by decide) rfl (rx ?_)
  refine blk s_X3_tellStarts_31 (nm ?_)
  rw [h1]
  exact r_X3_tellStarts_32 rxq
theorem ct_X3_tellClaim {I : IT} {J : JT} {C : Nat} {nx : Nat → Option Nat} {os oc : Option Nat} (h : MX I J C nx os oc) {t : Nat} (ht : t < C) : ∃ I', CN 62 RF mX3_tellClaim 3 [.ref 11, .int (nI t)] I J (RX (some (.int (o2i oc))) I' J) ∧ MX I' J C nx os (some t) ∧ FrX I I' ∧ I' 11 8 = I 11 8 := by
  obtain ⟨⟨⟨a1, a2, a3, a4⟩, h1, h2, h3, h4, h5, h6, h7, h8, h9, h10⟩, -⟩ := h
  have eB : (65535 : Int32) &&& (tsX J t 0 ^^^ (-1)) = bs (Bx J (some t)) := by
    rw [all_bs]; exact (bs_diff _ _).trans (bsN_cg fun s _ => by rw [Bool.true_and]; rfl)
  let X : IT := up2 (up2 I 11 2 (nI t)) 11 5 (bs (Bx J (some t)))
  have hX : ∀ o, o ≠ 11 → X o = I o := fun o ho => by show up2 _ _ _ _ o = _; rw [up2_o ho, up2_o ho]
  have hX11 : ∀ k, k ≠ 2 → k ≠ 5 → X 11 k = I 11 k := fun k k1 k4 => by show up2 _ _ _ _ 11 k = _; rw [up2_k k4, up2_k k1]
  have hMD : MD X J C nx os (some t) :=
    ⟨⟨by rw [hX 1 (by decide)]; exact a1, a2, fun v hv => by rw [hX 12 (by decide)]; exact a3 v hv, a4⟩, by rw [hX11 1 (by decide) (by decide)]; exact h1, h2, by show up2 _ _ _ _ 11 2 = _; rw [up2_k (by decide), up2_s]; rfl, fun t' ht' => by cases ht'; exact ht,
      by rw [hX11 4 (by decide) (by decide)]; exact h5, up2_s, ⟨fun s r hs hr => by rw [hX 13 (by decide)]; exact h7.1 s r hs hr, h7.2⟩, fun s hs => by rw [hX 14 (by decide)]; exact h8 s hs, fun s hs => by rw [hX 15 (by decide)]; exact h9 s hs, by rw [hX11 10 (by decide) (by decide)]; exact h10⟩
  obtain ⟨I', c1, c2, c3, c4⟩ := ct_X3_renewWayM hMD
  refine ⟨I', ?_, c2, fun o ho => by rw [c3 o ho]; exact hX o (by omega), by rw [c4, hX11 8 (by decide) (by decide)]⟩
  refine cn_of (by decide) rfl (Nat.le_of_ble_eq_true rfl) ?_
  refine blk s_X3_tellClaim_0 (nm ?_)
  refine c_X3_tellClaim_19 (ct_X4_trueStates (r := 0) (by omega) (by decide)) rfl (by decide) rfl (Nat.le_of_ble_eq_true rfl) (by decide) rfl (rx ?_)
  refine blk s_X3_tellClaim_22 (nm ?_)
  rw [eB]
  refine c_X3_tellClaim_29 c1 rfl (by decide) rfl (Nat.le_of_ble_eq_true rfl) (by decide) rfl (rx ?_)
  refine blk s_X3_tellClaim_32 (nm ?_)
  rw [h3]
  exact r_X3_tellClaim_33 rxq
/-- what the class steps by is what the document says -/
theorem vt_bit : ∀ v, v < 4 → ∀ pl, pl < 64 → (stJ 2 v).toBitVec.getLsbD pl = (pl % 16).testBit v := by decide +kernel
theorem tN_cg {p q : Nat → Bool} (h : ∀ v, v < 4 → p v = q v) : tN p = tN q := by
  unfold tN
  simp only [h 0 (by decide), h 1 (by decide), h 2 (by decide), h 3 (by decide)]
theorem TT_Tx {I : IT} {J : JT} {C : Nat} {nx : Nat → Option Nat} (h : NXok I C nx) {s r : Nat} (hs : s < 16) (hr : r < 4) : TT I J s r = Tx J nx s r := by
  obtain ⟨a1, a2, a3, a4⟩ := h
  have key : ∀ v, v < 4 → nbT I J v (16 * r + s) = nbX J nx s r v := by
    intro v hv
    unfold nbT ntX
    rw [a3 v hv, has_o a1 a2 (fun t ht => a4 v t hv ht)]
    unfold nbX
    cases hn : nx v with
    | none =>
      show (stJ 2 v).toBitVec.getLsbD (16 * r + s) = _
      rw [vt_bit v hv _ (by omega), show (16 * r + s) % 16 = s by omega]
    | some t =>
      show (J 10 (nI t).toNatClampNeg).toBitVec.getLsbD (16 * r + s) = _
      rw [cl t (by have := a4 v t hv hn; omega)]; rfl
  exact tN_cg key
theorem rc_cg {T T' : Nat → Nat → Nat} {s : Nat} (h : ∀ r, r < 4 → T s r = T' s r) (t : Nat) : rc T s t = rc T' s t := anN_cg fun r hr => by rw [h r hr]
theorem ct_X3_tellNext {I : IT} {J : JT} {C : Nat} {nx : Nat → Option Nat} {os oc : Option Nat} (h : MX I J C nx os oc) {v t : Nat} (hv : v < 4) (ht : t < C) : ∃ I', CN 62 RF mX3_tellNext 3 [.ref 11, .int (nI v), .int (nI t)] I J (RX (some (.int (o2i (nx v)))) I' J) ∧ MX I' J C (fun u => if u = v then some t else nx u) os oc ∧ FrX I I' ∧ I' 11 8 = I 11 8 + 1 := by
  obtain ⟨⟨⟨a1, a2, a3, a4⟩, h1, h2, h3, h4, h5, h6, h7, h8, h9, h10⟩, -⟩ := h
  generalize hnx : (fun u => if u = v then some t else nx u) = nx'
  have hnx' : ∀ u, nx' u = if u = v then some t else nx u := fun u => by rw [← hnx]
  let X : IT := up2 I 12 v (nI t)
  have hX : ∀ o, o ≠ 12 → X o = I o := fun o ho => up2_o ho
  have hNX : NXok X C nx' := ⟨by rw [hX 1 (by decide)]; exact a1, a2, fun u hu => by
    rw [hnx' u]
    by_cases huv : u = v
    · subst huv; rw [if_pos rfl]; exact up2_s
    · rw [if_neg huv]; exact (up2_k huv).trans (a3 u hu), fun u t' hu ht' => by
    rw [hnx' u] at ht'
    by_cases huv : u = v
    · rw [if_pos huv] at ht'; cases ht'; exact ht
    · rw [if_neg huv] at ht'; exact a4 u t' hu ht'⟩
  let Y : IT := rsI X J
  have hY : ∀ o, o ≠ 11 → o ≠ 13 → o ≠ 14 → Y o = X o := fun o o1 o3 o4 => by show fl (fl _ _ _ _) _ _ _ o = _; rw [fl_o o4, fl_o o3, up2_o o1]
  have hY11 : ∀ k, k ≠ 8 → Y 11 k = I 11 k := fun k hk => by show fl (fl _ _ _ _) _ _ _ 11 k = _; rw [fl_o (by decide), fl_o (by decide), up2_k hk, hX 11 (by decide)]
  have hY8 : Y 11 8 = I 11 8 + 1 := by show fl (fl _ _ _ _) _ _ _ 11 8 = _; rw [fl_o (by decide), fl_o (by decide), up2_s, hX 11 (by decide)]
  have hY13 : TOk Y (Tx J nx') := ⟨fun s r hs hr => by
    show fl (fl _ _ _ _) _ _ _ 13 (16 * r + s) = _
    rw [fl_o (by decide), fl_in (by omega), ← TT_Tx hNX hs hr]
    exact bsN4 _, fun s r _ _ => Tx_lt _ _ _ _⟩
  have hY14 : ∀ s, s < 16 → Y 14 s = bs (rc (Tx J nx') s) := fun s hs => by
    show fl (fl _ _ _ _) _ _ _ 14 s = _
    rw [fl_in hs]
    exact bsN_cg fun u _ => rc_cg (fun r hr => TT_Tx hNX hs hr) u
  let Z : IT := rdI Y (rc (Tx J nx')) (Sx J os)
  have hZ : ∀ o, o ≠ 11 → o ≠ 15 → Z o = Y o := fun o o1 o2 => Sd_o o2 o1
  have hZ11 : ∀ k, k ≠ 10 → Z 11 k = Y 11 k := fun k hk => Sd_11 hk
  have hMD : MD Z J C nx' os oc :=
    ⟨⟨by rw [hZ 1 (by decide) (by decide), hY 1 (by decide) (by decide) (by decide)]; exact hNX.1, a2, fun u hu => by rw [hZ 12 (by decide) (by decide), hY 12 (by decide) (by decide) (by decide)]; exact hNX.2.2.1 u hu, hNX.2.2.2⟩,
      by rw [hZ11 1 (by decide), hY11 1 (by decide)]; exact h1, h2, by rw [hZ11 2 (by decide), hY11 2 (by decide)]; exact h3, h4, by rw [hZ11 4 (by decide), hY11 4 (by decide)]; exact h5, by rw [hZ11 5 (by decide), hY11 5 (by decide)]; exact h6,
      ⟨fun s r hs hr => by rw [hZ 13 (by decide) (by decide)]; exact hY13.1 s r hs hr, hY13.2⟩, fun s hs => by rw [hZ 14 (by decide) (by decide)]; exact hY14 s hs, fun s hs => Sd_15 hs, Sd_10⟩
  obtain ⟨I', c1, c2, c3, c4⟩ := ct_X3_renewWayM hMD
  refine ⟨I', ?_, c2, fun o ho => by rw [c3 o ho, hZ o (by omega) (by omega), hY o (by omega) (by omega) (by omega)]; exact hX o (by omega), by rw [c4, hZ11 8 (by decide), hY8]⟩
  refine cn_of (by decide) rfl (Nat.le_of_ble_eq_true rfl) ?_
  refine blk s_X3_tellNext_0 (And.intro (ib hv) (And.intro (ib hv) (nm ?_)))
  rw [cl v, a3 v hv]
  refine c_X3_tellNext_15 (ct_X3_renewSteps (I := X) (C := C) hNX.1 a2) rfl (by decide) rfl (Nat.le_of_ble_eq_true rfl) (by decide) rfl (rx ?_)
  refine blk s_X3_tellNext_18 (nm ?_)
  refine c_X3_tellNext_19 (ct_X3_renewDistances (I := Y) (rr := rc (Tx J nx')) (S := Sx J os) hY14 (by rw [hY11 4 (by decide)]; exact h5)) rfl (by decide) rfl (Nat.le_of_ble_eq_true rfl) (by decide) rfl (rx ?_)
  refine blk s_X3_tellNext_22 (nm ?_)
  refine c_X3_tellNext_23 c1 rfl (by decide) rfl (Nat.le_of_ble_eq_true rfl) (by decide) rfl (rx ?_)
  refine blk s_X3_tellNext_26 (nm ?_)
  exact r_X3_tellNext_27 rxq
