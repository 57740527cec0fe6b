/-! PAIRS: block -/
section PAIR13
variable {sc : Nat → Nat → Int32} {V V' : Nat} {I I1 I2 : IT} {J : JT} {f : IT} {g : JT} {C : Nat} {nx : Nat → Option Nat} {os oc : Option Nat} {K : Nat} {bx : BXT} {fa : Int32}
/-- how block goes through a box: 0 a place with nothing, 1 a term with inputs, 2 the set -/
def bkF (f7 : Nat → Int32) (g : JT) (p : Nat → Option Nat) : Nat → Nat → Int32 → Nat × Int32
  | 0, _, acc => (2, acc)
  | n + 1, i, acc => match p i with
    | none => (0, acc)
    | some t => if f7 t = 0 then bkF f7 g p n (i + 1) (acc &&& tsX g t 0) else (1, acc)
def bkS (f7 : Nat → Int32) (g : JT) (bx : BXT) (b : Int32) : Nat × Int32 := match ltB b 4 with
  | false => (3, 0)
  | true => match bx b.toNatClampNeg with
    | none => (0, 0)
    | some q => bkF f7 g q.2.2 q.2.1 0 65535
def bkX (a : Int32) : Int32 := 65535 &&& (a ^^^ (-1))
theorem sm_ff : sm 65535 := by rw [← bs_all]; exact sm_bs _
theorem bkX_sm (a : Int32) : sm (bkX a) := fun k hk => by
  unfold bkX; rw [mb_and, sm_ff k hk, Bool.false_and]
/-- what an end of block's walk gives -/
def BE (mA : MI) (dA : Nat) (o : Nat) (c : Nat × Int32) (v : Int32) (F1 : IT → IT) (I0 : IT) (J : JT) (I' : IT) : Prop :=
  (c.1 = 3 → v = -1 ∧ I' = I0) ∧ (c.1 = 0 → v = -11 ∧ I' = F1 I0) ∧ (c.1 = 1 → v = -2 ∧ I' = I0) ∧ (c.1 = 2 → CN 62 RF mA dA [.ref o, .int (bkX c.2)] I0 J (RX (some (.int v)) I' J))
theorem bk_X6_0 {v : Int32} {I0 I' : IT} {l : Nat} {p : Nat → Option Nat} (hC : I0 1 9 = nI C) (h40 : C ≤ 40) (hl : l ≤ 8) (hp : ∀ i t, i < 8 → p i = some t → t < C) (x2 : I0 (bO 0) 2 = nI l) (x3 : ∀ i, i < 8 → I0 (bP 0) i = o2i (p i)) : ∀ (n i : Nat) (acc : Int32), i + n = l → BE mX2_addIfFitting 3 19 (bkF (I0 7) J p n i acc) v (fun X => up2 X 0 7 1) I0 J I' → EN 62 RF mX6_block 4 40 [(0, .ref 0), (1, .int (nI 0)), (2, .ref (bO 0)), (3, .int acc), (4, .int (nI i))] [] I0 J (RX (some (.int v)) I' J) := by
  intro n
  induction n with
  | zero =>
    intro i acc hn hE
    refine blk s_X6_block_40 (nm ?_)
    rw [show I0 _ 2 = nI l from x2]
    refine b_X6_block_46 (fun h => ?_) (fun h => absurd ((nI_leI (a := l) (b := i) (by omega) (by omega)).mpr (by omega)) h)
    refine blk s_X6_block_111 (nm ?_)
    refine c_X6_block_121 (hE.2.2.2 rfl) rfl (by decide) rfl (Nat.le_of_ble_eq_true rfl) (by decide) rfl (rx ?_)
    exact r_X6_block_124 rxq
  | succ n ih =>
    intro i acc hn hE
    have hpt : ∀ t, p i = some t → t < C := fun t ht => hp i t (by omega) ht
    refine blk s_X6_block_40 (nm ?_)
    rw [show I0 _ 2 = nI l from x2]
    refine b_X6_block_46 (fun h => absurd ((nI_leI (a := l) (b := i) (by omega) (by omega)).mp h) (by omega)) (fun h => ?_)
    refine blk s_X6_block_49 (And.intro (ib (show i < 8 by omega)) (nm ?_))
    rw [cl i, show I0 _ i = o2i (p i) from x3 i (by omega)]
    refine c_X6_block_64 (ct_X4_hasC hC _) rfl (by decide) rfl (Nat.le_of_ble_eq_true rfl) (by decide) rfl (rx ?_)
    rw [hsB_o h40 hpt]
    simp only [bkF] at hE
    cases hpi : p i with
    | none =>
      rw [hpi] at hE
      obtain ⟨e1, e2⟩ := hE.2.1 rfl
      refine b_X6_block_67 (fun h => absurd rfl h) (fun h => ?_)
      refine blk s_X6_block_70 (nm ?_)
      refine c_X6_block_72 (ct_X6_faulted 1) rfl (by decide) rfl (Nat.le_of_ble_eq_true rfl) (by decide) rfl (rx ?_)
      exact r_X6_block_75 (rxe (by rw [e1]; rfl) e2.symm rfl)
    | some t =>
      rw [hpi] at hE
      have ht := hpt t hpi
      refine b_X6_block_67 (fun h => ?_) (fun h => absurd h (show ¬ b2i true = 0 by decide))
      refine blk s_X6_block_76 (And.intro (ib (show t < 40 by omega)) (nm ?_))
      rw [show o2i (some t) = nI t from rfl, cl t]
      refine b_X6_block_86 (fun h => ?_) (fun h => ?_)
      · dsimp only at hE
        rw [if_pos h] at hE
        refine blk s_X6_block_92 (nm ?_)
        refine c_X6_block_100 (ct_X4_trueStates (r := 0) (show t < 40 by omega) (by decide)) rfl (by decide) rfl (Nat.le_of_ble_eq_true rfl) (by decide) rfl (rx ?_)
        refine blk s_X6_block_103 (nm ?_)
        exact wkt 5 (en_L (by rw [nI_s]; rfl) (ih (i + 1) (acc &&& tsX J t 0) (by omega) hE))
      · dsimp only at hE
        rw [if_neg h] at hE
        obtain ⟨e1, e2⟩ := hE.2.2.1 rfl
        refine blk s_X6_block_89 (nm ?_)
        exact r_X6_block_91 (rxe (by rw [e1]) e2.symm rfl)
theorem bk_X6_1 {v : Int32} {I0 I' : IT} {l : Nat} {p : Nat → Option Nat} (hC : I0 1 9 = nI C) (h40 : C ≤ 40) (hl : l ≤ 8) (hp : ∀ i t, i < 8 → p i = some t → t < C) (x2 : I0 (bO 1) 2 = nI l) (x3 : ∀ i, i < 8 → I0 (bP 1) i = o2i (p i)) : ∀ (n i : Nat) (acc : Int32), i + n = l → BE mX2_addIfFitting 3 19 (bkF (I0 7) J p n i acc) v (fun X => up2 X 0 7 1) I0 J I' → EN 62 RF mX6_block 4 40 [(0, .ref 0), (1, .int (nI 1)), (2, .ref (bO 1)), (3, .int acc), (4, .int (nI i))] [] I0 J (RX (some (.int v)) I' J) := by
  intro n
  induction n with
  | zero =>
    intro i acc hn hE
    refine blk s_X6_block_40 (nm ?_)
    rw [show I0 _ 2 = nI l from x2]
    refine b_X6_block_46 (fun h => ?_) (fun h => absurd ((nI_leI (a := l) (b := i) (by omega) (by omega)).mpr (by omega)) h)
    refine blk s_X6_block_111 (nm ?_)
    refine c_X6_block_121 (hE.2.2.2 rfl) rfl (by decide) rfl (Nat.le_of_ble_eq_true rfl) (by decide) rfl (rx ?_)
    exact r_X6_block_124 rxq
  | succ n ih =>
    intro i acc hn hE
    have hpt : ∀ t, p i = some t → t < C := fun t ht => hp i t (by omega) ht
    refine blk s_X6_block_40 (nm ?_)
    rw [show I0 _ 2 = nI l from x2]
    refine b_X6_block_46 (fun h => absurd ((nI_leI (a := l) (b := i) (by omega) (by omega)).mp h) (by omega)) (fun h => ?_)
    refine blk s_X6_block_49 (And.intro (ib (show i < 8 by omega)) (nm ?_))
    rw [cl i, show I0 _ i = o2i (p i) from x3 i (by omega)]
    refine c_X6_block_64 (ct_X4_hasC hC _) rfl (by decide) rfl (Nat.le_of_ble_eq_true rfl) (by decide) rfl (rx ?_)
    rw [hsB_o h40 hpt]
    simp only [bkF] at hE
    cases hpi : p i with
    | none =>
      rw [hpi] at hE
      obtain ⟨e1, e2⟩ := hE.2.1 rfl
      refine b_X6_block_67 (fun h => absurd rfl h) (fun h => ?_)
      refine blk s_X6_block_70 (nm ?_)
      refine c_X6_block_72 (ct_X6_faulted 1) rfl (by decide) rfl (Nat.le_of_ble_eq_true rfl) (by decide) rfl (rx ?_)
      exact r_X6_block_75 (rxe (by rw [e1]; rfl) e2.symm rfl)
    | some t =>
      rw [hpi] at hE
      have ht := hpt t hpi
      refine b_X6_block_67 (fun h => ?_) (fun h => absurd h (show ¬ b2i true = 0 by decide))
      refine blk s_X6_block_76 (And.intro (ib (show t < 40 by omega)) (nm ?_))
      rw [show o2i (some t) = nI t from rfl, cl t]
      refine b_X6_block_86 (fun h => ?_) (fun h => ?_)
      · dsimp only at hE
        rw [if_pos h] at hE
        refine blk s_X6_block_92 (nm ?_)
        refine c_X6_block_100 (ct_X4_trueStates (r := 0) (show t < 40 by omega) (by decide)) rfl (by decide) rfl (Nat.le_of_ble_eq_true rfl) (by decide) rfl (rx ?_)
        refine blk s_X6_block_103 (nm ?_)
        exact wkt 5 (en_L (by rw [nI_s]; rfl) (ih (i + 1) (acc &&& tsX J t 0) (by omega) hE))
      · dsimp only at hE
        rw [if_neg h] at hE
        obtain ⟨e1, e2⟩ := hE.2.2.1 rfl
        refine blk s_X6_block_89 (nm ?_)
        exact r_X6_block_91 (rxe (by rw [e1]) e2.symm rfl)
theorem bk_X6_2 {v : Int32} {I0 I' : IT} {l : Nat} {p : Nat → Option Nat} (hC : I0 1 9 = nI C) (h40 : C ≤ 40) (hl : l ≤ 8) (hp : ∀ i t, i < 8 → p i = some t → t < C) (x2 : I0 (bO 2) 2 = nI l) (x3 : ∀ i, i < 8 → I0 (bP 2) i = o2i (p i)) : ∀ (n i : Nat) (acc : Int32), i + n = l → BE mX2_addIfFitting 3 19 (bkF (I0 7) J p n i acc) v (fun X => up2 X 0 7 1) I0 J I' → EN 62 RF mX6_block 4 40 [(0, .ref 0), (1, .int (nI 2)), (2, .ref (bO 2)), (3, .int acc), (4, .int (nI i))] [] I0 J (RX (some (.int v)) I' J) := by
  intro n
  induction n with
  | zero =>
    intro i acc hn hE
    refine blk s_X6_block_40 (nm ?_)
    rw [show I0 _ 2 = nI l from x2]
    refine b_X6_block_46 (fun h => ?_) (fun h => absurd ((nI_leI (a := l) (b := i) (by omega) (by omega)).mpr (by omega)) h)
    refine blk s_X6_block_111 (nm ?_)
    refine c_X6_block_121 (hE.2.2.2 rfl) rfl (by decide) rfl (Nat.le_of_ble_eq_true rfl) (by decide) rfl (rx ?_)
    exact r_X6_block_124 rxq
  | succ n ih =>
    intro i acc hn hE
    have hpt : ∀ t, p i = some t → t < C := fun t ht => hp i t (by omega) ht
    refine blk s_X6_block_40 (nm ?_)
    rw [show I0 _ 2 = nI l from x2]
    refine b_X6_block_46 (fun h => absurd ((nI_leI (a := l) (b := i) (by omega) (by omega)).mp h) (by omega)) (fun h => ?_)
    refine blk s_X6_block_49 (And.intro (ib (show i < 8 by omega)) (nm ?_))
    rw [cl i, show I0 _ i = o2i (p i) from x3 i (by omega)]
    refine c_X6_block_64 (ct_X4_hasC hC _) rfl (by decide) rfl (Nat.le_of_ble_eq_true rfl) (by decide) rfl (rx ?_)
    rw [hsB_o h40 hpt]
    simp only [bkF] at hE
    cases hpi : p i with
    | none =>
      rw [hpi] at hE
      obtain ⟨e1, e2⟩ := hE.2.1 rfl
      refine b_X6_block_67 (fun h => absurd rfl h) (fun h => ?_)
      refine blk s_X6_block_70 (nm ?_)
      refine c_X6_block_72 (ct_X6_faulted 1) rfl (by decide) rfl (Nat.le_of_ble_eq_true rfl) (by decide) rfl (rx ?_)
      exact r_X6_block_75 (rxe (by rw [e1]; rfl) e2.symm rfl)
    | some t =>
      rw [hpi] at hE
      have ht := hpt t hpi
      refine b_X6_block_67 (fun h => ?_) (fun h => absurd h (show ¬ b2i true = 0 by decide))
      refine blk s_X6_block_76 (And.intro (ib (show t < 40 by omega)) (nm ?_))
      rw [show o2i (some t) = nI t from rfl, cl t]
      refine b_X6_block_86 (fun h => ?_) (fun h => ?_)
      · dsimp only at hE
        rw [if_pos h] at hE
        refine blk s_X6_block_92 (nm ?_)
        refine c_X6_block_100 (ct_X4_trueStates (r := 0) (show t < 40 by omega) (by decide)) rfl (by decide) rfl (Nat.le_of_ble_eq_true rfl) (by decide) rfl (rx ?_)
        refine blk s_X6_block_103 (nm ?_)
        exact wkt 5 (en_L (by rw [nI_s]; rfl) (ih (i + 1) (acc &&& tsX J t 0) (by omega) hE))
      · dsimp only at hE
        rw [if_neg h] at hE
        obtain ⟨e1, e2⟩ := hE.2.2.1 rfl
        refine blk s_X6_block_89 (nm ?_)
        exact r_X6_block_91 (rxe (by rw [e1]) e2.symm rfl)
theorem bk_X6_3 {v : Int32} {I0 I' : IT} {l : Nat} {p : Nat → Option Nat} (hC : I0 1 9 = nI C) (h40 : C ≤ 40) (hl : l ≤ 8) (hp : ∀ i t, i < 8 → p i = some t → t < C) (x2 : I0 (bO 3) 2 = nI l) (x3 : ∀ i, i < 8 → I0 (bP 3) i = o2i (p i)) : ∀ (n i : Nat) (acc : Int32), i + n = l → BE mX2_addIfFitting 3 19 (bkF (I0 7) J p n i acc) v (fun X => up2 X 0 7 1) I0 J I' → EN 62 RF mX6_block 4 40 [(0, .ref 0), (1, .int (nI 3)), (2, .ref (bO 3)), (3, .int acc), (4, .int (nI i))] [] I0 J (RX (some (.int v)) I' J) := by
  intro n
  induction n with
  | zero =>
    intro i acc hn hE
    refine blk s_X6_block_40 (nm ?_)
    rw [show I0 _ 2 = nI l from x2]
    refine b_X6_block_46 (fun h => ?_) (fun h => absurd ((nI_leI (a := l) (b := i) (by omega) (by omega)).mpr (by omega)) h)
    refine blk s_X6_block_111 (nm ?_)
    refine c_X6_block_121 (hE.2.2.2 rfl) rfl (by decide) rfl (Nat.le_of_ble_eq_true rfl) (by decide) rfl (rx ?_)
    exact r_X6_block_124 rxq
  | succ n ih =>
    intro i acc hn hE
    have hpt : ∀ t, p i = some t → t < C := fun t ht => hp i t (by omega) ht
    refine blk s_X6_block_40 (nm ?_)
    rw [show I0 _ 2 = nI l from x2]
    refine b_X6_block_46 (fun h => absurd ((nI_leI (a := l) (b := i) (by omega) (by omega)).mp h) (by omega)) (fun h => ?_)
    refine blk s_X6_block_49 (And.intro (ib (show i < 8 by omega)) (nm ?_))
    rw [cl i, show I0 _ i = o2i (p i) from x3 i (by omega)]
    refine c_X6_block_64 (ct_X4_hasC hC _) rfl (by decide) rfl (Nat.le_of_ble_eq_true rfl) (by decide) rfl (rx ?_)
    rw [hsB_o h40 hpt]
    simp only [bkF] at hE
    cases hpi : p i with
    | none =>
      rw [hpi] at hE
      obtain ⟨e1, e2⟩ := hE.2.1 rfl
      refine b_X6_block_67 (fun h => absurd rfl h) (fun h => ?_)
      refine blk s_X6_block_70 (nm ?_)
      refine c_X6_block_72 (ct_X6_faulted 1) rfl (by decide) rfl (Nat.le_of_ble_eq_true rfl) (by decide) rfl (rx ?_)
      exact r_X6_block_75 (rxe (by rw [e1]; rfl) e2.symm rfl)
    | some t =>
      rw [hpi] at hE
      have ht := hpt t hpi
      refine b_X6_block_67 (fun h => ?_) (fun h => absurd h (show ¬ b2i true = 0 by decide))
      refine blk s_X6_block_76 (And.intro (ib (show t < 40 by omega)) (nm ?_))
      rw [show o2i (some t) = nI t from rfl, cl t]
      refine b_X6_block_86 (fun h => ?_) (fun h => ?_)
      · dsimp only at hE
        rw [if_pos h] at hE
        refine blk s_X6_block_92 (nm ?_)
        refine c_X6_block_100 (ct_X4_trueStates (r := 0) (show t < 40 by omega) (by decide)) rfl (by decide) rfl (Nat.le_of_ble_eq_true rfl) (by decide) rfl (rx ?_)
        refine blk s_X6_block_103 (nm ?_)
        exact wkt 5 (en_L (by rw [nI_s]; rfl) (ih (i + 1) (acc &&& tsX J t 0) (by omega) hE))
      · dsimp only at hE
        rw [if_neg h] at hE
        obtain ⟨e1, e2⟩ := hE.2.2.1 rfl
        refine blk s_X6_block_89 (nm ?_)
        exact r_X6_block_91 (rxe (by rw [e1]) e2.symm rfl)
theorem ct_X6_block {v : Int32} {I' : IT} (hC : I 1 9 = nI C) (h40 : C ≤ 40) (hb : BOK C bx) (hx : CBX bx I) {b : Int32} (hE : BE mX2_addIfFitting 3 19 (bkS (I 7) J bx b) v (fun X => up2 X 0 7 1) (up2 I 0 7 0) J I') : CN 62 RF mX6_block 4 [.ref 0, .int b] I J (RX (some (.int v)) I' J) := by
  unfold bkS at hE
  refine cn_of (by decide) rfl (Nat.le_of_ble_eq_true rfl) ?_
  refine blk s_X6_block_0 (nm ?_)
  have hx0 := CBX_f hx 0
  have hf0 : CFr I (up2 I 0 7 0) := CFr_0 0
  generalize up2 I 0 7 0 = I0 at hx0 hf0 hE ⊢
  have hC0 : I0 1 9 = nI C := by rw [hf0 1 (by decide) (by decide)]; exact hC
  rw [← hf0 7 (by decide) (by decide)] at hE
  refine c_X6_block_6 (ct_X6_isBox b) rfl (by decide) rfl (Nat.le_of_ble_eq_true rfl) (rx ?_)
  cases hB : ltB b 4 with
  | false =>
    rw [hB] at hE
    obtain ⟨e1, e2⟩ := hE.1 rfl
    refine b_X6_block_9 (fun h => absurd rfl h) (fun h => ?_)
    refine blk s_X6_block_12 (nm ?_)
    exact r_X6_block_13 (rxe (by rw [e1]) e2.symm rfl)
  | true =>
    rw [hB] at hE
    obtain ⟨k, hk, rfl⟩ := lt_ex (N := 4) (by decide) hB
    refine b_X6_block_9 (fun h => ?_) (fun h => absurd h (by decide))
    dsimp only at hE
    rw [cl k] at hE
    rcases b4 hk with rfl | rfl | rfl | rfl
    · refine blk s_X6_block_14 (And.intro (ib hk) (nm ?_))
      refine c_X6_block_22 (ct_X0_hasRow hk) rfl (by decide) rfl (Nat.le_of_ble_eq_true rfl) (by decide) rfl (rx ?_)
      rw [hr_bx hb hx0 hk]
      cases e : bx 0 with
      | none =>
        rw [e] at hE
        obtain ⟨e1, e2⟩ := hE.2.1 rfl
        refine b_X6_block_25 (fun h => absurd rfl h) (fun h => ?_)
        refine blk s_X6_block_28 (nm ?_)
        refine c_X6_block_30 (ct_X6_faulted 1) rfl (by decide) rfl (Nat.le_of_ble_eq_true rfl) (by decide) rfl (rx ?_)
        exact r_X6_block_33 (rxe (by rw [e1]; rfl) e2.symm rfl)
      | some q =>
        obtain ⟨so, l, p⟩ := q
        rw [e] at hE
        obtain ⟨x1, x2, x3⟩ := (hx0 _ hk).2 so l p e
        obtain ⟨-, hl, hp⟩ := hb _ so l p hk e
        refine b_X6_block_25 (fun h => ?_) (fun h => absurd h (show ¬ b2i true = 0 by decide))
        refine blk s_X6_block_34 (nm ?_)
        exact bk_X6_0 hC0 h40 hl hp x2 x3 l 0 65535 (by omega) hE
    · refine blk s_X6_block_14 (And.intro (ib hk) (nm ?_))
      refine c_X6_block_22 (ct_X0_hasRow hk) rfl (by decide) rfl (Nat.le_of_ble_eq_true rfl) (by decide) rfl (rx ?_)
      rw [hr_bx hb hx0 hk]
      cases e : bx 1 with
      | none =>
        rw [e] at hE
        obtain ⟨e1, e2⟩ := hE.2.1 rfl
        refine b_X6_block_25 (fun h => absurd rfl h) (fun h => ?_)
        refine blk s_X6_block_28 (nm ?_)
        refine c_X6_block_30 (ct_X6_faulted 1) rfl (by decide) rfl (Nat.le_of_ble_eq_true rfl) (by decide) rfl (rx ?_)
        exact r_X6_block_33 (rxe (by rw [e1]; rfl) e2.symm rfl)
      | some q =>
        obtain ⟨so, l, p⟩ := q
        rw [e] at hE
        obtain ⟨x1, x2, x3⟩ := (hx0 _ hk).2 so l p e
        obtain ⟨-, hl, hp⟩ := hb _ so l p hk e
        refine b_X6_block_25 (fun h => ?_) (fun h => absurd h (show ¬ b2i true = 0 by decide))
        refine blk s_X6_block_34 (nm ?_)
        exact bk_X6_1 hC0 h40 hl hp x2 x3 l 0 65535 (by omega) hE
    · refine blk s_X6_block_14 (And.intro (ib hk) (nm ?_))
      refine c_X6_block_22 (ct_X0_hasRow hk) rfl (by decide) rfl (Nat.le_of_ble_eq_true rfl) (by decide) rfl (rx ?_)
      rw [hr_bx hb hx0 hk]
      cases e : bx 2 with
      | none =>
        rw [e] at hE
        obtain ⟨e1, e2⟩ := hE.2.1 rfl
        refine b_X6_block_25 (fun h => absurd rfl h) (fun h => ?_)
        refine blk s_X6_block_28 (nm ?_)
        refine c_X6_block_30 (ct_X6_faulted 1) rfl (by decide) rfl (Nat.le_of_ble_eq_true rfl) (by decide) rfl (rx ?_)
        exact r_X6_block_33 (rxe (by rw [e1]; rfl) e2.symm rfl)
      | some q =>
        obtain ⟨so, l, p⟩ := q
        rw [e] at hE
        obtain ⟨x1, x2, x3⟩ := (hx0 _ hk).2 so l p e
        obtain ⟨-, hl, hp⟩ := hb _ so l p hk e
        refine b_X6_block_25 (fun h => ?_) (fun h => absurd h (show ¬ b2i true = 0 by decide))
        refine blk s_X6_block_34 (nm ?_)
        exact bk_X6_2 hC0 h40 hl hp x2 x3 l 0 65535 (by omega) hE
    · refine blk s_X6_block_14 (And.intro (ib hk) (nm ?_))
      refine c_X6_block_22 (ct_X0_hasRow hk) rfl (by decide) rfl (Nat.le_of_ble_eq_true rfl) (by decide) rfl (rx ?_)
      rw [hr_bx hb hx0 hk]
      cases e : bx 3 with
      | none =>
        rw [e] at hE
        obtain ⟨e1, e2⟩ := hE.2.1 rfl
        refine b_X6_block_25 (fun h => absurd rfl h) (fun h => ?_)
        refine blk s_X6_block_28 (nm ?_)
        refine c_X6_block_30 (ct_X6_faulted 1) rfl (by decide) rfl (Nat.le_of_ble_eq_true rfl) (by decide) rfl (rx ?_)
        exact r_X6_block_33 (rxe (by rw [e1]; rfl) e2.symm rfl)
      | some q =>
        obtain ⟨so, l, p⟩ := q
        rw [e] at hE
        obtain ⟨x1, x2, x3⟩ := (hx0 _ hk).2 so l p e
        obtain ⟨-, hl, hp⟩ := hb _ so l p hk e
        refine b_X6_block_25 (fun h => ?_) (fun h => absurd h (show ¬ b2i true = 0 by decide))
        refine blk s_X6_block_34 (nm ?_)
        exact bk_X6_3 hC0 h40 hl hp x2 x3 l 0 65535 (by omega) hE
theorem bk_X7 {v : Int32} {I0 I' : IT} {k l : Nat} {p : Nat → Option Nat} (hk : k < 4) (hB : RB I0 g C nx os oc) (hR : RTm I0 J f g C) (hl : l ≤ 8) (hp : ∀ i t, i < 8 → p i = some t → t < C) (x2 : I0 59 k = nI l) (x3 : ∀ i, i < 8 → I0 60 (8 * k + i) = o2i (p i)) : ∀ (n i : Nat) (acc : Int32), i + n = l → BE mX7_lemmaBy 5 39 (bkF (f 7) g p n i acc) v (fun X => up2 X 39 0 1) I0 J I' → EN 62 RF mX7_block 6 36 [(0, .ref 39), (1, .int (nI k)), (2, .int acc), (3, .int (nI i))] [] I0 J (RX (some (.int v)) I' J) := by
  have h40 := hB.1.2.1
  intro n
  induction n with
  | zero =>
    intro i acc hn hE
    refine blk s_X7_block_36 (And.intro (ib hk) (nm ?_))
    rw [cl k, x2]
    refine b_X7_block_43 (fun h => ?_) (fun h => absurd ((nI_leI (a := l) (b := i) (by omega) (by omega)).mpr (by omega)) h)
    refine blk s_X7_block_101 (nm ?_)
    refine c_X7_block_108 (hE.2.2.2 rfl) rfl (by decide) rfl (Nat.le_of_ble_eq_true rfl) (by decide) rfl (rx ?_)
    exact r_X7_block_111 rxq
  | succ n ih =>
    intro i acc hn hE
    have hpt : ∀ t, p i = some t → t < C := fun t ht => hp i t (by omega) ht
    refine blk s_X7_block_36 (And.intro (ib hk) (nm ?_))
    rw [cl k, x2]
    refine b_X7_block_43 (fun h => absurd ((nI_leI (a := l) (b := i) (by omega) (by omega)).mp h) (by omega)) (fun h => ?_)
    refine blk s_X7_block_46 (And.intro (show vp_in ((8 : Int32) * nI k + nI i) 32 from by rw [ix8]; exact ib (by omega)) (nm ?_))
    rw [ix8, cl (8 * k + i), x3 i (by omega)]
    simp only [bkF] at hE
    cases hpi : p i with
    | none =>
      rw [hpi] at hE
      obtain ⟨e1, e2⟩ := hE.2.1 rfl
      refine b_X7_block_63 (fun h => absurd rfl h) (fun h => ?_)
      refine blk s_X7_block_66 (nm ?_)
      refine c_X7_block_68 (ct_X7_fails 1) rfl (by decide) rfl (Nat.le_of_ble_eq_true rfl) (by decide) rfl (rx ?_)
      exact r_X7_block_71 (rxe (by rw [e1]; rfl) e2.symm rfl)
    | some t =>
      rw [hpi] at hE
      have ht := hpt t hpi
      refine b_X7_block_63 (fun h => ?_) (fun h => absurd h (o2i_ne (show t < 2 ^ 31 by omega)))
      refine blk s_X7_block_72 (And.intro (ib (show t < 40 by omega)) (nm ?_))
      rw [show o2i (some t) = nI t from rfl, cl t, (hR t ht).2.2.2.2.2.1]
      dsimp only at hE
      refine b_X7_block_79 (fun h => ?_) (fun h => ?_)
      · rw [if_pos h] at hE
        refine blk s_X7_block_85 (nm ?_)
        refine c_X7_block_90 (ct_X7_holdsOf (r := 0) hB ht (by decide)) rfl (by decide) rfl (Nat.le_of_ble_eq_true rfl) (by decide) rfl (rx ?_)
        refine blk s_X7_block_93 (nm ?_)
        exact wkt 4 (en_L (by rw [nI_s]; rfl) (ih (i + 1) (acc &&& tsX g t 0) (by omega) hE))
      · rw [if_neg h] at hE
        obtain ⟨e1, e2⟩ := hE.2.2.1 rfl
        refine blk s_X7_block_82 (nm ?_)
        exact r_X7_block_84 (rxe (by rw [e1]) e2.symm rfl)
theorem ct_X7_block {v : Int32} {I' : IT} (hB0 : RB (up2 I 39 0 0) g C nx os oc) (hR0 : RTm (up2 I 39 0 0) J f g C) (hb : BOK C bx) (hx : RBX bx I) {b : Int32} (hE : BE mX7_lemmaBy 5 39 (bkS (f 7) g bx b) v (fun X => up2 X 39 0 1) (up2 I 39 0 0) J I') : CN 62 RF mX7_block 6 [.ref 39, .int b] I J (RX (some (.int v)) I' J) := by
  unfold bkS at hE
  refine cn_of (by decide) rfl (Nat.le_of_ble_eq_true rfl) ?_
  refine blk s_X7_block_0 (nm ?_)
  have hx0 := RBX_f hx 0
  generalize up2 I 39 0 0 = I0 at hx0 hB0 hR0 hE ⊢
  refine c_X7_block_6 (ct_X7_isBoxC b) rfl (by decide) rfl (Nat.le_of_ble_eq_true rfl) (rx ?_)
  cases hBx : ltB b 4 with
  | false =>
    rw [hBx] at hE
    obtain ⟨e1, e2⟩ := hE.1 rfl
    refine b_X7_block_9 (fun h => absurd rfl h) (fun h => ?_)
    refine blk s_X7_block_12 (nm ?_)
    exact r_X7_block_13 (rxe (by rw [e1]) e2.symm rfl)
  | true =>
    rw [hBx] at hE
    obtain ⟨k, hk, rfl⟩ := lt_ex (N := 4) (by decide) hBx
    refine b_X7_block_9 (fun h => ?_) (fun h => absurd h (by decide))
    dsimp only at hE
    rw [cl k] at hE
    refine blk s_X7_block_14 (And.intro (ib hk) (nm ?_))
    rw [cl k]
    cases e : bx k with
    | none =>
      rw [e] at hE
      obtain ⟨e1, e2⟩ := hE.2.1 rfl
      rw [(hx0 k hk).1 e]
      refine b_X7_block_22 (fun h => absurd rfl h) (fun h => ?_)
      refine blk s_X7_block_25 (nm ?_)
      refine c_X7_block_27 (ct_X7_fails 1) rfl (by decide) rfl (Nat.le_of_ble_eq_true rfl) (by decide) rfl (rx ?_)
      exact r_X7_block_30 (rxe (by rw [e1]; rfl) e2.symm rfl)
    | some q =>
      obtain ⟨so, l, p⟩ := q
      rw [e] at hE
      obtain ⟨x1, x2, x3⟩ := (hx0 _ hk).2 so l p e
      obtain ⟨-, hl, hp⟩ := hb _ so l p hk e
      refine b_X7_block_22 (fun h => ?_) (fun h => absurd h (n58 hb hx0 hk e))
      refine blk s_X7_block_31 (nm ?_)
      exact bk_X7 hk hB0 hR0 hl hp x2 x3 l 0 65535 (by omega) hE
theorem bkF_c (f7 : Nat → Int32) (g : JT) (p : Nat → Option Nat) : ∀ n i acc, (bkF f7 g p n i acc).1 ≤ 2
  | 0, i, acc => Nat.le_refl _
  | n + 1, i, acc => by
    simp only [bkF]
    cases p i with
    | none => exact Nat.zero_le _
    | some t =>
      dsimp only
      by_cases h : f7 t = 0
      · rw [if_pos h]; exact bkF_c f7 g p n _ _
      · rw [if_neg h]; exact Nat.le_succ _
theorem bkS_c (f7 : Nat → Int32) (g : JT) (bx : BXT) (b : Int32) : (bkS f7 g bx b).1 = 0 ∨ (bkS f7 g bx b).1 = 1 ∨ (bkS f7 g bx b).1 = 2 ∨ (bkS f7 g bx b).1 = 3 := by
  have h : (bkS f7 g bx b).1 ≤ 3 := by
    unfold bkS
    cases ltB b 4 with
    | false => exact Nat.le_refl _
    | true =>
      dsimp only
      cases bx b.toNatClampNeg with
      | none => exact Nat.zero_le _
      | some q => exact Nat.le_succ_of_le (bkF_c _ _ _ _ _ _)
  omega
theorem CL_f {w : Int32} (h : CL C nx os oc K V bx fa I J) : CL C nx os oc K V bx w (up2 I 0 7 w) J := by
  obtain ⟨h1, h2, h3, h4, h5⟩ := h
  refine ⟨MX_cg h1 fun o ho => up2_o (by omega), LM_cg h2 (up2_o (by decide)) (up2_o (by decide)), ⟨?_, KpOk_cg h3.2 (up2_o (by decide)) (up2_o (by decide)) (up2_o (by decide))⟩, CBX_f h4 w, up2_s⟩
  rw [up2_o (by decide)]; exact h3.1
theorem RE_f {w : Int32} (h : RE f g C nx os oc K bx fa I J) : RE f g C nx os oc K bx w (up2 I 39 0 w) J := by
  obtain ⟨h1, h2, h3, h4, h5⟩ := h
  refine ⟨RB_cg h1 ⟨up2_k (by decide), up2_k (by decide), up2_k (by decide)⟩ (up2_o (by decide)) (up2_o (by decide)), ?_, ?_, RBX_f h4 w, up2_s⟩
  · unfold RTm at *
    rw [up2_o (by decide), up2_o (by decide), up2_o (by decide), up2_o (by decide), up2_o (by decide)]; exact h2
  · rw [up2_k (by decide), up2_o (by decide), up2_o (by decide)]; exact h3
theorem p_block (b : Int32) : PR sc V mX6_block mX7_block 4 6 [.int b] := pr_s fun I J C nx os oc K V' bx fa hV hb hC hR hs => by
  have h40 := c40 hC
  have hC0 := CL_f (w := 0) hC
  have simple : ∀ (v w : Int32), (∀ mA dA o F1 I0 J' I', (I' = (if w = 0 then I0 else F1 I0)) → BE mA dA o (bkS (I 7) J bx b) v F1 I0 J' I') → (w = 0 ∨ w = 1) → PRs sc V mX6_block mX7_block 4 6 [.int b] I J := by
    intro v w hE hw
    have hCw := CL_f (w := w) hC
    have R1 : RE I J C nx os oc K bx fa (up2 I 0 7 w) J := RE_fr hR (fun o a _ => up2_o (by omega)) rfl
    have R2 : RE I J C nx os oc K bx w (up2 (up2 I 0 7 w) 39 0 w) J := RE_f R1
    have R20 : RE I J C nx os oc K bx 0 (up2 (up2 I 0 7 w) 39 0 0) J := RE_f R1
    refine st_fin (v := v) (I1 := up2 I 0 7 w) (I2 := up2 (up2 I 0 7 w) 39 0 w) (ct_X6_block (cC hC) h40 hb hC.2.2.2.1 (hE _ _ _ _ _ _ _ ?_)) (ct_X7_block (f := I) (g := J) R20.1 R20.2.1 hb R1.2.2.2.1 (hE _ _ _ _ _ _ _ ?_)) (Nat.le_succ_of_le hV) hb hCw (RE_gh R2 (fun o a _ => up2_o (by omega)) rfl rfl) (fun o ho => up2_o (by omega)) (fun o ho => by rw [up2_o (by omega), hs o ho])
    · rcases hw with rfl | rfl
      · rw [if_pos rfl]
      · rw [if_neg (by decide), up2_2]
    · rcases hw with rfl | rfl
      · rw [if_pos rfl]
      · rw [if_neg (by decide), up2_2]
  rcases bkS_c (I 7) J bx b with hc | hc | hc | hc
  · refine simple (-11) 1 (fun mA dA o F1 I0 J' I' e => ⟨fun h => ?_, fun _ => ⟨rfl, ?_⟩, fun h => ?_, fun h => ?_⟩) (Or.inr rfl)
    · rw [hc] at h; cases h
    · rw [e, if_neg (by decide)]
    · rw [hc] at h; cases h
    · rw [hc] at h; cases h
  · refine simple (-2) 0 (fun mA dA o F1 I0 J' I' e => ⟨fun h => ?_, fun h => ?_, fun _ => ⟨rfl, ?_⟩, fun h => ?_⟩) (Or.inl rfl)
    · rw [hc] at h; cases h
    · rw [hc] at h; cases h
    · rw [e, if_pos rfl]
    · rw [hc] at h; cases h
  · obtain ⟨v, I1, K2, a1, a2, a3, a4⟩ := ap_fit hC0 (x := bkX (bkS (I 7) J bx b).2) (bkX_sm _)
    have R1 : RE I J C nx os oc K bx fa I1 J := RE_fr hR (fun o a _ => (a2 o (by omega) (by omega) (by omega)).trans (up2_o (by omega))) rfl
    have R2 : RE I J C nx os oc K bx 0 (up2 I1 39 0 0) J := RE_f R1
    obtain ⟨I2, c1, c2, c3⟩ := a4 (up2 I1 39 0 0) (RE_gh R2 (fun o a _ => up2_o (by omega)) rfl rfl)
    refine st_fin (ct_X6_block (cC hC) h40 hb hC.2.2.2.1 (v := v) (I' := I1) ⟨fun h => ?_, fun h => ?_, fun h => ?_, fun _ => a1⟩) (ct_X7_block (f := I) (g := J) R2.1 R2.2.1 hb R1.2.2.2.1 (I' := I2) ⟨fun h => ?_, fun h => ?_, fun h => ?_, fun _ => c1⟩) (Nat.le_succ_of_le hV) hb a3 c2 (fun o ho => by rw [c3 o (by omega) (by omega) (by omega), up2_o (by omega)]) (fun o ho => by rw [a2 o (by omega) (by omega) (by omega), up2_o (by omega), hs o ho])
    all_goals (rw [hc] at h; cases h)
  · refine simple (-1) 0 (fun mA dA o F1 I0 J' I' e => ⟨fun _ => ⟨rfl, ?_⟩, fun h => ?_, fun h => ?_, fun h => ?_⟩) (Or.inl rfl)
    · rw [e, if_pos rfl]
    · rw [hc] at h; cases h
    · rw [hc] at h; cases h
    · rw [hc] at h; cases h
end PAIR13
