/-! BITS AND SETS: an int's bits; sets of numbers below 16 as ints -/
def b2i (b : Bool) : Int32 := match b with
  | true => 1
  | false => 0
def mb (x : Int32) (k : Nat) : Bool := x.toBitVec.getLsbD k
theorem mb_ext {x y : Int32} (h : ∀ k, k < 32 → mb x k = mb y k) : x = y := by
  have : x.toBitVec = y.toBitVec := BitVec.eq_of_getLsbD_eq fun i hi => h i hi
  exact Int32.toBitVec_inj.mp this
theorem mb_big {x : Int32} {k : Nat} (h : 32 ≤ k) : mb x k = false := BitVec.getLsbD_of_ge _ _ h
theorem mb_and (x y : Int32) (k : Nat) : mb (x &&& y) k = (mb x k && mb y k) := by
  unfold mb; rw [Int32.toBitVec_and, BitVec.getLsbD_and]
theorem mb_or (x y : Int32) (k : Nat) : mb (x ||| y) k = (mb x k || mb y k) := by
  unfold mb; rw [Int32.toBitVec_or, BitVec.getLsbD_or]
theorem mb_xor (x y : Int32) (k : Nat) : mb (x ^^^ y) k = (mb x k ^^ mb y k) := by
  unfold mb; rw [Int32.toBitVec_xor, BitVec.getLsbD_xor]
theorem mb_0 (k : Nat) : mb 0 k = false := by
  unfold mb; rw [show (0 : Int32).toBitVec = 0#32 from rfl, BitVec.getLsbD_zero]
theorem mb_m1 : ∀ k, k < 32 → mb (-1) k = true := by decide +kernel
theorem mb_not (x : Int32) {k : Nat} (h : k < 32) : mb (x ^^^ (-1)) k = !mb x k := by
  rw [mb_xor, mb_m1 k h, Bool.xor_true]
theorem mb_all (k : Nat) : mb 65535 k = decide (k < 16) := by
  rcases Nat.lt_or_ge k 32 with h | h
  · revert k; decide +kernel
  · rw [mb_big h, decide_eq_false (by omega)]
theorem mb_one (k : Nat) : mb 1 k = decide (k = 0) := by
  rcases Nat.lt_or_ge k 32 with h | h
  · revert k; decide +kernel
  · rw [mb_big h, decide_eq_false (by omega)]
theorem sh_smod : ∀ n, n < 32 → ((nI n &&& 31).toBitVec.smod 32).toNat = n := by decide +kernel
theorem mb_shl (x : Int32) {n : Nat} (hn : n < 32) {k : Nat} (hk : k < 32) : mb (x <<< (nI n &&& 31)) k = (decide (n ≤ k) && mb x (k - n)) := by
  unfold mb
  rw [Int32.toBitVec_shiftLeft]
  show (x.toBitVec <<< ((nI n &&& 31).toBitVec.smod 32)).getLsbD k = _
  rw [BitVec.shiftLeft_eq', sh_smod n hn, BitVec.getLsbD_shiftLeft]
  rw [decide_eq_true hk, Bool.true_and]
  by_cases h : n ≤ k
  · rw [decide_eq_true h, decide_eq_false (by omega)]; rfl
  · rw [decide_eq_false h, decide_eq_true (by omega)]; rfl
theorem mb_shr (x : Int32) {n : Nat} (hn : n < 32) {k : Nat} (hk : n + k < 32) : mb (x >>> (nI n &&& 31)) k = mb x (n + k) := by
  unfold mb
  rw [Int32.toBitVec_shiftRight]
  show (x.toBitVec.sshiftRight' ((nI n &&& 31).toBitVec.smod 32)).getLsbD k = _
  rw [BitVec.sshiftRight', sh_smod n hn, BitVec.getLsbD_sshiftRight]
  rw [decide_eq_false (by omega), if_pos hk]
  rfl
theorem mb_bit {n : Nat} (hn : n < 32) (k : Nat) : mb ((1 : Int32) <<< (nI n &&& 31)) k = decide (k = n) := by
  rcases Nat.lt_or_ge k 32 with h | h
  · rw [mb_shl _ hn h, mb_one]
    by_cases h1 : n ≤ k
    · rw [decide_eq_true h1, Bool.true_and]
      congr 1
      exact propext ⟨fun h => by omega, fun h => by omega⟩
    · rw [decide_eq_false h1, decide_eq_false (show ¬ k = n by omega)]; rfl
  · rw [mb_big h, decide_eq_false (by omega)]
theorem and1 (x : Int32) : x &&& 1 = b2i (mb x 0) := by
  apply mb_ext
  intro k _
  rw [mb_and, mb_one]
  by_cases h : k = 0
  · subst h
    cases mb x 0 <;> decide
  · rw [decide_eq_false h, Bool.and_false]
    cases mb x 0
    · rw [show b2i false = 0 from rfl, mb_0]
    · rw [show b2i true = 1 from rfl, mb_one, decide_eq_false h]
/-- a set's bit, as both sides read it -/
theorem bit_at (x : Int32) {n : Nat} (hn : n < 32) : (x >>> (nI n &&& 31)) &&& 1 = b2i (mb x n) := by
  rw [and1, mb_shr x hn (by omega)]
  rfl
theorem b2i_1 (b : Bool) : (b2i b = 1) ↔ b = true := by cases b <;> decide
theorem b2i_0 (b : Bool) : (b2i b = 0) ↔ b = false := by cases b <;> decide
theorem b2i_z (b : Bool) : b2i b = 0 ∨ b2i b = 1 := by cases b <;> decide
theorem mb_b2i (b : Bool) (k : Nat) : mb (b2i b) k = (b && decide (k = 0)) := by
  cases b
  · exact mb_0 k
  · exact mb_one k
def inS (k x : Int32) : Bool := decide ((x >>> (k &&& 31)) &&& 1 = 1)
theorem inS_nI (x : Int32) {n : Nat} (hn : n < 32) : inS (nI n) x = mb x n := by
  unfold inS
  rw [bit_at x hn]
  cases mb x n <;> decide
/-- sets of numbers below n -/
def bsN (p : Nat → Bool) : Nat → Int32
  | 0 => 0
  | n + 1 => bsN p n ||| (match p n with | true => (1 : Int32) <<< (nI n &&& 31) | false => 0)
abbrev bs (p : Nat → Bool) : Int32 := bsN p 16
theorem mb_bsN (p : Nat → Bool) : ∀ {n : Nat}, n ≤ 32 → ∀ k, mb (bsN p n) k = (decide (k < n) && p k)
  | 0, _, k => by rw [decide_eq_false (by omega)]; exact mb_0 k
  | n + 1, hn, k => by
    show mb (bsN p n ||| _) k = _
    rw [mb_or, mb_bsN p (by omega) k]
    by_cases h : k < n
    · rw [decide_eq_true h, decide_eq_true (show k < n + 1 by omega)]
      have : mb (match p n with | true => (1 : Int32) <<< (nI n &&& 31) | false => 0) k = false := by
        cases p n
        · exact mb_0 k
        · exact (mb_bit (by omega) k).trans (decide_eq_false (by omega))
      rw [this, Bool.or_false]
    · rw [decide_eq_false h, Bool.false_and, Bool.false_or]
      by_cases h2 : k = n
      · subst h2
        rw [decide_eq_true (show k < k + 1 by omega), Bool.true_and]
        cases p k
        · exact mb_0 k
        · exact (mb_bit (by omega) k).trans (decide_eq_true rfl)
      · rw [decide_eq_false (show ¬ k < n + 1 by omega), Bool.false_and]
        cases p n
        · exact mb_0 k
        · exact (mb_bit (by omega) k).trans (decide_eq_false h2)
theorem mb_bs (p : Nat → Bool) (k : Nat) : mb (bs p) k = (decide (k < 16) && p k) := mb_bsN p (by omega) k
theorem mb_bs1 (p : Nat → Bool) {k : Nat} (h : k < 16) : mb (bs p) k = p k := by rw [mb_bs, decide_eq_true h, Bool.true_and]
theorem bsN_cg {p q : Nat → Bool} : ∀ {n : Nat}, (∀ k, k < n → p k = q k) → bsN p n = bsN q n
  | 0, _ => rfl
  | n + 1, h => by
    show bsN p n ||| _ = bsN q n ||| _
    rw [bsN_cg (fun k hk => h k (by omega)), h n (by omega)]
/-- nothing above 15 -/
def sm (x : Int32) : Prop := ∀ k, 16 ≤ k → mb x k = false
theorem sm_bs (p : Nat → Bool) : sm (bs p) := fun k hk => by rw [mb_bs, decide_eq_false (by omega), Bool.false_and]
theorem sm_eq {x : Int32} (h : sm x) : x = bs (mb x) := by
  apply mb_ext
  intro k _
  rw [mb_bs]
  by_cases hk : k < 16
  · rw [decide_eq_true hk, Bool.true_and]
  · rw [h k (by omega), Bool.and_false]
theorem bs_eq {x : Int32} (p : Nat → Bool) (h : sm x) (hp : ∀ k, k < 16 → mb x k = p k) : x = bs p := by
  rw [sm_eq h]; exact bsN_cg hp
theorem sm_and {x : Int32} (h : sm x) (y : Int32) : sm (x &&& y) := fun k hk => by rw [mb_and, h k hk, Bool.false_and]
theorem sm_or {x y : Int32} (h : sm x) (h2 : sm y) : sm (x ||| y) := fun k hk => by rw [mb_or, h k hk, h2 k hk, Bool.false_or]
theorem sm_all : sm 65535 := fun k hk => by rw [mb_all, decide_eq_false (by omega)]
theorem sm_0 : sm 0 := fun k _ => mb_0 k
theorem all_bs : (65535 : Int32) = bs (fun _ => true) := bs_eq _ sm_all fun k hk => by rw [mb_all, decide_eq_true hk]
theorem zero_bs : (0 : Int32) = bs (fun _ => false) := bs_eq _ sm_0 fun k _ => mb_0 k
theorem bs_and (p q : Nat → Bool) : bs p &&& bs q = bs (fun k => p k && q k) := bs_eq _ (sm_and (sm_bs p) _) fun k hk => by rw [mb_and, mb_bs1 p hk, mb_bs1 q hk]
theorem bs_or (p q : Nat → Bool) : bs p ||| bs q = bs (fun k => p k || q k) := bs_eq _ (sm_or (sm_bs p) (sm_bs q)) fun k hk => by rw [mb_or, mb_bs1 p hk, mb_bs1 q hk]
theorem bs_diff (p q : Nat → Bool) : bs p &&& (bs q ^^^ (-1)) = bs (fun k => p k && !q k) := bs_eq _ (sm_and (sm_bs p) _) fun k hk => by rw [mb_and, mb_not _ (by omega), mb_bs1 p hk, mb_bs1 q hk]
theorem bs_inj {p q : Nat → Bool} (h : bs p = bs q) {k : Nat} (hk : k < 16) : p k = q k := by
  rw [← mb_bs1 p hk, ← mb_bs1 q hk, h]
theorem bs_0 (p : Nat → Bool) : bs p = 0 ↔ ∀ k, k < 16 → p k = false := by
  rw [zero_bs]
  exact ⟨fun h k hk => bs_inj h hk, fun h => bsN_cg h⟩
theorem bs_one {n : Nat} (hn : n < 16) : (1 : Int32) <<< (nI n &&& 31) = bs (fun k => decide (k = n)) := bs_eq _ (fun k hk => by rw [mb_bit (by omega), decide_eq_false (by omega)]) fun k _ => mb_bit (by omega) k
theorem all_and (x : Int32) (h : sm x) : (65535 : Int32) &&& x = x := by
  apply mb_ext
  intro k _
  rw [mb_and, mb_all]
  by_cases hk : k < 16
  · rw [decide_eq_true hk, Bool.true_and]
  · rw [h k (by omega), Bool.and_false]
/-! rows of four -/
def an4 (p : Nat → Bool) : Bool := p 0 || p 1 || p 2 || p 3
def anN (p : Nat → Bool) : Nat → Bool
  | 0 => false
  | n + 1 => anN p n || p n
def alN (p : Nat → Bool) : Nat → Bool
  | 0 => true
  | n + 1 => alN p n && p n
theorem anN_iff {p : Nat → Bool} : ∀ {n : Nat}, anN p n = true ↔ ∃ k, k < n ∧ p k = true
  | 0 => ⟨fun h => (by cases h), fun ⟨k, h, _⟩ => (by omega)⟩
  | n + 1 => by
    show (anN p n || p n) = true ↔ _
    rw [Bool.or_eq_true, anN_iff]
    constructor
    · rintro (⟨k, h1, h2⟩ | h)
      · exact ⟨k, by omega, h2⟩
      · exact ⟨n, by omega, h⟩
    · rintro ⟨k, h1, h2⟩
      by_cases hk : k < n
      · exact Or.inl ⟨k, hk, h2⟩
      · have : k = n := by omega
        subst this; exact Or.inr h2
theorem alN_iff {p : Nat → Bool} : ∀ {n : Nat}, alN p n = true ↔ ∀ k, k < n → p k = true
  | 0 => ⟨fun _ k h => by omega, fun _ => rfl⟩
  | n + 1 => by
    show (alN p n && p n) = true ↔ _
    rw [Bool.and_eq_true, alN_iff]
    constructor
    · rintro ⟨h1, h2⟩ k hk
      by_cases h : k < n
      · exact h1 k h
      · have : k = n := by omega
        subst this; exact h2
    · exact fun h => ⟨fun k hk => h k (by omega), h n (by omega)⟩
theorem anN_cg {p q : Nat → Bool} : ∀ {n : Nat}, (∀ k, k < n → p k = q k) → anN p n = anN q n
  | 0, _ => rfl
  | n + 1, h => by show (anN p n || p n) = (anN q n || q n); rw [anN_cg (fun k hk => h k (by omega)), h n (by omega)]
theorem alN_cg {p q : Nat → Bool} : ∀ {n : Nat}, (∀ k, k < n → p k = q k) → alN p n = alN q n
  | 0, _ => rfl
  | n + 1, h => by show (alN p n && p n) = (alN q n && q n); rw [alN_cg (fun k hk => h k (by omega)), h n (by omega)]
theorem beq_of_iff {a b : Bool} (h : a = true ↔ b = true) : a = b := by
  cases a <;> cases b <;> simp_all
/-- walks down from the end of a loop -/
theorem dn {P : Nat → Prop} {N : Nat} (hx : P N) (hs : ∀ k, k < N → P (k + 1) → P k) {a : Nat} (ha : a ≤ N) : P a := by
  have key : ∀ m a, a + m = N → P a := by
    intro m
    induction m with
    | zero => intro a h; rw [show a = N by omega]; exact hx
    | succ m ih => intro a h; exact hs a (by omega) (ih (a + 1) (by omega))
  exact key (N - a) a (by omega)
/-- an exact end -/
def RX (r : Option Value) (I : IT) (J : JT) : IQ := fun r' I' J' => r' = r ∧ I' = I ∧ J' = J
theorem rx {r0 : Option Value} {I0 : IT} {J0 : JT} {P : Option Value → IT → JT → Prop} (h : P r0 I0 J0) : ∀ r I' J', RX r0 I0 J0 r I' J' → P r I' J' := by
  rintro _ _ _ ⟨rfl, rfl, rfl⟩; exact h
theorem rxq {r : Option Value} {I : IT} {J : JT} : RX r I J r I J := ⟨rfl, rfl, rfl⟩
