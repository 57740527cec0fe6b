/-! BRIDGES between the class's and the reference's ways of saying the same -/
theorem wi_has {C : Nat} (hC : C < 2 ^ 31) (t : Int32) : wiB t 0 (nI C - 1) = (!(decide (t < 0)) && !(decide (nI C ≤ t))) := by
  unfold wiB
  by_cases h : t < 0
  · rw [decide_eq_true h]; rfl
  · rw [decide_eq_false h, Bool.not_false, Bool.true_and, Bool.true_and]
    obtain ⟨k, hk, rfl⟩ := nI_of h
    congr 1
    rcases Nat.eq_zero_or_pos C with h0 | h0
    · subst h0
      have h1 : (nI 0 - 1 : Int32) < nI k := by
        have e : (nI 0 - 1 : Int32) = -1 := by decide
        rw [e]
        exact Int32.lt_of_lt_of_le (by decide) (Int32.not_lt.mp (nI_pos hk))
      rw [decide_eq_true h1, decide_eq_true ((nI_leI (a := 0) (by decide) hk).mpr (Nat.zero_le _))]
    · obtain ⟨c, rfl⟩ : ∃ c, C = c + 1 := ⟨C - 1, by omega⟩
      rw [nI_pred c]
      by_cases hc : c < k
      · rw [decide_eq_true ((nI_ltI (by omega) hk).mpr hc), decide_eq_true ((nI_leI hC hk).mpr (by omega))]
      · rw [decide_eq_false (fun h2 => hc ((nI_ltI (by omega) hk).mp h2)), decide_eq_false (fun h2 => hc (by have := (nI_leI hC hk).mp h2; omega))]
theorem wi_lt {N : Nat} (hN : N < 2 ^ 31) (h0 : 0 < N) (t : Int32) : wiB t 0 (nI (N - 1)) = ltB t (nI N) := by
  have := wi_has hN t
  rw [show nI N - 1 = nI (N - 1) from by rw [show N = (N - 1) + 1 by omega, nI_pred]; rfl] at this
  exact this
theorem wi_15 (t : Int32) : wiB t 0 15 = ltB t 16 := wi_lt (N := 16) (by decide) (by decide) t
theorem wi_3 (t : Int32) : wiB t 0 3 = ltB t 4 := wi_lt (N := 4) (by decide) (by decide) t
/-- a new leaf's table -/
theorem lf_bit : ∀ k, k < 3 → ∀ m, m < stLen (k + 1) → ∀ s, s < 16 → ∀ r, r < 4 → (lfT k m).toBitVec.getLsbD (16 * r + s) = evB k m false false false s r := by decide +kernel
/-- a new gate's table -/
theorem l_not (a : Int64) {i : Nat} (hi : i < 64) : (a ^^^ (-1)).toBitVec.getLsbD i = !a.toBitVec.getLsbD i := by
  rw [Int64.toBitVec_xor, BitVec.getLsbD_xor]
  have : (-1 : Int64).toBitVec = BitVec.allOnes 64 := by decide
  rw [this, BitVec.getLsbD_allOnes, decide_eq_true hi, Bool.xor_true]
theorem jn_bit {k : Nat} (hk : 3 ≤ k) (hk7 : k ≤ 7) (a b c : Int64) {i : Nat} (hi : i < 64) (s r : Nat) : (jnT k a b c).toBitVec.getLsbD i = evB k 0 (a.toBitVec.getLsbD i) (b.toBitVec.getLsbD i) (c.toBitVec.getLsbD i) s r := by
  rcases (show k = 3 ∨ k = 4 ∨ k = 5 ∨ k = 6 ∨ k = 7 by omega) with rfl | rfl | rfl | rfl | rfl
  · exact l_not a hi
  · show (a &&& b).toBitVec.getLsbD i = _
    rw [Int64.toBitVec_and, BitVec.getLsbD_and]; rfl
  · show (a ||| b).toBitVec.getLsbD i = _
    rw [Int64.toBitVec_or, BitVec.getLsbD_or]; rfl
  · show (a ^^^ b).toBitVec.getLsbD i = _
    rw [Int64.toBitVec_xor, BitVec.getLsbD_xor]; rfl
  · show ((a &&& b) ||| ((a ^^^ (-1)) &&& c)).toBitVec.getLsbD i = (if a.toBitVec.getLsbD i = true then b.toBitVec.getLsbD i else c.toBitVec.getLsbD i)
    rw [Int64.toBitVec_or, BitVec.getLsbD_or, Int64.toBitVec_and, BitVec.getLsbD_and, Int64.toBitVec_and, BitVec.getLsbD_and, l_not a hi]
    cases a.toBitVec.getLsbD i <;> cases b.toBitVec.getLsbD i <;> cases c.toBitVec.getLsbD i <;> rfl
/-- how many: bitCount of a set -/
def vN (p : Nat → Bool) : Nat → Nat
  | 0 => 0
  | k + 1 => vN p k + (if p k = true then 2 ^ k else 0)
theorem vN_lt (p : Nat → Bool) : ∀ k, vN p k < 2 ^ k
  | 0 => by show 0 < 1; omega
  | k + 1 => by
    have := vN_lt p k
    show vN p k + (if p k = true then 2 ^ k else 0) < 2 ^ (k + 1)
    rw [Nat.pow_succ]
    split <;> omega
theorem tb_vN (p : Nat → Bool) : ∀ n k, (vN p n).testBit k = (decide (k < n) && p k)
  | 0, k => by show (0 : Nat).testBit k = _; rw [Nat.zero_testBit, decide_eq_false (by omega), Bool.false_and]
  | n + 1, k => by
    have ih := tb_vN p n k
    have hl := vN_lt p n
    show (vN p n + (if p n = true then 2 ^ n else 0)).testBit k = _
    cases hp : p n with
    | false =>
      rw [if_neg (by decide), Nat.add_zero, ih]
      by_cases e : k = n
      · subst e; rw [hp, Bool.and_false, Bool.and_false]
      · rw [show decide (k < n + 1) = decide (k < n) from by
          by_cases h : k < n
          · rw [decide_eq_true h, decide_eq_true (by omega)]
          · rw [decide_eq_false h, decide_eq_false (by omega)]]
    | true =>
      rw [if_pos rfl, show vN p n + 2 ^ n = 2 ^ n * 1 + vN p n by omega, Nat.testBit_two_pow_mul_add 1 hl]
      by_cases h : k < n
      · rw [if_pos h, ih, decide_eq_true h, decide_eq_true (by omega)]
      · rw [if_neg h]
        by_cases e : k = n
        · subst e; rw [Nat.sub_self, decide_eq_true (by omega), hp]; rfl
        · rw [decide_eq_false (by omega), Bool.false_and]
          obtain ⟨d, hd⟩ : ∃ d, k - n = d + 1 := ⟨k - n - 1, by omega⟩
          rw [hd, Nat.testBit_succ]
          show Nat.testBit 0 d = false
          exact Nat.zero_testBit d
theorem bs_vN (p : Nat → Bool) : bs p = nI (vN p 16) := by
  have hl := vN_lt p 16
  refine mb_ext fun k hk => ?_
  rw [mb_bs, mb_nI (by omega) hk, tb_vN]
theorem pop_cn (x : Nat) : ∀ n, pop x n = cnN (fun k => x.testBit k) n
  | 0 => rfl
  | n + 1 => by
    show pop x n + (x / 2 ^ n % 2) = cnN (fun k => x.testBit k) n + (if x.testBit n = true then 1 else 0)
    rw [pop_cn x n]
    have e : x.testBit n = decide (x / 2 ^ n % 2 = 1) := Nat.testBit_eq_decide_div_mod_eq
    rw [e]
    have h2 : x / 2 ^ n % 2 < 2 := Nat.mod_lt _ (by decide)
    rcases (show x / 2 ^ n % 2 = 0 ∨ x / 2 ^ n % 2 = 1 by omega) with h | h
    · rw [h]; rfl
    · rw [h]; rfl
theorem ct_J6_bitCountS {n : Nat} {R : RT} {I : IT} {J : JT} (p : Nat → Bool) : CN n R mJ6_bitCount 0 [.int (bs p)] I J (RX (some (.int (nI (cnN p 16)))) I J) := by
  have hl := vN_lt p 16
  have h := ct_J6_bitCount (n := n) (R := R) (I := I) (J := J) (x := vN p 16) hl
  rw [← bs_vN, pop_cn, cnN_cg (q := p) (fun k hk => by rw [tb_vN, decide_eq_true hk, Bool.true_and])] at h
  exact h
/-- walks that are safe, walks that are not -/
theorem sf_wr (T : Nat → Nat → Nat) (B : Nat → Bool) : ∀ k s, sf T B k s + wr T B k s = 4 ^ k
  | 0, s => by
    show (if B s = true then 0 else 1) + (if B s = true then 1 else 0) = 1
    split <;> rfl
  | k + 1, s => by
    show (if B s = true then 0 else sf T B k (T s 0) + sf T B k (T s 1) + sf T B k (T s 2) + sf T B k (T s 3)) + (if B s = true then 4 ^ (k + 1) else 0 + wr T B k (T s 0) + wr T B k (T s 1) + wr T B k (T s 2) + wr T B k (T s 3)) = 4 ^ (k + 1)
    have h0 := sf_wr T B k (T s 0)
    have h1 := sf_wr T B k (T s 1)
    have h2 := sf_wr T B k (T s 2)
    have h3 := sf_wr T B k (T s 3)
    split
    · omega
    · rw [Nat.pow_succ]; omega
theorem su_split {p : Nat → Bool} {f g : Nat → Nat} {q : Nat} (h : ∀ s, f s + g s = q) : ∀ n, su (fun s => if p s = true then f s else 0) n + su (fun s => if p s = true then g s else 0) n = cnN p n * q
  | 0 => by show 0 + 0 = 0 * q; omega
  | n + 1 => by
    have ih := su_split (p := p) h n
    have hn := h n
    show (su (fun s => if p s = true then f s else 0) n + (if p n = true then f n else 0)) + (su (fun s => if p s = true then g s else 0) n + (if p n = true then g n else 0)) = (cnN p n + (if p n = true then 1 else 0)) * q
    rw [Nat.add_mul]
    split <;> omega
theorem smF_su {p : Nat → Bool} {D : Nat → Option Nat} (hp : ∀ s, p s = (D s).isSome) : ∀ n, smF p (fun s => o2i (D s)) n = nI (su (fun s => (D s).getD 0) n)
  | 0 => rfl
  | n + 1 => by
    show (match p n with | true => smF p (fun s => o2i (D s)) n + o2i (D n) | false => smF p (fun s => o2i (D s)) n) = nI (su (fun s => (D s).getD 0) n + (D n).getD 0)
    rw [smF_su hp n, hp n]
    cases D n with
    | none => rfl
    | some d => show nI _ + nI d = _; rw [nI_add]; rfl
