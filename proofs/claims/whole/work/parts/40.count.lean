/-! how many: Integer.bitCount -/
def bcN (x : Nat) : Nat :=
  let a := x - ((x / 2) &&& 1431655765)
  let b := (a &&& 858993459) + ((a / 4) &&& 858993459)
  let c := (b + b / 16) &&& 252645135
  let d := c + c / 256
  (d + d / 65536) &&& 63
def pop (x : Nat) : Nat → Nat
  | 0 => 0
  | k + 1 => pop x k + (x / 2 ^ k % 2)
theorem nib (y m c e : Nat) (hc : c < 16) (he : e < 16) : (16 * y + c) &&& (16 * m + e) = 16 * (y &&& m) + (c &&& e) := by
  apply Nat.eq_of_testBit_eq
  intro j
  have h1 := Nat.testBit_two_pow_mul_add y (b := c) (i := 4) hc j
  have h2 := Nat.testBit_two_pow_mul_add m (b := e) (i := 4) he j
  have h3 := Nat.testBit_two_pow_mul_add (y &&& m) (b := c &&& e) (i := 4) (Nat.lt_of_le_of_lt Nat.and_le_left hc) j
  have e16 : (2 ^ 4 : Nat) = 16 := rfl
  rw [e16] at h1 h2 h3
  rw [Nat.testBit_and, h1, h2, h3]
  split
  · rw [Nat.testBit_and]
  · rw [Nat.testBit_and]
/-- four hex digits -/
def hx4 (a b c d : Nat) : Nat := 16 * (16 * (16 * a + b) + c) + d
theorem hx_and {a b c d m e f g : Nat} (hb : b < 16) (hc : c < 16) (hd : d < 16) (he : e < 16) (hf : f < 16) (hg : g < 16) : hx4 a b c d &&& hx4 m e f g = hx4 (a &&& m) (b &&& e) (c &&& f) (d &&& g) := by
  unfold hx4
  rw [nib _ _ _ _ hd hg, nib _ _ _ _ hc hf, nib _ _ _ _ hb he]
theorem hx_div2 (a b c d : Nat) : hx4 a b c d / 2 = hx4 (a / 2) (b / 2 + 8 * (a % 2)) (c / 2 + 8 * (b % 2)) (d / 2 + 8 * (c % 2)) := by unfold hx4; omega
theorem hx_div4 (a b c d : Nat) : hx4 a b c d / 4 = hx4 (a / 4) (b / 4 + 4 * (a % 4)) (c / 4 + 4 * (b % 4)) (d / 4 + 4 * (c % 4)) := by unfold hx4; omega
theorem hx_sub {a b c d e f g h : Nat} (h1 : e ≤ a) (h2 : f ≤ b) (h3 : g ≤ c) (h4 : h ≤ d) : hx4 a b c d - hx4 e f g h = hx4 (a - e) (b - f) (c - g) (d - h) := by unfold hx4; omega
theorem hx_add (a b c d e f g h : Nat) : hx4 a b c d + hx4 e f g h = hx4 (a + e) (b + f) (c + g) (d + h) := by unfold hx4; omega
theorem hx_div16 {a b c d : Nat} (h : d < 16) : hx4 a b c d + hx4 a b c d / 16 = hx4 a (b + a) (c + b) (d + c) := by unfold hx4; omega
theorem hx_of {x : Nat} : x = hx4 (x / 4096) (x / 256 % 16) (x / 16 % 16) (x % 16) := by unfold hx4; omega
theorem bq1 : ∀ h, h < 16 → ∀ b, b < 2 → (h / 2 + 8 * b) &&& 5 = (h / 2) &&& 5 ∧ (h / 2) &&& 349525 = (h / 2) &&& 5 ∧ (h / 2) &&& 5 ≤ h ∧ h / 2 + 8 * b < 16 := by decide +kernel
def pq (h : Nat) : Nat := h - ((h / 2) &&& 5)
def pop4 (y : Nat) : Nat := y % 2 + y / 2 % 2 + y / 4 % 2 + y / 8 % 2
theorem bq2 : ∀ h, h < 16 → ∀ b, b < 4 → pq h < 16 ∧ (pq h / 4 + 4 * b) &&& 3 = pq h / 4 ∧ pq h &&& 209715 = pq h &&& 3 ∧ (pq h / 4) &&& 209715 = pq h / 4 ∧ (pq h &&& 3) + pq h / 4 = pop4 h ∧ pop4 h ≤ 4 ∧ pq h / 4 + 4 * b < 16 := by decide +kernel
theorem bq3 : ∀ n, n < 16 → n &&& 15 = n ∧ n &&& 0 = 0 ∧ n &&& 61680 = 0 := by decide +kernel
theorem bq5 (m : Nat) : m &&& 63 = m % 64 := Nat.and_two_pow_sub_one_eq_mod m 6
theorem bc_end {p q : Nat} (hp : p ≤ 8) (hq : q ≤ 8) : (256 * p + q + (256 * p + q) / 256 + (256 * p + q + (256 * p + q) / 256) / 65536) % 64 = q + p := by
  have e1 : (256 * p + q) / 256 = p := by omega
  rw [e1]
  have e2 : (256 * p + q + p) / 65536 = 0 := Nat.div_eq_of_lt (by omega)
  rw [e2, show 256 * p + q + p + 0 = 64 * (4 * p) + (q + p) from by omega, Nat.mul_add_mod]
  exact Nat.mod_eq_of_lt (by omega)
theorem bc_hx {a b c d : Nat} (ha : a < 16) (hb : b < 16) (hc : c < 16) (hd : d < 16) : bcN (hx4 a b c d) = pop4 d + pop4 c + (pop4 b + pop4 a) := by
  have A0 := bq1 a ha 0 (by decide)
  have B0 := bq1 b hb (a % 2) (Nat.mod_lt _ (by decide))
  have C0 := bq1 c hc (b % 2) (Nat.mod_lt _ (by decide))
  have D0 := bq1 d hd (c % 2) (Nat.mod_lt _ (by decide))
  have s1 : (hx4 a b c d / 2) &&& 1431655765 = hx4 ((a / 2) &&& 5) ((b / 2) &&& 5) ((c / 2) &&& 5) ((d / 2) &&& 5) := by
    rw [hx_div2, show 1431655765 = hx4 349525 5 5 5 from rfl, hx_and B0.2.2.2 C0.2.2.2 D0.2.2.2 (by decide) (by decide) (by decide), A0.2.1, B0.1, C0.1, D0.1]
  have s2 : hx4 a b c d - ((hx4 a b c d / 2) &&& 1431655765) = hx4 (pq a) (pq b) (pq c) (pq d) := by
    rw [s1, hx_sub A0.2.2.1 B0.2.2.1 C0.2.2.1 D0.2.2.1]; rfl
  have A1 := bq2 a ha 0 (by decide)
  have B1 := bq2 b hb (pq a % 4) (Nat.mod_lt _ (by decide))
  have C1 := bq2 c hc (pq b % 4) (Nat.mod_lt _ (by decide))
  have D1 := bq2 d hd (pq c % 4) (Nat.mod_lt _ (by decide))
  have s3 : (hx4 (pq a) (pq b) (pq c) (pq d) &&& 858993459) + (hx4 (pq a) (pq b) (pq c) (pq d) / 4 &&& 858993459) = hx4 (pop4 a) (pop4 b) (pop4 c) (pop4 d) := by
    rw [hx_div4, show 858993459 = hx4 209715 3 3 3 from rfl, hx_and B1.1 C1.1 D1.1 (by decide) (by decide) (by decide), hx_and B1.2.2.2.2.2.2 C1.2.2.2.2.2.2 D1.2.2.2.2.2.2 (by decide) (by decide) (by decide), A1.2.2.1, A1.2.2.2.1, B1.2.1, C1.2.1, D1.2.1, hx_add, A1.2.2.2.2.1, B1.2.2.2.2.1, C1.2.2.2.2.1, D1.2.2.2.2.1]
  have a4 := A1.2.2.2.2.2.1
  have b4 := B1.2.2.2.2.2.1
  have c4 := C1.2.2.2.2.2.1
  have d4 := D1.2.2.2.2.2.1
  clear s1 A0 B0 C0 D0 A1 B1 C1 D1 ha hb hc hd
  unfold bcN
  dsimp only
  rw [s2, s3]
  clear s2 s3
  generalize pop4 a = a at *
  generalize pop4 b = b at *
  generalize pop4 c = c at *
  generalize pop4 d = d at *
  have s4 : (hx4 a b c d + hx4 a b c d / 16) &&& 252645135 = hx4 0 (b + a) 0 (d + c) := by
    rw [hx_div16 (by omega), show 252645135 = hx4 61680 15 0 15 from rfl, hx_and (by omega) (by omega) (by omega) (by decide) (by decide) (by decide), (bq3 a (by omega)).2.2, (bq3 (b + a) (by omega)).1, (bq3 (c + b) (by omega)).2.1, (bq3 (d + c) (by omega)).1]
  rw [s4, bq5]
  have e0 : hx4 0 (b + a) 0 (d + c) = 256 * (b + a) + (d + c) := by unfold hx4; omega
  have hp : b + a ≤ 8 := by omega
  have hq : d + c ≤ 8 := by omega
  rw [e0]
  exact bc_end hp hq
theorem pop_red (x : Nat) (k : Nat) : ∀ j, pop (x / 2 ^ k) j + pop x k = pop x (k + j)
  | 0 => by show 0 + pop x k = pop x k; omega
  | j + 1 => by
    have ih := pop_red x k j
    show pop (x / 2 ^ k) j + x / 2 ^ k / 2 ^ j % 2 + pop x k = pop x (k + j) + x / 2 ^ (k + j) % 2
    rw [Nat.div_div_eq_div_mul, ← Nat.pow_add]
    omega
theorem pop_4 (y : Nat) : pop y 4 = pop4 y := by
  show 0 + y / 1 % 2 + y / 2 % 2 + y / 4 % 2 + y / 8 % 2 = y % 2 + y / 2 % 2 + y / 4 % 2 + y / 8 % 2
  rw [Nat.div_one, Nat.zero_add]
theorem pop4_red (z h : Nat) : pop4 (16 * z + h) = pop4 h := by
  have t0 : (16 * z + h) % 2 = h % 2 := by omega
  have t1 : (16 * z + h) / 2 % 2 = h / 2 % 2 := by omega
  have t2 : (16 * z + h) / 4 % 2 = h / 4 % 2 := by omega
  have t3 : (16 * z + h) / 8 % 2 = h / 8 % 2 := by omega
  unfold pop4
  rw [t0, t1, t2, t3]
theorem pop_step (z h k : Nat) (hh : h < 16) : pop (16 * z + h) (4 + k) = pop z k + pop4 h := by
  have := pop_red (16 * z + h) 4 k
  rw [pop_4, pop4_red, show (16 * z + h) / 2 ^ 4 = z from by show (16 * z + h) / 16 = z; omega] at this
  exact this.symm
theorem bc_16 {x : Nat} (h : x < 65536) : bcN x = pop x 16 := by
  have ha : x / 4096 < 16 := by omega
  have hb : x / 256 % 16 < 16 := Nat.mod_lt _ (by decide)
  have hc : x / 16 % 16 < 16 := Nat.mod_lt _ (by decide)
  have hd : x % 16 < 16 := Nat.mod_lt _ (by decide)
  have e := hx_of (x := x)
  generalize x / 4096 = a at *
  generalize x / 256 % 16 = b at *
  generalize x / 16 % 16 = c at *
  generalize x % 16 = d at *
  rw [e, bc_hx ha hb hc hd]
  unfold hx4
  have p1 := pop_step (16 * (16 * a + b) + c) d 12 hd
  have p2 := pop_step (16 * a + b) c 8 hc
  have p3 := pop_step a b 4 hb
  rw [pop_4] at p3
  rw [p3] at p2
  rw [p2] at p1
  rw [p1]
  omega
theorem nI_andB (a b : Nat) : nI a &&& nI b = nI (a &&& b) := by
  apply Int32.toBitVec_inj.mp
  rw [Int32.toBitVec_and]
  show BitVec.ofNat 32 a &&& BitVec.ofNat 32 b = BitVec.ofNat 32 (a &&& b)
  exact (BitVec.ofNat_and).symm
theorem us_ : ∀ k, k < 32 → (((nI k).toUInt32 &&& Int32.toUInt32 31).toBitVec % 32).toNat = k := by decide +kernel
theorem us {n k : Nat} (hn : n < 2 ^ 32) (hk : k < 32) : ((nI n).toUInt32 >>> ((nI k).toUInt32 &&& Int32.toUInt32 31)).toInt32 = nI (n / 2 ^ k) :=
  pk_ushrN hn _ k (us_ k hk)
theorem ct_J6_bitCount {n : Nat} {R : RT} {I : IT} {J : JT} {x : Nat} (hx : x < 65536) : CN n R mJ6_bitCount 0 [.int (nI x)] I J (RX (some (.int (nI (pop x 16)))) I J) := by
  refine cn_of (by decide) rfl (Nat.le_of_ble_eq_true rfl) ?_
  refine blk s_J6_bitCount_0 (nm ?_)
  refine r_J6_bitCount_52 (rxe ?_ rfl rfl)
  have u1 : ∀ m : Nat, m < 2 ^ 32 → ((nI m).toUInt32 >>> (Int32.toUInt32 1 &&& Int32.toUInt32 31)).toInt32 = nI (m / 2) := fun m hm => us (k := 1) hm (by decide)
  have u2 : ∀ m : Nat, m < 2 ^ 32 → ((nI m).toUInt32 >>> (Int32.toUInt32 2 &&& Int32.toUInt32 31)).toInt32 = nI (m / 4) := fun m hm => us (k := 2) hm (by decide)
  have u4 : ∀ m : Nat, m < 2 ^ 32 → ((nI m).toUInt32 >>> (Int32.toUInt32 4 &&& Int32.toUInt32 31)).toInt32 = nI (m / 16) := fun m hm => us (k := 4) hm (by decide)
  have u8 : ∀ m : Nat, m < 2 ^ 32 → ((nI m).toUInt32 >>> (Int32.toUInt32 8 &&& Int32.toUInt32 31)).toInt32 = nI (m / 256) := fun m hm => us (k := 8) hm (by decide)
  have u16 : ∀ m : Nat, m < 2 ^ 32 → ((nI m).toUInt32 >>> (Int32.toUInt32 16 &&& Int32.toUInt32 31)).toInt32 = nI (m / 65536) := fun m hm => us (k := 16) hm (by decide)
  have aN : ∀ (m : Nat) (c : Nat), nI m &&& (OfNat.ofNat c : Int32) = nI (m &&& c) := fun m c => nI_andB m c
  have l1 : (x / 2) &&& 1431655765 ≤ x := Nat.le_trans Nat.and_le_left (Nat.div_le_self x 2)
  rw [u1 x (by omega), aN, pk_sub l1]
  generalize ha : x - ((x / 2) &&& 1431655765) = a
  have ha2 : a < 65536 := by omega
  rw [u2 a (by omega), aN, aN, nI_add]
  generalize hb : (a &&& 858993459) + ((a / 4) &&& 858993459) = b
  have hb2 : b < 2 ^ 20 := by
    have h1 := @Nat.and_le_left a 858993459
    have h2 := @Nat.and_le_left (a / 4) 858993459
    have h3 := Nat.div_le_self a 4
    clear u1 u2 u4 u8 u16 aN ha l1
    omega
  rw [u4 b (by omega), nI_add, aN]
  generalize hc : (b + b / 16) &&& 252645135 = c
  have hc2 : c < 2 ^ 22 := by
    have h1 := @Nat.and_le_left (b + b / 16) 252645135
    have h3 := Nat.div_le_self b 16
    clear u1 u2 u4 u8 u16 aN ha l1 hb
    omega
  rw [u8 c (by omega), nI_add]
  generalize hd : c + c / 256 = d
  have hd2 : d < 2 ^ 23 := by
    have h3 := Nat.div_le_self c 256
    clear u1 u2 u4 u8 u16 aN ha l1 hb hc
    omega
  rw [u16 d (by omega), nI_add, aN]
  rw [← bc_16 hx]
  unfold bcN
  dsimp only
  rw [ha, hb, hc, hd]
