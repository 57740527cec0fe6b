/-! WHAT HOLDS BETWEEN THE CALLS: CL of the class, RE of the reference (of a state f, g of the class), INV of both -/
abbrev BXT := Nat → Option (Nat × Nat × (Nat → Option Nat))
def BOK (C : Nat) (bx : BXT) : Prop := ∀ b so l p, b < 4 → bx b = some (so, l, p) → so < 4 ∧ l ≤ 8 ∧ ∀ i t, i < 8 → p i = some t → t < C
def CBX (bx : BXT) (I : IT) : Prop := ∀ b, b < 4 → (bx b = none → I (bO b) 2 = -9) ∧ ∀ so l p, bx b = some (so, l, p) → I (bO b) 1 = nI so ∧ I (bO b) 2 = nI l ∧ ∀ i, i < 8 → I (bP b) i = o2i (p i)
def RBX (bx : BXT) (I : IT) : Prop := ∀ b, b < 4 → (bx b = none → I 58 b = -9) ∧ ∀ so l p, bx b = some (so, l, p) → I 58 b = nI so ∧ I 59 b = nI l ∧ ∀ i, i < 8 → I 60 (8 * b + i) = o2i (p i)
def LM (I : IT) (K : Nat) : Prop := I 19 3 = nI K ∧ K ≤ 8 ∧ I 19 4 = bs (inA I K) ∧ ∀ k, k < K → sm (I 20 k)
def CL (C : Nat) (nx : Nat → Option Nat) (os oc : Option Nat) (K V : Nat) (bx : BXT) (fa : Int32) (I : IT) (J : JT) : Prop :=
  MX I J C nx os oc ∧ LM I K ∧ (I 11 8 = nI V ∧ KpOk (Tx J nx) I V) ∧ CBX bx I ∧ I 0 7 = fa
def RE (f : IT) (g : JT) (C : Nat) (nx : Nat → Option Nat) (os oc : Option Nat) (K : Nat) (bx : BXT) (fa : Int32) (I : IT) (J : JT) : Prop :=
  RB I g C nx os oc ∧ RTm I J f g C ∧ (I 39 16 = nI K ∧ K ≤ 8 ∧ ∀ k, k < K → I 51 k = f 20 k ∧ I 52 k = f 21 k) ∧ RBX bx I ∧ I 39 0 = fa
def INV (sc : Nat → Nat → Int32) (V : Nat) (I : IT) (J : JT) : Prop := ∃ (C : Nat) (nx : Nat → Option Nat) (os oc : Option Nat) (K V' : Nat) (bx : BXT) (fa : Int32),
  V' ≤ V ∧ BOK C bx ∧ CL C nx os oc K V' bx fa I J ∧ RE I J C nx os oc K bx fa I J ∧ ∀ o, 62 ≤ o → I o = sc o
def PR (sc : Nat → Nat → Int32) (V : Nat) (mX mM : MI) (dX dM : Nat) (ax : List Value) : Prop := ∀ I J, INV sc V I J → ∃ v : Int32,
  CN 62 RF mX dX (.ref 0 :: ax) I J (fun r I1 J1 => r = some (.int v) ∧ (∀ o, 62 ≤ o → I1 o = sc o) ∧ CN 62 RF mM dM (.ref 39 :: ax) I1 J1 (fun r2 I2 J2 => r2 = some (.int v) ∧ INV sc (V + 1) I2 J2))
def PRL (sc : Nat → Nat → Int32) (V : Nat) (mX mM : MI) (dX dM : Nat) (ax : List Value) : Prop := ∀ I J, INV sc V I J → ∃ v : Int64,
  CN 62 RF mX dX (.ref 0 :: ax) I J (fun r I1 J1 => r = some (.long v) ∧ (∀ o, 62 ≤ o → I1 o = sc o) ∧ CN 62 RF mM dM (.ref 39 :: ax) I1 J1 (fun r2 I2 J2 => r2 = some (.long v) ∧ INV sc (V + 1) I2 J2))
theorem MX_cg {I I' : IT} {J : JT} {C : Nat} {nx : Nat → Option Nat} {os oc : Option Nat} (h : MX I J C nx os oc) (hI : ∀ o, o = 1 ∨ (11 ≤ o ∧ o ≤ 18) → I' o = I o) : MX I' J C nx os oc := by
  unfold MX MD MW NXok TOk at *
  rw [hI 1 (by decide), hI 11 (by decide), hI 12 (by decide), hI 13 (by decide), hI 14 (by decide), hI 15 (by decide), hI 16 (by decide), hI 17 (by decide)]
  exact h
theorem Sx_J {J J' : JT} {C : Nat} (hv : ∀ t s r, t < C → vl J' t s r = vl J t s r) {os : Option Nat} (ho : ∀ t, os = some t → t < C) : Sx J' os = Sx J os := by
  funext s
  cases os with
  | none => rfl
  | some t => exact hv t s 0 (ho t rfl)
theorem Bx_J {J J' : JT} {C : Nat} (hv : ∀ t s r, t < C → vl J' t s r = vl J t s r) {os : Option Nat} (ho : ∀ t, os = some t → t < C) : Bx J' os = Bx J os := by
  funext s
  cases os with
  | none => rfl
  | some t => show (!vl J' t s 0) = !vl J t s 0; rw [hv t s 0 (ho t rfl)]
theorem Tx_J {J J' : JT} {C : Nat} (hv : ∀ t s r, t < C → vl J' t s r = vl J t s r) {nx : Nat → Option Nat} (ho : ∀ v t, v < 4 → nx v = some t → t < C) : Tx J' nx = Tx J nx := by
  funext s r
  refine tN_cg fun v hv4 => ?_
  unfold nbX
  cases h : nx v with
  | none => rfl
  | some t => exact hv t s r (ho v t hv4 h)
theorem MX_J {I : IT} {J J' : JT} {C : Nat} {nx : Nat → Option Nat} {os oc : Option Nat} (h : MX I J C nx os oc) (hv : ∀ t s r, t < C → vl J' t s r = vl J t s r) : MX I J' C nx os oc := by
  have e1 := Sx_J hv h.1.2.2.1
  have e2 := Bx_J hv h.1.2.2.2.2.1
  have e3 := Tx_J hv h.1.1.2.2.2
  unfold MX MD MW at *
  rw [e1, e2, e3]
  exact h
theorem MX_C {I I' : IT} {J : JT} {C C' : Nat} {nx : Nat → Option Nat} {os oc : Option Nat} (h : MX I J C nx os oc) (h1 : I' 1 9 = nI C') (hC : C ≤ C') (h40 : C' ≤ 40) (hI : ∀ o, 11 ≤ o ∧ o ≤ 18 → I' o = I o) : MX I' J C' nx os oc := by
  obtain ⟨⟨⟨n1, n2, n3, n4⟩, m1, m2, m3, m4, m5⟩, w⟩ := h
  refine ⟨⟨⟨h1, h40, ?_, fun v t hv ht => Nat.lt_of_lt_of_le (n4 v t hv ht) hC⟩, ?_, fun t ht => Nat.lt_of_lt_of_le (m2 t ht) hC, ?_, fun t ht => Nat.lt_of_lt_of_le (m4 t ht) hC, ?_⟩, ?_⟩
  · rw [hI 12 (by decide)]; exact n3
  · rw [hI 11 (by decide)]; exact m1
  · rw [hI 11 (by decide)]; exact m3
  · unfold TOk at *
    rw [hI 11 (by decide), hI 13 (by decide), hI 14 (by decide), hI 15 (by decide)]; exact m5
  · unfold MW at *
    rw [hI 11 (by decide), hI 16 (by decide), hI 17 (by decide)]; exact w
theorem KpOk_cg {T : Nat → Nat → Nat} {I I' : IT} {V : Nat} (h : KpOk T I V) (h22 : I' 22 = I 22) (h23 : I' 23 = I 23) (h24 : I' 24 = I 24) : KpOk T I' V := by
  unfold KpOk PthOk at *
  rw [h22, h23, h24]; exact h
theorem LM_cg {I I' : IT} {K : Nat} (h : LM I K) (h19 : I' 19 = I 19) (h20 : I' 20 = I 20) : LM I' K := by
  unfold LM inA at *
  rw [h19, h20]; exact h
theorem bO_lt {b : Nat} (hb : b < 4) : 30 ≤ bO b ∧ bO b ≤ 37 ∧ 30 ≤ bP b ∧ bP b ≤ 37 := by show 30 ≤ 30 + 2 * b ∧ 30 + 2 * b ≤ 37 ∧ 30 ≤ 31 + 2 * b ∧ 31 + 2 * b ≤ 37; omega
theorem CBX_cg {bx : BXT} {I I' : IT} (h : CBX bx I) (hI : ∀ o, 30 ≤ o → o ≤ 37 → I' o = I o) : CBX bx I' := by
  intro b hb
  obtain ⟨o1, o2, o3, o4⟩ := bO_lt hb
  rw [hI _ o1 o2, hI _ o3 o4]
  exact h b hb
section CLS
variable {C : Nat} {nx : Nat → Option Nat} {os oc : Option Nat} {K V : Nat} {bx : BXT} {fa : Int32} {I I' : IT} {J J' : JT}
theorem cC (h : CL C nx os oc K V bx fa I J) : I 1 9 = nI C := h.1.1.1.1
theorem c40 (h : CL C nx os oc K V bx fa I J) : C ≤ 40 := h.1.1.1.2.1
theorem cS (h : CL C nx os oc K V bx fa I J) : I 11 4 = bs (Sx J os) := h.1.1.2.2.2.2.2.1
theorem cB (h : CL C nx os oc K V bx fa I J) : I 11 5 = bs (Bx J oc) := h.1.1.2.2.2.2.2.2.1
theorem cT (h : CL C nx os oc K V bx fa I J) : TOk I (Tx J nx) := h.1.1.2.2.2.2.2.2.2.1
theorem c14 (h : CL C nx os oc K V bx fa I J) : ∀ s, s < 16 → I 14 s = bs (rc (Tx J nx) s) := h.1.1.2.2.2.2.2.2.2.2.1
theorem c15 (h : CL C nx os oc K V bx fa I J) : ∀ s, s < 16 → I 15 s = o2i (dsO (rc (Tx J nx)) (Sx J os) 16 s) := h.1.1.2.2.2.2.2.2.2.2.2.1
theorem cm (h : CL C nx os oc K V bx fa I J) : I 11 10 = bs (lvl (rc (Tx J nx)) (Sx J os) 16).2 := h.1.1.2.2.2.2.2.2.2.2.2.2
theorem cW (h : CL C nx os oc K V bx fa I J) : MW I J nx os oc := h.1.2
theorem cA (h : CL C nx os oc K V bx fa I J) : I 19 4 = bs (inA I K) := h.2.1.2.2.1
theorem cV (h : CL C nx os oc K V bx fa I J) : I 11 8 = nI V := h.2.2.1.1
theorem cKp (h : CL C nx os oc K V bx fa I J) : KpOk (Tx J nx) I V := h.2.2.1.2
theorem clb (h : CL C nx os oc K V bx fa I J) : lbv I = o2i (lwX (rc (Tx J nx)) (Sx J os) (Bx J oc)) := lbv_of (cB h) (c15 h) (cm h)
theorem vl_J (h : J' 10 = J 10) (t s r : Nat) : vl J' t s r = vl J t s r := by unfold vl; rw [h]
theorem CL_k (h : CL C nx os oc K V bx fa I J) (hI : ∀ o, o < 39 → ¬ (22 ≤ o ∧ o ≤ 28) → I' o = I o) (hK : KpOk (Tx J nx) I' V) : CL C nx os oc K V bx fa I' J := by
  obtain ⟨h1, h2, h3, h4, h5⟩ := h
  refine ⟨MX_cg h1 fun o ho => hI o (by omega) (by omega), LM_cg h2 (hI 19 (by decide) (by decide)) (hI 20 (by decide) (by decide)), ⟨?_, hK⟩, CBX_cg h4 fun o ho h37 => hI o (by omega) (by omega), ?_⟩
  · rw [hI 11 (by decide) (by decide)]; exact h3.1
  · rw [hI 0 (by decide) (by decide)]; exact h5
theorem CL_cg (h : CL C nx os oc K V bx fa I J) (hI : ∀ o, o < 39 → I' o = I o) (hJ : J' 10 = J 10) : CL C nx os oc K V bx fa I' J' := by
  have h' := CL_k h (fun o ho _ => hI o ho) (KpOk_cg (cKp h) (hI 22 (by decide)) (hI 23 (by decide)) (hI 24 (by decide)))
  obtain ⟨h1, h2, h3, h4, h5⟩ := h'
  have hv : ∀ t s r, t < C → vl J' t s r = vl J t s r := fun t s r _ => vl_J hJ t s r
  refine ⟨MX_J h1 hv, h2, ⟨h3.1, ?_⟩, h4, h5⟩
  rw [Tx_J hv h1.1.1.2.2.2]; exact h3.2
end CLS
section RES
variable {f f' : IT} {g g' : JT} {C : Nat} {nx : Nat → Option Nat} {os oc : Option Nat} {K : Nat} {bx : BXT} {fa : Int32} {I I' : IT} {J J' : JT}
theorem rA (h : RE f g C nx os oc K bx fa I J) : RA I (inA f K) := by
  refine ⟨K, h.2.2.1.2.1, h.2.2.1.1, bsN_cg fun s _ => ?_⟩
  unfold inA
  exact alN_cg fun k hk => by rw [(h.2.2.1.2.2 k hk).1]
theorem RBX_cg (h : RBX bx I) (h58 : I' 58 = I 58) (h59 : I' 59 = I 59) (h60 : I' 60 = I 60) : RBX bx I' := by
  unfold RBX at *; rw [h58, h59, h60]; exact h
theorem RE_cg (h : RE f g C nx os oc K bx fa I J) (h39 : ∀ m, m ≠ 13 → m ≠ 22 → m ≠ 23 → I' 39 m = I 39 m) (hI : ∀ o, 40 ≤ o → o ≤ 61 → o ≠ 48 → o ≠ 49 → o ≠ 50 → o ≠ 53 → o ≠ 54 → o ≠ 55 → o ≠ 56 → o ≠ 57 → I' o = I o) (hJ : J' 45 = J 45) : RE f g C nx os oc K bx fa I' J' := by
  have e : ∀ o, 40 ≤ o → o ≤ 61 → (o ≠ 48 ∧ o ≠ 49 ∧ o ≠ 50 ∧ o ≠ 53 ∧ o ≠ 54 ∧ o ≠ 55 ∧ o ≠ 56 ∧ o ≠ 57) → I' o = I o := fun o a b c => hI o a b c.1 c.2.1 c.2.2.1 c.2.2.2.1 c.2.2.2.2.1 c.2.2.2.2.2.1 c.2.2.2.2.2.2.1 c.2.2.2.2.2.2.2
  obtain ⟨h1, h2, h3, h4, h5⟩ := h
  refine ⟨RB_cg h1 ⟨h39 1 (by decide) (by decide) (by decide), h39 9 (by decide) (by decide) (by decide), h39 10 (by decide) (by decide) (by decide)⟩ (e 46 (by decide) (by decide) (by decide)) (e 47 (by decide) (by decide) (by decide)), ?_, ?_, RBX_cg h4 (e 58 (by decide) (by decide) (by decide)) (e 59 (by decide) (by decide) (by decide)) (e 60 (by decide) (by decide) (by decide)), ?_⟩
  · unfold RTm at *
    rw [e 40 (by decide) (by decide) (by decide), e 41 (by decide) (by decide) (by decide), e 42 (by decide) (by decide) (by decide), e 43 (by decide) (by decide) (by decide), e 44 (by decide) (by decide) (by decide), hJ]; exact h2
  · rw [h39 16 (by decide) (by decide) (by decide), e 51 (by decide) (by decide) (by decide), e 52 (by decide) (by decide) (by decide)]; exact h3
  · rw [h39 0 (by decide) (by decide) (by decide)]; exact h5
theorem RE_fr (h : RE f g C nx os oc K bx fa I J) (hI : ∀ o, 39 ≤ o → o ≤ 61 → I' o = I o) (hJ : J' 45 = J 45) : RE f g C nx os oc K bx fa I' J' :=
  RE_cg h (fun m _ _ _ => by rw [hI 39 (by decide) (by decide)]) (fun o a b _ _ _ _ _ _ _ _ => hI o (by omega) b) hJ
theorem RB_gh (h : RB I g C nx os oc) (hv : ∀ t s r, t < C → vl g' t s r = vl g t s r) : RB I g' C nx os oc := by
  obtain ⟨⟨h1, h2, h3⟩, h4⟩ := h
  exact ⟨⟨h1, h2, fun t s r ht hs hr => by rw [hv t s r ht]; exact h3 t s r ht hs hr⟩, h4⟩
theorem RTm_gh (h : RTm I J f g C) (hf : ∀ o, 2 ≤ o → o ≤ 8 → f' o = f o) (hg : g' 9 = g 9) : RTm I J f' g' C := by
  unfold RTm at *
  rw [hf 2 (by decide) (by decide), hf 3 (by decide) (by decide), hf 4 (by decide) (by decide), hf 5 (by decide) (by decide), hf 6 (by decide) (by decide), hf 7 (by decide) (by decide), hf 8 (by decide) (by decide), hg]; exact h
theorem RE_gh (h : RE f g C nx os oc K bx fa I J) (hf : ∀ o, 2 ≤ o → o ≤ 21 → f' o = f o) (h9 : g' 9 = g 9) (h10 : g' 10 = g 10) : RE f' g' C nx os oc K bx fa I J := by
  obtain ⟨h1, h2, h3, h4⟩ := h
  refine ⟨RB_gh h1 fun t s r _ => vl_J h10 t s r, RTm_gh h2 (fun o a b => hf o a (by omega)) h9, ?_, h4⟩
  rw [hf 20 (by decide) (by decide), hf 21 (by decide) (by decide)]; exact h3
end RES
def QXw (T : Nat → Nat → Nat) (V : Nat) (v : Value) (I : IT) (J : JT) : IQ := fun r I' J' => r = some v ∧ J' = J ∧ (∀ o, ¬ (22 ≤ o ∧ o ≤ 28) → I' o = I o) ∧ KpOk T I' V
def QMw (v : Value) (I : IT) (J : JT) : IQ := fun r I' J' => r = some v ∧ J' = J ∧ FM I I'
theorem pr_q {sc : Nat → Nat → Int32} {V dX dM : Nat} {mX mM : MI} {ax : List Value} (h : ∀ (I : IT) (J : JT) (C : Nat) (nx : Nat → Option Nat) (os oc : Option Nat) (K V' : Nat) (bx : BXT) (fa : Int32), V' ≤ V → BOK C bx → CL C nx os oc K V' bx fa I J → RE I J C nx os oc K bx fa I J → ∃ v : Int32, CN 62 RF mX dX (.ref 0 :: ax) I J (QXw (Tx J nx) V' (.int v) I J) ∧ ∀ I1 : IT, RE I J C nx os oc K bx fa I1 J → CN 62 RF mM dM (.ref 39 :: ax) I1 J (QMw (.int v) I1 J)) : PR sc V mX mM dX dM ax := by
  rintro I J ⟨C, nx, os, oc, K, V', bx, fa, hV, hb, hC, hR, hs⟩
  obtain ⟨v, h1, h2⟩ := h I J C nx os oc K V' bx fa hV hb hC hR
  refine ⟨v, cn_mono h1 ?_⟩
  rintro r I1 J1 ⟨hr, rfl, hf, hK⟩
  have R1 : RE I J1 C nx os oc K bx fa I1 J1 := RE_fr hR (fun o a b => hf o (by omega)) rfl
  refine ⟨hr, fun o ho => (hf o (by omega)).trans (hs o ho), cn_mono (h2 I1 R1) ?_⟩
  rintro r2 I2 J2 ⟨hr2, rfl, f1, f2⟩
  have lo : ∀ o, o < 39 → I2 o = I1 o := fun o ho => f1 o (by omega) (by omega) (by omega) (by omega) (by omega) (by omega) (by omega) (by omega) (by omega)
  refine ⟨hr2, C, nx, os, oc, K, V', bx, fa, Nat.le_succ_of_le hV, hb, CL_cg (CL_k hC (fun o _ ho => hf o ho) hK) lo rfl, ?_, fun o ho => ?_⟩
  · refine RE_gh (RE_cg R1 f2 (fun o a b c d e p q r s t => f1 o (by omega) c d e p q r s t) rfl) (fun o a b => ?_) rfl rfl
    rw [lo o (by omega), hf o (by omega)]
  · rw [f1 o (by omega) (by omega) (by omega) (by omega) (by omega) (by omega) (by omega) (by omega) (by omega), hf o (by omega), hs o ho]
theorem pr_ql {sc : Nat → Nat → Int32} {V dX dM : Nat} {mX mM : MI} {ax : List Value} (h : ∀ (I : IT) (J : JT) (C : Nat) (nx : Nat → Option Nat) (os oc : Option Nat) (K V' : Nat) (bx : BXT) (fa : Int32), V' ≤ V → BOK C bx → CL C nx os oc K V' bx fa I J → RE I J C nx os oc K bx fa I J → ∃ v : Int64, CN 62 RF mX dX (.ref 0 :: ax) I J (QXw (Tx J nx) V' (.long v) I J) ∧ ∀ I1 : IT, RE I J C nx os oc K bx fa I1 J → CN 62 RF mM dM (.ref 39 :: ax) I1 J (QMw (.long v) I1 J)) : PRL sc V mX mM dX dM ax := by
  rintro I J ⟨C, nx, os, oc, K, V', bx, fa, hV, hb, hC, hR, hs⟩
  obtain ⟨v, h1, h2⟩ := h I J C nx os oc K V' bx fa hV hb hC hR
  refine ⟨v, cn_mono h1 ?_⟩
  rintro r I1 J1 ⟨hr, rfl, hf, hK⟩
  have R1 : RE I J1 C nx os oc K bx fa I1 J1 := RE_fr hR (fun o a b => hf o (by omega)) rfl
  refine ⟨hr, fun o ho => (hf o (by omega)).trans (hs o ho), cn_mono (h2 I1 R1) ?_⟩
  rintro r2 I2 J2 ⟨hr2, rfl, f1, f2⟩
  have lo : ∀ o, o < 39 → I2 o = I1 o := fun o ho => f1 o (by omega) (by omega) (by omega) (by omega) (by omega) (by omega) (by omega) (by omega) (by omega)
  refine ⟨hr2, C, nx, os, oc, K, V', bx, fa, Nat.le_succ_of_le hV, hb, CL_cg (CL_k hC (fun o _ ho => hf o ho) hK) lo rfl, ?_, fun o ho => ?_⟩
  · refine RE_gh (RE_cg R1 f2 (fun o a b c d e p q r s t => f1 o (by omega) c d e p q r s t) rfl) (fun o a b => ?_) rfl rfl
    rw [lo o (by omega), hf o (by omega)]
  · rw [f1 o (by omega) (by omega) (by omega) (by omega) (by omega) (by omega) (by omega) (by omega) (by omega), hf o (by omega), hs o ho]
theorem qx_id {T : Nat → Nat → Nat} {V d : Nat} {m : MI} {ax : List Value} {v : Value} {I : IT} {J : JT} (hK : KpOk T I V) (h : CN 62 RF m d ax I J (RX (some v) I J)) : CN 62 RF m d ax I J (QXw T V v I J) :=
  cn_mono h fun r I' J' hq => by obtain ⟨rfl, rfl, rfl⟩ := hq; exact ⟨rfl, rfl, fun _ _ => rfl, hK⟩
theorem qm_id {d : Nat} {m : MI} {ax : List Value} {v : Value} {I : IT} {J : JT} (h : CN 62 RF m d ax I J (RX (some v) I J)) : CN 62 RF m d ax I J (QMw v I J) :=
  cn_mono h fun r I' J' hq => by obtain ⟨rfl, rfl, rfl⟩ := hq; exact ⟨rfl, rfl, FM_r _⟩
theorem qm_fa {d : Nat} {m : MI} {ax : List Value} {v : Value} {I : IT} {J : JT} {D : Nat → Option Nat} (h : CN 62 RF m d ax I J (RX (some v) (faI I D) J)) : CN 62 RF m d ax I J (QMw v I J) :=
  cn_mono h fun r I' J' hq => by obtain ⟨rfl, rfl, rfl⟩ := hq; exact ⟨rfl, rfl, FM_fa _ _⟩
