/-! A TERM THAT COMES: what the class does and what the reference does, side by side -/
def TP (f : IT) (g : JT) (C : Nat) (kk a b c : Int32) : Prop := ∃ (v : Int32) (f' : IT) (g' : JT) (C' : Nat),
  CN 62 RF mX4_elderOrNew 3 [.ref 1, .int kk, .int a, .int b, .int c] f g (RX (some (.int v)) f' g') ∧
  (f' 1 9 = nI C' ∧ C ≤ C' ∧ C' ≤ 40) ∧ (∀ o, o = 0 ∨ 9 ≤ o → f' o = f o) ∧ (∀ o, o ≠ 9 → o ≠ 10 → g' o = g o) ∧ (∀ t s r, t < C → vl g' t s r = vl g t s r) ∧
  ∀ (I : IT) (J : JT) (nx : Nat → Option Nat) (os oc : Option Nat), RB I g C nx os oc → RTm I J f g C → ∃ I' J', CN 62 RF mX7_comes 2 [.ref 39, .int kk, .int a, .int b, .int c] I J (RX (some (.int v)) I' J') ∧ RB I' g' C' nx os oc ∧ RTm I' J' f' g' C' ∧
    (∀ o, o < 39 ∨ 46 < o → I' o = I o) ∧ (∀ m, m ≠ 1 → I' 39 m = I 39 m) ∧ ∀ o, o ≠ 45 → J' o = J o
theorem tp_elder {f : IT} {g : JT} {C t0 : Nat} (hC : f 1 9 = nI C) (h40 : C ≤ 40) {kk a b c : Int32} (he : elder f C kk a b c = some t0) : TP f g C kk a b c :=
  ⟨nI t0, f, g, C, ct_X4_elder hC h40 he, ⟨hC, Nat.le_refl _, h40⟩, fun _ _ => rfl, fun _ _ _ => rfl, fun _ _ _ _ => rfl, fun I J nx os oc hB hR => ⟨I, J, ct_X7_comesElder hB.1.1 h40 hR he, hB, hR, fun _ _ => rfl, fun _ _ => rfl, fun _ _ => rfl⟩⟩
theorem tp_full {f : IT} {g : JT} (hC : f 1 9 = nI 40) {kk a b c : Int32} (he : elder f 40 kk a b c = none) : TP f g 40 kk a b c :=
  ⟨-4, f, g, 40, ct_X4_full hC he, ⟨hC, Nat.le_refl _, Nat.le_refl _⟩, fun _ _ => rfl, fun _ _ _ => rfl, fun _ _ _ _ => rfl, fun I J nx os oc hB hR => ⟨I, J, ct_X7_comesFull hB.1.1 hR he, hB, hR, fun _ _ => rfl, fun _ _ => rfl, fun _ _ => rfl⟩⟩
def NewI (X I : IT) (C : Nat) (kk a b c x y z : Int32) : Prop := (∀ o, o < 40 ∨ 44 < o → X o = I o) ∧
  (∀ t, t < C → X 40 t = I 40 t ∧ X 41 (3 * t) = I 41 (3 * t) ∧ X 41 (3 * t + 1) = I 41 (3 * t + 1) ∧ X 41 (3 * t + 2) = I 41 (3 * t + 2) ∧ X 42 t = I 42 t ∧ X 43 t = I 43 t ∧ X 44 t = I 44 t) ∧
  X 40 C = kk ∧ X 41 (3 * C) = a ∧ X 41 (3 * C + 1) = b ∧ X 41 (3 * C + 2) = c ∧ X 42 C = x ∧ X 43 C = y ∧ X 44 C = z
def nwF (f : IT) (C : Nat) (kk a b c x y z : Int32) : IT := up2 (tri (wr4 f C kk a b c) C x y z) 1 9 (nI (C + 1))
def nwJ (g : JT) (C : Nat) (lv tb : Int64) : JT := up2 (up2 g 9 C lv) 10 C tb
def nwI (X : IT) (C : Nat) (vals : Nat → Int32) : IT := fvI (up2 X 39 1 (nI (C + 1))) C vals 64
theorem nwF_o {f : IT} {C o : Nat} {kk a b c x y z : Int32} (h : o = 0 ∨ 9 ≤ o) : nwF f C kk a b c x y z o = f o := by
  unfold nwF; rw [up2_o (by omega), tri_o (by omega) (by omega) (by omega), wr4_o (by omega) (by omega) (by omega) (by omega)]
theorem nwF_1 {f : IT} {C : Nat} {kk a b c x y z : Int32} : nwF f C kk a b c x y z 1 9 = nI (C + 1) := by unfold nwF; rw [up2_s]
theorem nwF_lo {f : IT} {C t o : Nat} {kk a b c x y z : Int32} (ht : t ≠ C) (ho : o ≠ 1) : nwF f C kk a b c x y z o t = f o t := by
  unfold nwF; rw [up2_o ho, tri_ne ht]
  unfold wr4
  have e : ∀ (F : IT) (p : Nat) (v : Int32), up2 F p C v o t = F o t := fun F p v => by
    by_cases h : o = p
    · subst h; rw [up2_k ht]
    · rw [up2_o h]
  rw [e, e, e, e]
theorem nwF_C {f : IT} {C : Nat} {kk a b c x y z : Int32} : nwF f C kk a b c x y z 2 C = kk ∧ nwF f C kk a b c x y z 3 C = a ∧ nwF f C kk a b c x y z 4 C = b ∧ nwF f C kk a b c x y z 5 C = c ∧ nwF f C kk a b c x y z 6 C = x ∧ nwF f C kk a b c x y z 7 C = y ∧ nwF f C kk a b c x y z 8 C = z := by
  unfold nwF
  refine ⟨?_, ?_, ?_, ?_, ?_, ?_, ?_⟩
  · rw [up2_o (by decide), tri_o (by decide) (by decide) (by decide)]; exact wr4_2.1
  · rw [up2_o (by decide), tri_o (by decide) (by decide) (by decide)]; exact wr4_2.2.1
  · rw [up2_o (by decide), tri_o (by decide) (by decide) (by decide)]; exact wr4_2.2.2.1
  · rw [up2_o (by decide), tri_o (by decide) (by decide) (by decide)]; exact wr4_2.2.2.2
  · rw [up2_o (by decide), tri_6]
  · rw [up2_o (by decide), tri_7]
  · rw [up2_o (by decide), tri_8]
theorem nwJ_o {g : JT} {C o : Nat} {lv tb : Int64} (h9 : o ≠ 9) (h10 : o ≠ 10) : nwJ g C lv tb o = g o := by unfold nwJ; rw [up2_o h10, up2_o h9]
theorem nwJ_vl {g : JT} {C t : Nat} {lv tb : Int64} (h : t ≠ C) (s r : Nat) : vl (nwJ g C lv tb) t s r = vl g t s r := by
  unfold vl nwJ; rw [up2_k h, up2_o (by decide)]
theorem nwJ_vC {g : JT} {C : Nat} {lv tb : Int64} (s r : Nat) : vl (nwJ g C lv tb) C s r = tb.toBitVec.getLsbD (16 * r + s) := by
  unfold vl nwJ; rw [up2_s]
theorem nwJ_9 {g : JT} {C t : Nat} {lv tb : Int64} (h : t ≠ C) : nwJ g C lv tb 9 t = g 9 t := by unfold nwJ; rw [up2_o (by decide), up2_k h]
theorem nwJ_9C {g : JT} {C : Nat} {lv tb : Int64} : nwJ g C lv tb 9 C = lv := by unfold nwJ; rw [up2_o (by decide), up2_s]
section NW
variable {X I f : IT} {J g : JT} {C : Nat} {kk a b c x y z : Int32} {lv tb : Int64} {vals : Nat → Int32}
theorem nwI_o {o : Nat} (hN : NewI X I C kk a b c x y z) (h : o < 39 ∨ 46 < o) : nwI X C vals o = I o := by
  unfold nwI; rw [fvI_o (by omega), up2_o (by omega), hN.1 o (by omega)]
theorem nwI_39 {m : Nat} (hN : NewI X I C kk a b c x y z) (h : m ≠ 1) : nwI X C vals 39 m = I 39 m := by
  unfold nwI; rw [fvI_o (by decide), up2_k h, hN.1 39 (by decide)]
theorem nwI_x {o : Nat} (h : o ≠ 46) (h2 : o ≠ 39) : nwI X C vals o = X o := by
  unfold nwI; rw [fvI_o h, up2_o h2]
theorem nw_RB {nx : Nat → Option Nat} {os oc : Option Nat} (hN : NewI X I C kk a b c x y z) (hB : RB I g C nx os oc) (hC : C < 40) (hv : ∀ s r, s < 16 → r < 4 → vals (4 * s + r) = b2i (tb.toBitVec.getLsbD (16 * r + s))) : RB (nwI X C vals) (nwJ g C lv tb) (C + 1) nx os oc := by
  obtain ⟨⟨b1, b2, b3⟩, ⟨b4, b5⟩, ⟨b6, b7⟩, b8, b9⟩ := hB
  refine ⟨⟨?_, hC, fun t s r ht hs hr => ?_⟩, ⟨?_, fun t h => Nat.lt_succ_of_lt (b5 t h)⟩, ⟨?_, fun t h => Nat.lt_succ_of_lt (b7 t h)⟩, fun v hv => ?_, fun v t hv h => Nat.lt_succ_of_lt (b9 v t hv h)⟩
  · unfold nwI; rw [fvI_o (by decide), up2_s]
  · by_cases h : t = C
    · subst h
      unfold nwI
      rw [Nat.add_assoc, fvI_in (by omega), hv s r hs hr, nwJ_vC]
    · have h2 : 64 * t + 4 * s + r < 64 * C := by omega
      unfold nwI
      rw [fvI_lo h2, up2_o (by decide), hN.1 46 (by decide), b3 t s r (by omega) hs hr, nwJ_vl h]
  · rw [nwI_39 hN (by decide), b4]
  · rw [nwI_39 hN (by decide), b6]
  · rw [nwI_o hN (by decide), b8 v hv]
theorem nw_RTm (hN : NewI X I C kk a b c x y z) (hR : RTm I J f g C) : RTm (nwI X C vals) (up2 J 45 C lv) (nwF f C kk a b c x y z) (nwJ g C lv tb) (C + 1) := by
  intro t ht
  rw [nwI_x (by decide) (by decide), nwI_x (by decide) (by decide), nwI_x (by decide) (by decide), nwI_x (by decide) (by decide), nwI_x (by decide) (by decide)]
  by_cases h : t = C
  · subst h
    obtain ⟨e1, e2, e3, e4, e5, e6, e7⟩ := nwF_C (f := f) (C := t) (kk := kk) (a := a) (b := b) (c := c) (x := x) (y := y) (z := z)
    rw [e1, e2, e3, e4, e5, e6, e7, nwJ_9C, up2_s]
    obtain ⟨-, -, d1, d2, d3, d4, d5, d6, d7⟩ := hN
    exact ⟨d1, d2, d3, d4, d5, d6, d7, rfl⟩
  · have ht2 : t < C := by omega
    obtain ⟨d1, d2, d3, d4, d5, d6, d7⟩ := hN.2.1 t ht2
    obtain ⟨r1, r2, r3, r4, r5, r6, r7, r8⟩ := hR t ht2
    rw [d1, d2, d3, d4, d5, d6, d7, nwF_lo h (by decide), nwF_lo h (by decide), nwF_lo h (by decide), nwF_lo h (by decide), nwF_lo h (by decide), nwF_lo h (by decide), nwF_lo h (by decide), nwJ_9 h, up2_k h]
    exact ⟨r1, r2, r3, r4, r5, r6, r7, r8⟩
end NW
theorem cm4_new (I : IT) (C : Nat) (kk a b c x y : Int32) : NewI (cm4 I C kk a b c x y) I C kk a b c x y 0 := by
  refine ⟨fun o ho => cm4_o (by omega) (by omega) (by omega) (by omega) (by omega), fun t ht => ⟨?_, ?_, ?_, ?_, ?_, ?_, ?_⟩, ?_, ?_, ?_, ?_, ?_, ?_, ?_⟩
  · rw [cm4_40, up2_k (by omega)]
  · rw [cm4_41, p41_lo (by omega)]
  · rw [cm4_41, p41_lo (by omega)]
  · rw [cm4_41, p41_lo (by omega)]
  · rw [cm4_42, up2_k (by omega)]
  · rw [cm4_43, up2_k (by omega)]
  · rw [cm4_44, up2_k (by omega)]
  · rw [cm4_40, up2_s]
  · rw [cm4_41, p41_0]
  · rw [cm4_41, p41_1]
  · rw [cm4_41, p41_2]
  · rw [cm4_42, up2_s]
  · rw [cm4_43, up2_s]
  · rw [cm4_44, up2_s]
theorem tr3_new {X I : IT} {C : Nat} {kk a b c x y z : Int32} (h : NewI X I C kk a b c x y z) (x' y' z' : Int32) : NewI (tr3 X C x' y' z') I C kk a b c x' y' z' := by
  obtain ⟨h1, h2, d1, d2, d3, d4, -, -, -⟩ := h
  refine ⟨fun o ho => (tr3_o (by omega) (by omega) (by omega)).trans (h1 o ho), fun t ht => ?_, ?_, ?_, ?_, ?_, ?_, ?_, ?_⟩
  · obtain ⟨e1, e2, e3, e4, e5, e6, e7⟩ := h2 t ht
    refine ⟨?_, ?_, ?_, ?_, ?_, ?_, ?_⟩
    · rw [tr3_o (by decide) (by decide) (by decide)]; exact e1
    · rw [tr3_o (by decide) (by decide) (by decide)]; exact e2
    · rw [tr3_o (by decide) (by decide) (by decide)]; exact e3
    · rw [tr3_o (by decide) (by decide) (by decide)]; exact e4
    · rw [tr3_42, up2_k (by omega)]; exact e5
    · rw [tr3_43, up2_k (by omega)]; exact e6
    · rw [tr3_44, up2_k (by omega)]; exact e7
  · rw [tr3_o (by decide) (by decide) (by decide)]; exact d1
  · rw [tr3_o (by decide) (by decide) (by decide)]; exact d2
  · rw [tr3_o (by decide) (by decide) (by decide)]; exact d3
  · rw [tr3_o (by decide) (by decide) (by decide)]; exact d4
  · rw [tr3_42, up2_s]
  · rw [tr3_43, up2_s]
  · rw [tr3_44, up2_s]
theorem dm4 {s r : Nat} (hr : r < 4) : (4 * s + r) / 4 = s ∧ (4 * s + r) % 4 = r := by omega
theorem tp_leaf {f : IT} {g : JT} {C : Nat} (hC : f 1 9 = nI C) (h40 : C ≤ 40) {k m : Nat} (hk : k < 3) (hm : m < stLen (k + 1)) : TP f g C (nI k) (nI m) (-9) (-9) := by
  cases he : elder f C (nI k) (nI m) (-9) (-9) with
  | some t0 => exact tp_elder hC h40 he
  | none =>
    by_cases hf : C = 40
    · subst hf; exact tp_full hC he
    · have hC2 : C < 40 := by omega
      have hm4 : m < 4 := by
        have h3 : k = 0 ∨ k = 1 ∨ k = 2 := by omega
        rcases h3 with rfl | rfl | rfl
        · have : m < 2 := hm
          omega
        · exact hm
        · have : m < 2 := hm
          omega
      have hm2 : k = 0 → m < 2 := fun h => by subst h; exact hm
      refine ⟨nI C, _, _, C + 1, ct_X4_newLeaf hC hC2 hk hm he, ⟨nwF_1, Nat.le_succ _, hC2⟩, fun o ho => nwF_o ho, fun o h9 h10 => nwJ_o h9 h10, fun t s r ht => nwJ_vl (by omega) s r, fun I J nx os oc hB hR => ?_⟩
      have e1 : (if nI k = 1 then (1 : Int32) <<< (nI m &&& 31) else 0) = (if k = 1 then (1 : Int32) <<< (nI m &&& 31) else 0) := by
        have h3 : k = 0 ∨ k = 1 ∨ k = 2 := by omega
        rcases h3 with rfl | rfl | rfl <;> rfl
      have e2 : (if nI k = 2 then (1 : Int32) <<< (nI m &&& 31) else 0) = (if k = 2 then (1 : Int32) <<< (nI m &&& 31) else 0) := by
        have h3 : k = 0 ∨ k = 1 ∨ k = 2 := by omega
        rcases h3 with rfl | rfl | rfl <;> rfl
      have hN := cm4_new I C (nI k) (nI m) (-9) (-9) (if k = 1 then (1 : Int32) <<< (nI m &&& 31) else 0) (if k = 2 then (1 : Int32) <<< (nI m &&& 31) else 0)
      have hc := ct_X7_comesLeaf (I := I) (J := J) hB.1.1 hC2 hR hk hm4 hm2 he
      unfold lfI at hc
      rw [e1, e2] at hc
      refine ⟨_, _, hc, nw_RB hN hB hC2 ?_, nw_RTm hN hR, fun o ho => nwI_o hN ho, fun q hq => nwI_39 hN hq, fun o ho => up2_o ho⟩
      intro s r hs hr
      show b2i (evB k m false false false ((4 * s + r) / 4) ((4 * s + r) % 4)) = _
      rw [(dm4 hr).1, (dm4 hr).2, lf_bit k hk m hm s hs r hr]
theorem orO_cq {x : Int32} {F F' : Nat → Int32} {o : Option Nat} (h : ∀ p, o = some p → F p = F' p) : orO x F o = orO x F' o := by
  cases o with
  | none => rfl
  | some p => show x ||| F p = x ||| F' p; rw [h p rfl]
theorem mxO_cq {x : Int32} {F F' : Nat → Int32} {o : Option Nat} (h : ∀ p, o = some p → F p = F' p) : mxO x F o = mxO x F' o := by
  cases o with
  | none => rfl
  | some p => show (if x < F p + 1 then F p + 1 else x) = (if x < F' p + 1 then F' p + 1 else x); rw [h p rfl]
theorem adO_cq {x : Int64} {F F' : Nat → Int64} {o : Option Nat} (h : ∀ p, o = some p → F p = F' p) : adO x F o = adO x F' o := by
  cases o with
  | none => rfl
  | some p => show x + F p = x + F' p; rw [h p rfl]
theorem evB_cg {k : Nat} (hk : 3 ≤ k) (hk7 : k ≤ 7) {x y z y' z' : Bool} (hy : 3 < k → y = y') (hz : k = 7 → z = z') (s r : Nat) : evB k 0 x y z s r = evB k 0 x y' z' s r := by
  have h5 : k = 3 ∨ k = 4 ∨ k = 5 ∨ k = 6 ∨ k = 7 := by omega
  rcases h5 with rfl | rfl | rfl | rfl | rfl
  · rfl
  · rw [hy (by decide)]; rfl
  · rw [hy (by decide)]; rfl
  · rw [hy (by decide)]; rfl
  · rw [hy (by decide), hz rfl]
theorem tp_gate {f : IT} {g : JT} {C : Nat} (hC : f 1 9 = nI C) (h40 : C ≤ 40) {k pa : Nat} {ob oc : Option Nat} (hk : 3 ≤ k) (hk7 : k ≤ 7) (hpa : pa < C) (hob : ∀ p, ob = some p → p < C) (hoc : ∀ p, oc = some p → p < C) (hb : 3 < k → ∃ p, ob = some p) (hc : k = 7 → ∃ p, oc = some p) : TP f g C (nI k) (nI pa) (o2i ob) (o2i oc) := by
  cases he : elder f C (nI k) (nI pa) (o2i ob) (o2i oc) with
  | some t0 => exact tp_elder hC h40 he
  | none =>
    by_cases hf : C = 40
    · subst hf; exact tp_full hC he
    · have hC2 : C < 40 := by omega
      have hoa : ∀ p, some pa = some p → p < C := fun p h => by cases h; exact hpa
      refine ⟨nI C, _, _, C + 1, ct_X4_newGate hC hC2 hk (by omega) (some pa) ob oc hoa hob hoc he, ⟨nwF_1, Nat.le_succ _, hC2⟩, fun o ho => nwF_o ho, fun o h9 h10 => nwJ_o h9 h10, fun t s r ht => nwJ_vl (by omega) s r, fun I J nx os oc' hB hR => ?_⟩
      have hbb : 3 < k → ob = some (ob.getD 0) := fun h => by obtain ⟨p, hp⟩ := hb h; rw [hp]; rfl
      have hcc : k = 7 → oc = some (oc.getD 0) := fun h => by obtain ⟨p, hp⟩ := hc h; rw [hp]; rfl
      have vv : ∀ p, p < C → ∀ s r, s < 16 → r < 4 → I 46 (64 * p + 4 * s + r) = b2i (vl g p s r) := fun p hp s r hs hr => hB.1.2.2 p s r hp hs hr
      have hcm := ct_X7_comesGate (I := I) (J := J) hB.1.1 hC2 hR hk hk7 hpa hob hoc hbb hcc he (vx := vl g pa) (vy := vl g (ob.getD 0)) (vz := vl g (oc.getD 0)) (vv pa hpa) (fun h => vv _ (hob _ (hbb h))) (fun h => vv _ (hoc _ (hcc h)))
      unfold gtI at hcm
      have r6 : ∀ (o : Option Nat), (∀ p, o = some p → p < C) → ∀ p, o = some p → I 42 p = f 6 p := fun o ho p hp => (hR p (ho p hp)).2.2.2.2.1
      have r7 : ∀ (o : Option Nat), (∀ p, o = some p → p < C) → ∀ p, o = some p → I 43 p = f 7 p := fun o ho p hp => (hR p (ho p hp)).2.2.2.2.2.1
      have r8 : ∀ (o : Option Nat), (∀ p, o = some p → p < C) → ∀ p, o = some p → I 44 p = f 8 p := fun o ho p hp => (hR p (ho p hp)).2.2.2.2.2.2.1
      have r9 : ∀ (o : Option Nat), (∀ p, o = some p → p < C) → ∀ p, o = some p → J 45 p = g 9 p := fun o ho p hp => (hR p (ho p hp)).2.2.2.2.2.2.2
      rw [orO_cq (r6 _ hoa), orO_cq (r6 _ hob), orO_cq (r6 _ hoc), orO_cq (r7 _ hoa), orO_cq (r7 _ hob), orO_cq (r7 _ hoc), mxO_cq (r8 _ hoa), mxO_cq (r8 _ hob), mxO_cq (r8 _ hoc), adO_cq (r9 _ hoa), adO_cq (r9 _ hob), adO_cq (r9 _ hoc)] at hcm
      have hN := tr3_new (cm4_new I C (nI k) (nI pa) (o2i ob) (o2i oc) 0 0) (orO (orO (orO 0 (f 6) (some pa)) (f 6) ob) (f 6) oc) (orO (orO (orO 0 (f 7) (some pa)) (f 7) ob) (f 7) oc) (mxO (mxO (mxO 0 (f 8) (some pa)) (f 8) ob) (f 8) oc)
      refine ⟨_, _, hcm, nw_RB hN hB hC2 ?_, nw_RTm hN hR, fun o ho => nwI_o hN ho, fun q hq => nwI_39 hN hq, fun o ho => up2_o ho⟩
      intro s r hs hr
      show b2i (evB k 0 (vl g pa ((4 * s + r) / 4) ((4 * s + r) % 4)) (vl g (ob.getD 0) ((4 * s + r) / 4) ((4 * s + r) % 4)) (vl g (oc.getD 0) ((4 * s + r) / 4) ((4 * s + r) % 4)) ((4 * s + r) / 4) ((4 * s + r) % 4)) = _
      rw [(dm4 hr).1, (dm4 hr).2, jn_bit hk hk7 _ _ _ (show 16 * r + s < 64 by omega) s r]
      refine congrArg b2i (evB_cg hk hk7 (fun h => ?_) (fun h => ?_) s r)
      · obtain ⟨p, hp⟩ := hb h; rw [hp]; rfl
      · obtain ⟨p, hp⟩ := hc h; rw [hp]; rfl
