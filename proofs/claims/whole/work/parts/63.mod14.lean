/-! THE REFERENCE: a new leaf, a new gate -/
section MOD14
variable {I : IT} {J : JT}
theorem cm4_o {C o : Nat} {kk a b c x y : Int32} (h0 : o ≠ 40) (h1 : o ≠ 41) (h2 : o ≠ 42) (h3 : o ≠ 43) (h4 : o ≠ 44) : cm4 I C kk a b c x y o = I o := by
  unfold cm4; rw [up2_o h4, up2_o h3, up2_o h2, up2_o h1, up2_o h1, up2_o h1, up2_o h0]
theorem cm4_40 {C : Nat} {kk a b c x y : Int32} : cm4 I C kk a b c x y 40 = up2 I 40 C kk 40 := by
  unfold cm4; rw [up2_o (by decide), up2_o (by decide), up2_o (by decide), up2_o (by decide), up2_o (by decide), up2_o (by decide)]
theorem cm4_41 {C : Nat} {kk a b c x y : Int32} : cm4 I C kk a b c x y 41 = up2 (up2 (up2 I 41 (3 * C) a) 41 (3 * C + 1) b) 41 (3 * C + 2) c 41 := by
  unfold cm4
  rw [up2_o (by decide), up2_o (by decide), up2_o (by decide)]
  funext m
  by_cases h2 : m = 3 * C + 2
  · subst h2; rw [up2_s, up2_s]
  · rw [up2_k h2, up2_k h2]
    by_cases h1 : m = 3 * C + 1
    · subst h1; rw [up2_s, up2_s]
    · rw [up2_k h1, up2_k h1]
      by_cases h0 : m = 3 * C
      · subst h0; rw [up2_s, up2_s]
      · rw [up2_k h0, up2_k h0, up2_o (by decide)]
theorem cm4_42 {C : Nat} {kk a b c x y : Int32} : cm4 I C kk a b c x y 42 = up2 I 42 C x 42 := by
  unfold cm4; rw [up2_o (by decide), up2_o (by decide)]
  funext m
  by_cases h : m = C
  · subst h; rw [up2_s, up2_s]
  · rw [up2_k h, up2_k h, up2_o (by decide), up2_o (by decide), up2_o (by decide), up2_o (by decide)]
theorem cm4_43 {C : Nat} {kk a b c x y : Int32} : cm4 I C kk a b c x y 43 = up2 I 43 C y 43 := by
  unfold cm4; rw [up2_o (by decide)]
  funext m
  by_cases h : m = C
  · subst h; rw [up2_s, up2_s]
  · rw [up2_k h, up2_k h, up2_o (by decide), up2_o (by decide), up2_o (by decide), up2_o (by decide), up2_o (by decide)]
theorem cm4_44 {C : Nat} {kk a b c x y : Int32} : cm4 I C kk a b c x y 44 = up2 I 44 C 0 44 := by
  unfold cm4
  funext m
  by_cases h : m = C
  · subst h; rw [up2_s, up2_s]
  · rw [up2_k h, up2_k h, up2_o (by decide), up2_o (by decide), up2_o (by decide), up2_o (by decide), up2_o (by decide), up2_o (by decide)]
theorem p41_0 {C : Nat} {a b c : Int32} : up2 (up2 (up2 I 41 (3 * C) a) 41 (3 * C + 1) b) 41 (3 * C + 2) c 41 (3 * C) = a := by rw [up2_k (by omega), up2_k (by omega), up2_s]
theorem p41_1 {C : Nat} {a b c : Int32} : up2 (up2 (up2 I 41 (3 * C) a) 41 (3 * C + 1) b) 41 (3 * C + 2) c 41 (3 * C + 1) = b := by rw [up2_k (by omega), up2_s]
theorem p41_2 {C : Nat} {a b c : Int32} : up2 (up2 (up2 I 41 (3 * C) a) 41 (3 * C + 1) b) 41 (3 * C + 2) c 41 (3 * C + 2) = c := by rw [up2_s]
theorem p41_lo {C m : Nat} {a b c : Int32} (h : m < 3 * C) : up2 (up2 (up2 I 41 (3 * C) a) 41 (3 * C + 1) b) 41 (3 * C + 2) c 41 m = I 41 m := by rw [up2_k (by omega), up2_k (by omega), up2_k (by omega)]
def lfI (I : IT) (C k m : Nat) : IT := fvI (up2 (cm4 I C (nI k) (nI m) (-9) (-9) (if nI k = 1 then (1 : Int32) <<< (nI m &&& 31) else 0) (if nI k = 2 then (1 : Int32) <<< (nI m &&& 31) else 0)) 39 1 (nI (C + 1))) C (fun q => b2i (evB k m false false false (q / 4) (q % 4))) 64
theorem ct_X7_comesLeaf {f : IT} {g : JT} {C : Nat} (hC : I 39 1 = nI C) (h40 : C < 40) (hR : RTm I J f g C) {k m : Nat} (hk : k < 3) (hm : m < 4) (hm0 : k = 0 → m < 2) (he : elder f C (nI k) (nI m) (-9) (-9) = none) : CN 62 RF mX7_comes 2 [.ref 39, .int (nI k), .int (nI m), .int (-9), .int (-9)] I J (RX (some (.int (nI C))) (lfI I C k m) (up2 J 45 C 1)) := by
  refine comes_new hC h40 hR he (comes_mid hC h40 ?_)
  rw [if_neg (c := (2 : Int32) < nI k) (fun h => absurd ((nI_ltI (a := 2) (by decide) (by omega)).mp h) (by omega))]
  refine b_X7_comes_156 (fun h => ?_) (fun h => absurd ((nI_leI (a := k) (b := 2) (by omega) (by decide)).mpr (by omega)) h)
  refine comes_end (by rw [cm4_o (by decide) (by decide) (by decide) (by decide) (by decide), hC]) h40 (fun s r => evB k m false false false s r) ?_
  intro s r I3 hs hr e40 e41 _
  exact ct_X7_evalLeaf h40 hk hm hm0 hs hr (by rw [e40, cm4_40, up2_s]) (by rw [e41, cm4_41, p41_0]) false false false
theorem tr3_tr3 {t : Nat} {a b c a' b' c' : Int32} : tr3 (tr3 I t a b c) t a' b' c' = tr3 I t a' b' c' := by
  unfold tr3
  funext o m
  by_cases h44 : o = 44
  · subst h44
    by_cases hm : m = t
    · subst hm; rw [up2_s, up2_s]
    · rw [up2_k hm, up2_k hm, up2_o (by decide), up2_o (by decide), up2_k hm, up2_o (by decide), up2_o (by decide), up2_o (by decide), up2_o (by decide)]
  · rw [up2_o h44, up2_o h44]
    by_cases h43 : o = 43
    · subst h43
      by_cases hm : m = t
      · subst hm; rw [up2_s, up2_s]
      · rw [up2_k hm, up2_k hm, up2_o (by decide), up2_o (by decide), up2_k hm, up2_o (by decide), up2_o (by decide)]
    · rw [up2_o h43, up2_o h43]
      by_cases h42 : o = 42
      · subst h42
        by_cases hm : m = t
        · subst hm; rw [up2_s, up2_s]
        · rw [up2_k hm, up2_k hm, up2_o (by decide), up2_o (by decide), up2_k hm]
      · rw [up2_o h42, up2_o h42, up2_o h44, up2_o h43, up2_o h42]
theorem tr3_o {t o : Nat} {a b c : Int32} (h42 : o ≠ 42) (h43 : o ≠ 43) (h44 : o ≠ 44) : tr3 I t a b c o = I o := by
  unfold tr3; rw [up2_o h44, up2_o h43, up2_o h42]
theorem tr3_42 {t : Nat} {a b c : Int32} : tr3 I t a b c 42 = up2 I 42 t a 42 := by
  unfold tr3; rw [up2_o (by decide), up2_o (by decide)]
theorem tr3_43 {t : Nat} {a b c : Int32} : tr3 I t a b c 43 = up2 I 43 t b 43 := by
  unfold tr3; rw [up2_o (by decide)]
  funext m
  by_cases hm : m = t
  · subst hm; rw [up2_s, up2_s]
  · rw [up2_k hm, up2_k hm, up2_o (by decide)]
theorem tr3_44 {t : Nat} {a b c : Int32} : tr3 I t a b c 44 = up2 I 44 t c 44 := by
  unfold tr3
  funext m
  by_cases hm : m = t
  · subst hm; rw [up2_s, up2_s]
  · rw [up2_k hm, up2_k hm, up2_o (by decide), up2_o (by decide)]
theorem orO_cg {x : Int32} {f f' : Nat → Int32} {o : Option Nat} (h : ∀ p, o = some p → f p = f' p) : orO x f o = orO x f' o := by
  cases o with
  | none => rfl
  | some p => show x ||| f p = x ||| f' p; rw [h p rfl]
theorem mxO_cg {x : Int32} {f f' : Nat → Int32} {o : Option Nat} (h : ∀ p, o = some p → f p = f' p) : mxO x f o = mxO x f' o := by
  cases o with
  | none => rfl
  | some p => show (if x < f p + 1 then f p + 1 else x) = (if x < f' p + 1 then f' p + 1 else x); rw [h p rfl]
theorem adO_cg {x : Int64} {f f' : Nat → Int64} {o : Option Nat} (h : ∀ p, o = some p → f p = f' p) : adO x f o = adO x f' o := by
  cases o with
  | none => rfl
  | some p => show x + f p = x + f' p; rw [h p rfl]
/-- one part taken, on a new term's columns x y z w -/
theorem takes_on {I0 : IT} {J0 : JT} {C : Nat} (h40 : C < 40) {x y z : Int32} {w : Int64} (o : Option Nat) (ho : ∀ p, o = some p → p < C) :
    CN 62 RF mX7_takes 0 [.ref 39, .int (nI C), .int (o2i o)] (tr3 I0 C x y z) (up2 J0 45 C w) (RX none (tr3 I0 C (orO x (I0 42) o) (orO y (I0 43) o) (mxO z (I0 44) o)) (up2 J0 45 C (adO w (J0 45) o))) := by
  have h := ct_X7_takes (I := tr3 I0 C x y z) (J := up2 J0 45 C w) h40 o (fun p hp => by have := ho p hp; omega)
  rw [tr3_tr3, up2_2] at h
  have ne : ∀ p, o = some p → p ≠ C := fun p hp => by have := ho p hp; omega
  rw [tr3_42, tr3_43, tr3_44, up2_s, up2_s, up2_s, up2_s] at h
  rw [orO_cg (f' := I0 42) (fun p hp => up2_k (ne p hp)), orO_cg (f' := I0 43) (fun p hp => up2_k (ne p hp)), mxO_cg (f' := I0 44) (fun p hp => up2_k (ne p hp)), adO_cg (f' := J0 45) (fun p hp => up2_k (ne p hp))] at h
  exact h
def gtI (I : IT) (C k : Nat) (oa ob oc : Option Nat) (vals : Nat → Nat → Bool) : IT := fvI (up2 (tr3 (cm4 I C (nI k) (o2i oa) (o2i ob) (o2i oc) 0 0) C (orO (orO (orO 0 (I 42) oa) (I 42) ob) (I 42) oc) (orO (orO (orO 0 (I 43) oa) (I 43) ob) (I 43) oc) (mxO (mxO (mxO 0 (I 44) oa) (I 44) ob) (I 44) oc)) 39 1 (nI (C + 1))) C (fun q => b2i (vals (q / 4) (q % 4))) 64
theorem ct_X7_comesGate {f : IT} {g : JT} {C : Nat} (hC : I 39 1 = nI C) (h40 : C < 40) (hR : RTm I J f g C) {k pa pb pc : Nat} {ob oc : Option Nat} (hk : 3 ≤ k) (hk7 : k ≤ 7) (hpa : pa < C) (hob : ∀ p, ob = some p → p < C) (hoc : ∀ p, oc = some p → p < C) (hb : 3 < k → ob = some pb) (hc : k = 7 → oc = some pc) (he : elder f C (nI k) (nI pa) (o2i ob) (o2i oc) = none)
    {vx vy vz : Nat → Nat → Bool} (hx : ∀ s r, s < 16 → r < 4 → I 46 (64 * pa + 4 * s + r) = b2i (vx s r)) (hy : 3 < k → ∀ s r, s < 16 → r < 4 → I 46 (64 * pb + 4 * s + r) = b2i (vy s r)) (hz : k = 7 → ∀ s r, s < 16 → r < 4 → I 46 (64 * pc + 4 * s + r) = b2i (vz s r)) :
    CN 62 RF mX7_comes 2 [.ref 39, .int (nI k), .int (nI pa), .int (o2i ob), .int (o2i oc)] I J (RX (some (.int (nI C))) (gtI I C k (some pa) ob oc (fun s r => evB k 0 (vx s r) (vy s r) (vz s r) s r)) (up2 J 45 C (adO (adO (adO 0 (J 45) (some pa)) (J 45) ob) (J 45) oc))) := by
  refine comes_new hC h40 hR he (comes_mid hC h40 ?_)
  have n1 : ¬ nI k = 1 := fun h => absurd ((nI_eq (a := k) (b := 1) (by omega) (by decide)).mp h) (by omega)
  have n2 : ¬ nI k = 2 := fun h => absurd ((nI_eq (a := k) (b := 2) (by omega) (by decide)).mp h) (by omega)
  rw [if_neg n1, if_neg n2, if_pos (c := (2 : Int32) < nI k) ((nI_ltI (a := 2) (b := k) (by decide) (by omega)).mpr (by omega))]
  refine b_X7_comes_156 (fun h => absurd ((nI_leI (a := k) (b := 2) (by omega) (by decide)).mp h) (by omega)) (fun h => ?_)
  have et : cm4 I C (nI k) (nI pa) (o2i ob) (o2i oc) 0 0 = tr3 (cm4 I C (nI k) (nI pa) (o2i ob) (o2i oc) 0 0) C 0 0 0 := by
    unfold tr3
    have a42 : cm4 I C (nI k) (nI pa) (o2i ob) (o2i oc) 0 0 42 C = 0 := by rw [cm4_42, up2_s]
    have a43 : cm4 I C (nI k) (nI pa) (o2i ob) (o2i oc) 0 0 43 C = 0 := by rw [cm4_43, up2_s]
    have a44 : cm4 I C (nI k) (nI pa) (o2i ob) (o2i oc) 0 0 44 C = 0 := by rw [cm4_44, up2_s]
    generalize cm4 I C (nI k) (nI pa) (o2i ob) (o2i oc) 0 0 = X at *
    funext o m
    by_cases hm : m = C
    · subst hm
      by_cases h44 : o = 44
      · subst h44; rw [up2_s, a44]
      · rw [up2_o h44]
        by_cases h43 : o = 43
        · subst h43; rw [up2_s, a43]
        · rw [up2_o h43]
          by_cases h42 : o = 42
          · subst h42; rw [up2_s, a42]
          · rw [up2_o h42]
    · by_cases h44 : o = 44
      · subst h44; rw [up2_k hm, up2_o (by decide), up2_o (by decide)]
      · rw [up2_o h44]
        by_cases h43 : o = 43
        · subst h43; rw [up2_k hm, up2_o (by decide)]
        · rw [up2_o h43]
          by_cases h42 : o = 42
          · subst h42; rw [up2_k hm]
          · rw [up2_o h42]
  refine en_I et ?_
  have c42 : ∀ p, p ≠ C → cm4 I C (nI k) (nI pa) (o2i ob) (o2i oc) 0 0 42 p = I 42 p := fun p hp => by rw [cm4_42, up2_k hp]
  have c43 : ∀ p, p ≠ C → cm4 I C (nI k) (nI pa) (o2i ob) (o2i oc) 0 0 43 p = I 43 p := fun p hp => by rw [cm4_43, up2_k hp]
  have c44 : ∀ p, p ≠ C → cm4 I C (nI k) (nI pa) (o2i ob) (o2i oc) 0 0 44 p = I 44 p := fun p hp => by rw [cm4_44, up2_k hp]
  have hoa : ∀ p, some pa = some p → p < C := fun p hp => by cases hp; exact hpa
  have n : ∀ {o : Option Nat}, (∀ p, o = some p → p < C) → ∀ p, o = some p → p ≠ C := fun ho p hp => by have := ho p hp; omega
  refine blk s_X7_comes_159 (nm ?_)
  refine c_X7_comes_163 (takes_on h40 (some pa) hoa) rfl (by decide) rfl (Nat.le_of_ble_eq_true rfl) (by decide) rfl (rx ?_)
  refine blk s_X7_comes_166 (nm ?_)
  refine c_X7_comes_170 (takes_on h40 ob hob) rfl (by decide) rfl (Nat.le_of_ble_eq_true rfl) (by decide) rfl (rx ?_)
  refine blk s_X7_comes_173 (nm ?_)
  refine c_X7_comes_178 (takes_on h40 oc hoc) rfl (by decide) rfl (Nat.le_of_ble_eq_true rfl) (by decide) rfl (rx ?_)
  rw [orO_cg (o := some pa) (f' := I 42) (fun p hp => c42 p (n hoa p hp)), orO_cg (o := ob) (f' := I 42) (fun p hp => c42 p (n hob p hp)), orO_cg (o := oc) (f' := I 42) (fun p hp => c42 p (n hoc p hp))]
  rw [orO_cg (o := some pa) (f' := I 43) (fun p hp => c43 p (n hoa p hp)), orO_cg (o := ob) (f' := I 43) (fun p hp => c43 p (n hob p hp)), orO_cg (o := oc) (f' := I 43) (fun p hp => c43 p (n hoc p hp))]
  rw [mxO_cg (o := some pa) (f' := I 44) (fun p hp => c44 p (n hoa p hp)), mxO_cg (o := ob) (f' := I 44) (fun p hp => c44 p (n hob p hp)), mxO_cg (o := oc) (f' := I 44) (fun p hp => c44 p (n hoc p hp))]
  refine comes_end (by rw [tr3_o (by decide) (by decide) (by decide), cm4_o (by decide) (by decide) (by decide) (by decide) (by decide), hC]) h40 (fun s r => evB k 0 (vx s r) (vy s r) (vz s r) s r) ?_
  intro s r I3 hs hr e40 e41 e46
  have g46 : ∀ m, m < 64 * C → I3 46 m = I 46 m := fun m hm => by rw [e46 m hm, tr3_o (by decide) (by decide) (by decide), cm4_o (by decide) (by decide) (by decide) (by decide) (by decide)]
  have g41 : I3 41 = up2 (up2 (up2 I 41 (3 * C) (nI pa)) 41 (3 * C + 1) (o2i ob)) 41 (3 * C + 2) (o2i oc) 41 := by rw [e41, tr3_o (by decide) (by decide) (by decide), cm4_41]
  have hbC : 3 < k → pb < C := fun h => hob pb (hb h)
  have hcC : k = 7 → pc < C := fun h => hoc pc (hc h)
  refine ct_X7_evalGate (pa := pa) (pb := pb) (pc := pc) h40 hk hk7 hs hr ?_ ?_ (by omega) (fun h => ⟨?_, ?_⟩) (fun h => ⟨?_, ?_⟩) ?_ (fun h => ?_) (fun h => ?_) 0
  · rw [e40, tr3_o (by decide) (by decide) (by decide), cm4_40, up2_s]
  · rw [g41, p41_0]
  · rw [g41, p41_1, hb h]; rfl
  · have := hbC h; omega
  · rw [g41, p41_2, hc h]; rfl
  · have := hcC h; omega
  · rw [g46 _ (by omega)]; exact hx s r hs hr
  · have := hbC h; rw [g46 _ (by omega)]; exact hy h s r hs hr
  · have := hcC h; rw [g46 _ (by omega)]; exact hz h s r hs hr
end MOD14
