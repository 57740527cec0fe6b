/-! THE REFERENCE: the cone -/
def sbI (x y : Int32) : Prop := ∀ k, k < 32 → mb x k = true → mb y k = true
theorem sb_refl (x : Int32) : sbI x x := fun _ _ h => h
theorem sb_tr {x y z : Int32} (h : sbI x y) (h2 : sbI y z) : sbI x z := fun k hk h3 => h2 k hk (h k hk h3)
theorem sb_l (x y : Int32) : sbI x (x ||| y) := fun k _ h => by rw [mb_or, h, Bool.true_or]
theorem sb_r (x y : Int32) : sbI y (x ||| y) := fun k _ h => by rw [mb_or, h, Bool.or_true]
theorem sb_or {x y z : Int32} (h : sbI x z) (h2 : sbI y z) : sbI (x ||| y) z := fun k hk h3 => by
  rw [mb_or] at h3
  cases hx : mb x k
  · rw [hx, Bool.false_or] at h3; exact h2 k hk h3
  · exact h k hk hx
theorem sb_eq {x y : Int32} (h : sbI x y) (h2 : sbI y x) : x = y := mb_ext fun k hk => beq_of_iff ⟨h k hk, h2 k hk⟩
theorem sb_0 (x : Int32) : sbI 0 x := fun k _ h => by rw [mb_0] at h; cases h
section CONE
variable {f gi : Nat → Option Int32} {c : Int32}
theorem cnR_s1 (f : Nat → Option Int32) (c : Int32) (v : Nat) : sbI (cnR f c v) (cnR f c (v + 1)) := by
  show sbI _ (match mb (cnR f c v) v, f v with | true, some x => cnR f c v ||| x | _, _ => cnR f c v)
  cases mb (cnR f c v) v <;> cases f v <;> first | exact sb_refl _ | exact sb_l _ _
theorem cnR_mono (f : Nat → Option Int32) (c : Int32) {v : Nat} : ∀ {w : Nat}, v ≤ w → sbI (cnR f c v) (cnR f c w)
  | 0, h => by have : v = 0 := by omega
               subst this; exact sb_refl _
  | w + 1, h => by
    by_cases e : v = w + 1
    · subst e; exact sb_refl _
    · exact sb_tr (cnR_mono f c (w := w) (by omega)) (cnR_s1 f c w)
theorem inF_mem {g : Nat → Option Int32} {c : Int32} {v : Nat} {x : Int32} (h1 : mb c v = true) (h2 : g v = some x) : ∀ {w : Nat}, v < w → sbI x (inF g c w)
  | 0, h => by omega
  | w + 1, h => by
    show sbI x (match mb c w, g w with | true, some x => inF g c w ||| x | _, _ => inF g c w)
    by_cases e : v = w
    · subst e; rw [h1, h2]; exact sb_r _ _
    · have ih := inF_mem h1 h2 (w := w) (by omega)
      cases mb c w <;> cases g w <;> first | exact ih | exact sb_tr ih (sb_l _ _)
theorem inF_cg {g : Nat → Option Int32} {c c' : Int32} : ∀ {w : Nat}, (∀ k, k < w → mb c k = mb c' k) → inF g c w = inF g c' w
  | 0, _ => rfl
  | w + 1, h => by
    show (match mb c w, g w with | true, some x => inF g c w ||| x | _, _ => inF g c w) = (match mb c' w, g w with | true, some x => inF g c' w ||| x | _, _ => inF g c' w)
    rw [inF_cg (w := w) fun k hk => h k (by omega), h w (by omega)]
theorem cnR_same (h : ∀ k, k < 4 → mb (cnR f c 4) k = mb c k) : ∀ v, v ≤ 4 → cnR f c v = c ||| inF f c v
  | 0, _ => (i32_or0 c).symm
  | v + 1, hv => by
    have ih := cnR_same h v (by omega)
    have hb : mb (cnR f c v) v = mb c v := by
      refine beq_of_iff ⟨fun h1 => ?_, fun h1 => cnR_mono f c (v := 0) (Nat.zero_le v) v (by omega) h1⟩
      rw [← h v (by omega)]
      exact cnR_mono f c (show v ≤ 4 by omega) v (by omega) h1
    show (match mb (cnR f c v) v, f v with | true, some x => cnR f c v ||| x | _, _ => cnR f c v) = c ||| (match mb c v, f v with | true, some x => inF f c v ||| x | _, _ => inF f c v)
    rw [hb, ih]
    cases mb c v <;> cases f v <;> first | rfl | exact i32_oras _ _ _
theorem cnR_stable (h : ∀ k, k < 4 → mb (cnR f c 4) k = mb c k) : ∀ v, v ≤ 4 → cnR f (cnR f c 4) v = cnR f c 4
  | 0, _ => rfl
  | v + 1, hv => by
    have ih := cnR_stable h v (by omega)
    show (match mb (cnR f (cnR f c 4) v) v, f v with | true, some x => cnR f (cnR f c 4) v ||| x | _, _ => cnR f (cnR f c 4) v) = _
    rw [ih, h v (by omega)]
    cases hb : mb c v with
    | false => cases f v <;> rfl
    | true =>
      cases hf : f v with
      | none => rfl
      | some x =>
        show cnR f c 4 ||| x = cnR f c 4
        refine sb_eq (sb_or (sb_refl _) ?_) (sb_l _ _)
        rw [cnR_same h 4 (by omega)]
        exact sb_tr (inF_mem hb hf (by omega)) (sb_r _ _)
theorem cnN_mono {p q : Nat → Bool} : ∀ {n : Nat}, (∀ k, k < n → p k = true → q k = true) → cnN p n ≤ cnN q n ∧ (cnN q n ≤ cnN p n → ∀ k, k < n → q k = p k)
  | 0, _ => ⟨Nat.le_refl _, fun _ k hk => absurd hk (by omega)⟩
  | n + 1, h => by
    obtain ⟨h1, h2⟩ := cnN_mono (p := p) (q := q) (n := n) fun k hk => h k (by omega)
    have hn := h n (by omega)
    have ep : cnN p (n + 1) = cnN p n + (if p n = true then 1 else 0) := rfl
    have eq : cnN q (n + 1) = cnN q n + (if q n = true then 1 else 0) := rfl
    rw [ep, eq]
    cases hp : p n <;> cases hq : q n
    · exact ⟨by simpa using h1, fun h3 k hk => by
        by_cases e : k = n
        · subst e; rw [hp, hq]
        · exact h2 (by simpa using h3) k (by omega)⟩
    · exact ⟨by simp; omega, fun h3 => by simp at h3; omega⟩
    · rw [hn hp] at hq; cases hq
    · exact ⟨by simpa using h1, fun h3 k hk => by
        by_cases e : k = n
        · subst e; rw [hp, hq]
        · exact h2 (by simpa using h3) k (by omega)⟩
theorem cnR_none (h : ∀ k, k < 4 → mb c k = false) : ∀ v, v ≤ 4 → cnR f c v = c
  | 0, _ => rfl
  | v + 1, hv => by
    show (match mb (cnR f c v) v, f v with | true, some x => cnR f c v ||| x | _, _ => cnR f c v) = c
    rw [cnR_none h v (by omega), h v (by omega)]
theorem cnN_0 {p : Nat → Bool} : ∀ {n : Nat}, cnN p n = 0 → ∀ k, k < n → p k = false
  | 0, _, k, hk => by omega
  | n + 1, h, k, hk => by
    have e : cnN p (n + 1) = cnN p n + (if p n = true then 1 else 0) := rfl
    rw [e] at h
    by_cases hkn : k = n
    · subst hkn
      cases hp : p k
      · rfl
      · rw [hp] at h; simp at h
    · exact cnN_0 (n := n) (by omega) k (by omega)
theorem cone_5 (f : Nat → Option Int32) (c0 : Int32) : (∀ v, v ≤ 4 → cnR f (cnI f c0 4) v = cnI f c0 4) := by
  have step : ∀ i, (∀ k, k < 4 → mb (cnI f c0 (i + 1)) k = mb (cnI f c0 i) k) ∨ cnN (mb (cnI f c0 i)) 4 < cnN (mb (cnI f c0 (i + 1))) 4 := by
    intro i
    have hm := cnN_mono (p := mb (cnI f c0 i)) (q := mb (cnI f c0 (i + 1))) (n := 4) fun k hk h1 => cnR_mono f (cnI f c0 i) (v := 0) (w := 4) (by omega) k (by omega) h1
    by_cases hle : cnN (mb (cnI f c0 (i + 1))) 4 ≤ cnN (mb (cnI f c0 i)) 4
    · exact Or.inl (hm.2 hle)
    · exact Or.inr (by omega)
  have st : ∀ i, (∀ k, k < 4 → mb (cnI f c0 (i + 1)) k = mb (cnI f c0 i) k) → ∀ j, ∀ v, v ≤ 4 → cnR f (cnI f c0 (i + 1 + j)) v = cnI f c0 (i + 1) ∧ cnI f c0 (i + 1 + j) = cnI f c0 (i + 1) := by
    intro i h j
    induction j with
    | zero => exact fun v hv => ⟨cnR_stable h v hv, rfl⟩
    | succ j ih =>
      intro v hv
      have e : cnI f c0 (i + 1 + (j + 1)) = cnI f c0 (i + 1) := (ih 4 (by omega)).1
      rw [e]
      exact ⟨cnR_stable h v hv, rfl⟩
  have fin : ∀ i, i < 4 → (∀ k, k < 4 → mb (cnI f c0 (i + 1)) k = mb (cnI f c0 i) k) → ∀ v, v ≤ 4 → cnR f (cnI f c0 4) v = cnI f c0 4 := by
    intro i hi h v hv
    have := st i h (3 - i) v hv
    rw [show i + 1 + (3 - i) = 4 by omega] at this
    rw [this.1, this.2]
  rcases step 0 with h | h0
  · exact fin 0 (by omega) h
  · rcases step 1 with h | h1
    · exact fin 1 (by omega) h
    · rcases step 2 with h | h2
      · exact fin 2 (by omega) h
      · rcases step 3 with h | h3
        · exact fin 3 (by omega) h
        · exfalso
          have h4 := cnN_le (mb (cnI f c0 (3 + 1))) 4
          change _ < cnN (mb (cnI f c0 1)) 4 at h0
          change _ < cnN (mb (cnI f c0 2)) 4 at h1
          change _ < cnN (mb (cnI f c0 3)) 4 at h2
          change _ < cnN (mb (cnI f c0 4)) 4 at h3
          change cnN (mb (cnI f c0 4)) 4 ≤ 4 at h4
          have hz : cnN (mb (cnI f c0 0)) 4 = 0 := by omega
          have := cnR_none (f := f) (cnN_0 hz) 4 (by omega)
          have e1 : cnI f c0 1 = cnI f c0 0 := this
          rw [e1] at h0
          omega
def rcI (f gi : Nat → Option Int32) (c acc : Int32) : Nat → Int32
  | 0 => acc
  | v + 1 => match mb (cnR f c v) v, gi v with
    | true, some y => rcI f gi c acc v ||| y
    | _, _ => rcI f gi c acc v
def rcA (f gi : Nat → Option Int32) (c0 : Int32) : Nat → Int32
  | 0 => 0
  | k + 1 => rcI f gi (cnI f c0 k) (rcA f gi c0 k) 4
theorem cnI_mono (f : Nat → Option Int32) (c0 : Int32) {i : Nat} : ∀ {j : Nat}, i ≤ j → sbI (cnI f c0 i) (cnI f c0 j)
  | 0, h => by have : i = 0 := by omega
               subst this; exact sb_refl _
  | j + 1, h => by
    by_cases e : i = j + 1
    · subst e; exact sb_refl _
    · exact sb_tr (cnI_mono f c0 (j := j) (by omega)) (cnR_mono f (cnI f c0 j) (v := 0) (w := 4) (by omega))
theorem rcI_sb {f gi : Nat → Option Int32} {c acc fx : Int32} (hc : sbI (cnR f c 4) fx) (ha : sbI acc (inF gi fx 4)) : ∀ v, v ≤ 4 → sbI (rcI f gi c acc v) (inF gi fx 4)
  | 0, _ => ha
  | v + 1, hv => by
    have ih := rcI_sb hc ha v (by omega)
    show sbI (match mb (cnR f c v) v, gi v with | true, some y => rcI f gi c acc v ||| y | _, _ => rcI f gi c acc v) _
    cases hb : mb (cnR f c v) v with
    | false => cases gi v <;> exact ih
    | true =>
      cases hg : gi v with
      | none => exact ih
      | some y => exact sb_or ih (inF_mem (hc v (by omega) (cnR_mono f c (show v ≤ 4 by omega) v (by omega) hb)) hg (by omega))
theorem rcI_st {f gi : Nat → Option Int32} {c acc : Int32} (h : ∀ v, v ≤ 4 → cnR f c v = c) : ∀ v, v ≤ 4 → rcI f gi c acc v = acc ||| inF gi c v
  | 0, _ => (i32_or0 acc).symm
  | v + 1, hv => by
    show (match mb (cnR f c v) v, gi v with | true, some y => rcI f gi c acc v ||| y | _, _ => rcI f gi c acc v) = acc ||| (match mb c v, gi v with | true, some x => inF gi c v ||| x | _, _ => inF gi c v)
    rw [h v (by omega), rcI_st h v (by omega)]
    cases mb c v <;> cases gi v <;> first | rfl | exact i32_oras _ _ _
theorem rcA_5 (f gi : Nat → Option Int32) (c0 : Int32) : rcA f gi c0 5 = inF gi (cnI f c0 4) 4 := by
  have h5 := cone_5 f c0
  have e5 : cnI f c0 5 = cnI f c0 4 := h5 4 (by omega)
  have hsb : ∀ k, k ≤ 4 → sbI (rcA f gi c0 k) (inF gi (cnI f c0 4) 4) := by
    intro k
    induction k with
    | zero => exact fun _ => sb_0 _
    | succ k ih =>
      intro hk
      refine rcI_sb ?_ (ih (by omega)) 4 (by omega)
      exact cnI_mono f c0 (i := k + 1) (j := 4) hk
  show rcI f gi (cnI f c0 4) (rcA f gi c0 4) 4 = _
  rw [rcI_st h5 4 (by omega)]
  exact sb_eq (sb_or (hsb 4 (by omega)) (sb_refl _)) (sb_r _ _)
end CONE
section MOD11
variable {I : IT} {J : JT} {g : JT} {C : Nat} {nx : Nat → Option Nat} {os oc : Option Nat}
theorem ct_X7_cone (hB : RB I g C nx os oc) {wh : Nat} (hwh : wh < 2) {f gi : Nat → Option Int32} (hf : ∀ v, f v = (nx v).map (I 42)) (hg : ∀ v, gi v = (nx v).map (I 43)) {c0 : Int32} (hc0 : c0 = (oc.map (I 42)).getD 0) :
    CN 62 RF mX7_cone 1 [.ref 39, .int (nI wh)] I J (RX (some (.int (if wh = 0 then cnI f c0 4 else inF gi (cnI f c0 4) 4))) I J) := by
  have h40 := hB.1.2.1
  have e5 : cnI f c0 5 = cnI f c0 4 := cone_5 f c0 4 (by omega)
  rw [← rcA_5 f gi c0, ← e5]
  generalize hQ : RX (some (.int (if wh = 0 then cnI f c0 5 else rcA f gi c0 5))) I J = Q
  have hQ' : Q (some (.int (if wh = 0 then cnI f c0 5 else rcA f gi c0 5))) I J := by rw [← hQ]; exact rxq
  clear hQ
  refine cn_of (by decide) rfl (Nat.le_of_ble_eq_true rfl) ?_
  refine blk s_X7_cone_0 (nm ?_)
  refine c_X7_cone_3 (ct_X7_within _ _ _) rfl (by decide) rfl (Nat.le_of_ble_eq_true rfl) (rx ?_)
  rw [show (1 : Int32) = nI 1 from rfl, wiB_N (by omega) (by decide), decide_eq_true (by omega)]
  refine b_X7_cone_6 (fun h => ?_) (fun h => absurd h (by decide))
  refine blk s_X7_cone_12 (nm ?_)
  have main : EN 62 RF mX7_cone 1 34 [(0, .ref 39), (1, .int (nI wh))] [.int c0] I J Q := by
    refine blk s_X7_cone_34 (nm ?_)
    refine dn (P := fun k => EN 62 RF mX7_cone 1 40 [(0, .ref 39), (1, .int (nI wh)), (2, .int (cnI f c0 k)), (3, .int (rcA f gi c0 k)), (4, .int (nI k))] [] I J Q) (N := 5) (a := 0) ?_ ?_ (Nat.zero_le _)
    · refine blk s_X7_cone_40 (nm ?_)
      refine b_X7_cone_43 (fun h => ?_) (fun h => absurd (show (4 : Int32) < nI 5 by decide) h)
      refine blk s_X7_cone_144 (nm ?_)
      refine b_X7_cone_145 (fun h => ?_) (fun h => ?_)
      · refine blk s_X7_cone_152 (nm ?_)
        rw [if_neg (fun e => h (by rw [e]; rfl))] at hQ'
        exact r_X7_cone_153 hQ'
      · refine blk s_X7_cone_148 (nm ?_)
        rw [if_pos ((nI_eq (a := wh) (b := 0) (by omega) (by decide)).mp h)] at hQ'
        exact r_X7_cone_153 hQ'
    · intro k hk ih
      refine blk s_X7_cone_40 (nm ?_)
      refine b_X7_cone_43 (fun h => absurd ((nI_ltI (a := 4) (by decide) (by omega)).mp h) (by omega)) (fun h => ?_)
      refine blk s_X7_cone_46 (nm ?_)
      generalize hce : cnI f c0 k = c at *
      generalize hae : rcA f gi c0 k = acc at *
      refine dn (P := fun v => EN 62 RF mX7_cone 1 49 [(0, .ref 39), (1, .int (nI wh)), (2, .int (cnR f c v)), (3, .int (rcI f gi c acc v)), (4, .int (nI k)), (5, .int (nI v))] [] I J Q) (N := 4) (a := 0) ?_ ?_ (Nat.zero_le _)
      · refine blk s_X7_cone_49 (nm ?_)
        refine b_X7_cone_52 (fun h => ?_) (fun h => absurd (Int32.le_refl _) h)
        refine blk s_X7_cone_138 (nm ?_)
        refine wkt 5 (en_L ?_ ih)
        rw [nI_s]
        show _ = [(0, Value.ref 39), (1, .int (nI wh)), (2, .int (cnR f (cnI f c0 k) 4)), (3, .int (rcI f gi (cnI f c0 k) (rcA f gi c0 k) 4)), (4, .int (nI (k + 1)))]
        rw [hce, hae]; rfl
      · intro v hv ih2
        refine blk s_X7_cone_49 (nm ?_)
        refine b_X7_cone_52 (fun h => absurd h (nI_ge hv (by decide))) (fun h => ?_)
        refine blk s_X7_cone_55 (nm ?_)
        refine c_X7_cone_58 (ct_X7_isIn _ (by omega)) rfl (by decide) rfl (Nat.le_of_ble_eq_true rfl) (rx ?_)
        refine blk s_X7_cone_61 (nm ?_)
        have eR : cnR f c (v + 1) = (match mb (cnR f c v) v, f v with | true, some x => cnR f c v ||| x | _, _ => cnR f c v) := rfl
        have eI : rcI f gi c acc (v + 1) = (match mb (cnR f c v) v, gi v with | true, some y => rcI f gi c acc v ||| y | _, _ => rcI f gi c acc v) := rfl
        have no : cnR f c (v + 1) = cnR f c v → rcI f gi c acc (v + 1) = rcI f gi c acc v → EN 62 RF mX7_cone 1 81 [(0, .ref 39), (1, .int (nI wh)), (2, .int (cnR f c v)), (3, .int (rcI f gi c acc v)), (4, .int (nI k)), (5, .int (nI v))] [] I J Q := by
          intro h1 h2
          refine blk s_X7_cone_81 (nm ?_)
          refine blk s_X7_cone_82 (nm ?_)
          refine b_X7_cone_87 (fun h => ?_) (fun h => absurd rfl h)
          refine blk s_X7_cone_105 (nm ?_)
          refine blk s_X7_cone_106 (nm ?_)
          refine b_X7_cone_111 (fun h => ?_) (fun h => absurd rfl h)
          refine blk s_X7_cone_129 (nm ?_)
          refine blk s_X7_cone_130 (nm ?_)
          refine wkt 6 (en_L ?_ ih2)
          rw [nI_s, h1, h2, i32_or0, i32_or0]; rfl
        cases hb : mb (cnR f c v) v with
        | false =>
          refine b_X7_cone_62 (fun h => ?_) (fun h => absurd h (by decide))
          exact no (by rw [eR, hb]) (by rw [eI, hb])
        | true =>
          refine b_X7_cone_62 (fun h => absurd rfl h) (fun h => ?_)
          refine blk s_X7_cone_65 (And.intro (ib hv) (nm ?_))
          rw [cl v, hB.2.2.2.1 v hv]
          cases hn : nx v with
          | none =>
            refine b_X7_cone_74 (fun h => ?_) (fun h => absurd rfl h)
            exact no (by rw [eR, hb, hf v, hn]; rfl) (by rw [eI, hb, hg v, hn]; rfl)
          | some t =>
            have ht := hB.2.2.2.2 v t hv hn
            have et : I 47 v = nI t := by rw [hB.2.2.2.1 v hv, hn]; rfl
            refine b_X7_cone_74 (fun h => absurd h (o2i_ne (by omega))) (fun h => ?_)
            refine blk s_X7_cone_77 (nm ?_)
            refine blk s_X7_cone_82 (nm ?_)
            refine b_X7_cone_87 (fun h => absurd h (by decide)) (fun h => ?_)
            refine blk s_X7_cone_90 (And.intro (ib hv) (And.intro ?_ (nm ?_)))
            · show vp_in (I 47 (nI v).toNatClampNeg) 40
              rw [cl v, et]; exact ib (by omega)
            · rw [cl v, et, cl t]
              refine blk s_X7_cone_106 (nm ?_)
              refine b_X7_cone_111 (fun h => absurd h (by decide)) (fun h => ?_)
              refine blk s_X7_cone_114 (And.intro (ib hv) (And.intro ?_ (nm ?_)))
              · show vp_in (I 47 (nI v).toNatClampNeg) 40
                rw [cl v, et]; exact ib (by omega)
              · rw [cl v, et, cl t]
                refine blk s_X7_cone_130 (nm ?_)
                refine wkt 6 (en_L ?_ ih2)
                rw [nI_s, eR, eI, hb, hf v, hg v, hn]; rfl
  rw [hB.2.2.1.1]
  cases ho : oc with
  | none =>
    refine b_X7_cone_18 (fun h => absurd rfl h) (fun h => ?_)
    refine blk s_X7_cone_21 (nm ?_)
    refine en_S ?_ main
    rw [hc0, ho]; rfl
  | some t =>
    have ht := hB.2.2.1.2 t ho
    have et : I 39 10 = nI t := by rw [hB.2.2.1.1, ho]; rfl
    refine b_X7_cone_18 (fun h => ?_) (fun h => absurd h (o2i_ne (by omega)))
    refine blk s_X7_cone_25 (And.intro ?_ (nm ?_))
    · show vp_in (I 39 10) 40
      rw [et]; exact ib (by omega)
    · rw [et, cl t]
      refine en_S ?_ main
      rw [hc0, ho]; rfl
end MOD11
