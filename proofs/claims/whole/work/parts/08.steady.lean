/-! walks in which nothing is made: the number of things and their references stay -/
abbrev IQ : Type := Option Value → IT → JT → Prop
def QN (n : Nat) (R : RT) (Q : IQ) : QT := fun r n' R' I' J' => n' = n ∧ R' = R ∧ Q r I' J'
abbrev EN (n : Nat) (R : RT) (M : MI) (d pc : Nat) (L : LT) (st : List Value) (I : IT) (J : JT) (Q : IQ) : Prop := Ends M d n pc L st n R I J (QN n R Q)
def CN (n : Nat) (R : RT) (M : MI) (d : Nat) (av : List Value) (I : IT) (J : JT) (Q : IQ) : Prop := Ct M d av n R I J n (fun r R' I' J' => R' = R ∧ Q r I' J')
theorem cn_of {n : Nat} {R : RT} {M : MI} {d : Nat} {av : List Value} {I : IT} {J : JT} {Q : IQ} (hy : plainName (MI.y M).cls = true) (ho : MI.own M = (MI.y M).cls) (hl : (lg_sl av).length ≤ MI.maxL M) (k : EN n R M d 0 (lv_args 0 av) [] I J Q) : CN n R M d av I J Q := ct_of hy ho hl k
def RtI (M : MI) (pc : Nat) : Prop := ∀ {n : Nat} {R : RT} {d : Nat} {L : LT} {v : Int32} {I : IT} {J : JT} {Q : IQ}, Q (some (.int v)) I J → EN n R M d pc L [.int v] I J Q
def RtZ (M : MI) (pc : Nat) : Prop := ∀ {n : Nat} {R : RT} {d : Nat} {L : LT} {v : Int32} {I : IT} {J : JT} {Q : IQ}, (v = 0 ∨ v = 1) → Q (some (.int v)) I J → EN n R M d pc L [.int v] I J Q
def RtL (M : MI) (pc : Nat) : Prop := ∀ {n : Nat} {R : RT} {d : Nat} {L : LT} {v : Int64} {I : IT} {J : JT} {Q : IQ}, Q (some (.long v)) I J → EN n R M d pc L [.long v] I J Q
def RtV (M : MI) (pc : Nat) : Prop := ∀ {n : Nat} {R : RT} {d : Nat} {L : LT} {I : IT} {J : JT} {Q : IQ}, Q none I J → EN n R M d pc L [] I J Q
theorem rt_I {M : MI} {pc : Nat} (hd : decode (MI.bytes M) pc = .ok (.ireturn, 1)) (hr : MI.ret M = some .int) : RtI M pc := fun hq => e_ret (r := some (.int _)) rfl ⟨hd, .int, hr, rfl⟩ ⟨rfl, rfl, hq⟩
theorem rt_Z {M : MI} {pc : Nat} (hd : decode (MI.bytes M) pc = .ok (.ireturn, 1)) (hr : MI.ret M = some .boolean) : RtZ M pc := fun hv hq => e_ret (r := some (.int _)) rfl ⟨hd, .boolean, hr, by rcases hv with rfl | rfl <;> rfl⟩ ⟨rfl, rfl, hq⟩
theorem rt_L {M : MI} {pc : Nat} (hd : decode (MI.bytes M) pc = .ok (.lreturn, 1)) (hr : MI.ret M = some .long) : RtL M pc := fun hq => e_ret (r := some (.long _)) rfl ⟨hd, hr⟩ ⟨rfl, rfl, hq⟩
theorem rt_V {M : MI} {pc : Nat} (hd : decode (MI.bytes M) pc = .ok (.return_, 1)) (hr : MI.ret M = none) : RtV M pc := fun hq => e_ret (r := none) rfl ⟨hd, hr⟩ ⟨rfl, rfl, hq⟩
def CallV (M : MI) (pc : Nat) (M' : MI) (ci nA : Nat) : Prop := ∀ {n : Nat} {R : RT} {d d' : Nat} {L : LT} {st rest av' : List Value} {I : IT} {J : JT} {Q Q' : IQ} {o : Nat}, CN n R M' d' (.ref o :: av') I J Q' → st = (Value.ref o :: av').reverse ++ rest → d' < d → av'.length + 1 = nA → (rest.map fun v => v.category).sum ≤ 8 → o < n → (sh o).1 = ci →
  (∀ (r : Option Value) (I' : IT) (J' : JT), Q' r I' J' → EN n R M d (pc + 3) L (r.toList ++ rest) I' J' Q) → EN n R M d pc L st I J Q
def CallS (M : MI) (pc : Nat) (M' : MI) (nA : Nat) : Prop := ∀ {n : Nat} {R : RT} {d d' : Nat} {L : LT} {st rest av : List Value} {I : IT} {J : JT} {Q Q' : IQ}, CN n R M' d' av I J Q' → st = av.reverse ++ rest → d' < d → av.length = nA → (rest.map fun v => v.category).sum ≤ 8 →
  (∀ (r : Option Value) (I' : IT) (J' : JT), Q' r I' J' → EN n R M d (pc + 3) L (r.toList ++ rest) I' J' Q) → EN n R M d pc L st I J Q
theorem kallV {M M' : MI} {pc ci nA : Nat} (hs : Site M pc M' true nA) (hml : MI.maxL M' ≤ 60) (hci : ci < 8) (hcl : clsNo M' ci) : CallV M pc M' ci nA := by
  intro n R d d' L st rest av' I J Q Q' o hc hst hd hn hr8 ho hsh k
  exact e_call hs hc hst hd (Nat.le_refl n) hml hn hr8 (fun _ => ⟨ci, o, av', rfl, ho, hsh, hci, hcl⟩) (fun r R' I' J' h => by
    obtain ⟨rfl, h⟩ := h
    exact k r I' J' h)
theorem kallS {M M' : MI} {pc nA : Nat} (hs : Site M pc M' false nA) (hml : MI.maxL M' ≤ 60) : CallS M pc M' nA := by
  intro n R d d' L st rest av I J Q Q' hc hst hd hn hr8 k
  exact e_call hs hc hst hd (Nat.le_refl n) hml hn hr8 (fun h => by cases h) (fun r R' I' J' h => by
    obtain ⟨rfl, h⟩ := h
    exact k r I' J' h)
theorem cn_mono {n : Nat} {R : RT} {M : MI} {d : Nat} {av : List Value} {I : IT} {J : JT} {Q Q' : IQ} (h : CN n R M d av I J Q) (hq : ∀ r I' J', Q r I' J' → Q' r I' J') : CN n R M d av I J Q' := by
  intro l D cs ad sz p e ha hf hk s m args below h1 h2 h3 h4
  obtain ⟨nn, o, b1, b2, b3, ⟨⟨⟨r, R', I', J', ad', c1, c2, c3⟩, c4⟩, b4⟩⟩ := h l D cs ad sz p e ha hf hk s m args below h1 h2 h3 h4
  exact ⟨nn, o, b1, b2, b3, ⟨⟨⟨r, R', I', J', ad', c1, ⟨c2.1, hq _ _ _ c2.2⟩, c3⟩, c4⟩, b4⟩⟩
/-- the references, once all is made -/
def RFL : List (List (Option Nat)) := [[some 1, some 11, some 19, some 22, some 26, some 29, some 38], [some 2, some 3, some 4, some 5, some 6, some 7, some 8, some 9, some 10], [], [], [], [], [], [], [], [], [], [some 1, none, none, some 12, none, none, some 13, some 14, none, some 15, none, none, some 16, some 17, some 18], [], [], [], [], [], [], [], [some 11, some 20, some 21], [], [], [some 11, some 19, some 23, some 24, some 25], [], [], [], [some 11, some 27, some 28], [], [], [some 30, some 32, some 34, some 36], [some 31], [], [some 33], [], [some 35], [], [some 37], [], [], [none, none, some 40, some 41, some 42, some 43, some 44, some 45, some 46, none, none, some 47, some 48, none, some 49, some 50, none, some 51, some 52, some 53, some 54, some 55, none, none, some 56, some 57, some 58, some 59, some 60, some 61]]
def RF : RT := fun o k => nth none (nth [] RFL o) k
theorem inGs (ws : List Cond) (ps : List Nat) (h : ws = ps.filterMap (fun i => lw_tbl[i]?)) (hg : ws.all goodWord = true) : ∀ w ∈ ws, w ∈ wsG := by
  intro w hw
  have h1 := List.all_eq_true.mp hg w hw
  rw [h] at hw
  obtain ⟨i, -, hi⟩ := List.mem_filterMap.mp hw
  exact inG i hi h1
def OIn (M : MI) (pc : Nat) : Prop := ∀ {d cap : Nat} {L : LT} {st : List Value} {o n : Nat} {R : RT} {I : IT} {J : JT} {Q : QT}, 1 ≤ d → (st.map fun v => v.category).sum ≤ 8 → Ends M d cap (pc + 3) L st n R I J Q → Ends M d cap pc L (.ref o :: st) n R I J Q
def NewO (M : MI) (pc ci N : Nat) : Prop := ∀ {d cap : Nat} {L : LT} {st : List Value} {n : Nat} {R : RT} {I : IT} {J : JT} {Q : QT}, sh n = (ci, N) → n < cap → st.all (okV n (n + 1)) = true → L.all (fun q => okV n (n + 1) q.2) = true → Ends M d cap (pc + 3) L (.ref n :: st) (n + 1) (rs2 R n none) (rs2 I n 0) (rs2 J n 0) Q → Ends M d cap pc L st n R I J Q
def NewA (M : MI) (pc ln kd : Nat) : Prop := ∀ {d cap : Nat} {L : LT} {st : List Value} {n len : Nat} {x : Int32} {R : RT} {I : IT} {J : JT} {Q : QT}, ¬ x < 0 → x.toNatClampNeg = len → len ≤ 10000 → sh n = (kd, len) → n < cap → st.all (okV n (n + 1)) = true → L.all (fun q => okV n (n + 1) q.2) = true → Ends M d cap (pc + ln) L (.ref n :: st) (n + 1) (rs2 R n none) (rs2 I n 0) (rs2 J n 0) Q → Ends M d cap pc L (.int x :: st) n R I J Q
theorem i32_of {x : Int32} {k : Int} {y : Int32} (h : x.toInt = k) (hy : y.toInt = k) : x = y := Int32.toInt_inj.mp (h.trans hy.symm)
/-- Math.max -/
def CallM (M : MI) (pc : Nat) : Prop := ∀ {n : Nat} {R : RT} {d : Nat} {L : LT} {rest : List Value} {I : IT} {J : JT} {Q : IQ} {x y : Int32}, 1 ≤ d → (rest.map fun v => v.category).sum ≤ 8 → EN n R M d (pc + 3) L (.int (if x < y then y else x) :: rest) I J Q → EN n R M d pc L (.int y :: .int x :: rest) I J Q
theorem kallM {M : MI} {pc idx : Nat} (hd : decode (MI.bytes M) pc = .ok (.invokestatic idx, 3)) (hw1 : Cond.methodLink (MI.own M) idx Lib.Math.max.name ∈ wsG) (hw2 : Cond.static Lib.Math.max.name ∈ wsG) (hw3 : Cond.initialized "java/lang/Math" ∈ wsG) (hw4 : Cond.code Lib.Math.max.name Lib.Math.max.code 2 (some .int) ∈ wsG) : CallM M pc := by
  intro n R d L rest I J Q x y hd1 hr k l p e Rm s m args below meth c D cs A ad0 I0 n0 QQ hC hc1 hc2 hr2 ad H locs ls hW hl
  have hcat : ((rest.map (cv ad)).map fun v => v.category).sum ≤ 8 := by
    rw [List.map_map, show ((fun v : Value => v.category) ∘ cv ad) = (fun v => v.category) from funext fun v => cv_cat ad v]; exact hr
  have hfr := hC.2.2.2.2.2.2.2.2.2.2.1
  have hlo := hC.2.2.2.2.2.2.2.2.2.2.2
  exact va_mmax hC.1 hC.2.1 (hC.2.2.1.trans hl.1.symm) hC.2.2.2.1 (hC.2.2.2.2.1 _ hw1) (hC.2.2.2.2.1 _ hw2) (hC.2.2.2.2.1 _ hw3) (hC.2.2.2.2.1 _ hw4) (by omega) (by omega) hc1 hc2 hd (k l p e Rm s m args below meth c D cs A ad0 I0 n0 QQ hC hc1 hc2 hr2 ad H locs ls hW hl)
