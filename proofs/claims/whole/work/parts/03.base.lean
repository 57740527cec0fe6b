/-! THE PURE MACHINE: what a walk needs of the world, in pure words. Objects are numbered in the order in which they are made; 'ad' says where each lies. -/
def isNest : Cond → Bool
  | .fieldLinkNest .. => true
  | .methodLinkNest .. => true
  | _ => false
def wsG : List Cond := lw_tbl.filter goodWord
def nwG : List Cond := lw_tbl.filter isNest
theorem inG {w : Cond} (i : Nat) (h : lw_tbl[i]? = some w) (hg : goodWord w = true) : w ∈ wsG := List.mem_filter.mpr ⟨List.mem_of_getElem? h, hg⟩
theorem inN {w : Cond} (i : Nat) (h : lw_tbl[i]? = some w) (hg : isNest w = true) : w ∈ nwG := List.mem_filter.mpr ⟨List.mem_of_getElem? h, hg⟩
theorem goodM {w : Cond} (h : w ∈ wsG) : GoodIn wsG (w :: wsG) := by
  intro x hx
  have hm : x ∈ wsG := by
    rcases List.mem_cons.mp hx with h1 | h1
    · rw [h1]; exact h
    · exact h1
  exact ⟨hm, good_of_word (List.mem_filter.mp hm).2⟩
theorem nw_warm {s U : State} (hW : s.WarmedH U.vm) (h : ∀ w ∈ nwG, va_Nw w s) : ∀ w ∈ nwG, va_Nw w U := by
  intro w hw
  have h1 := (List.mem_filter.mp hw).2
  have h2 := h w hw
  cases w <;> simp only [isNest] at h1 <;> first | (cases h1; done) | exact va_Nw.warmM hW h2 | exact va_Nw.warmF hW h2
abbrev RT : Type := Nat → Nat → Option Nat
abbrev IT : Type := Nat → Nat → Int32
abbrev JT : Type := Nat → Nat → Int64
abbrev LT : Type := List (Nat × Value)
abbrev QT : Type := Option Value → Nat → RT → IT → JT → Prop
def nth {α : Type} (d : α) : List α → Nat → α
  | [], _ => d
  | a :: _, 0 => a
  | _ :: l, n + 1 => nth d l n
def cv (ad : Nat → Nat) : Value → Value
  | .ref o => .ref (ad o)
  | v => v
def cvq (ad : Nat → Nat) (q : Nat × Value) : Nat × Value := (q.1, cv ad q.2)
theorem cv_cat (ad : Nat → Nat) (v : Value) : (cv ad v).category = v.category := by cases v <;> rfl
def up2 {α : Type} (f : Nat → Nat → α) (o k : Nat) (v : α) : Nat → Nat → α := fun a b => if a = o then (if b = k then v else f a b) else f a b
def rs2 {α : Type} (f : Nat → Nat → α) (o : Nat) (v : α) : Nat → Nat → α := fun a b => if a = o then v else f a b
def adU (ad : Nat → Nat) (n q : Nat) : Nat → Nat := fun o => if o = n then q else ad o
/-- the shapes: (class, fields), (100, length) ints, (101, length) longs, (102, length) references -/
def shL : List (Nat × Nat) := [(6, 8), (4, 10), (100, 40), (100, 40), (100, 40), (100, 40), (100, 40), (100, 40), (100, 40), (101, 40), (101, 40), (3, 15), (100, 4), (100, 64), (100, 16), (100, 16), (100, 16), (100, 15), (100, 16), (2, 5), (100, 8), (100, 8), (1, 10), (100, 9), (100, 8), (100, 9), (5, 3), (100, 16), (100, 16), (102, 4), (0, 3), (100, 8), (0, 3), (100, 8), (0, 3), (100, 8), (0, 3), (100, 8), (100, 8), (7, 30), (100, 40), (100, 120), (100, 40), (100, 40), (100, 40), (101, 40), (100, 2560), (100, 4), (100, 16), (100, 17), (100, 16), (100, 8), (100, 8), (100, 9), (100, 9), (100, 64), (100, 16), (100, 16), (100, 4), (100, 4), (100, 32), (100, 8)]
def sh (o : Nat) : Nat × Nat := nth (999, 0) shL o
/-- a field's kind: 1 a reference, 0 an int, 2 a boolean -/
def fkL : List (List Nat) := [[1, 0, 0], [1, 1, 1, 1, 1, 2, 0, 0, 0, 0], [1, 1, 1, 0, 0], [1, 0, 0, 1, 0, 0, 1, 1, 0, 1, 0, 0, 1, 1, 1], [1, 1, 1, 1, 1, 1, 1, 1, 1, 0], [1, 1, 1], [1, 1, 1, 1, 1, 1, 1, 0], [0, 0, 1, 1, 1, 1, 1, 1, 1, 0, 0, 1, 1, 0, 1, 1, 0, 1, 1, 1, 1, 1, 0, 0, 1, 1, 1, 1, 1, 1]]
def fk (ci k : Nat) : Nat := nth 0 (nth [] fkL ci) k
def SZ : Nat → Nat
  | 0 => 0
  | n + 1 => SZ n + (sh n).2
theorem SZ_mono {a b : Nat} (h : a ≤ b) : SZ a ≤ SZ b := by
  induction b with
  | zero => have : a = 0 := by omega
            subst this; exact Nat.le_refl _
  | succ b ih =>
    rcases Nat.lt_or_ge a (b + 1) with h1 | h1
    · have := ih (by omega)
      show SZ a ≤ SZ b + (sh b).2
      omega
    · have : a = b + 1 := by omega
      subst this; exact Nat.le_refl _
abbrev CS : Type := ClassId × ClassId × ClassId
def fv (ad : Nat → Nat) (R : RT) (I : IT) (ci o k : Nat) : Value := if fk ci k = 1 then va_rf ((R o k).map ad) else .int (I o k)
def pcell (cs : CS) (ad : Nat → Nat) (R : RT) (I : IT) (J : JT) (o : Nat) : va_E :=
  if (sh o).1 = 100 then .inl (cs.1, (sh o).2, .inl (I o))
  else if (sh o).1 = 101 then .inl (cs.2.1, (sh o).2, .inr (.inl (J o)))
  else if (sh o).1 = 102 then .inl (cs.2.2, (sh o).2, .inr (.inr (.inr (.inr (fun k => (R o k).map ad)))))
  else .inr ((sh o).1, (List.range (sh o).2).map (fv ad R I (sh o).1 o))
def pws (cs : CS) (ad : Nat → Nat) (n : Nat) (R : RT) (I : IT) (J : JT) : va_W := (List.range n).map (fun o => (ad o, pcell cs ad R I J o))
abbrev tysOf (cs : CS) : List (ClassId × FieldType) := [(cs.1, .int), (cs.2.1, .long), (cs.2.2, .object "ClaimChains$Box")]
theorem pws_at {cs : CS} {ad : Nat → Nat} {n : Nat} {R : RT} {I : IT} {J : JT} {o : Nat} (h : o < n) : (pws cs ad n R I J)[o]? = some (ad o, pcell cs ad R I J o) := by
  unfold pws
  rw [List.getElem?_map, List.getElem?_range h]
  rfl
theorem pws_len {cs : CS} {ad : Nat → Nat} {n : Nat} {R : RT} {I : IT} {J : JT} : (pws cs ad n R I J).length = n := by
  unfold pws; rw [List.length_map, List.length_range]
theorem pws_none {cs : CS} {ad : Nat → Nat} {n : Nat} {R : RT} {I : IT} {J : JT} {o : Nat} (h : n ≤ o) : (pws cs ad n R I J)[o]? = none := by
  rw [List.getElem?_eq_none_iff, pws_len]; exact h
theorem pcell_cg {cs : CS} {ad ad' : Nat → Nat} {R R' : RT} {I I' : IT} {J J' : JT} {o : Nat} (h1 : ∀ k, (R o k).map ad = (R' o k).map ad') (h2 : I o = I' o) (h3 : J o = J' o) : pcell cs ad R I J o = pcell cs ad' R' I' J' o := by
  unfold pcell
  rw [h2, h3]
  rw [show (fun k => (R o k).map ad) = (fun k => (R' o k).map ad') from funext h1]
  rw [show fv ad R I (sh o).1 o = fv ad' R' I' (sh o).1 o from funext fun k => by unfold fv; rw [h1 k, h2]]
theorem pws_set {cs : CS} {ad : Nat → Nat} {n : Nat} {R R' : RT} {I I' : IT} {J J' : JT} {o : Nat} {e : va_E} (ho : o < n) (he : e = pcell cs ad R' I' J' o) (hd : ∀ a, a ≠ o → R a = R' a ∧ I a = I' a ∧ J a = J' a) : (pws cs ad n R I J).set o (ad o, e) = pws cs ad n R' I' J' := by
  apply List.ext_getElem?
  intro i
  rw [List.getElem?_set]
  by_cases hi : i < n
  · rw [pws_at (R := R') hi]
    by_cases hio : o = i
    · subst hio
      rw [if_pos rfl, if_pos (by rw [pws_len]; exact ho), he]
    · rw [if_neg hio, pws_at hi]
      obtain ⟨a1, a2, a3⟩ := hd i (fun h => hio h.symm)
      rw [pcell_cg (R' := R') (I' := I') (J' := J') (ad' := ad) (fun k => by rw [a1]) a2 a3]
  · rw [pws_none (R := R') (Nat.not_lt.mp hi), if_neg (by omega), pws_none (Nat.not_lt.mp hi)]
def RefsOk (n : Nat) (R : RT) : Prop := ∀ o k o', R o k = some o' → o' < n
theorem pws_push {cs : CS} {ad : Nat → Nat} {n q : Nat} {R R' : RT} {I I' : IT} {J J' : JT} (hR : RefsOk n R) (hd : ∀ a, a < n → R a = R' a ∧ I a = I' a ∧ J a = J' a) : pws cs (adU ad n q) (n + 1) R' I' J' = pws cs ad n R I J ++ [(q, pcell cs (adU ad n q) R' I' J' n)] := by
  unfold pws
  rw [List.range_succ, List.map_append]
  congr 1
  · apply List.map_congr_left
    intro o ho
    have ho := List.mem_range.mp ho
    obtain ⟨a1, a2, a3⟩ := hd o ho
    have e1 : adU ad n q o = ad o := by unfold adU; rw [if_neg (by omega)]
    rw [e1]
    rw [pcell_cg (cs := cs) (ad := adU ad n q) (ad' := ad) (R' := R) (I' := I) (J' := J) (fun k => ?_) a2.symm a3.symm]
    rw [← a1]
    cases hk : R o k with
    | none => rfl
    | some o' =>
      have := hR o k o' hk
      show some (adU ad n q o') = some (ad o')
      unfold adU; rw [if_neg (by omega)]
  · show [(adU ad n q n, _)] = _
    unfold adU; rw [if_pos rfl]
/-! the static arrays (numbers 1000 ..) and the script (2000; its length at 2001) -/
def stN (j : Nat) : String := nth "" ["LEAF_NUMBERS", "CONSTANT_TABLES", "VARIABLE_TABLES", "INPUT_TABLES"] j
def stD (j : Nat) : String := nth "" ["[I", "[J", "[J", "[J"] j
def stLen (j : Nat) : Nat := nth 0 [3, 2, 4, 2] j
def stTy (j : Nat) : FieldType := nth .int [.int, .long, .long, .long] j
def stI (k : Nat) : Int32 := nth 0 [2, 4, 2] k
def stJ (j k : Nat) : Int64 := nth 0 (nth [] [[], [0, -1], [-6148914691236517206, -3689348814741910324, -1085102592571150096, -71777214294589696], [-281470681808896, -4294967296]] j) k
def stV (j k : Nat) : Value := if j = 0 then .int (stI k) else .long (stJ j k)
def Stt (A : Nat → Prop) (s : State) (H : Heap) (ad : Nat → Nat) (I : IT) : Prop :=
  (∀ j, j < 4 → va_Z "ClaimChains" (stN j) (stD j) (.ref (ad (1000 + j))) A s H ∧ va_T (stTy j) (ad (1000 + j)) (stLen j) (stV j) A s H) ∧
  ∃ Ls : Nat, Ls < 2 ^ 31 ∧ I 2001 0 = nI Ls ∧ va_X (ad 2000) Ls (I 2000) s H ∧ ad 2000 < H.size ∧ ¬ A (ad 2000)
/-- what holds of the world at a point of a walk that began in s with ad0, n0 -/
def Wd (D : va_G) (cs : CS) (A : Nat → Prop) (s : State) (ad0 : Nat → Nat) (I0 : IT) (n0 : Nat) (ad : Nat → Nat) (n : Nat) (R : RT) (I : IT) (J : JT) (H : Heap) (locs : List Loc) : Prop :=
  va_K D vwC (tysOf cs) s ∧ va_P D vwC (pws cs ad n R I J) H ∧ va_D A (pws cs ad n R I J) ∧ va_S A s.heap H locs ∧ (∀ q, s.heap.size ≤ q → A q) ∧ RefsOk n R ∧ (n0 ≤ n ∧ n ≤ 62) ∧ ((∀ o, o < n0 ∨ n ≤ o → ad o = ad0 o) ∧ I 2000 = I0 2000 ∧ I 2001 = I0 2001) ∧ Stt A s s.heap ad I
abbrev MI.own (M : MI) : String := M.1
abbrev MI.y (M : MI) : MethodName := M.2.1
abbrev MI.bytes (M : MI) : ByteArray := M.2.2.1
abbrev MI.maxL (M : MI) : Nat := M.2.2.2.1
abbrev MI.ret (M : MI) : Option FieldType := M.2.2.2.2
/-- the fixed things of a walk of M, with room for d calls below it -/
def Cx (M : MI) (d : Nat) (p : Program) (Rm : Room) (s : State) (m : MethodId) (args : Array Value) (meth : Method) (c : Code) : Prop :=
  p.tables.exec = Jvm.exec ∧ c.code = MI.bytes M ∧ c.maxLocals = MI.maxL M ∧ s.vm.findClass (MI.own M) = some m.cls ∧ (∀ w ∈ wsG, w.before args s = true) ∧ (∀ w ∈ nwG, va_Nw w s) ∧ va_AO "ClaimChains$Box" s ∧ meth.name = (MI.y M).name ∧ meth.sig.returnType = MI.ret M ∧ meth.locks = false ∧ d ≤ Rm.frames ∧ 80 * d ≤ Rm.locals
def RetAt (M : MI) (pc : Nat) : Option Value → Prop
  | none => decode (MI.bytes M) pc = .ok (.return_, 1) ∧ MI.ret M = none
  | some (.int v) => decode (MI.bytes M) pc = .ok (.ireturn, 1) ∧ ∃ ty, MI.ret M = some ty ∧ narrow ty (.int v) = .int v
  | some (.long _) => decode (MI.bytes M) pc = .ok (.lreturn, 1) ∧ MI.ret M = some .long
  | _ => False
/-- from this point of M the walk comes to M's end, with Q -/
def Ends (M : MI) (d cap pc : Nat) (L : LT) (st : List Value) (n : Nat) (R : RT) (I : IT) (J : JT) (Q : QT) : Prop :=
  ∀ (l : Launch) (p : Program) (e : Env) (Rm : Room) (s : State) (m : MethodId) (args : Array Value) (below : List Frame) (meth : Method) (c : Code) (D : va_G) (cs : CS) (A : Nat → Prop) (ad0 : Nat → Nat) (I0 : IT) (n0 : Nat) (QQ : State → Prop),
    Cx M d p Rm s m args meth c → cap - n0 ≤ Rm.cells → SZ cap - SZ n0 ≤ Rm.slots →
    (∀ (r : Option Value) (n' : Nat) (R' : RT) (I' : IT) (J' : JT) (ad' : Nat → Nat) (H' : Heap) (locs' : List Loc) (pc' : Nat) (ls' : Array Slot), Q r n' R' I' J' → Wd D cs A s ad0 I0 n0 ad' n' R' I' J' H' locs' → RetAt M pc' r →
      W p l e Rm s m args below meth c H' locs' (n' - n0) (SZ n' - SZ n0) QQ (F0 m pc' ls' (r.toList.map (cv ad')))) →
    ∀ (ad : Nat → Nat) (H : Heap) (locs : List Loc) (ls : Array Slot), Wd D cs A s ad0 I0 n0 ad n R I J H locs → lv_has ls (MI.maxL M) (L.map (cvq ad)) →
      W p l e Rm s m args below meth c H locs (n - n0) (SZ n - SZ n0) QQ (F0 m pc ls (st.map (cv ad)))
