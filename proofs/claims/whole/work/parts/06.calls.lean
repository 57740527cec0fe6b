/-! MAKING objects and arrays -/
def okV (a b : Nat) : Value → Bool
  | .ref o => Nat.blt o a || Nat.ble b o
  | _ => true
theorem cv_ok {a b : Nat} {ad ad' : Nat → Nat} (h : ∀ o, o < a ∨ b ≤ o → ad' o = ad o) {v : Value} (hv : okV a b v = true) : cv ad' v = cv ad v := by
  cases v with
  | ref o =>
    simp only [okV, Bool.or_eq_true] at hv
    show Value.ref (ad' o) = Value.ref (ad o)
    rw [h o]
    rcases hv with hv | hv
    · exact Or.inl ((Nat.blt_eq).mp hv)
    · exact Or.inr (Nat.le_of_ble_eq_true hv)
  | _ => rfl
theorem cvs_ok {a b : Nat} {ad ad' : Nat → Nat} (h : ∀ o, o < a ∨ b ≤ o → ad' o = ad o) {st : List Value} (hv : st.all (okV a b) = true) : st.map (cv ad') = st.map (cv ad) :=
  List.map_congr_left fun v hm => cv_ok h (List.all_eq_true.mp hv v hm)
theorem cvl_ok {a b : Nat} {ad ad' : Nat → Nat} (h : ∀ o, o < a ∨ b ≤ o → ad' o = ad o) {L : LT} (hv : L.all (fun q => okV a b q.2) = true) : L.map (cvq ad') = L.map (cvq ad) :=
  List.map_congr_left fun q hm => by unfold cvq; rw [cv_ok h (List.all_eq_true.mp hv q hm)]
theorem rs2_o {α : Type} {f : Nat → Nat → α} {o : Nat} {v : α} {a : Nat} (h : a ≠ o) : rs2 f o v a = f a := by funext b; unfold rs2; rw [if_neg h]
theorem rs2_s {α : Type} {f : Nat → Nat → α} {o : Nat} {v : α} : rs2 f o v o = fun _ => v := by funext b; unfold rs2; rw [if_pos rfl]
theorem adU_o {ad : Nat → Nat} {n q : Nat} : ∀ o, o < n ∨ n + 1 ≤ o → adU ad n q o = ad o := fun o h => by unfold adU; rw [if_neg (by omega)]
theorem Wd.push {D : va_G} {cs : CS} {A : Nat → Prop} {s : State} {ad0 : Nat → Nat} {I0 : IT} {n0 : Nat} {ad : Nat → Nat} {n : Nat} {R : RT} {I : IT} {J : JT} {H H' : Heap} {locs : List Loc} {q : Nat} (h : Wd D cs A s ad0 I0 n0 ad n R I J H locs) (hn : n < 62)
    (hP : va_P D vwC (pws cs ad n R I J ++ [(q, pcell cs (adU ad n q) (rs2 R n none) (rs2 I n 0) (rs2 J n 0) n)]) H') (hD : va_D A (pws cs ad n R I J ++ [(q, pcell cs (adU ad n q) (rs2 R n none) (rs2 I n 0) (rs2 J n 0) n)])) (hS : va_S A s.heap H' locs) :
    Wd D cs A s ad0 I0 n0 (adU ad n q) (n + 1) (rs2 R n none) (rs2 I n 0) (rs2 J n 0) H' locs := by
  obtain ⟨a1, a2, a3, a4, a5, a6, a7, a8, a9, Ls, b1, b2, b3⟩ := h
  rw [← pws_push (cs := cs) (ad := ad) (q := q) (R' := rs2 R n none) (I' := rs2 I n 0) (J' := rs2 J n 0) a6 (fun a ha => ⟨(rs2_o (by omega)).symm, (rs2_o (by omega)).symm, (rs2_o (by omega)).symm⟩)] at hP hD
  refine ⟨a1, hP, hD, hS, a5, fun o k o' ho => ?_, ⟨by omega, by omega⟩, ⟨fun o ho => ?_, ?_, ?_⟩, fun j hj => ?_, Ls, b1, ?_, ?_⟩
  · unfold rs2 at ho
    split at ho
    · cases ho
    · have := a6 o k o' ho; omega
  · rw [adU_o o (by omega)]
    exact a8.1 o (by omega)
  · rw [rs2_o (by omega)]; exact a8.2.1
  · rw [rs2_o (by omega)]; exact a8.2.2
  · rw [adU_o (1000 + j) (by omega)]; exact a9 j hj
  · rw [rs2_o (by omega)]; exact b2
  · rw [rs2_o (by omega), adU_o 2000 (by omega)]; exact b3
theorem rc_cells {n n0 cap c : Nat} (h0 : n0 ≤ n) (hc : cap - n0 ≤ c) (h : n < cap) : n - n0 + 1 ≤ c := by omega
theorem rc_slots {n n0 cap c N : Nat} (h0 : n0 ≤ n) (hc : SZ cap - SZ n0 ≤ c) (h : n < cap) (hN : (sh n).2 = N) : SZ n - SZ n0 + N ≤ c := by
  have h1 : SZ (n + 1) ≤ SZ cap := SZ_mono h
  have h2 : SZ (n + 1) = SZ n + N := by show SZ n + (sh n).2 = _; rw [hN]
  have h3 := SZ_mono h0
  omega
theorem rc_eq {n n0 N : Nat} (h0 : n0 ≤ n) (hN : (sh n).2 = N) : n - n0 + 1 = n + 1 - n0 ∧ SZ n - SZ n0 + N = SZ (n + 1) - SZ n0 := by
  have h2 : SZ (n + 1) = SZ n + N := by show SZ n + (sh n).2 = _; rw [hN]
  have h3 := SZ_mono h0
  omega
theorem e_new {M : MI} {pc idx ci N : Nat} {C : String} {T : u_T} {ty0 : Nat → FieldType} (hd : decode (MI.bytes M) pc = .ok (.new idx, 3)) (hc : vwC[ci]? = some (C, T, N)) (hci : ci < 8) (hin : ∀ w ∈ u_ws C T N, w ∈ wsG) (hty : ∀ k, k < N → parseFieldDescriptor (T k).2.2.1 = some (ty0 k)) (hcl : Cond.classLink (MI.own M) idx C ∈ wsG) (hinst : Cond.instantiable C N ∈ wsG) (hini : Cond.initialized C ∈ wsG)
    (hdef : ∀ j, j < N → defaultValue (ty0 j) = if fk ci j = 1 then Value.null else .int 0) {d cap : Nat} {L : LT} {st : List Value} {n : Nat} {R : RT} {I : IT} {J : JT} {Q : QT} (hsh : sh n = (ci, N)) (hcap : n < cap) (h1 : st.all (okV n (n + 1)) = true) (h2 : L.all (fun q => okV n (n + 1) q.2) = true)
    (k : Ends M d cap (pc + 3) L (.ref n :: st) (n + 1) (rs2 R n none) (rs2 I n 0) (rs2 J n 0) Q) : Ends M d cap pc L st n R I J Q := by
  intro l p e Rm s m args below meth c D cs A ad0 I0 n0 QQ hC hc1 hc2 hr ad H locs ls hW hl
  have hn0 : n0 ≤ n := hW.2.2.2.2.2.2.1.1
  have hn62 : n < 62 := sh_lt (by rw [hsh]; show ci ≠ 999; omega)
  have hN : (sh n).2 = N := by rw [hsh]
  refine va_new (D := D) (ci := ci) (fs := (List.range N).map (fv ad (rs2 R n none) (rs2 I n 0) ci n)) hC.1 hC.2.1 hC.2.2.2.2.1 hin ty0 hty hC.2.2.2.1 (hC.2.2.2.2.1 _ hcl) (hC.2.2.2.2.1 _ hinst) (hC.2.2.2.2.1 _ hini) hW.1 hW.2.1 hW.2.2.1 hW.2.2.2.1 hW.2.2.2.2.1 hc (fun j hj => ?_) (rc_cells hn0 hc1 hcap) (rc_slots hn0 hc2 hcap hN) hd (fun q H1 hP hD hS => ?_)
  · unfold vp_V
    rw [List.getD_eq_getElem?_getD, fs_at hj, hdef j hj]
    unfold fv
    rw [rs2_s, rs2_s]
    split <;> rfl
  · have e1 : pcell cs (adU ad n q) (rs2 R n none) (rs2 I n 0) (rs2 J n 0) n = .inr (ci, (List.range N).map (fv ad (rs2 R n none) (rs2 I n 0) ci n)) := by
      rw [pc_obj (by rw [hsh]) (by omega), hN]
      congr 2
      apply List.map_congr_left
      intro j _
      unfold fv
      rw [rs2_s, rs2_s]
      rfl
    rw [← e1] at hP hD
    have := k l p e Rm s m args below meth c D cs A ad0 I0 n0 QQ hC hc1 hc2 hr (adU ad n q) H1 locs ls (hW.push hn62 hP hD hS) (by rw [cvl_ok adU_o h2]; exact hl)
    rw [← (rc_eq hn0 hN).1, ← (rc_eq hn0 hN).2] at this
    have e2 : (Value.ref n :: st).map (cv (adU ad n q)) = Value.ref q :: st.map (cv ad) := by
      rw [List.map_cons, cvs_ok adU_o h1]
      show Value.ref (adU ad n q n) :: _ = _
      unfold adU
      rw [if_pos rfl]
    rw [e2] at this
    exact this
theorem cA_of {s : State} {cl : List vw_C} {D : va_G} {tys : List (ClassId × FieldType)} {c1 c2 : ClassId} {ty : FieldType} (hp : ∀ C, ty ≠ .object C) (hK : va_K D cl (tys ++ [(c2, ty)]) s) (k : Nat) (hk : tys[k]? = some (c1, ty)) : c2 = c1 := by
  have h1 := (hK.2 k (c1, ty) (by rw [List.getElem?_append_left (List.getElem?_eq_some_iff.mp hk).1]; exact hk)).2
  have h2 := (hK.2 tys.length (c2, ty) (by simp)).2
  unfold va_RA at h1 h2
  cases ty with
  | object C => exact absurd rfl (hp C)
  | _ => exact Option.some.inj (h2.symm.trans h1)
theorem cA_ofO {s : State} {cl : List vw_C} {D : va_G} {tys : List (ClassId × FieldType)} {c1 c2 : ClassId} {C : String} (hK : va_K D cl (tys ++ [(c2, .object C)]) s) (k : Nat) (hk : tys[k]? = some (c1, .object C)) : c2 = c1 := by
  obtain ⟨_, _, _, _, _, h1⟩ := (hK.2 k (c1, .object C) (by rw [List.getElem?_append_left (List.getElem?_eq_some_iff.mp hk).1]; exact hk)).2
  obtain ⟨_, _, _, _, _, h2⟩ := (hK.2 tys.length (c2, .object C) (by simp)).2
  exact Option.some.inj (h2.symm.trans h1)
theorem arr_end {M : MI} {pc : Nat} {d cap : Nat} {L : LT} {st : List Value} {n len : Nat} {R : RT} {I : IT} {J : JT} {Q : QT} {kd : Nat} (hkd : kd ≠ 999) (hsh : sh n = (kd, len)) (h1 : st.all (okV n (n + 1)) = true) (h2 : L.all (fun q => okV n (n + 1) q.2) = true) (k : Ends M d cap pc L (.ref n :: st) (n + 1) (rs2 R n none) (rs2 I n 0) (rs2 J n 0) Q)
    (l : Launch) (p : Program) (e : Env) (Rm : Room) (s : State) (m : MethodId) (args : Array Value) (below : List Frame) (meth : Method) (c : Code) (D : va_G) (cs : CS) (A : Nat → Prop) (ad0 : Nat → Nat) (I0 : IT) (n0 : Nat) (QQ : State → Prop) (hC : Cx M d p Rm s m args meth c) (hc1 : cap - n0 ≤ Rm.cells) (hc2 : SZ cap - SZ n0 ≤ Rm.slots)
    (hr : ∀ (r : Option Value) (n' : Nat) (R' : RT) (I' : IT) (J' : JT) (ad' : Nat → Nat) (H' : Heap) (locs' : List Loc) (pc' : Nat) (ls' : Array Slot), Q r n' R' I' J' → Wd D cs A s ad0 I0 n0 ad' n' R' I' J' H' locs' → RetAt M pc' r → W p l e Rm s m args below meth c H' locs' (n' - n0) (SZ n' - SZ n0) QQ (F0 m pc' ls' (r.toList.map (cv ad'))))
    (ad : Nat → Nat) (H : Heap) (locs : List Loc) (ls : Array Slot) (hW : Wd D cs A s ad0 I0 n0 ad n R I J H locs) (hl : lv_has ls (MI.maxL M) (L.map (cvq ad))) (q : Nat) (H1 : Heap) (x : va_E) (hx : pcell cs (adU ad n q) (rs2 R n none) (rs2 I n 0) (rs2 J n 0) n = x)
    (hP : va_P D vwC (pws cs ad n R I J ++ [(q, x)]) H1) (hD : va_D A (pws cs ad n R I J ++ [(q, x)])) (hS : va_S A s.heap H1 locs) : W p l e Rm s m args below meth c H1 locs (n - n0 + 1) (SZ n - SZ n0 + len) QQ (F0 m pc ls (.ref q :: st.map (cv ad))) := by
  have hn0 : n0 ≤ n := hW.2.2.2.2.2.2.1.1
  have hn62 : n < 62 := sh_lt (by rw [hsh]; exact hkd)
  have hN : (sh n).2 = len := by rw [hsh]
  rw [← hx] at hP hD
  have := k l p e Rm s m args below meth c D cs A ad0 I0 n0 QQ hC hc1 hc2 hr (adU ad n q) H1 locs ls (hW.push hn62 hP hD hS) (by rw [cvl_ok adU_o h2]; exact hl)
  rw [← (rc_eq hn0 hN).1, ← (rc_eq hn0 hN).2] at this
  have e2 : (Value.ref n :: st).map (cv (adU ad n q)) = Value.ref q :: st.map (cv ad) := by
    rw [List.map_cons, cvs_ok adU_o h1]
    show Value.ref (adU ad n q n) :: _ = _
    unfold adU
    rw [if_pos rfl]
  rw [e2] at this
  exact this
theorem e_newI {M : MI} {pc : Nat} (hd : decode (MI.bytes M) pc = .ok (.newarray .int, 2)) (hw : Cond.arrayClass .int ∈ wsG) {d cap : Nat} {L : LT} {st : List Value} {n len : Nat} {x : Int32} {R : RT} {I : IT} {J : JT} {Q : QT} (hx0 : ¬ x < 0) (hx : x.toNatClampNeg = len) (hlen : len ≤ 10000) (hsh : sh n = (100, len)) (hcap : n < cap) (h1 : st.all (okV n (n + 1)) = true) (h2 : L.all (fun q => okV n (n + 1) q.2) = true)
    (k : Ends M d cap (pc + 2) L (.ref n :: st) (n + 1) (rs2 R n none) (rs2 I n 0) (rs2 J n 0) Q) : Ends M d cap pc L (.int x :: st) n R I J Q := by
  intro l p e Rm s m args below meth c D cs A ad0 I0 n0 QQ hC hc1 hc2 hr ad H locs ls hW hl
  have hn0 : n0 ≤ n := hW.2.2.2.2.2.2.1.1
  have hN : (sh n).2 = len := by rw [hsh]
  refine va_newa (atype := .int) (ty := .int) (a0 := (len, .inl (fun _ => 0))) hC.1 hC.2.1 (hC.2.2.2.2.1 _ hw) rfl hW.1 hW.2.1 hW.2.2.1 hW.2.2.2.1 hW.2.2.2.2.1 (fun cA => rfl) hx0 hx (by show len * 4 ≤ _; omega) (rc_cells hn0 hc1 hcap) (rc_slots hn0 hc2 hcap hN) hd (fun q cA H1 hK hP hD hS => ?_)
  have hcA : cA = cs.1 := cA_of (fun C h => by cases h) hK 0 rfl
  subst hcA
  exact arr_end (by omega) hsh h1 h2 k l p e Rm s m args below meth c D cs A ad0 I0 n0 QQ hC hc1 hc2 hr ad H locs ls hW hl q H1 _ (by rw [pc_int (by rw [hsh]), rs2_s, hN]) hP hD hS
theorem e_newL {M : MI} {pc : Nat} (hd : decode (MI.bytes M) pc = .ok (.newarray .long, 2)) (hw : Cond.arrayClass .long ∈ wsG) {d cap : Nat} {L : LT} {st : List Value} {n len : Nat} {x : Int32} {R : RT} {I : IT} {J : JT} {Q : QT} (hx0 : ¬ x < 0) (hx : x.toNatClampNeg = len) (hlen : len ≤ 10000) (hsh : sh n = (101, len)) (hcap : n < cap) (h1 : st.all (okV n (n + 1)) = true) (h2 : L.all (fun q => okV n (n + 1) q.2) = true)
    (k : Ends M d cap (pc + 2) L (.ref n :: st) (n + 1) (rs2 R n none) (rs2 I n 0) (rs2 J n 0) Q) : Ends M d cap pc L (.int x :: st) n R I J Q := by
  intro l p e Rm s m args below meth c D cs A ad0 I0 n0 QQ hC hc1 hc2 hr ad H locs ls hW hl
  have hn0 : n0 ≤ n := hW.2.2.2.2.2.2.1.1
  have hN : (sh n).2 = len := by rw [hsh]
  refine va_newa (atype := .long) (ty := .long) (a0 := (len, .inr (.inl (fun _ => 0)))) hC.1 hC.2.1 (hC.2.2.2.2.1 _ hw) rfl hW.1 hW.2.1 hW.2.2.1 hW.2.2.2.1 hW.2.2.2.2.1 (fun cA => rfl) hx0 hx (by show len * 8 ≤ _; omega) (rc_cells hn0 hc1 hcap) (rc_slots hn0 hc2 hcap hN) hd (fun q cA H1 hK hP hD hS => ?_)
  have hcA : cA = cs.2.1 := cA_of (fun C h => by cases h) hK 1 rfl
  subst hcA
  exact arr_end (by omega) hsh h1 h2 k l p e Rm s m args below meth c D cs A ad0 I0 n0 QQ hC hc1 hc2 hr ad H locs ls hW hl q H1 _ (by rw [pc_long (by rw [hsh]), rs2_s, hN]) hP hD hS
theorem e_newB {M : MI} {pc idx : Nat} (hd : decode (MI.bytes M) pc = .ok (.anewarray idx, 3)) (hw : Cond.classLink (MI.own M) idx "ClaimChains$Box" ∈ wsG) {d cap : Nat} {L : LT} {st : List Value} {n len : Nat} {x : Int32} {R : RT} {I : IT} {J : JT} {Q : QT} (hx0 : ¬ x < 0) (hx : x.toNatClampNeg = len) (hlen : len ≤ 10000) (hsh : sh n = (102, len)) (hcap : n < cap) (h1 : st.all (okV n (n + 1)) = true) (h2 : L.all (fun q => okV n (n + 1) q.2) = true)
    (k : Ends M d cap (pc + 3) L (.ref n :: st) (n + 1) (rs2 R n none) (rs2 I n 0) (rs2 J n 0) Q) : Ends M d cap pc L (.int x :: st) n R I J Q := by
  intro l p e Rm s m args below meth c D cs A ad0 I0 n0 QQ hC hc1 hc2 hr ad H locs ls hW hl
  have hn0 : n0 ≤ n := hW.2.2.2.2.2.2.1.1
  have hN : (sh n).2 = len := by rw [hsh]
  refine va_newq hC.1 hC.2.1 hC.2.2.2.1 (hC.2.2.2.2.1 _ hw) hC.2.2.2.2.2.2.1 hW.1 hW.2.1 hW.2.2.1 hW.2.2.2.1 hW.2.2.2.2.1 hx0 hx (by omega) (rc_cells hn0 hc1 hcap) (rc_slots hn0 hc2 hcap hN) hd (fun q cA H1 hK hP hD hS => ?_)
  have hcA : cA = cs.2.2 := cA_ofO hK 2 rfl
  subst hcA
  exact arr_end (by omega) hsh h1 h2 k l p e Rm s m args below meth c D cs A ad0 I0 n0 QQ hC hc1 hc2 hr ad H locs ls hW hl q H1 _ (by rw [pc_refs (by rw [hsh]), rs2_s, hN]; rfl) hP hD hS
theorem e_oinit {M : MI} {pc idx : Nat} (hd : decode (MI.bytes M) pc = .ok (.invokespecial idx, 3)) (hw1 : Cond.methodLink (MI.own M) idx objectInit ∈ wsG) (hw2 : Cond.instanceMethod objectInit ∈ wsG) (hw3 : Cond.code objectInit ⟨#[0xb1]⟩ 1 none ∈ wsG) {d cap : Nat} (hd1 : 1 ≤ d) {L : LT} {st : List Value} {o n : Nat} {R : RT} {I : IT} {J : JT} {Q : QT} (hst : (st.map fun v => v.category).sum ≤ 8)
    (k : Ends M d cap (pc + 3) L st n R I J Q) : Ends M d cap pc L (.ref o :: st) n R I J Q := by
  refine ends_go (fun l p e Rm s m args below meth c QQ H locs cells slots ls ad hC hl kk => ?_) k
  have hcat : ((st.map (cv ad)).map fun v => v.category).sum ≤ 8 := by
    rw [List.map_map, show ((fun v : Value => v.category) ∘ cv ad) = (fun v => v.category) from funext fun v => cv_cat ad v]; exact hst
  have hroom := lv_room (m := m) (pc := pc) (ls := ls) (rest := (Value.ref o :: st).map (cv ad)) hcat
  refine W.objInit (a := ad o) hC.1 hC.2.1 hC.2.2.2.1 (hC.2.2.2.2.1 _ hw1) (hC.2.2.2.2.1 _ hw2) (hC.2.2.2.2.1 _ hw3) rfl (by rw [hC.2.2.1]; exact hl.1) rfl hd (Nat.le_trans hd1 hC.2.2.2.2.2.2.2.2.2.2.1) ?_ (kk ls hl)
  have := hC.2.2.2.2.2.2.2.2.2.2.2
  omega
