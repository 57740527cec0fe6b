/-! CONTRACTS and CALLS -/
def rmM (d n n' : Nat) : Room := { frames := d, cells := n' - n, slots := SZ n' - SZ n, locals := 80 * d }
def Pcc (D : va_G) (cs : CS) (ad : Nat → Nat) (sz : Nat) (av : List Value) (n : Nat) (R : RT) (I : IT) (J : JT) : Array Value → State → Prop := fun v U =>
  v = (av.map (cv ad)).toArray ∧ U.heap.size = sz ∧ va_K D vwC (tysOf cs) U ∧ va_P D vwC (pws cs ad n R I J) U.heap ∧ va_D (fun _ => True) (pws cs ad n R I J) ∧ (RefsOk n R ∧ n ≤ 62) ∧ (∀ w ∈ nwG, va_Nw w U) ∧ va_AO "ClaimChains$Box" U ∧ Stt (va_A (pws cs ad n R I J) sz) U U.heap ad I
def Qcc (D : va_G) (cs : CS) (ad : Nat → Nat) (sz : Nat) (n : Nat) (R : RT) (I : IT) (J : JT) (n' : Nat) (Q : Option Value → RT → IT → JT → Prop) : Array Value → State → Outcome → State → Prop := fun _ st oc t =>
  (∃ (r : Option Value) (R' : RT) (I' : IT) (J' : JT) (ad' : Nat → Nat), oc = .returned (r.map (cv ad')) ∧ Q r R' I' J' ∧ (∀ o, o < n ∨ n' ≤ o → ad' o = ad o) ∧ va_P D vwC (pws cs ad' n' R' I' J') t.heap ∧ va_D (va_A (pws cs ad n R I J) sz) (pws cs ad' n' R' I' J') ∧ RefsOk n' R' ∧ n ≤ n' ∧ n' ≤ 62 ∧ I' 2000 = I 2000 ∧ I' 2001 = I 2001) ∧ va_F (va_A (pws cs ad n R I J) sz) st t
/-- M's contract, with d calls below it at most: called with av in the world n R I J it returns, n' things are there then, and Q holds of the answer and the world -/
def Ct (M : MI) (d : Nat) (av : List Value) (n : Nat) (R : RT) (I : IT) (J : JT) (n' : Nat) (Q : Option Value → RT → IT → JT → Prop) : Prop :=
  ∀ (l : Launch) (D : va_G) (cs : CS) (ad : Nat → Nat) (sz : Nat), Met l (MI.y M) (Cond.code (MI.y M) (MI.bytes M) (MI.maxL M) (MI.ret M) :: wsG) (rmM d n n') (Pcc D cs ad sz av n R I J) (Qcc D cs ad sz n R I J n' Q) (n' - n) (SZ n' - SZ n) (va_A (pws cs ad n R I J) sz)
theorem lv_args_cv (ad : Nat → Nat) : ∀ (i : Nat) (vs : List Value), lv_args i (vs.map (cv ad)) = (lv_args i vs).map (cvq ad)
  | _, [] => rfl
  | i, v :: vs => by
    show (i, cv ad v) :: lv_args (if (cv ad v).category = 2 then i + 2 else i + 1) (vs.map (cv ad)) = (i, cv ad v) :: (lv_args (if v.category = 2 then i + 2 else i + 1) vs).map (cvq ad)
    rw [cv_cat, lv_args_cv ad _ vs]
theorem lg_sl_cv (ad : Nat → Nat) (vs : List Value) : (lg_sl (vs.map (cv ad))).length = (lg_sl vs).length := by
  induction vs with
  | nil => rfl
  | cons v vs ih =>
    simp only [lg_sl, List.map_cons, List.flatMap_cons, List.length_append, cv_cat] at ih ⊢
    rw [ih]
    congr 1
    split <;> rfl
theorem ct_of {M : MI} {d : Nat} {av : List Value} {n : Nat} {R : RT} {I : IT} {J : JT} {n' : Nat} {Q : Option Value → RT → IT → JT → Prop} (hy : plainName (MI.y M).cls = true) (ho : MI.own M = (MI.y M).cls) (hl : (lg_sl av).length ≤ MI.maxL M)
    (k : Ends M d n' 0 (lv_args 0 av) [] n R I J (fun r n1 R' I' J' => n1 = n' ∧ Q r R' I' J')) : Ct M d av n R I J n' Q := by
  intro l D cs ad sz
  refine Met.ofW (cc := MI.bytes M) (maxL := MI.maxL M) (ret := MI.ret M) hy rfl ?_
  intro p e s m args below meth c s₁ B hml hv
  obtain ⟨rfl, hsz, hK, hP, hD0, ⟨hR, h62⟩, hnw, hao, hSt⟩ := hv
  subst hsz
  have hts := atoms_spec (ws := Cond.code (MI.y M) (MI.bytes M) (MI.maxL M) (MI.ret M) :: wsG) B.pre
  have hown : s.vm.findClass (MI.own M) = some m.cls := by rw [ho]; exact findClass_of_methodNamed B.named
  have hC : Cx M d p (headSpec (Cond.code (MI.y M) (MI.bytes M) (MI.maxL M) (MI.ret M) :: wsG) (rmM d n n')).room s m ((av.map (cv ad)).toArray) meth c :=
    ⟨B.exec, B.bytes, hml, hown, fun w hw => hts w (List.mem_cons_of_mem _ hw), hnw, hao, (name_of_methodNamed B.named B.method).1, B.returns, B.notSynchronized, Nat.le_refl d, Nat.le_refl _⟩
  have hl2 := lv_entry (av.map (cv ad)) (n := MI.maxL M) (by rw [lg_sl_cv]; exact hl)
  rw [lg_entry_eq]
  rw [lv_args_cv] at hl2
  have hW : Wd D cs (va_A (pws cs ad n R I J) s.heap.size) s ad I n ad n R I J s.heap [] :=
    ⟨hK, hP, hD0.self, va_S.rf, fun q h => Or.inr h, hR, ⟨Nat.le_refl _, h62⟩, ⟨fun _ _ => rfl, rfl, rfl⟩, hSt⟩
  have hw := k l p e _ s m _ below meth c D cs (va_A (pws cs ad n R I J) s.heap.size) ad I n (MQ below (Qcc D cs ad s.heap.size n R I J n' Q) ((av.map (cv ad)).toArray) s (n' - n) (SZ n' - SZ n) (va_A (pws cs ad n R I J) s.heap.size)) hC (Nat.le_refl _) (Nat.le_refl _) (fun r n1 R' I' J' ad' H' locs' pc' ls' hq hW' hra => ?_) ad s.heap [] _ hW hl2
  · rw [Nat.sub_self, Nat.sub_self] at hw
    exact hw
  · obtain ⟨rfl, hq⟩ := hq
    obtain ⟨b1, b2, b3, b4, b5, b6, b7, b8, b9⟩ := hW'
    have key : ∀ t : State, t.heap = H' → s.WarmedH t.vm → Qcc D cs ad s.heap.size n R I J n1 Q ((av.map (cv ad)).toArray) s (.returned (r.map (cv ad'))) t := fun t ht _ =>
      ⟨⟨r, R', I', J', ad', rfl, hq, b8.1, by rw [ht]; exact b2, b3, b6, b7.1, b7.2, b8.2.1, b8.2.2⟩, b4.F ht⟩
    match r, hra, key with
    | none, hra, key => exact W.vret hC.1 hC.2.1 (hC.2.2.2.2.2.2.2.2.1.trans hra.2) key b4.2.2 hra.1 hC.2.2.2.2.2.2.2.2.2.1
    | some (.int v), hra, key =>
      obtain ⟨h1, ty, h2, h3⟩ := hra
      exact W.zret hC.1 hC.2.1 (hC.2.2.2.2.2.2.2.2.1.trans h2) h3 key b4.2.2 h1 hC.2.2.2.2.2.2.2.2.2.1
    | some (.long v), hra, key => exact W.lret hC.1 hC.2.1 (hC.2.2.2.2.2.2.2.2.1.trans hra.2) key b4.2.2 hra.1 hC.2.2.2.2.2.2.2.2.2.1
/-- at pc of M stands a call of M' (of nA arguments, the receiver among them; ins: it has one) -/
def Site (M : MI) (pc : Nat) (M' : MI) (ins : Bool) (nA : Nat) : Prop :=
  ∀ (l : Launch) (p : Program) (e : Env) (Rm : Room) (s : State) (m : MethodId) (args : Array Value) (below : List Frame) (meth : Method) (c : Code) (d : Nat) (H : Heap) (locs : List Loc) (cells slots : Nat), Cx M d p Rm s m args meth c →
  ∀ (rm : Room) (Pc : Array Value → State → Prop) (Qc : Array Value → State → Outcome → State → Prop) (mc ms : Nat) (free : Addr → Prop), Met l (MI.y M') (Cond.code (MI.y M') (MI.bytes M') (MI.maxL M') (MI.ret M') :: wsG) rm Pc Qc mc ms free →
    rm.cells = mc → rm.slots = ms → rm.frames + 1 ≤ Rm.frames → 8 + (MI.maxL M' + 11) + rm.locals ≤ Rm.locals → FrameBlind Pc →
  ∀ (As : List Value), As.length = nA → (ins = true → ∃ (b : Addr) (As' : List Value) (cellB : Cell), As = .ref b :: As' ∧ H[b]? = some cellB ∧ cellB.vm.isStatics = false ∧ s.vm.findClass (MI.own M') = some cellB.cls) → (∀ U : State, U.heap = H → s.WarmedH U.vm → Pc As.toArray U) →
  ∀ (ls : Array Slot) (rest : List Value), ls.size = MI.maxL M → (rest.map fun v => v.category).sum ≤ 8 → cells + mc ≤ Rm.cells ∧ slots + ms ≤ Rm.slots →
    va_Run p l e Rm s m args below meth c H locs cells slots mc ms (F0 m pc ls (As.reverse ++ rest)) rest (Qc As.toArray) free
section SITES
variable {M M' : MI} {pc idx nA : Nat}
theorem site_V (ho : MI.own M' = (MI.y M').cls) (hcode : Cond.code (MI.y M') (MI.bytes M') (MI.maxL M') (MI.ret M') ∈ wsG) (hd : decode (MI.bytes M) pc = .ok (.invokevirtual idx, 3)) (hw1 : Cond.methodLink (MI.own M) idx (MI.y M') ∈ wsG) (hw2 : Cond.instanceMethod (MI.y M') ∈ wsG) (hw3 : Cond.selects (MI.y M').cls (MI.y M') (MI.y M') ∈ wsG) (hw4 : Cond.initialized (MI.y M').cls ∈ wsG)
    (hdd : (MI.y M').cls ≠ "java/lang/invoke/MethodHandle" ∧ (MI.y M').cls ≠ "java/lang/invoke/VarHandle" ∧ (parseMethodDescriptor (MI.y M').desc).map (fun d => d.parameters.length) = some nA) : Site M pc M' true (nA + 1) := by
  intro l p e Rm s m args below meth c d H locs cells slots hC rm Pc Qc mc ms free hM e1 e2 e3 e4 hb As hn hrc hPc ls rest hsz hst hf
  obtain ⟨b, As', cellB, rfl, g1, g2, g3⟩ := hrc rfl
  have ht := hC.2.2.2.2.1
  exact va_runV (g := F0 m pc ls ((Value.ref b :: As').reverse ++ rest)) (As := As') (rest := rest) (n := nA) (index := idx) (bytes := MI.bytes M') (maxL := MI.maxL M') (ret := MI.ret M') (locs := locs) (below := below) (meth := meth) (C := (MI.y M').cls) (b := b) ⟨hC.1, hC.2.1, hC.2.2.1, hC.2.2.2.1, ht⟩ hM
    ⟨callB_of nA ht (goodM hcode) rfl e1 e2 (ht _ hw4) (ht _ hw1) hdd ⟨e3, e4⟩, ht _ hw2, ht _ hw3⟩ ⟨hb, ⟨cellB, g1, g2, by rw [← ho]; exact g3⟩, hPc⟩ rfl (by simpa using hn) hsz (by simp) (lv_room hst) hd hf
theorem site_VN {host : String} (ho : MI.own M' = (MI.y M').cls) (hcode : Cond.code (MI.y M') (MI.bytes M') (MI.maxL M') (MI.ret M') ∈ wsG) (hd : decode (MI.bytes M) pc = .ok (.invokevirtual idx, 3)) (hw1 : Cond.methodLinkNest (MI.own M) idx (MI.y M') host ∈ nwG) (hw2 : Cond.instanceMethod (MI.y M') ∈ wsG) (hw3 : Cond.selects (MI.y M').cls (MI.y M') (MI.y M') ∈ wsG) (hw4 : Cond.initialized (MI.y M').cls ∈ wsG)
    (hdd : (MI.y M').cls ≠ "java/lang/invoke/MethodHandle" ∧ (MI.y M').cls ≠ "java/lang/invoke/VarHandle" ∧ (parseMethodDescriptor (MI.y M').desc).map (fun d => d.parameters.length) = some nA) : Site M pc M' true (nA + 1) := by
  intro l p e Rm s m args below meth c d H locs cells slots hC rm Pc Qc mc ms free hM e1 e2 e3 e4 hb As hn hrc hPc ls rest hsz hst hf
  obtain ⟨b, As', cellB, rfl, g1, g2, g3⟩ := hrc rfl
  have ht := hC.2.2.2.2.1
  exact va_runVN (g := F0 m pc ls ((Value.ref b :: As').reverse ++ rest)) (As := As') (rest := rest) (n := nA) (index := idx) (bytes := MI.bytes M') (maxL := MI.maxL M') (ret := MI.ret M') (locs := locs) (below := below) (meth := meth) (C := (MI.y M').cls) (b := b) ⟨hC.1, hC.2.1, hC.2.2.1, hC.2.2.2.1, ht⟩ hM
    ⟨va_cnB nA ht (goodM hcode) rfl e1 e2 (hC.2.2.2.2.2.1 _ hw1) (ht _ hw4) hdd ⟨e3, e4⟩, ht _ hw2, ht _ hw3⟩ ⟨hb, ⟨cellB, g1, g2, by rw [← ho]; exact g3⟩, hPc⟩ rfl (by simpa using hn) hsz (by simp) (lv_room hst) hd hf
theorem site_S (hcode : Cond.code (MI.y M') (MI.bytes M') (MI.maxL M') (MI.ret M') ∈ wsG) (hd : decode (MI.bytes M) pc = .ok (.invokestatic idx, 3)) (hw1 : Cond.methodLink (MI.own M) idx (MI.y M') ∈ wsG) (hw2 : Cond.static (MI.y M') ∈ wsG) (hw4 : Cond.initialized (MI.y M').cls ∈ wsG)
    (hdd : (MI.y M').cls ≠ "java/lang/invoke/MethodHandle" ∧ (MI.y M').cls ≠ "java/lang/invoke/VarHandle" ∧ (parseMethodDescriptor (MI.y M').desc).map (fun d => d.parameters.length) = some nA) : Site M pc M' false nA := by
  intro l p e Rm s m args below meth c d H locs cells slots hC rm Pc Qc mc ms free hM e1 e2 e3 e4 hb As hn _ hPc ls rest hsz hst hf
  have ht := hC.2.2.2.2.1
  exact va_runS (g := F0 m pc ls (As.reverse ++ rest)) (As := As) (rest := rest) (n := nA) (index := idx) (bytes := MI.bytes M') (maxL := MI.maxL M') (ret := MI.ret M') (locs := locs) (below := below) (meth := meth) ⟨hC.1, hC.2.1, hC.2.2.1, hC.2.2.2.1, ht⟩ hM
    ⟨callB_of nA ht (goodM hcode) rfl e1 e2 (ht _ hw4) (ht _ hw1) hdd ⟨e3, e4⟩, ht _ hw2⟩ ⟨hb, hPc⟩ rfl hn hsz rfl (lv_room hst) hd hf
theorem site_SN {host : String} (hcode : Cond.code (MI.y M') (MI.bytes M') (MI.maxL M') (MI.ret M') ∈ wsG) (hd : decode (MI.bytes M) pc = .ok (.invokestatic idx, 3)) (hw1 : Cond.methodLinkNest (MI.own M) idx (MI.y M') host ∈ nwG) (hw2 : Cond.static (MI.y M') ∈ wsG) (hw4 : Cond.initialized (MI.y M').cls ∈ wsG)
    (hdd : (MI.y M').cls ≠ "java/lang/invoke/MethodHandle" ∧ (MI.y M').cls ≠ "java/lang/invoke/VarHandle" ∧ (parseMethodDescriptor (MI.y M').desc).map (fun d => d.parameters.length) = some nA) : Site M pc M' false nA := by
  intro l p e Rm s m args below meth c d H locs cells slots hC rm Pc Qc mc ms free hM e1 e2 e3 e4 hb As hn _ hPc ls rest hsz hst hf
  have ht := hC.2.2.2.2.1
  exact va_runSN (g := F0 m pc ls (As.reverse ++ rest)) (As := As) (rest := rest) (n := nA) (index := idx) (bytes := MI.bytes M') (maxL := MI.maxL M') (ret := MI.ret M') (locs := locs) (below := below) (meth := meth) ⟨hC.1, hC.2.1, hC.2.2.1, hC.2.2.2.1, ht⟩ hM
    ⟨va_cnB nA ht (goodM hcode) rfl e1 e2 (hC.2.2.2.2.2.1 _ hw1) (ht _ hw4) hdd ⟨e3, e4⟩, ht _ hw2, trivial⟩ ⟨hb, hPc⟩ rfl hn hsz rfl (lv_room hst) hd hf
theorem site_I (hret : MI.ret M' = none) (hini : (MI.y M').name = "<init>") (hcode : Cond.code (MI.y M') (MI.bytes M') (MI.maxL M') (MI.ret M') ∈ wsG) (hd : decode (MI.bytes M) pc = .ok (.invokespecial idx, 3)) (hw1 : Cond.methodLink (MI.own M) idx (MI.y M') ∈ wsG) (hw2 : Cond.instanceMethod (MI.y M') ∈ wsG) (hw4 : Cond.initialized (MI.y M').cls ∈ wsG)
    (hdd : (MI.y M').cls ≠ "java/lang/invoke/MethodHandle" ∧ (MI.y M').cls ≠ "java/lang/invoke/VarHandle" ∧ (parseMethodDescriptor (MI.y M').desc).map (fun d => d.parameters.length) = some nA) : Site M pc M' true (nA + 1) := by
  intro l p e Rm s m args below meth c d H locs cells slots hC rm Pc Qc mc ms free hM e1 e2 e3 e4 hb As hn hrc hPc ls rest hsz hst hf
  obtain ⟨b, As', cellB, rfl, g1, g2, g3⟩ := hrc rfl
  have ht := hC.2.2.2.2.1
  rw [hret] at hM hcode
  exact va_runI (g := F0 m pc ls ((Value.ref b :: As').reverse ++ rest)) (As := As') (rest := rest) (n := nA) (index := idx) (bytes := MI.bytes M') (maxL := MI.maxL M') (locs := locs) (below := below) (meth := meth) (b := b) ⟨hC.1, hC.2.1, hC.2.2.1, hC.2.2.2.1, ht⟩ hM
    ⟨callB_of nA ht (goodM hcode) rfl e1 e2 (ht _ hw4) (ht _ hw1) hdd ⟨e3, e4⟩, hini, ht _ hw2⟩ ⟨hb, hPc⟩ rfl (by simpa using hn) hsz (by simp) (lv_room hst) hd hf
theorem site_IN {host : String} (hret : MI.ret M' = none) (hini : (MI.y M').name = "<init>") (hcode : Cond.code (MI.y M') (MI.bytes M') (MI.maxL M') (MI.ret M') ∈ wsG) (hd : decode (MI.bytes M) pc = .ok (.invokespecial idx, 3)) (hw1 : Cond.methodLinkNest (MI.own M) idx (MI.y M') host ∈ nwG) (hw2 : Cond.instanceMethod (MI.y M') ∈ wsG) (hw4 : Cond.initialized (MI.y M').cls ∈ wsG)
    (hdd : (MI.y M').cls ≠ "java/lang/invoke/MethodHandle" ∧ (MI.y M').cls ≠ "java/lang/invoke/VarHandle" ∧ (parseMethodDescriptor (MI.y M').desc).map (fun d => d.parameters.length) = some nA) : Site M pc M' true (nA + 1) := by
  intro l p e Rm s m args below meth c d H locs cells slots hC rm Pc Qc mc ms free hM e1 e2 e3 e4 hb As hn hrc hPc ls rest hsz hst hf
  obtain ⟨b, As', cellB, rfl, g1, g2, g3⟩ := hrc rfl
  have ht := hC.2.2.2.2.1
  rw [hret] at hM hcode
  exact va_runIN (g := F0 m pc ls ((Value.ref b :: As').reverse ++ rest)) (As := As') (rest := rest) (n := nA) (index := idx) (bytes := MI.bytes M') (maxL := MI.maxL M') (locs := locs) (below := below) (meth := meth) (b := b) ⟨hC.1, hC.2.1, hC.2.2.1, hC.2.2.2.1, ht⟩ hM
    ⟨va_cnB nA ht (goodM hcode) rfl e1 e2 (hC.2.2.2.2.2.1 _ hw1) (ht _ hw4) hdd ⟨e3, e4⟩, hini, ht _ hw2⟩ ⟨hb, hPc⟩ rfl (by simpa using hn) hsz (by simp) (lv_room hst) hd hf
end SITES
theorem Stt.moved {A : Nat → Prop} {s U : State} {H : Heap} {ad : Nat → Nat} {I : IT} (hvm : s.vm.Alike U.vm) (h : Stt A s H ad I) : Stt A U H ad I := by
  obtain ⟨h1, Ls, b1, b2, b3, b4⟩ := h
  exact ⟨fun j hj => ⟨(h1 j hj).1.moved hvm, (h1 j hj).2.moved hvm⟩, Ls, b1, b2, b3.moved hvm, b4⟩
theorem Stt.to {A A' : Nat → Prop} {s : State} {H : Heap} {locs : List Loc} {ad : Nat → Nat} {I : IT} (h : Stt A s s.heap ad I) (hS : va_S A s.heap H locs) (hA : ∀ q, A' q → A q) : Stt A' s H ad I := by
  obtain ⟨h1, Ls, b1, b2, b3, b4, b5⟩ := h
  exact ⟨fun j hj => ⟨((h1 j hj).1.kept hS.2.1).narrow hA, ((h1 j hj).2.kept hS.2.1).narrow hA⟩, Ls, b1, b2, b3.kept (hS.2.1 _ b4 b5), Nat.lt_of_lt_of_le b4 hS.1, fun z => b5 (hA _ z)⟩
theorem Pcc.blind {D : va_G} {cs : CS} {ad : Nat → Nat} {sz : Nat} {av : List Value} {n : Nat} {R : RT} {I : IT} {J : JT} : FrameBlind (Pcc D cs ad sz av n R I J) := by
  intro a U g mk q
  obtain ⟨q0, q1, q2, q3, q4, q5, q6, q7, q8⟩ := q
  exact ⟨q0, q1, va_K.moved (u := U) (U := U.calling g mk a) (Vm.Alike.refl U.vm) q2, q3, q4, q5, fun w hw => va_Nw.same (by
    have h1 := (List.mem_filter.mp hw).2
    cases w <;> simp only [isNest] at h1 <;> first | (cases h1; done) | rfl) (rfl : U.vm = (U.calling g mk a).vm) (q6 w hw), va_AO.moved (u := U) (U := U.calling g mk a) (Vm.Alike.refl U.vm) q7, Stt.moved (s := U) (U := U.calling g mk a) (Vm.Alike.refl U.vm) q8⟩
/-- the class whose methods M has: its number among the objects' classes -/
def clsNo (M : MI) (ci : Nat) : Prop := vwC[ci]?.map (fun q => q.1) = some (MI.own M)
theorem e_callA {M M' : MI} {pc : Nat} {ins : Bool} {nA : Nat} (hs : Site M pc M' ins nA) {d d' cap : Nat} {L : LT} {st av rest : List Value} {n n' : Nat} {R : RT} {I : IT} {J : JT} {Q : QT} {Q' : Option Value → RT → IT → JT → Prop} (hc : Ct M' d' av n R I J n' Q') (hst : st = av.reverse ++ rest) (hd : d' < d) (hnn : n ≤ n') (hcap : n' ≤ cap) (hml : MI.maxL M' ≤ 60) (hn : av.length = nA) (hr8 : (rest.map fun v => v.category).sum ≤ 8)
    (hrc : ins = true → ∃ (ci o : Nat) (av' : List Value), av = .ref o :: av' ∧ o < n ∧ (sh o).1 = ci ∧ ci < 8 ∧ clsNo M' ci) (h1 : rest.all (okV n n') = true) (h2 : L.all (fun q => okV n n' q.2) = true)
    (k : ∀ r R' I' J', Q' r R' I' J' → Ends M d cap (pc + 3) L (r.toList ++ rest) n' R' I' J' Q) : Ends M d cap pc L st n R I J Q := by
  intro l p e Rm s m args below meth c D cs A ad0 I0 n0 QQ hC hc1 hc2 hr ad H locs ls hW hl
  subst hst
  have hWd := hW
  obtain ⟨a1, a2, a3, a4, a5, a6, a7, a8, a9⟩ := hW
  have hfree : ∀ q, va_A (pws cs ad n R I J) H.size q → A q := by
    intro q hq
    rcases hq with ⟨i, x, hi⟩ | hq
    · exact a3.2 i (q, x) hi
    · exact a5 q (Nat.le_trans a4.1 hq)
  have hcat : ((rest.map (cv ad)).map fun v => v.category).sum ≤ 8 := by
    rw [List.map_map, show ((fun v : Value => v.category) ∘ cv ad) = (fun v => v.category) from funext fun v => cv_cat ad v]; exact hr8
  have z1 := SZ_mono a7.1
  have z2 := SZ_mono hnn
  have z3 := SZ_mono hcap
  have hrun := hs l p e Rm s m args below meth c d H locs (n - n0) (SZ n - SZ n0) hC (rmM d' n n') _ _ _ _ _ (hc l D cs ad H.size) rfl rfl (by have := hC.2.2.2.2.2.2.2.2.2.2.1; show d' + 1 ≤ _; omega) (by have := hC.2.2.2.2.2.2.2.2.2.2.2; show 8 + (MI.maxL M' + 11) + 80 * d' ≤ _; omega) Pcc.blind (av.map (cv ad)) (by rw [List.length_map]; exact hn) (fun hi => by
      obtain ⟨ci, o, av', rfl, h3, h4, h5, h6⟩ := hrc hi
      cases hq : vwC[ci]? with
      | none => unfold clsNo at h6; rw [hq] at h6; cases h6
      | some q =>
        unfold clsNo at h6; rw [hq] at h6
        obtain ⟨cell, g1, g2, g3⟩ := va_recv a1 a2 hq ((pws_at h3).trans (by rw [pc_obj h4 (by omega)]))
        exact ⟨ad o, av'.map (cv ad), cell, rfl, g1, g2, by rw [← Option.some.inj h6]; exact g3⟩) (fun U hU hWm => ⟨rfl, by rw [hU], va_K.moved hWm.alike a1, by rw [hU]; exact a2, ⟨a3.1, fun _ _ _ => trivial⟩, ⟨a6, a7.2⟩, nw_warm hWm hC.2.2.2.2.2.1, va_AO.moved hWm.alike hC.2.2.2.2.2.2.1, by rw [hU]; exact (a9.to a4 hfree).moved hWm.alike⟩) ls (rest.map (cv ad)) hl.1 hcat ⟨by omega, by omega⟩
  have e0 : (av.reverse ++ rest).map (cv ad) = (av.map (cv ad)).reverse ++ rest.map (cv ad) := by rw [List.map_append, List.map_reverse]
  rw [e0]
  intro T hT X
  obtain ⟨v, st₀, t, T', Lc, g0, X', hL, g1, g2, ⟨⟨r, R', I', J', ad', hv, hq, had, hP1, hD1, hR1, _, h62, hi1, hi2⟩, hz, hk⟩, stp⟩ := hrun T hT X
  rw [g0] at hz hk
  have hv : v = r.map (cv ad') := by cases r <;> cases hv <;> rfl
  have hS' : va_S A s.heap T'.heap (locs ++ Lc) := ⟨Nat.le_trans a4.1 (by rw [g1]; exact hz), fun q q1 q2 => by rw [g1, hk q (Nat.lt_of_lt_of_le q1 a4.1) (fun z => q2 (hfree q z))]; exact a4.2.1 q q1 q2, fun q hq => by
    rcases List.mem_append.mp hq with h | h
    · exact a4.2.2 q h
    · exact hfree _ (hL q h)⟩
  have hSt' : Stt A s s.heap ad' I' := by
    obtain ⟨c1, Ls, c2, c3, c4, c5⟩ := a9
    refine ⟨fun j hj => by rw [had (1000 + j) (by omega)]; exact c1 j hj, Ls, c2, by rw [hi2]; exact c3, ?_, ?_⟩
    · rw [hi1, had 2000 (by omega)]; exact c4
    · rw [had 2000 (by omega)]; exact c5
  have hW' : Wd D cs A s ad0 I0 n0 ad' n' R' I' J' T'.heap (locs ++ Lc) :=
    ⟨a1, by rw [g1]; exact hP1, ⟨hD1.1, fun i q hq => hfree _ (hD1.2 i q hq)⟩, hS', a5, hR1, ⟨by omega, h62⟩, ⟨fun o ho => by rw [had o (by omega)]; exact a8.1 o (by omega), hi1.trans a8.2.1, hi2.trans a8.2.2⟩, hSt'⟩
  have hw := k r R' I' J' hq l p e Rm s m args below meth c D cs A ad0 I0 n0 QQ hC hc1 hc2 hr ad' T'.heap (locs ++ Lc) ls hW' (by rw [cvl_ok had h2]; exact hl)
  have e1 : (r.toList ++ rest).map (cv ad') = v.toList ++ rest.map (cv ad) := by
    rw [List.map_append, cvs_ok had h1, hv]
    cases r <;> rfl
  rw [e1, show n' - n0 = n - n0 + (n' - n) by omega, show SZ n' - SZ n0 = SZ n - SZ n0 + (SZ n' - SZ n) by omega] at hw
  obtain ⟨t2, b1, b2⟩ := hw T' rfl X'
  exact ⟨t2, stp t2 b1, b2⟩
theorem okV_nn (n : Nat) (v : Value) : okV n n v = true := by
  cases v with
  | ref o =>
    simp only [okV, Bool.or_eq_true, Nat.blt_eq, Nat.ble_eq]
    omega
  | _ => rfl
/-- a call that makes nothing -/
theorem e_call {M M' : MI} {pc : Nat} {ins : Bool} {nA : Nat} (hs : Site M pc M' ins nA) {d d' cap : Nat} {L : LT} {st av rest : List Value} {n : Nat} {R : RT} {I : IT} {J : JT} {Q : QT} {Q' : Option Value → RT → IT → JT → Prop} (hc : Ct M' d' av n R I J n Q') (hst : st = av.reverse ++ rest) (hd : d' < d) (hcap : n ≤ cap) (hml : MI.maxL M' ≤ 60) (hn : av.length = nA) (hr8 : (rest.map fun v => v.category).sum ≤ 8)
    (hrc : ins = true → ∃ (ci o : Nat) (av' : List Value), av = .ref o :: av' ∧ o < n ∧ (sh o).1 = ci ∧ ci < 8 ∧ clsNo M' ci)
    (k : ∀ r R' I' J', Q' r R' I' J' → Ends M d cap (pc + 3) L (r.toList ++ rest) n R' I' J' Q) : Ends M d cap pc L st n R I J Q :=
  e_callA hs hc hst hd (Nat.le_refl n) hcap hml hn hr8 hrc (List.all_eq_true.mpr fun v _ => okV_nn n v) (List.all_eq_true.mpr fun q _ => okV_nn n q.2) k
