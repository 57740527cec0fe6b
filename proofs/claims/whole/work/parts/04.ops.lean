/-! OPERATIONS: each says what must hold for K to hold behind the instruction -/
abbrev KT : Type := LT → List Value → Nat → RT → IT → JT → Prop
abbrev OP : Type := LT → List Value → Nat → RT → IT → JT → KT → Prop
def Snd (M : MI) (a : Nat) (f : OP) (b : Nat) : Prop := ∀ (d cap : Nat) (L : LT) (st : List Value) (n : Nat) (R : RT) (I : IT) (J : JT) (Q : QT) (K : KT), (∀ L' st' n' R' I' J', K L' st' n' R' I' J' → Ends M d cap b L' st' n' R' I' J' Q) → f L st n R I J K → Ends M d cap a L st n R I J Q
def sq (f g : OP) : OP := fun L st n R I J K => f L st n R I J (fun L st n R I J => g L st n R I J K)
theorem snd_sq {M : MI} {a b c : Nat} {f g : OP} (h1 : Snd M a f b) (h2 : Snd M b g c) : Snd M a (sq f g) c := by
  intro d cap L st n R I J Q K hK hf
  exact h1 d cap L st n R I J Q _ (fun L' st' n' R' I' J' h => h2 d cap L' st' n' R' I' J' Q K hK h) hf
theorem blk {M : MI} {a b : Nat} {f : OP} (h : Snd M a f b) {d cap : Nat} {L : LT} {st : List Value} {n : Nat} {R : RT} {I : IT} {J : JT} {Q : QT} (hf : f L st n R I J (fun L' st' n' R' I' J' => Ends M d cap b L' st' n' R' I' J' Q)) : Ends M d cap a L st n R I J Q :=
  h d cap L st n R I J Q _ (fun _ _ _ _ _ _ h => h) hf
def findL : LT → Nat → Option Value
  | [], _ => none
  | (j, w) :: r, i => match Nat.beq j i with
    | true => some w
    | false => findL r i
theorem findL_mem {L : LT} {i : Nat} {v : Value} (h : findL L i = some v) : (i, v) ∈ L := by
  induction L with
  | nil => cases h
  | cons q r ih =>
    obtain ⟨j, w⟩ := q
    unfold findL at h
    split at h
    · rename_i hb
      have := Nat.eq_of_beq_eq_true hb
      subst this
      cases h
      exact List.mem_cons_self
    · exact List.mem_cons_of_mem _ (ih h)
theorem nbeq (a b : Nat) : Nat.beq a b = (a == b) := by rw [Bool.eq_iff_iff, beq_iff_eq, Nat.beq_eq]
def isL : Value → Bool
  | .long _ => true
  | .double _ => true
  | _ => false
theorem isL_cat (v : Value) : isL v = (v.category == 2) := by cases v <;> rfl
/-- does a store of so wide a value at i take away what stands at q? -/
def cfl (i : Nat) (lg : Bool) (q : Nat × Value) : Bool := Nat.beq q.1 i || (Nat.beq (q.1 + 1) i && isL q.2) || (lg && Nat.beq q.1 (i + 1))
def rmK (i : Nat) (lg : Bool) : LT → (LT → Prop) → Prop
  | [], k => k []
  | q :: r, k => match cfl i lg q with
    | true => rmK i lg r k
    | false => rmK i lg r (fun L' => k (q :: L'))
def setK (i : Nat) (v : Value) : LT → (LT → Prop) → Prop
  | [], k => k [(i, v)]
  | q :: r, k => match Nat.beq q.1 i with
    | true => rmK i (isL v) r (fun L' => k ((i, v) :: L'))
    | false => match cfl i (isL v) q with
      | true => setK i v r k
      | false => setK i v r (fun L' => k (q :: L'))
theorem rmK_spec {i : Nat} {lg : Bool} : ∀ {L : LT} {k : LT → Prop}, rmK i lg L k → ∃ L', k L' ∧ ∀ q ∈ L', q ∈ L ∧ cfl i lg q = false
  | [], k, h => ⟨[], h, fun _ h => absurd h List.not_mem_nil⟩
  | q :: r, k, h => by
    unfold rmK at h
    split at h
    · obtain ⟨L', h1, h2⟩ := rmK_spec h
      exact ⟨L', h1, fun x hx => ⟨List.mem_cons_of_mem _ (h2 x hx).1, (h2 x hx).2⟩⟩
    · rename_i hc
      obtain ⟨L', h1, h2⟩ := rmK_spec h
      refine ⟨q :: L', h1, fun x hx => ?_⟩
      rcases List.mem_cons.mp hx with h3 | h3
      · rw [h3]; exact ⟨List.mem_cons_self, hc⟩
      · exact ⟨List.mem_cons_of_mem _ (h2 x h3).1, (h2 x h3).2⟩
theorem setK_spec {i : Nat} {v : Value} : ∀ {L : LT} {k : LT → Prop}, setK i v L k → ∃ L', k L' ∧ ∀ q ∈ L', q = (i, v) ∨ (q ∈ L ∧ cfl i (isL v) q = false)
  | [], k, h => ⟨[(i, v)], h, fun q hq => Or.inl (List.mem_singleton.mp hq)⟩
  | q :: r, k, h => by
    unfold setK at h
    split at h
    · obtain ⟨L', h1, h2⟩ := rmK_spec h
      refine ⟨(i, v) :: L', h1, fun x hx => ?_⟩
      rcases List.mem_cons.mp hx with h3 | h3
      · exact Or.inl h3
      · exact Or.inr ⟨List.mem_cons_of_mem _ (h2 x h3).1, (h2 x h3).2⟩
    · split at h
      · obtain ⟨L', h1, h2⟩ := setK_spec h
        refine ⟨L', h1, fun x hx => ?_⟩
        rcases h2 x hx with h3 | h3
        · exact Or.inl h3
        · exact Or.inr ⟨List.mem_cons_of_mem _ h3.1, h3.2⟩
      · rename_i hc
        obtain ⟨L', h1, h2⟩ := setK_spec h
        refine ⟨q :: L', h1, fun x hx => ?_⟩
        rcases List.mem_cons.mp hx with h3 | h3
        · rw [h3]; exact Or.inr ⟨List.mem_cons_self, hc⟩
        · rcases h2 x h3 with h4 | h4
          · exact Or.inl h4
          · exact Or.inr ⟨List.mem_cons_of_mem _ h4.1, h4.2⟩
theorem lv_at2 {ls : Array Slot} {nL : Nat} {L : LT} {ad : Nat → Nat} (h : lv_has ls nL (L.map (cvq ad))) {i : Nat} {v : Value} (hf : findL L i = some v) : ls[i]? = some (.val (cv ad v)) :=
  h.2.2 (i, cv ad v) (List.mem_map.mpr ⟨(i, v), findL_mem hf, rfl⟩)
theorem lv_wk {ls : Array Slot} {nL : Nat} {l l' : LT} (h : lv_has ls nL l) (hs : ∀ q ∈ l', q ∈ l) : lv_has ls nL l' := ⟨h.1, h.2.1, fun q hq => h.2.2 q (hs q hq)⟩
theorem lv_set1 {ls : Array Slot} {nL i : Nat} {L L' : LT} {ad : Nat → Nat} {v w : Value} (hw : w = cv ad v) (hs : ∀ q ∈ L', q = (i, v) ∨ (q ∈ L ∧ cfl i (isL v) q = false)) (h : lv_has ls nL ((i, w) :: (L.map (cvq ad)).filter (fun q => !(q.1 == i) && !(q.1 + 1 == i && q.2.category == 2)))) : lv_has ls nL (L'.map (cvq ad)) := by
  refine lv_wk h fun q hq => ?_
  obtain ⟨q0, h0, rfl⟩ := List.mem_map.mp hq
  rcases hs q0 h0 with h1 | ⟨h1, h2⟩
  · subst h1; subst hw; exact List.mem_cons_self
  · refine List.mem_cons_of_mem _ (List.mem_filter.mpr ⟨List.mem_map.mpr ⟨q0, h1, rfl⟩, ?_⟩)
    simp only [cfl, nbeq, Bool.or_eq_false_iff] at h2
    obtain ⟨⟨h2, h3⟩, -⟩ := h2
    simp only [cvq, cv_cat, ← isL_cat]
    rw [Bool.and_eq_true]
    exact ⟨by rw [Bool.not_eq_true']; exact h2, by rw [Bool.not_eq_true']; exact h3⟩
theorem lv_set2 {ls : Array Slot} {nL i : Nat} {L L' : LT} {ad : Nat → Nat} {v w : Value} (hl : isL v = true) (hw : w = cv ad v) (hs : ∀ q ∈ L', q = (i, v) ∨ (q ∈ L ∧ cfl i (isL v) q = false)) (h : lv_has ls nL ((i, w) :: (L.map (cvq ad)).filter (fun q => !(q.1 == i) && (!(q.1 == i + 1) && !(q.1 + 1 == i && q.2.category == 2))))) : lv_has ls nL (L'.map (cvq ad)) := by
  refine lv_wk h fun q hq => ?_
  obtain ⟨q0, h0, rfl⟩ := List.mem_map.mp hq
  rcases hs q0 h0 with h1 | ⟨h1, h2⟩
  · subst h1; subst hw; exact List.mem_cons_self
  · refine List.mem_cons_of_mem _ (List.mem_filter.mpr ⟨List.mem_map.mpr ⟨q0, h1, rfl⟩, ?_⟩)
    rw [hl] at h2
    simp only [cfl, nbeq, Bool.or_eq_false_iff, Bool.true_and] at h2
    obtain ⟨⟨h2, h3⟩, h4⟩ := h2
    simp only [cvq, cv_cat, ← isL_cat]
    rw [Bool.and_eq_true, Bool.and_eq_true]
    exact ⟨by rw [Bool.not_eq_true']; exact h2, by rw [Bool.not_eq_true']; exact h4, by rw [Bool.not_eq_true']; exact h3⟩
/-- an instruction that touches no heap -/
theorem ends_go {M : MI} {d cap pc pc' : Nat} {L L' : LT} {st st' : List Value} {n : Nat} {R : RT} {I : IT} {J : JT} {Q : QT}
    (h : ∀ (l : Launch) (p : Program) (e : Env) (Rm : Room) (s : State) (m : MethodId) (args : Array Value) (below : List Frame) (meth : Method) (c : Code) (QQ : State → Prop) (H : Heap) (locs : List Loc) (cells slots : Nat) (ls : Array Slot) (ad : Nat → Nat), Cx M d p Rm s m args meth c → lv_has ls (MI.maxL M) (L.map (cvq ad)) →
      (∀ ls' : Array Slot, lv_has ls' (MI.maxL M) (L'.map (cvq ad)) → W p l e Rm s m args below meth c H locs cells slots QQ (F0 m pc' ls' (st'.map (cv ad)))) → W p l e Rm s m args below meth c H locs cells slots QQ (F0 m pc ls (st.map (cv ad))))
    (k : Ends M d cap pc' L' st' n R I J Q) : Ends M d cap pc L st n R I J Q := by
  intro l p e Rm s m args below meth c D cs A ad0 I0 n0 QQ hC hc1 hc2 hr ad H locs ls hW hl
  exact h l p e Rm s m args below meth c QQ H locs _ _ ls ad hC hl (fun ls' hl' => k l p e Rm s m args below meth c D cs A ad0 I0 n0 QQ hC hc1 hc2 hr ad H locs ls' hW hl')
theorem wk {M : MI} {d cap pc : Nat} {L : LT} (L' : LT) {st : List Value} {n : Nat} {R : RT} {I : IT} {J : JT} {Q : QT} (hs : ∀ q ∈ L', q ∈ L) (k : Ends M d cap pc L' st n R I J Q) : Ends M d cap pc L st n R I J Q :=
  ends_go (fun _ _ _ _ _ _ _ _ _ _ _ _ _ _ _ ls ad _ hl kk => kk ls (lv_wk hl (fun q hq => by
    obtain ⟨q0, h0, rfl⟩ := List.mem_map.mp hq
    exact List.mem_map.mpr ⟨q0, hs q0 h0, rfl⟩))) k

def opiadd : OP := fun L st n R I J K => match st with
  | .int y :: .int x :: r => K L (.int (x + y) :: r) n R I J
  | _ => False
theorem snd_iadd {M : MI} {pc : Nat} (hd : decode (MI.bytes M) pc = .ok (.iadd, 1)) : Snd M pc opiadd (pc + 1) := by
  intro d cap L st n R I J Q K hK hf
  unfold opiadd at hf
  split at hf
  · exact ends_go (fun l p e Rm s m args below meth c QQ H locs cells slots ls ad hC hl kk => lv_iadd hC.1 hC.2.1 hd (kk ls hl)) (hK _ _ _ _ _ _ hf)
  · exact hf.elim
def opisub : OP := fun L st n R I J K => match st with
  | .int y :: .int x :: r => K L (.int (x - y) :: r) n R I J
  | _ => False
theorem snd_isub {M : MI} {pc : Nat} (hd : decode (MI.bytes M) pc = .ok (.isub, 1)) : Snd M pc opisub (pc + 1) := by
  intro d cap L st n R I J Q K hK hf
  unfold opisub at hf
  split at hf
  · exact ends_go (fun l p e Rm s m args below meth c QQ H locs cells slots ls ad hC hl kk => lv_isub hC.1 hC.2.1 hd (kk ls hl)) (hK _ _ _ _ _ _ hf)
  · exact hf.elim
def opimul : OP := fun L st n R I J K => match st with
  | .int y :: .int x :: r => K L (.int (x * y) :: r) n R I J
  | _ => False
theorem snd_imul {M : MI} {pc : Nat} (hd : decode (MI.bytes M) pc = .ok (.imul, 1)) : Snd M pc opimul (pc + 1) := by
  intro d cap L st n R I J Q K hK hf
  unfold opimul at hf
  split at hf
  · exact ends_go (fun l p e Rm s m args below meth c QQ H locs cells slots ls ad hC hl kk => lv_imul hC.1 hC.2.1 hd (kk ls hl)) (hK _ _ _ _ _ _ hf)
  · exact hf.elim
def opiand : OP := fun L st n R I J K => match st with
  | .int y :: .int x :: r => K L (.int (x &&& y) :: r) n R I J
  | _ => False
theorem snd_iand {M : MI} {pc : Nat} (hd : decode (MI.bytes M) pc = .ok (.iand, 1)) : Snd M pc opiand (pc + 1) := by
  intro d cap L st n R I J Q K hK hf
  unfold opiand at hf
  split at hf
  · exact ends_go (fun l p e Rm s m args below meth c QQ H locs cells slots ls ad hC hl kk => lv_iand hC.1 hC.2.1 hd (kk ls hl)) (hK _ _ _ _ _ _ hf)
  · exact hf.elim
def opior : OP := fun L st n R I J K => match st with
  | .int y :: .int x :: r => K L (.int (x ||| y) :: r) n R I J
  | _ => False
theorem snd_ior {M : MI} {pc : Nat} (hd : decode (MI.bytes M) pc = .ok (.ior, 1)) : Snd M pc opior (pc + 1) := by
  intro d cap L st n R I J Q K hK hf
  unfold opior at hf
  split at hf
  · exact ends_go (fun l p e Rm s m args below meth c QQ H locs cells slots ls ad hC hl kk => lv_ior hC.1 hC.2.1 hd (kk ls hl)) (hK _ _ _ _ _ _ hf)
  · exact hf.elim
def opixor : OP := fun L st n R I J K => match st with
  | .int y :: .int x :: r => K L (.int (x ^^^ y) :: r) n R I J
  | _ => False
theorem snd_ixor {M : MI} {pc : Nat} (hd : decode (MI.bytes M) pc = .ok (.ixor, 1)) : Snd M pc opixor (pc + 1) := by
  intro d cap L st n R I J Q K hK hf
  unfold opixor at hf
  split at hf
  · exact ends_go (fun l p e Rm s m args below meth c QQ H locs cells slots ls ad hC hl kk => lv_ixor hC.1 hC.2.1 hd (kk ls hl)) (hK _ _ _ _ _ _ hf)
  · exact hf.elim
def opishl : OP := fun L st n R I J K => match st with
  | .int y :: .int x :: r => K L (.int (x <<< (y &&& 31)) :: r) n R I J
  | _ => False
theorem snd_ishl {M : MI} {pc : Nat} (hd : decode (MI.bytes M) pc = .ok (.ishl, 1)) : Snd M pc opishl (pc + 1) := by
  intro d cap L st n R I J Q K hK hf
  unfold opishl at hf
  split at hf
  · exact ends_go (fun l p e Rm s m args below meth c QQ H locs cells slots ls ad hC hl kk => lv_ishl hC.1 hC.2.1 hd (kk ls hl)) (hK _ _ _ _ _ _ hf)
  · exact hf.elim
def opishr : OP := fun L st n R I J K => match st with
  | .int y :: .int x :: r => K L (.int (x >>> (y &&& 31)) :: r) n R I J
  | _ => False
theorem snd_ishr {M : MI} {pc : Nat} (hd : decode (MI.bytes M) pc = .ok (.ishr, 1)) : Snd M pc opishr (pc + 1) := by
  intro d cap L st n R I J Q K hK hf
  unfold opishr at hf
  split at hf
  · exact ends_go (fun l p e Rm s m args below meth c QQ H locs cells slots ls ad hC hl kk => lv_ishr hC.1 hC.2.1 hd (kk ls hl)) (hK _ _ _ _ _ _ hf)
  · exact hf.elim
def opiushr : OP := fun L st n R I J K => match st with
  | .int y :: .int x :: r => K L (.int ((x.toUInt32 >>> (y.toUInt32 &&& Int32.toUInt32 31)).toInt32) :: r) n R I J
  | _ => False
theorem snd_iushr {M : MI} {pc : Nat} (hd : decode (MI.bytes M) pc = .ok (.iushr, 1)) : Snd M pc opiushr (pc + 1) := by
  intro d cap L st n R I J Q K hK hf
  unfold opiushr at hf
  split at hf
  · exact ends_go (fun l p e Rm s m args below meth c QQ H locs cells slots ls ad hC hl kk => lv_iushr hC.1 hC.2.1 hd rfl (kk ls hl)) (hK _ _ _ _ _ _ hf)
  · exact hf.elim
def opladd : OP := fun L st n R I J K => match st with
  | .long y :: .long x :: r => K L (.long (x + y) :: r) n R I J
  | _ => False
theorem snd_ladd {M : MI} {pc : Nat} (hd : decode (MI.bytes M) pc = .ok (.ladd, 1)) : Snd M pc opladd (pc + 1) := by
  intro d cap L st n R I J Q K hK hf
  unfold opladd at hf
  split at hf
  · exact ends_go (fun l p e Rm s m args below meth c QQ H locs cells slots ls ad hC hl kk => lv_ladd hC.1 hC.2.1 hd (kk ls hl)) (hK _ _ _ _ _ _ hf)
  · exact hf.elim
def oplsub : OP := fun L st n R I J K => match st with
  | .long y :: .long x :: r => K L (.long (x - y) :: r) n R I J
  | _ => False
theorem snd_lsub {M : MI} {pc : Nat} (hd : decode (MI.bytes M) pc = .ok (.lsub, 1)) : Snd M pc oplsub (pc + 1) := by
  intro d cap L st n R I J Q K hK hf
  unfold oplsub at hf
  split at hf
  · exact ends_go (fun l p e Rm s m args below meth c QQ H locs cells slots ls ad hC hl kk => lv_lsub hC.1 hC.2.1 hd (kk ls hl)) (hK _ _ _ _ _ _ hf)
  · exact hf.elim
def oplmul : OP := fun L st n R I J K => match st with
  | .long y :: .long x :: r => K L (.long (x * y) :: r) n R I J
  | _ => False
theorem snd_lmul {M : MI} {pc : Nat} (hd : decode (MI.bytes M) pc = .ok (.lmul, 1)) : Snd M pc oplmul (pc + 1) := by
  intro d cap L st n R I J Q K hK hf
  unfold oplmul at hf
  split at hf
  · exact ends_go (fun l p e Rm s m args below meth c QQ H locs cells slots ls ad hC hl kk => lv_lmul hC.1 hC.2.1 hd (kk ls hl)) (hK _ _ _ _ _ _ hf)
  · exact hf.elim
def opland : OP := fun L st n R I J K => match st with
  | .long y :: .long x :: r => K L (.long (x &&& y) :: r) n R I J
  | _ => False
theorem snd_land {M : MI} {pc : Nat} (hd : decode (MI.bytes M) pc = .ok (.land, 1)) : Snd M pc opland (pc + 1) := by
  intro d cap L st n R I J Q K hK hf
  unfold opland at hf
  split at hf
  · exact ends_go (fun l p e Rm s m args below meth c QQ H locs cells slots ls ad hC hl kk => lv_land hC.1 hC.2.1 hd (kk ls hl)) (hK _ _ _ _ _ _ hf)
  · exact hf.elim
def oplor : OP := fun L st n R I J K => match st with
  | .long y :: .long x :: r => K L (.long (x ||| y) :: r) n R I J
  | _ => False
theorem snd_lor {M : MI} {pc : Nat} (hd : decode (MI.bytes M) pc = .ok (.lor, 1)) : Snd M pc oplor (pc + 1) := by
  intro d cap L st n R I J Q K hK hf
  unfold oplor at hf
  split at hf
  · exact ends_go (fun l p e Rm s m args below meth c QQ H locs cells slots ls ad hC hl kk => lv_lor hC.1 hC.2.1 hd (kk ls hl)) (hK _ _ _ _ _ _ hf)
  · exact hf.elim
def oplxor : OP := fun L st n R I J K => match st with
  | .long y :: .long x :: r => K L (.long (x ^^^ y) :: r) n R I J
  | _ => False
theorem snd_lxor {M : MI} {pc : Nat} (hd : decode (MI.bytes M) pc = .ok (.lxor, 1)) : Snd M pc oplxor (pc + 1) := by
  intro d cap L st n R I J Q K hK hf
  unfold oplxor at hf
  split at hf
  · exact ends_go (fun l p e Rm s m args below meth c QQ H locs cells slots ls ad hC hl kk => lv_lxor hC.1 hC.2.1 hd (kk ls hl)) (hK _ _ _ _ _ _ hf)
  · exact hf.elim
def opldiv : OP := fun L st n R I J K => match st with
  | .long y :: .long x :: r => (¬ y = 0) ∧ K L (.long (x / y) :: r) n R I J
  | _ => False
theorem snd_ldiv {M : MI} {pc : Nat} (hd : decode (MI.bytes M) pc = .ok (.ldiv, 1)) : Snd M pc opldiv (pc + 1) := by
  intro d cap L st n R I J Q K hK hf
  unfold opldiv at hf
  split at hf
  · exact ends_go (fun l p e Rm s m args below meth c QQ H locs cells slots ls ad hC hl kk => lv_ldiv hC.1 hC.2.1 hd hf.1 (kk ls hl)) (hK _ _ _ _ _ _ hf.2)
  · exact hf.elim
def oplrem : OP := fun L st n R I J K => match st with
  | .long y :: .long x :: r => (¬ y = 0) ∧ K L (.long (x - x / y * y) :: r) n R I J
  | _ => False
theorem snd_lrem {M : MI} {pc : Nat} (hd : decode (MI.bytes M) pc = .ok (.lrem, 1)) : Snd M pc oplrem (pc + 1) := by
  intro d cap L st n R I J Q K hK hf
  unfold oplrem at hf
  split at hf
  · exact ends_go (fun l p e Rm s m args below meth c QQ H locs cells slots ls ad hC hl kk => lv_lrem hC.1 hC.2.1 hd hf.1 (kk ls hl)) (hK _ _ _ _ _ _ hf.2)
  · exact hf.elim
def oplshl : OP := fun L st n R I J K => match st with
  | .int y :: .long x :: r => K L (.long (x <<< (y.toInt64 &&& 63)) :: r) n R I J
  | _ => False
theorem snd_lshl {M : MI} {pc : Nat} (hd : decode (MI.bytes M) pc = .ok (.lshl, 1)) : Snd M pc oplshl (pc + 1) := by
  intro d cap L st n R I J Q K hK hf
  unfold oplshl at hf
  split at hf
  · exact ends_go (fun l p e Rm s m args below meth c QQ H locs cells slots ls ad hC hl kk => lv_lshl hC.1 hC.2.1 hd rfl (kk ls hl)) (hK _ _ _ _ _ _ hf)
  · exact hf.elim
def oplushr : OP := fun L st n R I J K => match st with
  | .int y :: .long x :: r => K L (.long ((x.toUInt64 >>> (y.toInt64.toUInt64 &&& Int64.toUInt64 63)).toInt64) :: r) n R I J
  | _ => False
theorem snd_lushr {M : MI} {pc : Nat} (hd : decode (MI.bytes M) pc = .ok (.lushr, 1)) : Snd M pc oplushr (pc + 1) := by
  intro d cap L st n R I J Q K hK hf
  unfold oplushr at hf
  split at hf
  · exact ends_go (fun l p e Rm s m args below meth c QQ H locs cells slots ls ad hC hl kk => lv_lushr hC.1 hC.2.1 hd rfl (kk ls hl)) (hK _ _ _ _ _ _ hf)
  · exact hf.elim
def opi2l : OP := fun L st n R I J K => match st with
  | .int x :: r => K L (.long x.toInt64 :: r) n R I J
  | _ => False
theorem snd_i2l {M : MI} {pc : Nat} (hd : decode (MI.bytes M) pc = .ok (.i2l, 1)) : Snd M pc opi2l (pc + 1) := by
  intro d cap L st n R I J Q K hK hf
  unfold opi2l at hf
  split at hf
  · exact ends_go (fun l p e Rm s m args below meth c QQ H locs cells slots ls ad hC hl kk => lv_i2l hC.1 hC.2.1 hd rfl (kk ls hl)) (hK _ _ _ _ _ _ hf)
  · exact hf.elim
def opl2i : OP := fun L st n R I J K => match st with
  | .long x :: r => K L (.int x.toInt32 :: r) n R I J
  | _ => False
theorem snd_l2i {M : MI} {pc : Nat} (hd : decode (MI.bytes M) pc = .ok (.l2i, 1)) : Snd M pc opl2i (pc + 1) := by
  intro d cap L st n R I J Q K hK hf
  unfold opl2i at hf
  split at hf
  · exact ends_go (fun l p e Rm s m args below meth c QQ H locs cells slots ls ad hC hl kk => lv_l2i hC.1 hC.2.1 hd rfl (kk ls hl)) (hK _ _ _ _ _ _ hf)
  · exact hf.elim
def oplcmp : OP := fun L st n R I J K => match st with
  | .long y :: .long x :: r => K L (.int (lg_cmp x y) :: r) n R I J
  | _ => False
theorem snd_lcmp {M : MI} {pc : Nat} (hd : decode (MI.bytes M) pc = .ok (.lcmp, 1)) : Snd M pc oplcmp (pc + 1) := by
  intro d cap L st n R I J Q K hK hf
  unfold oplcmp at hf
  split at hf
  · exact ends_go (fun l p e Rm s m args below meth c QQ H locs cells slots ls ad hC hl kk => W.lcmp hC.1 hC.2.1 hd (kk ls hl)) (hK _ _ _ _ _ _ hf)
  · exact hf.elim
def opCi (v : Int32) : OP := fun L st n R I J K => K L (.int v :: st) n R I J
def opCl (v : Int64) : OP := fun L st n R I J K => K L (.long v :: st) n R I J
theorem snd_iconst {M : MI} {pc : Nat} {k : Int} {v : Int32} (hv : Int32.ofInt k = v) (hd : decode (MI.bytes M) pc = .ok (.iconst k, 1)) : Snd M pc (opCi v) (pc + 1) := by
  intro d cap L st n R I J Q K hK hf
  exact ends_go (fun l p e Rm s m args below meth c QQ H locs cells slots ls ad hC hl kk => lv_iconst hC.1 hC.2.1 hd hv (kk ls hl)) (hK _ _ _ _ _ _ hf)
theorem snd_bipush {M : MI} {pc : Nat} {k : Int} {v : Int32} (hv : (Int8.ofInt k).toInt32 = v) (hd : decode (MI.bytes M) pc = .ok (.bipush k, 2)) : Snd M pc (opCi v) (pc + 2) := by
  intro d cap L st n R I J Q K hK hf
  exact ends_go (fun l p e Rm s m args below meth c QQ H locs cells slots ls ad hC hl kk => lv_bipush hC.1 hC.2.1 hd hv (kk ls hl)) (hK _ _ _ _ _ _ hf)
theorem snd_sipush {M : MI} {pc : Nat} {k : Int} {v : Int32} (hv : (Int16.ofInt k).toInt32 = v) (hd : decode (MI.bytes M) pc = .ok (.sipush k, 3)) : Snd M pc (opCi v) (pc + 3) := by
  intro d cap L st n R I J Q K hK hf
  exact ends_go (fun l p e Rm s m args below meth c QQ H locs cells slots ls ad hC hl kk => lv_sipush hC.1 hC.2.1 hd hv (kk ls hl)) (hK _ _ _ _ _ _ hf)
theorem snd_lconst {M : MI} {pc : Nat} {k : Fin 2} {v : Int64} (hv : Int64.ofNat (k : Nat) = v) (hd : decode (MI.bytes M) pc = .ok (.lconst k, 1)) : Snd M pc (opCl v) (pc + 1) := by
  intro d cap L st n R I J Q K hK hf
  exact ends_go (fun l p e Rm s m args below meth c QQ H locs cells slots ls ad hC hl kk => lv_lconst hC.1 hC.2.1 hd hv (kk ls hl)) (hK _ _ _ _ _ _ hf)
theorem snd_ldc {M : MI} {pc : Nat} {k : Nat} {v : Int32} (hw : Cond.constant (MI.own M) k v ∈ wsG) (hd : decode (MI.bytes M) pc = .ok (.ldc k, 2)) : Snd M pc (opCi v) (pc + 2) := by
  intro d cap L st n R I J Q K hK hf
  exact ends_go (fun l p e Rm s m args below meth c QQ H locs cells slots ls ad hC hl kk => lv_ldc hC.1 hC.2.1 hC.2.2.2.1 (hC.2.2.2.2.1 _ hw) hd (kk ls hl)) (hK _ _ _ _ _ _ hf)
theorem snd_ldcw {M : MI} {pc : Nat} {k : Nat} {v : Int32} (hw : Cond.constant (MI.own M) k v ∈ wsG) (hd : decode (MI.bytes M) pc = .ok (.ldc_w k, 3)) : Snd M pc (opCi v) (pc + 3) := by
  intro d cap L st n R I J Q K hK hf
  exact ends_go (fun l p e Rm s m args below meth c QQ H locs cells slots ls ad hC hl kk => lv_ldcw hC.1 hC.2.1 hC.2.2.2.1 (hC.2.2.2.2.1 _ hw) hd (kk ls hl)) (hK _ _ _ _ _ _ hf)
theorem snd_ldc2 {M : MI} {pc : Nat} {k : Nat} {v : Int64} (hw : Cond.constantLong (MI.own M) k v ∈ wsG) (hd : decode (MI.bytes M) pc = .ok (.ldc2_w k, 3)) : Snd M pc (opCl v) (pc + 3) := by
  intro d cap L st n R I J Q K hK hf
  exact ends_go (fun l p e Rm s m args below meth c QQ H locs cells slots ls ad hC hl kk => lv_ldc2 hC.1 hC.2.1 hC.2.2.2.1 (hC.2.2.2.2.1 _ hw) hd (kk ls hl)) (hK _ _ _ _ _ _ hf)
def opLdI (i : Nat) : OP := fun L st n R I J K => match findL L i with
  | some (.int x) => K L (.int x :: st) n R I J
  | _ => False
theorem snd_iload {M : MI} {pc i : Nat} (hd : decode (MI.bytes M) pc = .ok (.iload i, 2)) : Snd M pc (opLdI i) (pc + 2) := by
  intro d cap L st n R I J Q K hK hf
  unfold opLdI at hf
  split at hf
  · rename_i x hx
    exact ends_go (fun l p e Rm s m args below meth c QQ H locs cells slots ls ad hC hl kk => lv_iload hC.1 hC.2.1 hd (lv_at2 hl hx) (kk ls hl)) (hK _ _ _ _ _ _ hf)
  · exact hf.elim
theorem snd_iload_n {M : MI} {pc i : Nat} {k : Fin 4} (hd : decode (MI.bytes M) pc = .ok (.iload_n k, 1)) (hi : (k : Nat) = i) : Snd M pc (opLdI i) (pc + 1) := by
  intro d cap L st n R I J Q K hK hf
  unfold opLdI at hf
  split at hf
  · rename_i x hx
    exact ends_go (fun l p e Rm s m args below meth c QQ H locs cells slots ls ad hC hl kk => lv_iload_n hC.1 hC.2.1 hd hi (lv_at2 hl hx) (kk ls hl)) (hK _ _ _ _ _ _ hf)
  · exact hf.elim
def opStI (i : Nat) : OP := fun L st n R I J K => match st with
  | .int x :: r => setK i (.int x) L (fun L2 => K L2 r n R I J)
  | _ => False
theorem snd_istore {M : MI} {pc i : Nat} (hd : decode (MI.bytes M) pc = .ok (.istore i, 2)) (hb : i < MI.maxL M) : Snd M pc (opStI i) (pc + 2) := by
  intro d cap L st n R I J Q K hK hf
  unfold opStI at hf
  split at hf
  · obtain ⟨L2, h2, hs⟩ := setK_spec hf
    exact ends_go (fun l p e Rm s m args below meth c QQ H locs cells slots ls ad hC hl kk => lv_istore hC.1 hC.2.1 hd hl hb rfl (fun ls' h' => kk ls' (lv_set1 rfl hs h'))) (hK _ _ _ _ _ _ h2)
  · exact hf.elim
theorem snd_istore_n {M : MI} {pc i : Nat} {k : Fin 4} (hd : decode (MI.bytes M) pc = .ok (.istore_n k, 1)) (hi : (k : Nat) = i) (hb : i < MI.maxL M) : Snd M pc (opStI i) (pc + 1) := by
  intro d cap L st n R I J Q K hK hf
  unfold opStI at hf
  split at hf
  · obtain ⟨L2, h2, hs⟩ := setK_spec hf
    exact ends_go (fun l p e Rm s m args below meth c QQ H locs cells slots ls ad hC hl kk => lv_istore_n hC.1 hC.2.1 hd hi hl hb rfl (fun ls' h' => kk ls' (lv_set1 rfl hs h'))) (hK _ _ _ _ _ _ h2)
  · exact hf.elim
def opLdL (i : Nat) : OP := fun L st n R I J K => match findL L i with
  | some (.long x) => K L (.long x :: st) n R I J
  | _ => False
theorem snd_lload {M : MI} {pc i : Nat} (hd : decode (MI.bytes M) pc = .ok (.lload i, 2)) : Snd M pc (opLdL i) (pc + 2) := by
  intro d cap L st n R I J Q K hK hf
  unfold opLdL at hf
  split at hf
  · rename_i x hx
    exact ends_go (fun l p e Rm s m args below meth c QQ H locs cells slots ls ad hC hl kk => lv_lload hC.1 hC.2.1 hd (lv_at2 hl hx) (kk ls hl)) (hK _ _ _ _ _ _ hf)
  · exact hf.elim
theorem snd_lload_n {M : MI} {pc i : Nat} {k : Fin 4} (hd : decode (MI.bytes M) pc = .ok (.lload_n k, 1)) (hi : (k : Nat) = i) : Snd M pc (opLdL i) (pc + 1) := by
  intro d cap L st n R I J Q K hK hf
  unfold opLdL at hf
  split at hf
  · rename_i x hx
    exact ends_go (fun l p e Rm s m args below meth c QQ H locs cells slots ls ad hC hl kk => lv_lload_n hC.1 hC.2.1 hd hi (lv_at2 hl hx) (kk ls hl)) (hK _ _ _ _ _ _ hf)
  · exact hf.elim
def opStL (i : Nat) : OP := fun L st n R I J K => match st with
  | .long x :: r => setK i (.long x) L (fun L2 => K L2 r n R I J)
  | _ => False
theorem snd_lstore {M : MI} {pc i : Nat} (hd : decode (MI.bytes M) pc = .ok (.lstore i, 2)) (hb : i + 1 < MI.maxL M) : Snd M pc (opStL i) (pc + 2) := by
  intro d cap L st n R I J Q K hK hf
  unfold opStL at hf
  split at hf
  · obtain ⟨L2, h2, hs⟩ := setK_spec hf
    exact ends_go (fun l p e Rm s m args below meth c QQ H locs cells slots ls ad hC hl kk => lv_lstore hC.1 hC.2.1 hd hl hb rfl (fun ls' h' => kk ls' (lv_set2 rfl rfl hs h'))) (hK _ _ _ _ _ _ h2)
  · exact hf.elim
theorem snd_lstore_n {M : MI} {pc i : Nat} {k : Fin 4} (hd : decode (MI.bytes M) pc = .ok (.lstore_n k, 1)) (hi : (k : Nat) = i) (hb : i + 1 < MI.maxL M) : Snd M pc (opStL i) (pc + 1) := by
  intro d cap L st n R I J Q K hK hf
  unfold opStL at hf
  split at hf
  · obtain ⟨L2, h2, hs⟩ := setK_spec hf
    exact ends_go (fun l p e Rm s m args below meth c QQ H locs cells slots ls ad hC hl kk => lv_lstore_n hC.1 hC.2.1 hd hi hl hb rfl (fun ls' h' => kk ls' (lv_set2 rfl rfl hs h'))) (hK _ _ _ _ _ _ h2)
  · exact hf.elim
def opLdA (i : Nat) : OP := fun L st n R I J K => match findL L i with
  | some (.ref x) => K L (.ref x :: st) n R I J
  | _ => False
theorem snd_aload {M : MI} {pc i : Nat} (hd : decode (MI.bytes M) pc = .ok (.aload i, 2)) : Snd M pc (opLdA i) (pc + 2) := by
  intro d cap L st n R I J Q K hK hf
  unfold opLdA at hf
  split at hf
  · rename_i x hx
    exact ends_go (fun l p e Rm s m args below meth c QQ H locs cells slots ls ad hC hl kk => lv_aload hC.1 hC.2.1 hd (lv_at2 hl hx) (kk ls hl)) (hK _ _ _ _ _ _ hf)
  · exact hf.elim
theorem snd_aload_n {M : MI} {pc i : Nat} {k : Fin 4} (hd : decode (MI.bytes M) pc = .ok (.aload_n k, 1)) (hi : (k : Nat) = i) : Snd M pc (opLdA i) (pc + 1) := by
  intro d cap L st n R I J Q K hK hf
  unfold opLdA at hf
  split at hf
  · rename_i x hx
    exact ends_go (fun l p e Rm s m args below meth c QQ H locs cells slots ls ad hC hl kk => lv_aload_n hC.1 hC.2.1 hd hi (lv_at2 hl hx) (kk ls hl)) (hK _ _ _ _ _ _ hf)
  · exact hf.elim
def opStA (i : Nat) : OP := fun L st n R I J K => match st with
  | .ref x :: r => setK i (.ref x) L (fun L2 => K L2 r n R I J)
  | _ => False
theorem snd_astore {M : MI} {pc i : Nat} (hd : decode (MI.bytes M) pc = .ok (.astore i, 2)) (hb : i < MI.maxL M) : Snd M pc (opStA i) (pc + 2) := by
  intro d cap L st n R I J Q K hK hf
  unfold opStA at hf
  split at hf
  · obtain ⟨L2, h2, hs⟩ := setK_spec hf
    exact ends_go (fun l p e Rm s m args below meth c QQ H locs cells slots ls ad hC hl kk => lv_astore hC.1 hC.2.1 hd hl hb rfl (fun ls' h' => kk ls' (lv_set1 rfl hs h'))) (hK _ _ _ _ _ _ h2)
  · exact hf.elim
theorem snd_astore_n {M : MI} {pc i : Nat} {k : Fin 4} (hd : decode (MI.bytes M) pc = .ok (.astore_n k, 1)) (hi : (k : Nat) = i) (hb : i < MI.maxL M) : Snd M pc (opStA i) (pc + 1) := by
  intro d cap L st n R I J Q K hK hf
  unfold opStA at hf
  split at hf
  · obtain ⟨L2, h2, hs⟩ := setK_spec hf
    exact ends_go (fun l p e Rm s m args below meth c QQ H locs cells slots ls ad hC hl kk => lv_astore_n hC.1 hC.2.1 hd hi hl hb rfl (fun ls' h' => kk ls' (lv_set1 rfl hs h'))) (hK _ _ _ _ _ _ h2)
  · exact hf.elim
def opInc (i : Nat) (v : Int32) : OP := fun L st n R I J K => match findL L i with
  | some (.int x) => setK i (.int (x + v)) L (fun L2 => K L2 st n R I J)
  | _ => False
theorem snd_iinc {M : MI} {pc i : Nat} {k : Int} {v : Int32} (hd : decode (MI.bytes M) pc = .ok (.iinc i k, 3)) (hv : Int32.ofInt k = v) (hb : i < MI.maxL M) : Snd M pc (opInc i v) (pc + 3) := by
  intro d cap L st n R I J Q K hK hf
  unfold opInc at hf
  split at hf
  · rename_i x hx
    obtain ⟨L2, h2, hs⟩ := setK_spec hf
    refine ends_go (fun l p e Rm s m args below meth c QQ H locs cells slots ls ad hC hl kk => ?_) (hK _ _ _ _ _ _ h2)
    obtain ⟨j, hj⟩ := List.getElem?_of_mem (List.mem_map.mpr ⟨(i, Value.int x), findL_mem hx, rfl⟩ : cvq ad (i, Value.int x) ∈ L.map (cvq ad))
    exact lv_iinc (k := j) (v := x + v) hC.1 hC.2.1 hd hl hj (by rw [hv]) hb rfl (fun ls' h' => kk ls' (lv_set1 rfl hs h'))
  · exact hf.elim
def opNop : OP := fun L st n R I J K => K L st n R I J
theorem snd_goto {M : MI} {pc tgt : Nat} {off : Int} (hd : decode (MI.bytes M) pc = .ok (.goto off, 3)) (ht : (pc : Int) + off = (tgt : Int)) : Snd M pc opNop tgt := by
  intro d cap L st n R I J Q K hK hf
  exact ends_go (fun l p e Rm s m args below meth c QQ H locs cells slots ls ad hC hl kk => lv_goto hC.1 hC.2.1 hd ht (kk ls hl)) (hK _ _ _ _ _ _ hf)
def opDup : OP := fun L st n R I J K => match st with
  | v :: r => isL v = false ∧ K L (v :: v :: r) n R I J
  | _ => False
theorem snd_dup {M : MI} {pc : Nat} (hd : decode (MI.bytes M) pc = .ok (.dup, 1)) : Snd M pc opDup (pc + 1) := by
  intro d cap L st n R I J Q K hK hf
  unfold opDup at hf
  split at hf
  · rename_i v r
    have hc : v.category = 1 := by rcases lv_cat v with h | h; exact h; (have := hf.1; rw [isL_cat, h] at this; cases this)
    exact ends_go (fun l p e Rm s m args below meth c QQ H locs cells slots ls ad hC hl kk => lv_dup hC.1 hC.2.1 hd (by rw [cv_cat]; exact hc) (kk ls hl)) (hK _ _ _ _ _ _ hf.2)
  · exact hf.elim
def opDup2 : OP := fun L st n R I J K => match st with
  | .int x :: .ref o :: r => K L (.int x :: .ref o :: .int x :: .ref o :: r) n R I J
  | _ => False
theorem snd_dup2 {M : MI} {pc : Nat} (hd : decode (MI.bytes M) pc = .ok (.dup2, 1)) : Snd M pc opDup2 (pc + 1) := by
  intro d cap L st n R I J Q K hK hf
  unfold opDup2 at hf
  split at hf
  · exact ends_go (fun l p e Rm s m args below meth c QQ H locs cells slots ls ad hC hl kk => lv_dup2_11 hC.1 hC.2.1 hd rfl rfl (kk ls hl)) (hK _ _ _ _ _ _ hf)
  · exact hf.elim
def opPop : OP := fun L st n R I J K => match st with
  | .int x :: r => K L r n R I J
  | _ => False
theorem snd_pop {M : MI} {pc : Nat} (hd : decode (MI.bytes M) pc = .ok (.pop, 1)) : Snd M pc opPop (pc + 1) := by
  intro d cap L st n R I J Q K hK hf
  unfold opPop at hf
  split at hf
  · exact ends_go (fun l p e Rm s m args below meth c QQ H locs cells slots ls ad hC hl kk => lv_pop hC.1 hC.2.1 hd rfl (kk ls hl)) (hK _ _ _ _ _ _ hf)
  · exact hf.elim
def Br_if_eq (M : MI) (pc tgt : Nat) : Prop := ∀ {d cap : Nat} {L : LT} {x : Int32} {st : List Value} {n : Nat} {R : RT} {I : IT} {J : JT} {Q : QT}, (x = 0 → Ends M d cap tgt L st n R I J Q) → (¬ x = 0 → Ends M d cap (pc + 3) L st n R I J Q) → Ends M d cap pc L (.int x :: st) n R I J Q
theorem br_if_eq {M : MI} {pc tgt : Nat} {off : Int} (hd : decode (MI.bytes M) pc = .ok (.ifCond .eq off, 3)) (ht : (pc : Int) + off = (tgt : Int)) : Br_if_eq M pc tgt := by
  intro d cap L x st n R I J Q kt kf l p e Rm s m args below meth c D cs A ad0 I0 n0 QQ hC hc1 hc2 hr ad H locs ls hW hl
  exact lv_if_eq hC.1 hC.2.1 hd ht (fun h => kt h l p e Rm s m args below meth c D cs A ad0 I0 n0 QQ hC hc1 hc2 hr ad H locs ls hW hl) (fun h => kf h l p e Rm s m args below meth c D cs A ad0 I0 n0 QQ hC hc1 hc2 hr ad H locs ls hW hl)
def Br_ic_eq (M : MI) (pc tgt : Nat) : Prop := ∀ {d cap : Nat} {L : LT} {x y : Int32} {st : List Value} {n : Nat} {R : RT} {I : IT} {J : JT} {Q : QT}, (x = y → Ends M d cap tgt L st n R I J Q) → (¬ x = y → Ends M d cap (pc + 3) L st n R I J Q) → Ends M d cap pc L (.int y :: .int x :: st) n R I J Q
theorem br_ic_eq {M : MI} {pc tgt : Nat} {off : Int} (hd : decode (MI.bytes M) pc = .ok (.if_icmp .eq off, 3)) (ht : (pc : Int) + off = (tgt : Int)) : Br_ic_eq M pc tgt := by
  intro d cap L x y st n R I J Q kt kf l p e Rm s m args below meth c D cs A ad0 I0 n0 QQ hC hc1 hc2 hr ad H locs ls hW hl
  exact lv_icmp_eq hC.1 hC.2.1 hd ht (fun h => kt h l p e Rm s m args below meth c D cs A ad0 I0 n0 QQ hC hc1 hc2 hr ad H locs ls hW hl) (fun h => kf h l p e Rm s m args below meth c D cs A ad0 I0 n0 QQ hC hc1 hc2 hr ad H locs ls hW hl)
def Br_if_ne (M : MI) (pc tgt : Nat) : Prop := ∀ {d cap : Nat} {L : LT} {x : Int32} {st : List Value} {n : Nat} {R : RT} {I : IT} {J : JT} {Q : QT}, (¬ x = 0 → Ends M d cap tgt L st n R I J Q) → (x = 0 → Ends M d cap (pc + 3) L st n R I J Q) → Ends M d cap pc L (.int x :: st) n R I J Q
theorem br_if_ne {M : MI} {pc tgt : Nat} {off : Int} (hd : decode (MI.bytes M) pc = .ok (.ifCond .ne off, 3)) (ht : (pc : Int) + off = (tgt : Int)) : Br_if_ne M pc tgt := by
  intro d cap L x st n R I J Q kt kf l p e Rm s m args below meth c D cs A ad0 I0 n0 QQ hC hc1 hc2 hr ad H locs ls hW hl
  exact lv_if_ne hC.1 hC.2.1 hd ht (fun h => kt h l p e Rm s m args below meth c D cs A ad0 I0 n0 QQ hC hc1 hc2 hr ad H locs ls hW hl) (fun h => kf h l p e Rm s m args below meth c D cs A ad0 I0 n0 QQ hC hc1 hc2 hr ad H locs ls hW hl)
def Br_ic_ne (M : MI) (pc tgt : Nat) : Prop := ∀ {d cap : Nat} {L : LT} {x y : Int32} {st : List Value} {n : Nat} {R : RT} {I : IT} {J : JT} {Q : QT}, (¬ x = y → Ends M d cap tgt L st n R I J Q) → (x = y → Ends M d cap (pc + 3) L st n R I J Q) → Ends M d cap pc L (.int y :: .int x :: st) n R I J Q
theorem br_ic_ne {M : MI} {pc tgt : Nat} {off : Int} (hd : decode (MI.bytes M) pc = .ok (.if_icmp .ne off, 3)) (ht : (pc : Int) + off = (tgt : Int)) : Br_ic_ne M pc tgt := by
  intro d cap L x y st n R I J Q kt kf l p e Rm s m args below meth c D cs A ad0 I0 n0 QQ hC hc1 hc2 hr ad H locs ls hW hl
  exact lv_icmp_ne hC.1 hC.2.1 hd ht (fun h => kt h l p e Rm s m args below meth c D cs A ad0 I0 n0 QQ hC hc1 hc2 hr ad H locs ls hW hl) (fun h => kf h l p e Rm s m args below meth c D cs A ad0 I0 n0 QQ hC hc1 hc2 hr ad H locs ls hW hl)
def Br_if_lt (M : MI) (pc tgt : Nat) : Prop := ∀ {d cap : Nat} {L : LT} {x : Int32} {st : List Value} {n : Nat} {R : RT} {I : IT} {J : JT} {Q : QT}, (x < 0 → Ends M d cap tgt L st n R I J Q) → (¬ x < 0 → Ends M d cap (pc + 3) L st n R I J Q) → Ends M d cap pc L (.int x :: st) n R I J Q
theorem br_if_lt {M : MI} {pc tgt : Nat} {off : Int} (hd : decode (MI.bytes M) pc = .ok (.ifCond .lt off, 3)) (ht : (pc : Int) + off = (tgt : Int)) : Br_if_lt M pc tgt := by
  intro d cap L x st n R I J Q kt kf l p e Rm s m args below meth c D cs A ad0 I0 n0 QQ hC hc1 hc2 hr ad H locs ls hW hl
  exact lv_if_lt hC.1 hC.2.1 hd ht (fun h => kt h l p e Rm s m args below meth c D cs A ad0 I0 n0 QQ hC hc1 hc2 hr ad H locs ls hW hl) (fun h => kf h l p e Rm s m args below meth c D cs A ad0 I0 n0 QQ hC hc1 hc2 hr ad H locs ls hW hl)
def Br_ic_lt (M : MI) (pc tgt : Nat) : Prop := ∀ {d cap : Nat} {L : LT} {x y : Int32} {st : List Value} {n : Nat} {R : RT} {I : IT} {J : JT} {Q : QT}, (x < y → Ends M d cap tgt L st n R I J Q) → (¬ x < y → Ends M d cap (pc + 3) L st n R I J Q) → Ends M d cap pc L (.int y :: .int x :: st) n R I J Q
theorem br_ic_lt {M : MI} {pc tgt : Nat} {off : Int} (hd : decode (MI.bytes M) pc = .ok (.if_icmp .lt off, 3)) (ht : (pc : Int) + off = (tgt : Int)) : Br_ic_lt M pc tgt := by
  intro d cap L x y st n R I J Q kt kf l p e Rm s m args below meth c D cs A ad0 I0 n0 QQ hC hc1 hc2 hr ad H locs ls hW hl
  exact lv_icmp_lt hC.1 hC.2.1 hd ht (fun h => kt h l p e Rm s m args below meth c D cs A ad0 I0 n0 QQ hC hc1 hc2 hr ad H locs ls hW hl) (fun h => kf h l p e Rm s m args below meth c D cs A ad0 I0 n0 QQ hC hc1 hc2 hr ad H locs ls hW hl)
def Br_if_ge (M : MI) (pc tgt : Nat) : Prop := ∀ {d cap : Nat} {L : LT} {x : Int32} {st : List Value} {n : Nat} {R : RT} {I : IT} {J : JT} {Q : QT}, (0 ≤ x → Ends M d cap tgt L st n R I J Q) → (¬ 0 ≤ x → Ends M d cap (pc + 3) L st n R I J Q) → Ends M d cap pc L (.int x :: st) n R I J Q
theorem br_if_ge {M : MI} {pc tgt : Nat} {off : Int} (hd : decode (MI.bytes M) pc = .ok (.ifCond .ge off, 3)) (ht : (pc : Int) + off = (tgt : Int)) : Br_if_ge M pc tgt := by
  intro d cap L x st n R I J Q kt kf l p e Rm s m args below meth c D cs A ad0 I0 n0 QQ hC hc1 hc2 hr ad H locs ls hW hl
  exact lv_if_ge hC.1 hC.2.1 hd ht (fun h => kt h l p e Rm s m args below meth c D cs A ad0 I0 n0 QQ hC hc1 hc2 hr ad H locs ls hW hl) (fun h => kf h l p e Rm s m args below meth c D cs A ad0 I0 n0 QQ hC hc1 hc2 hr ad H locs ls hW hl)
def Br_ic_ge (M : MI) (pc tgt : Nat) : Prop := ∀ {d cap : Nat} {L : LT} {x y : Int32} {st : List Value} {n : Nat} {R : RT} {I : IT} {J : JT} {Q : QT}, (y ≤ x → Ends M d cap tgt L st n R I J Q) → (¬ y ≤ x → Ends M d cap (pc + 3) L st n R I J Q) → Ends M d cap pc L (.int y :: .int x :: st) n R I J Q
theorem br_ic_ge {M : MI} {pc tgt : Nat} {off : Int} (hd : decode (MI.bytes M) pc = .ok (.if_icmp .ge off, 3)) (ht : (pc : Int) + off = (tgt : Int)) : Br_ic_ge M pc tgt := by
  intro d cap L x y st n R I J Q kt kf l p e Rm s m args below meth c D cs A ad0 I0 n0 QQ hC hc1 hc2 hr ad H locs ls hW hl
  exact lv_icmp_ge hC.1 hC.2.1 hd ht (fun h => kt h l p e Rm s m args below meth c D cs A ad0 I0 n0 QQ hC hc1 hc2 hr ad H locs ls hW hl) (fun h => kf h l p e Rm s m args below meth c D cs A ad0 I0 n0 QQ hC hc1 hc2 hr ad H locs ls hW hl)
def Br_if_gt (M : MI) (pc tgt : Nat) : Prop := ∀ {d cap : Nat} {L : LT} {x : Int32} {st : List Value} {n : Nat} {R : RT} {I : IT} {J : JT} {Q : QT}, (0 < x → Ends M d cap tgt L st n R I J Q) → (¬ 0 < x → Ends M d cap (pc + 3) L st n R I J Q) → Ends M d cap pc L (.int x :: st) n R I J Q
theorem br_if_gt {M : MI} {pc tgt : Nat} {off : Int} (hd : decode (MI.bytes M) pc = .ok (.ifCond .gt off, 3)) (ht : (pc : Int) + off = (tgt : Int)) : Br_if_gt M pc tgt := by
  intro d cap L x st n R I J Q kt kf l p e Rm s m args below meth c D cs A ad0 I0 n0 QQ hC hc1 hc2 hr ad H locs ls hW hl
  exact lv_if_gt hC.1 hC.2.1 hd ht (fun h => kt h l p e Rm s m args below meth c D cs A ad0 I0 n0 QQ hC hc1 hc2 hr ad H locs ls hW hl) (fun h => kf h l p e Rm s m args below meth c D cs A ad0 I0 n0 QQ hC hc1 hc2 hr ad H locs ls hW hl)
def Br_ic_gt (M : MI) (pc tgt : Nat) : Prop := ∀ {d cap : Nat} {L : LT} {x y : Int32} {st : List Value} {n : Nat} {R : RT} {I : IT} {J : JT} {Q : QT}, (y < x → Ends M d cap tgt L st n R I J Q) → (¬ y < x → Ends M d cap (pc + 3) L st n R I J Q) → Ends M d cap pc L (.int y :: .int x :: st) n R I J Q
theorem br_ic_gt {M : MI} {pc tgt : Nat} {off : Int} (hd : decode (MI.bytes M) pc = .ok (.if_icmp .gt off, 3)) (ht : (pc : Int) + off = (tgt : Int)) : Br_ic_gt M pc tgt := by
  intro d cap L x y st n R I J Q kt kf l p e Rm s m args below meth c D cs A ad0 I0 n0 QQ hC hc1 hc2 hr ad H locs ls hW hl
  exact lv_icmp_gt hC.1 hC.2.1 hd ht (fun h => kt h l p e Rm s m args below meth c D cs A ad0 I0 n0 QQ hC hc1 hc2 hr ad H locs ls hW hl) (fun h => kf h l p e Rm s m args below meth c D cs A ad0 I0 n0 QQ hC hc1 hc2 hr ad H locs ls hW hl)
def Br_if_le (M : MI) (pc tgt : Nat) : Prop := ∀ {d cap : Nat} {L : LT} {x : Int32} {st : List Value} {n : Nat} {R : RT} {I : IT} {J : JT} {Q : QT}, (x ≤ 0 → Ends M d cap tgt L st n R I J Q) → (¬ x ≤ 0 → Ends M d cap (pc + 3) L st n R I J Q) → Ends M d cap pc L (.int x :: st) n R I J Q
theorem br_if_le {M : MI} {pc tgt : Nat} {off : Int} (hd : decode (MI.bytes M) pc = .ok (.ifCond .le off, 3)) (ht : (pc : Int) + off = (tgt : Int)) : Br_if_le M pc tgt := by
  intro d cap L x st n R I J Q kt kf l p e Rm s m args below meth c D cs A ad0 I0 n0 QQ hC hc1 hc2 hr ad H locs ls hW hl
  exact lv_if_le hC.1 hC.2.1 hd ht (fun h => kt h l p e Rm s m args below meth c D cs A ad0 I0 n0 QQ hC hc1 hc2 hr ad H locs ls hW hl) (fun h => kf h l p e Rm s m args below meth c D cs A ad0 I0 n0 QQ hC hc1 hc2 hr ad H locs ls hW hl)
def Br_ic_le (M : MI) (pc tgt : Nat) : Prop := ∀ {d cap : Nat} {L : LT} {x y : Int32} {st : List Value} {n : Nat} {R : RT} {I : IT} {J : JT} {Q : QT}, (x ≤ y → Ends M d cap tgt L st n R I J Q) → (¬ x ≤ y → Ends M d cap (pc + 3) L st n R I J Q) → Ends M d cap pc L (.int y :: .int x :: st) n R I J Q
theorem br_ic_le {M : MI} {pc tgt : Nat} {off : Int} (hd : decode (MI.bytes M) pc = .ok (.if_icmp .le off, 3)) (ht : (pc : Int) + off = (tgt : Int)) : Br_ic_le M pc tgt := by
  intro d cap L x y st n R I J Q kt kf l p e Rm s m args below meth c D cs A ad0 I0 n0 QQ hC hc1 hc2 hr ad H locs ls hW hl
  exact lv_icmp_le hC.1 hC.2.1 hd ht (fun h => kt h l p e Rm s m args below meth c D cs A ad0 I0 n0 QQ hC hc1 hc2 hr ad H locs ls hW hl) (fun h => kf h l p e Rm s m args below meth c D cs A ad0 I0 n0 QQ hC hc1 hc2 hr ad H locs ls hW hl)
theorem sw_in {M : MI} {pc tgt len : Nat} {dflt lo hi off : Int} {offs : Array Int} (hd : decode (MI.bytes M) pc = .ok (.tableswitch dflt lo hi offs, len)) {d cap : Nat} {L : LT} {x : Int32} {st : List Value} {n : Nat} {R : RT} {I : IT} {J : JT} {Q : QT} (h1 : ¬ x.toInt < lo) (h2 : ¬ hi < x.toInt) (ho : offs[(x.toInt - lo).toNat]? = some off) (ht : (pc : Int) + off = (tgt : Int)) (k : Ends M d cap tgt L st n R I J Q) : Ends M d cap pc L (.int x :: st) n R I J Q :=
  ends_go (fun l p e Rm s m args below meth c QQ H locs cells slots ls ad hC hl kk => lv_tableIn hC.1 hC.2.1 hd h1 h2 ho ht (kk ls hl)) k
theorem sw_out {M : MI} {pc tgt len : Nat} {dflt lo hi : Int} {offs : Array Int} (hd : decode (MI.bytes M) pc = .ok (.tableswitch dflt lo hi offs, len)) {d cap : Nat} {L : LT} {x : Int32} {st : List Value} {n : Nat} {R : RT} {I : IT} {J : JT} {Q : QT} (h : x.toInt < lo ∨ hi < x.toInt) (ht : (pc : Int) + dflt = (tgt : Int)) (k : Ends M d cap tgt L st n R I J Q) : Ends M d cap pc L (.int x :: st) n R I J Q :=
  ends_go (fun l p e Rm s m args below meth c QQ H locs cells slots ls ad hC hl kk => lv_tableOut hC.1 hC.2.1 hd h ht (kk ls hl)) k
theorem sw_look {M : MI} {pc tgt len : Nat} {dflt off : Int} {ps : Array (Int × Int)} (hd : decode (MI.bytes M) pc = .ok (.lookupswitch dflt ps, len)) (hp : (ps.toList.zip (ps.toList.drop 1)).all (fun (a, next) => a.1 < next.1) = true) {d cap : Nat} {L : LT} {x : Int32} {st : List Value} {n : Nat} {R : RT} {I : IT} {J : JT} {Q : QT} (ho : Op.lookupswitch.offset ps.toList dflt x.toInt = off) (ht : (pc : Int) + off = (tgt : Int)) (k : Ends M d cap tgt L st n R I J Q) : Ends M d cap pc L (.int x :: st) n R I J Q :=
  ends_go (fun l p e Rm s m args below meth c QQ H locs cells slots ls ad hC hl kk => lv_lookup hC.1 hC.2.1 hd hp ho ht (kk ls hl)) k
theorem e_ret {M : MI} {pc : Nat} {d cap : Nat} {L : LT} {st : List Value} {n : Nat} {R : RT} {I : IT} {J : JT} {Q : QT} {r : Option Value} (hs : st = r.toList) (hd : RetAt M pc r) (hq : Q r n R I J) : Ends M d cap pc L st n R I J Q := by
  intro l p e Rm s m args below meth c D cs A ad0 I0 n0 QQ hC hc1 hc2 hr ad H locs ls hW hl
  subst hs
  exact hr r n R I J ad H locs pc ls hq hW hd
theorem e_mono {M : MI} {pc : Nat} {d cap : Nat} {L : LT} {st : List Value} {n : Nat} {R : RT} {I : IT} {J : JT} {Q Q' : QT} (h : Ends M d cap pc L st n R I J Q) (hq : ∀ r n R I J, Q r n R I J → Q' r n R I J) : Ends M d cap pc L st n R I J Q' := by
  intro l p e Rm s m args below meth c D cs A ad0 I0 n0 QQ hC hc1 hc2 hr
  exact h l p e Rm s m args below meth c D cs A ad0 I0 n0 QQ hC hc1 hc2 (fun r n' R' I' J' ad' H' locs' pc' ls' h1 => hr r n' R' I' J' ad' H' locs' pc' ls' (hq _ _ _ _ _ h1))
