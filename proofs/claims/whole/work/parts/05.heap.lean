/-! HEAP OPERATIONS -/
def shK (o n c : Nat) (k : Nat → Prop) : Prop := match Nat.blt o n with
  | true => match sh o with
    | (c', len) => match Nat.beq c' c with
      | true => k len
      | false => False
  | false => False
theorem shK_spec {o n c : Nat} {k : Nat → Prop} (h : shK o n c k) : o < n ∧ (sh o).1 = c ∧ k (sh o).2 := by
  unfold shK at h
  split at h
  · rename_i h1
    have h1 : o < n := by rw [Nat.blt_eq] at h1; exact h1
    split at h
    rename_i c' len hs
    split at h
    · rename_i h2
      rw [hs]
      exact ⟨h1, Nat.eq_of_beq_eq_true h2, h⟩
    · exact h.elim
  · exact h.elim
theorem pc_int {cs : CS} {ad : Nat → Nat} {R : RT} {I : IT} {J : JT} {o : Nat} (h : (sh o).1 = 100) : pcell cs ad R I J o = .inl (cs.1, (sh o).2, .inl (I o)) := by unfold pcell; rw [if_pos h]
theorem pc_long {cs : CS} {ad : Nat → Nat} {R : RT} {I : IT} {J : JT} {o : Nat} (h : (sh o).1 = 101) : pcell cs ad R I J o = .inl (cs.2.1, (sh o).2, .inr (.inl (J o))) := by unfold pcell; rw [if_neg (by omega), if_pos h]
theorem pc_refs {cs : CS} {ad : Nat → Nat} {R : RT} {I : IT} {J : JT} {o : Nat} (h : (sh o).1 = 102) : pcell cs ad R I J o = .inl (cs.2.2, (sh o).2, .inr (.inr (.inr (.inr (fun k => (R o k).map ad))))) := by unfold pcell; rw [if_neg (by omega), if_neg (by omega), if_pos h]
theorem pc_obj {cs : CS} {ad : Nat → Nat} {R : RT} {I : IT} {J : JT} {o ci : Nat} (h : (sh o).1 = ci) (hc : ci < 100) : pcell cs ad R I J o = .inr (ci, (List.range (sh o).2).map (fv ad R I ci o)) := by unfold pcell; rw [if_neg (by omega), if_neg (by omega), if_neg (by omega), h]
theorem up2_o {α : Type} {f : Nat → Nat → α} {o k : Nat} {v : α} {a : Nat} (h : a ≠ o) : up2 f o k v a = f a := by funext b; unfold up2; rw [if_neg h]
theorem up2_i {f : IT} {o k : Nat} {v : Int32} : up2 f o k v o = upd (f o) k v := by funext b; unfold up2 upd; rw [if_pos rfl]
theorem up2_j {f : JT} {o k : Nat} {v : Int64} : up2 f o k v o = vp_updL (f o) k v := by funext b; unfold up2 vp_updL; rw [if_pos rfl]
/-- the objects of the class table have its number of fields -/
def szOk : Prop := ∀ o, o < 62 → (sh o).1 < 8 → vwC[(sh o).1]?.map (fun q => q.2.2) = some (sh o).2
theorem szOk_all : szOk := by unfold szOk; decide +kernel
theorem sh_out {o : Nat} (h : 62 ≤ o) : sh o = (999, 0) := by
  have key : ∀ (l : List (Nat × Nat)) (k : Nat), l.length ≤ k → nth (999, 0) l k = (999, 0) := by
    intro l
    induction l with
    | nil => intro k _; unfold nth; rfl
    | cons a l ih =>
      intro k hk
      cases k with
      | zero => simp at hk
      | succ k => unfold nth; exact ih k (by simp at hk; omega)
  exact key shL o h
theorem sh_lt {o : Nat} (h : (sh o).1 ≠ 999) : o < 62 := by
  rcases Nat.lt_or_ge o 62 with h1 | h1
  · exact h1
  · exact absurd (by rw [sh_out h1]) h
theorem sh_N {o ci N : Nat} {C : String} {T : u_T} (h : (sh o).1 = ci) (hci : ci < 8) (hc : vwC[ci]? = some (C, T, N)) : (sh o).2 = N := by
  have h1 := szOk_all o (sh_lt (by omega)) (by omega)
  rw [h, hc] at h1
  exact (Option.some.inj h1).symm
theorem Wd.mk2 {D : va_G} {cs : CS} {A : Nat → Prop} {s : State} {ad0 : Nat → Nat} {I0 : IT} {n0 : Nat} {ad : Nat → Nat} {n : Nat} {R R' : RT} {I I' : IT} {J J' : JT} {H H' : Heap} {locs locs' : List Loc} (h : Wd D cs A s ad0 I0 n0 ad n R I J H locs)
    (hP : va_P D vwC (pws cs ad n R' I' J') H') (hD : va_D A (pws cs ad n R' I' J')) (hS : va_S A s.heap H' locs') (hR : RefsOk n R') (h1 : I' 2000 = I 2000) (h2 : I' 2001 = I 2001) : Wd D cs A s ad0 I0 n0 ad n R' I' J' H' locs' := by
  obtain ⟨a1, a2, a3, a4, a5, a6, a7, a8, a9, Ls, b1, b2, b3⟩ := h
  exact ⟨a1, hP, hD, hS, a5, hR, a7, ⟨a8.1, h1.trans a8.2.1, h2.trans a8.2.2⟩, a9, Ls, b1, by rw [h2]; exact b2, by rw [h1]; exact b3⟩
theorem ends_hp {M : MI} {d cap pc pc' : Nat} {L : LT} {st st' : List Value} {n : Nat} {R R' : RT} {I I' : IT} {J J' : JT} {Q : QT}
    (h : ∀ (l : Launch) (p : Program) (e : Env) (Rm : Room) (s : State) (m : MethodId) (args : Array Value) (below : List Frame) (meth : Method) (c : Code) (D : va_G) (cs : CS) (A : Nat → Prop) (ad0 : Nat → Nat) (I0 : IT) (n0 : Nat) (QQ : State → Prop) (cells slots : Nat) (ad : Nat → Nat) (H : Heap) (locs : List Loc) (ls : Array Slot), Cx M d p Rm s m args meth c → Wd D cs A s ad0 I0 n0 ad n R I J H locs →
      (∀ (H' : Heap) (locs' : List Loc), Wd D cs A s ad0 I0 n0 ad n R' I' J' H' locs' → W p l e Rm s m args below meth c H' locs' cells slots QQ (F0 m pc' ls (st'.map (cv ad)))) → W p l e Rm s m args below meth c H locs cells slots QQ (F0 m pc ls (st.map (cv ad))))
    (k : Ends M d cap pc' L st' n R' I' J' Q) : Ends M d cap pc L st n R I J Q := by
  intro l p e Rm s m args below meth c D cs A ad0 I0 n0 QQ hC hc1 hc2 hr ad H locs ls hW hl
  exact h l p e Rm s m args below meth c D cs A ad0 I0 n0 QQ _ _ ad H locs ls hC hW (fun H' locs' hW' => k l p e Rm s m args below meth c D cs A ad0 I0 n0 QQ hC hc1 hc2 hr ad H' locs' ls hW' hl)
theorem fs_at {ad : Nat → Nat} {R : RT} {I : IT} {ci o N k : Nat} (hk : k < N) : ((List.range N).map (fv ad R I ci o))[k]? = some (fv ad R I ci o k) := by
  rw [List.getElem?_map, List.getElem?_range hk]; rfl
def opGetI (ci k : Nat) : OP := fun L st n R I J K => match st with
  | .ref o :: r => shK o n ci (fun _ => K L (.int (I o k) :: r) n R I J)
  | _ => False
def opGetR (ci k : Nat) : OP := fun L st n R I J K => match st with
  | .ref o :: r => shK o n ci (fun _ => match R o k with
    | some o' => K L (.ref o' :: r) n R I J
    | none => False)
  | _ => False
def opPutI (ci k : Nat) : OP := fun L st n R I J K => match st with
  | .int v :: .ref o :: r => shK o n ci (fun _ => K L r n R (up2 I o k v) J)
  | _ => False
def opPutZ (ci k : Nat) : OP := fun L st n R I J K => match st with
  | .int v :: .ref o :: r => shK o n ci (fun _ => (v = 0 ∨ v = 1) ∧ K L r n R (up2 I o k v) J)
  | _ => False
def opPutR (ci k : Nat) : OP := fun L st n R I J K => match st with
  | .ref v :: .ref o :: r => shK o n ci (fun _ => match Nat.blt v n with
    | true => K L r n (up2 R o k (some v)) I J
    | false => False)
  | _ => False
section GET
variable {M : MI} {pc idx ci k N : Nat} {C : String} {T : u_T}
theorem snd_getI (hd : decode (MI.bytes M) pc = .ok (.getfield idx, 3)) (hc : vwC[ci]? = some (C, T, N)) (hci : ci < 8) (hk : k < N) (hf0 : fk ci k ≠ 1) (hin : ∀ w ∈ u_ws C T N, w ∈ wsG) (hl : Cond.fieldLink (MI.own M) idx (T k).1 (T k).2.1 (T k).2.2.1 ∈ wsG) : Snd M pc (opGetI ci k) (pc + 3) := by
  intro d cap L st n R I J Q K hK hf
  unfold opGetI at hf
  split at hf
  · obtain ⟨h1, h2, h3⟩ := shK_spec hf
    refine ends_hp (fun l p e Rm s m args below meth c D cs A ad0 I0 n0 QQ cells slots ad H locs ls hC hW kk => ?_) (hK _ _ _ _ _ _ h3)
    have hN := sh_N h2 hci hc
    refine va_get (D := D) (ci := ci) (k := k) hC.1 hC.2.1 hC.2.2.2.2.1 hin hC.2.2.2.1 hW.1 hW.2.1 _ ((pws_at h1).trans (by rw [pc_obj h2 (by omega)])) hc hk (hC.2.2.2.2.1 _ hl) (fun _ h => h) (v := .int (I _ k)) (by rw [hN, fs_at hk]; unfold fv; rw [if_neg hf0]) hd (kk H locs hW)
  · exact hf.elim
theorem snd_getIN {host : String} (hd : decode (MI.bytes M) pc = .ok (.getfield idx, 3)) (hc : vwC[ci]? = some (C, T, N)) (hci : ci < 8) (hk : k < N) (hf0 : fk ci k ≠ 1) (hin : ∀ w ∈ u_ws C T N, w ∈ wsG) (hl : Cond.fieldLinkNest (MI.own M) idx (T k).1 (T k).2.1 (T k).2.2.1 host ∈ nwG) : Snd M pc (opGetI ci k) (pc + 3) := by
  intro d cap L st n R I J Q K hK hf
  unfold opGetI at hf
  split at hf
  · obtain ⟨h1, h2, h3⟩ := shK_spec hf
    refine ends_hp (fun l p e Rm s m args below meth c D cs A ad0 I0 n0 QQ cells slots ad H locs ls hC hW kk => ?_) (hK _ _ _ _ _ _ h3)
    have hN := sh_N h2 hci hc
    refine va_getN (D := D) (ci := ci) (k := k) hC.1 hC.2.1 hC.2.2.2.2.1 hin hC.2.2.2.1 hW.1 hW.2.1 _ ((pws_at h1).trans (by rw [pc_obj h2 (by omega)])) hc hk (va_Nw.use rfl (hC.2.2.2.2.2.1 _ hl)) (fun _ h => h) (v := .int (I _ k)) (by rw [hN, fs_at hk]; unfold fv; rw [if_neg hf0]) hd (kk H locs hW)
  · exact hf.elim
theorem snd_getR (hd : decode (MI.bytes M) pc = .ok (.getfield idx, 3)) (hc : vwC[ci]? = some (C, T, N)) (hci : ci < 8) (hk : k < N) (hf0 : fk ci k = 1) (hin : ∀ w ∈ u_ws C T N, w ∈ wsG) (hl : Cond.fieldLink (MI.own M) idx (T k).1 (T k).2.1 (T k).2.2.1 ∈ wsG) : Snd M pc (opGetR ci k) (pc + 3) := by
  intro d cap L st n R I J Q K hK hf
  unfold opGetR at hf
  split at hf
  · obtain ⟨h1, h2, h3⟩ := shK_spec hf
    split at h3
    · rename_i o r _ o' ho
      refine ends_hp (fun l p e Rm s m args below meth c D cs A ad0 I0 n0 QQ cells slots ad H locs ls hC hW kk => ?_) (hK _ _ _ _ _ _ h3)
      have hN := sh_N h2 hci hc
      refine va_get (D := D) (ci := ci) (k := k) hC.1 hC.2.1 hC.2.2.2.2.1 hin hC.2.2.2.1 hW.1 hW.2.1 _ ((pws_at h1).trans (by rw [pc_obj h2 (by omega)])) hc hk (hC.2.2.2.2.1 _ hl) (fun _ h => h) (v := .ref (ad o')) (by rw [hN, fs_at hk]; unfold fv; rw [if_pos hf0, ho]; rfl) hd (kk H locs hW)
    · exact h3.elim
  · exact hf.elim
theorem snd_getRN {host : String} (hd : decode (MI.bytes M) pc = .ok (.getfield idx, 3)) (hc : vwC[ci]? = some (C, T, N)) (hci : ci < 8) (hk : k < N) (hf0 : fk ci k = 1) (hin : ∀ w ∈ u_ws C T N, w ∈ wsG) (hl : Cond.fieldLinkNest (MI.own M) idx (T k).1 (T k).2.1 (T k).2.2.1 host ∈ nwG) : Snd M pc (opGetR ci k) (pc + 3) := by
  intro d cap L st n R I J Q K hK hf
  unfold opGetR at hf
  split at hf
  · obtain ⟨h1, h2, h3⟩ := shK_spec hf
    split at h3
    · rename_i o r _ o' ho
      refine ends_hp (fun l p e Rm s m args below meth c D cs A ad0 I0 n0 QQ cells slots ad H locs ls hC hW kk => ?_) (hK _ _ _ _ _ _ h3)
      have hN := sh_N h2 hci hc
      refine va_getN (D := D) (ci := ci) (k := k) hC.1 hC.2.1 hC.2.2.2.2.1 hin hC.2.2.2.1 hW.1 hW.2.1 _ ((pws_at h1).trans (by rw [pc_obj h2 (by omega)])) hc hk (va_Nw.use rfl (hC.2.2.2.2.2.1 _ hl)) (fun _ h => h) (v := .ref (ad o')) (by rw [hN, fs_at hk]; unfold fv; rw [if_pos hf0, ho]; rfl) hd (kk H locs hW)
    · exact h3.elim
  · exact hf.elim
end GET
theorem fs_set {ad : Nat → Nat} {R R' : RT} {I I' : IT} {ci o N k : Nat} {v : Value} (hk : k < N) (hv : fv ad R' I' ci o k = v) (hn : ∀ j, j ≠ k → R o j = R' o j ∧ I o j = I' o j) : ((List.range N).map (fv ad R I ci o)).set k v = (List.range N).map (fv ad R' I' ci o) := by
  apply List.ext_getElem?
  intro i
  rw [List.getElem?_set]
  by_cases hi : i < N
  · by_cases hik : k = i
    · subst hik
      rw [if_pos rfl, if_pos (by simp; exact hk), fs_at hi, hv]
    · rw [if_neg hik, fs_at hi, fs_at hi]
      obtain ⟨a, b⟩ := hn i (fun h => hik h.symm)
      unfold fv
      rw [a, b]
  · have e1 : ((List.range N).map (fv ad R' I' ci o))[i]? = none := by simp; omega
    have e2 : ((List.range N).map (fv ad R I ci o))[i]? = none := by simp; omega
    rw [e1, if_neg (by omega), e2]
theorem up2_k {α : Type} {f : Nat → Nat → α} {o k j : Nat} {v : α} (h : j ≠ k) : up2 f o k v o j = f o j := by unfold up2; rw [if_pos rfl, if_neg h]
theorem up2_s {α : Type} {f : Nat → Nat → α} {o k : Nat} {v : α} : up2 f o k v o k = v := by unfold up2; rw [if_pos rfl, if_pos rfl]
theorem sh_ne {o c k : Nat} (h : (sh o).1 = c) (hc : c ≠ 999) (hk : 62 ≤ k) : k ≠ o := by
  intro e; subst e; rw [sh_out hk] at h; exact hc h.symm
section PUT
variable {M : MI} {pc idx ci k N : Nat} {C : String} {T : u_T} {ty0 : Nat → FieldType}
theorem put_int {s : State} {D : va_G} {cs : CS} {A : Nat → Prop} {ad0 : Nat → Nat} {I0 : IT} {n0 : Nat} {ad : Nat → Nat} {n : Nat} {R : RT} {I : IT} {J : JT} {H : Heap} {locs : List Loc} {o : Nat} {v : Int32} (hci : ci < 8) (hk : k < N) (hf0 : fk ci k ≠ 1) (h1 : o < n) (h2 : (sh o).1 = ci) (hN : (sh o).2 = N) (hW : Wd D cs A s ad0 I0 n0 ad n R I J H locs)
    (H1 : Heap) (locs1 : List Loc) (hP : va_P D vwC ((pws cs ad n R I J).set o (ad o, .inr (ci, ((List.range N).map (fv ad R I ci o)).set k (.int v)))) H1) (hD : va_D A ((pws cs ad n R I J).set o (ad o, .inr (ci, ((List.range N).map (fv ad R I ci o)).set k (.int v))))) (hS : va_S A s.heap H1 locs1) : Wd D cs A s ad0 I0 n0 ad n R (up2 I o k v) J H1 locs1 := by
  have e : (pws cs ad n R I J).set o (ad o, .inr (ci, ((List.range N).map (fv ad R I ci o)).set k (.int v))) = pws cs ad n R (up2 I o k v) J :=
    pws_set h1 (by rw [pc_obj h2 (by omega), hN, fs_set hk (R' := R) (I' := up2 I o k v) (by unfold fv; rw [if_neg hf0, up2_s]) (fun j hj => ⟨rfl, (up2_k hj).symm⟩)]) (fun a ha => ⟨rfl, (up2_o ha).symm, rfl⟩)
  rw [e] at hP hD
  exact hW.mk2 hP hD hS hW.2.2.2.2.2.1 (up2_o (sh_ne h2 (by omega) (by omega))) (up2_o (sh_ne h2 (by omega) (by omega)))
theorem snd_putI (hd : decode (MI.bytes M) pc = .ok (.putfield idx, 3)) (hc : vwC[ci]? = some (C, T, N)) (hci : ci < 8) (hk : k < N) (hf0 : fk ci k ≠ 1) (hin : ∀ w ∈ u_ws C T N, w ∈ wsG) (hty : ∀ k, k < N → parseFieldDescriptor (T k).2.2.1 = some (ty0 k)) (hnm : ∀ a, a < N → ∀ b, b < N → a ≠ b → (T a).2.1 ≠ (T b).2.1) (hfin : (T k).2.2.2 = false) (hdi : parseFieldDescriptor (T k).2.2.1 = some .int) (hl : Cond.fieldLink (MI.own M) idx (T k).1 (T k).2.1 (T k).2.2.1 ∈ wsG) : Snd M pc (opPutI ci k) (pc + 3) := by
  intro d cap L st n R I J Q K hK hf
  unfold opPutI at hf
  split at hf
  · obtain ⟨h1, h2, h3⟩ := shK_spec hf
    refine ends_hp (fun l p e Rm s m args below meth c D cs A ad0 I0 n0 QQ cells slots ad H locs ls hC hW kk => ?_) (hK _ _ _ _ _ _ h3)
    have hN := sh_N h2 hci hc
    refine va_put (D := D) (ci := ci) (k := k) (ty := .int) hC.1 hC.2.1 hC.2.2.2.2.1 hin ty0 hty hnm hC.2.2.2.1 hW.1 hW.2.1 hW.2.2.1 hW.2.2.2.1 _ ((pws_at h1).trans (by rw [pc_obj h2 (by omega), hN])) hc hk (hC.2.2.2.2.1 _ hl) (fun _ h => h) hfin hdi rfl rfl (by simp; exact hk) hd (fun H1 locs1 hP hD hS => kk H1 locs1 (put_int hci hk hf0 h1 h2 hN hW H1 locs1 hP hD hS))
  · exact hf.elim
theorem snd_putIN {host : String} (hd : decode (MI.bytes M) pc = .ok (.putfield idx, 3)) (hc : vwC[ci]? = some (C, T, N)) (hci : ci < 8) (hk : k < N) (hf0 : fk ci k ≠ 1) (hin : ∀ w ∈ u_ws C T N, w ∈ wsG) (hty : ∀ k, k < N → parseFieldDescriptor (T k).2.2.1 = some (ty0 k)) (hnm : ∀ a, a < N → ∀ b, b < N → a ≠ b → (T a).2.1 ≠ (T b).2.1) (hfin : (T k).2.2.2 = false) (hdi : parseFieldDescriptor (T k).2.2.1 = some .int) (hl : Cond.fieldLinkNest (MI.own M) idx (T k).1 (T k).2.1 (T k).2.2.1 host ∈ nwG) : Snd M pc (opPutI ci k) (pc + 3) := by
  intro d cap L st n R I J Q K hK hf
  unfold opPutI at hf
  split at hf
  · obtain ⟨h1, h2, h3⟩ := shK_spec hf
    refine ends_hp (fun l p e Rm s m args below meth c D cs A ad0 I0 n0 QQ cells slots ad H locs ls hC hW kk => ?_) (hK _ _ _ _ _ _ h3)
    have hN := sh_N h2 hci hc
    refine va_putN (D := D) (ci := ci) (k := k) (ty := .int) hC.1 hC.2.1 hC.2.2.2.2.1 hin ty0 hty hnm hC.2.2.2.1 hW.1 hW.2.1 hW.2.2.1 hW.2.2.2.1 _ ((pws_at h1).trans (by rw [pc_obj h2 (by omega), hN])) hc hk (va_Nw.use rfl (hC.2.2.2.2.2.1 _ hl)) (fun _ h => h) hfin hdi rfl rfl (by simp; exact hk) hd (fun H1 locs1 hP hD hS => kk H1 locs1 (put_int hci hk hf0 h1 h2 hN hW H1 locs1 hP hD hS))
  · exact hf.elim
theorem snd_putZ (hd : decode (MI.bytes M) pc = .ok (.putfield idx, 3)) (hc : vwC[ci]? = some (C, T, N)) (hci : ci < 8) (hk : k < N) (hf0 : fk ci k ≠ 1) (hin : ∀ w ∈ u_ws C T N, w ∈ wsG) (hty : ∀ k, k < N → parseFieldDescriptor (T k).2.2.1 = some (ty0 k)) (hnm : ∀ a, a < N → ∀ b, b < N → a ≠ b → (T a).2.1 ≠ (T b).2.1) (hfin : (T k).2.2.2 = false) (hdi : parseFieldDescriptor (T k).2.2.1 = some .boolean) (hl : Cond.fieldLink (MI.own M) idx (T k).1 (T k).2.1 (T k).2.2.1 ∈ wsG) : Snd M pc (opPutZ ci k) (pc + 3) := by
  intro d cap L st n R I J Q K hK hf
  unfold opPutZ at hf
  split at hf
  · obtain ⟨h1, h2, h3, h4⟩ := shK_spec hf
    refine ends_hp (fun l p e Rm s m args below meth c D cs A ad0 I0 n0 QQ cells slots ad H locs ls hC hW kk => ?_) (hK _ _ _ _ _ _ h4)
    have hN := sh_N h2 hci hc
    refine va_put (D := D) (ci := ci) (k := k) (ty := .boolean) hC.1 hC.2.1 hC.2.2.2.2.1 hin ty0 hty hnm hC.2.2.2.1 hW.1 hW.2.1 hW.2.2.1 hW.2.2.2.1 _ ((pws_at h1).trans (by rw [pc_obj h2 (by omega), hN])) hc hk (hC.2.2.2.2.1 _ hl) (fun _ h => h) hfin hdi (by rcases h3 with rfl | rfl <;> rfl) (by rcases h3 with rfl | rfl <;> rfl) (by simp; exact hk) hd (fun H1 locs1 hP hD hS => kk H1 locs1 (put_int hci hk hf0 h1 h2 hN hW H1 locs1 hP hD hS))
  · exact hf.elim
theorem snd_putR (hd : decode (MI.bytes M) pc = .ok (.putfield idx, 3)) (hc : vwC[ci]? = some (C, T, N)) (hci : ci < 8) (hk : k < N) (hf0 : fk ci k = 1) (hin : ∀ w ∈ u_ws C T N, w ∈ wsG) (hty : ∀ k, k < N → parseFieldDescriptor (T k).2.2.1 = some (ty0 k)) (hnm : ∀ a, a < N → ∀ b, b < N → a ≠ b → (T a).2.1 ≠ (T b).2.1) (hfin : (T k).2.2.2 = true) (hini : (MI.y M).name = "<init>") (hdecl : (T k).1 = MI.own M) {ty : FieldType} (hdi : parseFieldDescriptor (T k).2.2.1 = some ty) (hnr : ∀ a, narrow ty (.ref a) = .ref a) (hft : ∀ a, fits ty (.ref a) = true) (hl : Cond.fieldLink (MI.own M) idx (T k).1 (T k).2.1 (T k).2.2.1 ∈ wsG) : Snd M pc (opPutR ci k) (pc + 3) := by
  intro d cap L st n R I J Q K hK hf
  unfold opPutR at hf
  split at hf
  · rename_i v o r
    obtain ⟨h1, h2, h3⟩ := shK_spec hf
    split at h3
    · rename_i hv
      have hv := (Nat.blt_eq).mp hv
      refine ends_hp (fun l p e Rm s m args below meth c D cs A ad0 I0 n0 QQ cells slots ad H locs ls hC hW kk => ?_) (hK _ _ _ _ _ _ h3)
      have hN := sh_N h2 hci hc
      refine va_putF (D := D) (ci := ci) (k := k) (ty := ty) hC.1 hC.2.1 hC.2.2.2.2.1 hin ty0 hty hnm hC.2.2.2.1 hW.1 hW.2.1 hW.2.2.1 hW.2.2.2.1 _ ((pws_at h1).trans (by rw [pc_obj h2 (by omega), hN])) hc hk (hC.2.2.2.2.1 _ hl) (fun _ h => h) hfin (hC.2.2.2.2.2.2.2.1.trans hini) hdecl hdi (hnr _) (hft _) (by simp; exact hk) hd (fun H1 locs1 hP hD hS => kk H1 locs1 ?_)
      have e : (pws cs ad n R I J).set o (ad o, .inr (ci, ((List.range N).map (fv ad R I ci o)).set k (cv ad (.ref v)))) = pws cs ad n (up2 R o k (some v)) I J :=
        pws_set h1 (by rw [pc_obj h2 (by omega), hN, fs_set hk (R' := up2 R o k (some v)) (I' := I) (by unfold fv; rw [if_pos hf0, up2_s]; rfl) (fun j hj => ⟨(up2_k hj).symm, rfl⟩)]) (fun a ha => ⟨(up2_o ha).symm, rfl, rfl⟩)
      rw [e] at hP hD
      refine hW.mk2 hP hD hS (fun a b o' ho => ?_) rfl rfl
      unfold up2 at ho
      split at ho
      · split at ho
        · cases ho; exact hv
        · exact hW.2.2.2.2.2.1 a b o' ho
      · exact hW.2.2.2.2.2.1 a b o' ho
    · exact h3.elim
  · exact hf.elim
end PUT
def opIald : OP := fun L st n R I J K => match st with
  | .int i :: .ref o :: r => shK o n 100 (fun len => vp_in i len ∧ K L (.int (I o i.toNatClampNeg) :: r) n R I J)
  | _ => False
def opLald : OP := fun L st n R I J K => match st with
  | .int i :: .ref o :: r => shK o n 101 (fun len => vp_in i len ∧ K L (.long (J o i.toNatClampNeg) :: r) n R I J)
  | _ => False
def opAald : OP := fun L st n R I J K => match st with
  | .int i :: .ref o :: r => shK o n 102 (fun len => vp_in i len ∧ match R o i.toNatClampNeg with
    | some o' => K L (.ref o' :: r) n R I J
    | none => False)
  | _ => False
def opIast : OP := fun L st n R I J K => match st with
  | .int x :: .int i :: .ref o :: r => shK o n 100 (fun len => vp_in i len ∧ K L r n R (up2 I o i.toNatClampNeg x) J)
  | _ => False
def opLast : OP := fun L st n R I J K => match st with
  | .long x :: .int i :: .ref o :: r => shK o n 101 (fun len => vp_in i len ∧ K L r n R I (up2 J o i.toNatClampNeg x))
  | _ => False
def opAast : OP := fun L st n R I J K => match st with
  | .ref v :: .int i :: .ref o :: r => shK o n 102 (fun len => vp_in i len ∧ shK v n 0 (fun _ => K L r n (up2 R o i.toNatClampNeg (some v)) I J))
  | _ => False
section ARR
variable {M : MI} {pc : Nat}
theorem snd_iald (hd : decode (MI.bytes M) pc = .ok (.iaload, 1)) : Snd M pc opIald (pc + 1) := by
  intro d cap L st n R I J Q K hK hf
  unfold opIald at hf
  split at hf
  · obtain ⟨h1, h2, h3, h4⟩ := shK_spec hf
    exact ends_hp (fun l p e Rm s m args below meth c D cs A ad0 I0 n0 QQ cells slots ad H locs ls hC hW kk => va_iald hC.1 hC.2.1 hW.1 hW.2.1 _ 0 ((pws_at h1).trans (by rw [pc_int h2])) rfl h3 hd (kk H locs hW)) (hK _ _ _ _ _ _ h4)
  · exact hf.elim
theorem snd_lald (hd : decode (MI.bytes M) pc = .ok (.laload, 1)) : Snd M pc opLald (pc + 1) := by
  intro d cap L st n R I J Q K hK hf
  unfold opLald at hf
  split at hf
  · obtain ⟨h1, h2, h3, h4⟩ := shK_spec hf
    exact ends_hp (fun l p e Rm s m args below meth c D cs A ad0 I0 n0 QQ cells slots ad H locs ls hC hW kk => va_lald hC.1 hC.2.1 hW.1 hW.2.1 _ 1 ((pws_at h1).trans (by rw [pc_long h2])) rfl h3 hd (kk H locs hW)) (hK _ _ _ _ _ _ h4)
  · exact hf.elim
theorem snd_aald (hd : decode (MI.bytes M) pc = .ok (.aaload, 1)) : Snd M pc opAald (pc + 1) := by
  intro d cap L st n R I J Q K hK hf
  unfold opAald at hf
  split at hf
  · obtain ⟨h1, h2, h3, h4⟩ := shK_spec hf
    split at h4
    · rename_i o' ho
      refine ends_hp (fun l p e Rm s m args below meth c D cs A ad0 I0 n0 QQ cells slots ad H locs ls hC hW kk => ?_) (hK _ _ _ _ _ _ h4)
      refine va_aldq hC.1 hC.2.1 hW.1 hW.2.1 _ 2 ((pws_at h1).trans (by rw [pc_refs h2])) rfl h3 hd ?_
      have := kk H locs hW
      rw [ho]
      exact this
    · exact h4.elim
  · exact hf.elim
theorem snd_iast (hd : decode (MI.bytes M) pc = .ok (.iastore, 1)) : Snd M pc opIast (pc + 1) := by
  intro d cap L st n R I J Q K hK hf
  unfold opIast at hf
  split at hf
  · obtain ⟨h1, h2, h3, h4⟩ := shK_spec hf
    refine ends_hp (fun l p e Rm s m args below meth c D cs A ad0 I0 n0 QQ cells slots ad H locs ls hC hW kk => va_iast hC.1 hC.2.1 hW.1 hW.2.1 hW.2.2.1 hW.2.2.2.1 _ 0 ((pws_at h1).trans (by rw [pc_int h2])) rfl h3 hd (fun H1 locs1 hP hD hS => kk H1 locs1 ?_)) (hK _ _ _ _ _ _ h4)
    rw [pws_set (R' := R) (I' := up2 I _ _ _) (J' := J) h1 (by rw [pc_int h2, up2_i]) (fun a ha => ⟨rfl, (up2_o ha).symm, rfl⟩)] at hP hD
    exact hW.mk2 hP hD hS hW.2.2.2.2.2.1 (up2_o (sh_ne h2 (by omega) (by omega))) (up2_o (sh_ne h2 (by omega) (by omega)))
  · exact hf.elim
theorem snd_last (hd : decode (MI.bytes M) pc = .ok (.lastore, 1)) : Snd M pc opLast (pc + 1) := by
  intro d cap L st n R I J Q K hK hf
  unfold opLast at hf
  split at hf
  · obtain ⟨h1, h2, h3, h4⟩ := shK_spec hf
    refine ends_hp (fun l p e Rm s m args below meth c D cs A ad0 I0 n0 QQ cells slots ad H locs ls hC hW kk => va_last hC.1 hC.2.1 hW.1 hW.2.1 hW.2.2.1 hW.2.2.2.1 _ 1 ((pws_at h1).trans (by rw [pc_long h2])) rfl h3 hd (fun H1 locs1 hP hD hS => kk H1 locs1 ?_)) (hK _ _ _ _ _ _ h4)
    rw [pws_set (R' := R) (I' := I) (J' := up2 J _ _ _) h1 (by rw [pc_long h2, up2_j]) (fun a ha => ⟨rfl, rfl, (up2_o ha).symm⟩)] at hP hD
    exact hW.mk2 hP hD hS hW.2.2.2.2.2.1 rfl rfl
  · exact hf.elim
theorem snd_aast (hd : decode (MI.bytes M) pc = .ok (.aastore, 1)) : Snd M pc opAast (pc + 1) := by
  intro d cap L st n R I J Q K hK hf
  unfold opAast at hf
  split at hf
  · rename_i v i o r
    obtain ⟨h1, h2, h3, h4⟩ := shK_spec hf
    obtain ⟨h5, h6, h7⟩ := shK_spec h4
    refine ends_hp (fun l p e Rm s m args below meth c D cs A ad0 I0 n0 QQ cells slots ad H locs ls hC hW kk => va_astq (r := (RX0, TX0, 3)) hC.1 hC.2.1 hW.1 hW.2.1 hW.2.2.1 hW.2.2.2.1 _ 2 _ 0 ((pws_at h1).trans (by rw [pc_refs h2])) rfl ((pws_at h5).trans (by rw [pc_obj h6 (by omega)])) rfl h3 hd (fun H1 locs1 hP hD hS => kk H1 locs1 ?_)) (hK _ _ _ _ _ _ h7)
    have e : va_up (fun k => (R o k).map ad) i.toNatClampNeg (some (ad v)) = fun k => (up2 R o i.toNatClampNeg (some v) o k).map ad := by
      funext b
      unfold va_up up2
      rw [if_pos rfl]
      split <;> rfl
    rw [e] at hP hD
    rw [pws_set (R' := up2 R o i.toNatClampNeg (some v)) (I' := I) (J' := J) h1 (by rw [pc_refs h2]) (fun a ha => ⟨(up2_o ha).symm, rfl, rfl⟩)] at hP hD
    refine hW.mk2 hP hD hS (fun a b o' ho => ?_) rfl rfl
    unfold up2 at ho
    split at ho
    · split at ho
      · cases ho; exact h5
      · exact hW.2.2.2.2.2.1 a b o' ho
    · exact hW.2.2.2.2.2.1 a b o' ho
  · exact hf.elim
end ARR
/-! static arrays and the script -/
def opGets (j : Nat) : OP := fun L st n R I J K => K L (.ref (1000 + j) :: st) n R I J
def opIaldS : OP := fun L st n R I J K => match st with
  | .int i :: .ref o :: r => match Nat.beq o 1000 with
    | true => vp_in i 3 ∧ K L (.int (stI i.toNatClampNeg) :: r) n R I J
    | false => False
  | _ => False
def opLaldS (j : Nat) : OP := fun L st n R I J K => match st with
  | .int i :: .ref o :: r => match Nat.beq o (1000 + j) with
    | true => vp_in i (stLen j) ∧ K L (.long (stJ j i.toNatClampNeg) :: r) n R I J
    | false => False
  | _ => False
def opIaldX : OP := fun L st n R I J K => match st with
  | .int i :: .ref o :: r => match Nat.beq o 2000 with
    | true => vp_in i (I 2001 0).toNatClampNeg ∧ K L (.int (I 2000 i.toNatClampNeg) :: r) n R I J
    | false => False
  | _ => False
def opLenX : OP := fun L st n R I J K => match st with
  | .ref o :: r => match Nat.beq o 2000 with
    | true => K L (.int (I 2001 0) :: r) n R I J
    | false => False
  | _ => False
section STA
variable {M : MI} {pc : Nat}
theorem snd_gets {j idx : Nat} (hj : j < 4) (hd : decode (MI.bytes M) pc = .ok (.getstatic idx, 3)) (hl : Cond.fieldLink (MI.own M) idx "ClaimChains" (stN j) (stD j) ∈ wsG) : Snd M pc (opGets j) (pc + 3) := by
  intro d cap L st n R I J Q K hK hf
  exact ends_hp (fun l p e Rm s m args below meth c D cs A ad0 I0 n0 QQ cells slots ad H locs ls hC hW kk => va_gets hC.1 hC.2.1 (hW.2.2.2.2.2.2.2.2.1 j hj).1 hW.2.2.2.1 hC.2.2.2.1 (hC.2.2.2.2.1 _ hl) (fun _ h => h) hd (kk H locs hW)) (hK _ _ _ _ _ _ hf)
theorem snd_getsN {j idx : Nat} {host : String} (hj : j < 4) (hd : decode (MI.bytes M) pc = .ok (.getstatic idx, 3)) (hl : Cond.fieldLinkNest (MI.own M) idx "ClaimChains" (stN j) (stD j) host ∈ nwG) : Snd M pc (opGets j) (pc + 3) := by
  intro d cap L st n R I J Q K hK hf
  exact ends_hp (fun l p e Rm s m args below meth c D cs A ad0 I0 n0 QQ cells slots ad H locs ls hC hW kk => va_getsN hC.1 hC.2.1 (hW.2.2.2.2.2.2.2.2.1 j hj).1 hW.2.2.2.1 hC.2.2.2.1 (va_Nw.use rfl (hC.2.2.2.2.2.1 _ hl)) (fun _ h => h) hd (kk H locs hW)) (hK _ _ _ _ _ _ hf)
theorem snd_ialdS (hd : decode (MI.bytes M) pc = .ok (.iaload, 1)) : Snd M pc opIaldS (pc + 1) := by
  intro d cap L st n R I J Q K hK hf
  unfold opIaldS at hf
  split at hf
  · split at hf
    · rename_i ho
      have ho := Nat.eq_of_beq_eq_true ho
      subst ho
      exact ends_hp (fun l p e Rm s m args below meth c D cs A ad0 I0 n0 QQ cells slots ad H locs ls hC hW kk => va_ti hC.1 hC.2.1 (hW.2.2.2.2.2.2.2.2.1 0 (by omega)).2 hW.2.2.2.1 hf.1 rfl hd (kk H locs hW)) (hK _ _ _ _ _ _ hf.2)
    · exact hf.elim
  · exact hf.elim
theorem snd_laldS {j : Nat} (hj : j < 4) (ht : stTy j = .long) (h0 : j ≠ 0) (hd : decode (MI.bytes M) pc = .ok (.laload, 1)) : Snd M pc (opLaldS j) (pc + 1) := by
  intro d cap L st n R I J Q K hK hf
  unfold opLaldS at hf
  split at hf
  · split at hf
    · rename_i ho
      have ho := Nat.eq_of_beq_eq_true ho
      subst ho
      refine ends_hp (fun l p e Rm s m args below meth c D cs A ad0 I0 n0 QQ cells slots ad H locs ls hC hW kk => ?_) (hK _ _ _ _ _ _ hf.2)
      have hT := (hW.2.2.2.2.2.2.2.2.1 j hj).2
      rw [ht] at hT
      exact va_tl hC.1 hC.2.1 hT hW.2.2.2.1 hf.1 (by unfold stV; rw [if_neg h0]; rfl) hd (kk H locs hW)
    · exact hf.elim
  · exact hf.elim
theorem snd_ialdX (hd : decode (MI.bytes M) pc = .ok (.iaload, 1)) : Snd M pc opIaldX (pc + 1) := by
  intro d cap L st n R I J Q K hK hf
  unfold opIaldX at hf
  split at hf
  · split at hf
    · rename_i ho
      have ho := Nat.eq_of_beq_eq_true ho
      subst ho
      refine ends_hp (fun l p e Rm s m args below meth c D cs A ad0 I0 n0 QQ cells slots ad H locs ls hC hW kk => ?_) (hK _ _ _ _ _ _ hf.2)
      obtain ⟨Ls, b1, b2, b3, b4, b5⟩ := hW.2.2.2.2.2.2.2.2.2
      have hin := hf.1
      rw [b2, nI_clamp b1] at hin
      exact va_sld hC.1 hC.2.1 b3 b4 b5 hW.2.2.2.1 hin hd (kk H locs hW)
    · exact hf.elim
  · exact hf.elim
theorem snd_lenX (hd : decode (MI.bytes M) pc = .ok (.arraylength, 1)) : Snd M pc opLenX (pc + 1) := by
  intro d cap L st n R I J Q K hK hf
  unfold opLenX at hf
  split at hf
  · split at hf
    · rename_i ho
      have ho := Nat.eq_of_beq_eq_true ho
      subst ho
      refine ends_hp (fun l p e Rm s m args below meth c D cs A ad0 I0 n0 QQ cells slots ad H locs ls hC hW kk => ?_) (hK _ _ _ _ _ _ hf)
      obtain ⟨Ls, b1, b2, b3, b4, b5⟩ := hW.2.2.2.2.2.2.2.2.2
      have := kk H locs hW
      rw [b2] at this
      exact va_slen hC.1 hC.2.1 b3 b4 b5 hW.2.2.2.1 hd this
    · exact hf.elim
  · exact hf.elim
end STA
