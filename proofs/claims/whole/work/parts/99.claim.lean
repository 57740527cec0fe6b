/-! THE CLAIM OUT OF ONE WALK OF THE LAW'S BODY. Your part is whole_start (and what it stands on); all else here is the same for every law, but numbers. -/
def R_law : String := "ClaimChainsLaw"
def lw_P (b : Addr) (xs : List Int32) (args : Array Value) (s : State) : Prop := args = #[.ref b] ∧ s.IntsAt b xs ∧ xs.length ≤ 3072 ∧ (Jvm.Cond.and given_1 narrow_1).before args s = true
def lw_Q (_ : Array Value) (s : State) (o : Outcome) (t : State) : Prop := o = .returned (some (.int 1)) ∧ Framed s o t [] 600000 7302250
def lw_Z (below : List Frame) (a : Array Value) (s : State) : State → Prop := fun t => ∃ o, t.status = .running ∧ Ended t below o ∧ lw_Q a s o t
/-- the law's own end, with 1 on the stack, nothing written that was there before, its room as the claim has it -/
theorem lw_ret {p : Program} {l : Launch} {e : Env} {s : State} {m : MethodId} {below : List Frame} {meth : Method} {c : Code} {b : Nat} (hx : p.tables.exec = Jvm.exec) (hb : c.code = code) (hr : meth.sig.returnType = ret) (hlocks : meth.locks = false) {pc : Nat} {H : Heap} {ls : Array Slot} (hdg : decode code pc = .ok (.ireturn, 1)) : W p l e room_1 s m #[Value.ref b] below meth c H [] 600000 7302250 (lw_Z below #[Value.ref b] s) (F0 m pc ls [.int 1]) := by
  intro T hT X
  obtain ⟨fs, hret, hrun, hended, hW, hframe⟩ := X.leave (v := some (.int 1)) (hlocks := hlocks) (fun h => by rw [hr] at h; cases h)
  have hmeth' : T.vm.method? m = some meth := X.method'
  refine ⟨T.setFrames fs, ?_, .returned (some (.int 1)), hrun, hended, rfl, ⟨_, rfl⟩, hW, hframe⟩
  jvm_step X.here [X.here.top, hx, hb, hdg, hmeth', hr, ret, narrow_b1]
  (try refine ⟨rfl, ?_⟩); (try refine ⟨rfl, ?_⟩)
  first | (intro acts; rw [hret _ acts rfl rfl rfl]) | rw [hret _ _ rfl rfl rfl]
  exact Steps.refl _
/-- what holds at the law's entry: the machine, the code, the tables' words (any of lw_tbl by 'hts w (by decide +kernel)'), the script of L ints xs at the cell b, what the Statement gives of the start (any of its parts by flat_of_before) -/
def lw_At (p : Program) (s : State) (m : MethodId) (meth : Method) (c : Code) (b L : Nat) (xs : Nat → Int32) : Prop :=
  p.tables.exec = Jvm.exec ∧ c.code = code ∧ meth.sig.returnType = ret ∧ c.maxLocals = 4 ∧ s.vm.findClass R_law = some m.cls ∧ (∀ w ∈ lw_tbl, w.before #[Value.ref b] s = true) ∧ va_X b L xs s s.heap ∧ b < s.heap.size ∧ meth.locks = false ∧ (Jvm.Cond.and given_1 narrow_1).before #[Value.ref b] s = true
/-- the static rows, as the statement gives them -/
theorem st_all {b : Nat} {s : State} (hgv : (Jvm.Cond.and given_1 narrow_1).before #[Value.ref b] s = true) (hts : ∀ w ∈ lw_tbl, w.before #[Value.ref b] s = true) : ∃ ts : Nat → Nat, ∀ j, j < 4 → va_Z "ClaimChains" (stN j) (stD j) (.ref (ts j)) (fun q : Nat => s.heap.size ≤ q) s s.heap ∧ va_T (stTy j) (ts j) (stLen j) (stV j) (fun q : Nat => s.heap.size ≤ q) s s.heap := by
  have hs := flat_of_before _ hgv
  have hA : ∀ a : Nat, a < s.heap.size → ¬ (fun q : Nat => s.heap.size ≤ q) a := fun a h => Nat.not_le.mpr h
  have hini : (Cond.initialized "ClaimChains").before #[Value.ref b] s = true := hts _ (List.mem_filter.mp w90).1
  have e0 : ∀ k : Nat, k < 3 → (Term.elem (Term.static "ClaimChains" "LEAF_NUMBERS" "[I") (.int (Int32.ofNat k))).eval #[Value.ref b] s none [] s = some (stV 0 k) := by
    intro k hk
    match k, hk with
    | 0, _ => exact va_eqt (z := 2) (hs _ (by decide +kernel))
    | 1, _ => exact va_eqt (z := 4) (hs _ (by decide +kernel))
    | 2, _ => exact va_eqt (z := 2) (hs _ (by decide +kernel))
    | k + 3, hk => exact absurd hk (by omega)
  have z0 : ∃ t : Nat, va_Z "ClaimChains" (stN 0) (stD 0) (.ref t) (fun q : Nat => s.heap.size ≤ q) s s.heap ∧ va_T (stTy 0) t (stLen 0) (stV 0) (fun q : Nat => s.heap.size ≤ q) s s.heap := by
    obtain ⟨t, h1, h2⟩ := va_Tof (args := #[Value.ref b]) (s := s) (tm := (Term.static "ClaimChains" "LEAF_NUMBERS" "[I")) (ty := .int) (N := 3) (f := stV 0) (A := fun q : Nat => s.heap.size ≤ q) (by decide) (hs _ (by decide +kernel)) (va_eqt (z := 3) (hs _ (by decide +kernel))) e0 hA
    exact ⟨t, va_Zref (hts (.laysStatic "ClaimChains" "LEAF_NUMBERS" "[I") (by decide +kernel)) hini h1 hA, h2⟩
  have e1 : ∀ k : Nat, k < 2 → (Term.elem (Term.static "ClaimChains" "CONSTANT_TABLES" "[J") (.int (Int32.ofNat k))).eval #[Value.ref b] s none [] s = some (stV 1 k) := by
    intro k hk
    match k, hk with
    | 0, _ => exact va_eqtl (z := 0) (hs _ (by decide +kernel))
    | 1, _ => exact va_eqtl (z := -1) (hs _ (by decide +kernel))
    | k + 2, hk => exact absurd hk (by omega)
  have z1 : ∃ t : Nat, va_Z "ClaimChains" (stN 1) (stD 1) (.ref t) (fun q : Nat => s.heap.size ≤ q) s s.heap ∧ va_T (stTy 1) t (stLen 1) (stV 1) (fun q : Nat => s.heap.size ≤ q) s s.heap := by
    obtain ⟨t, h1, h2⟩ := va_Tof (args := #[Value.ref b]) (s := s) (tm := (Term.static "ClaimChains" "CONSTANT_TABLES" "[J")) (ty := .long) (N := 2) (f := stV 1) (A := fun q : Nat => s.heap.size ≤ q) (by decide) (hs _ (by decide +kernel)) (va_eqt (z := 2) (hs _ (by decide +kernel))) e1 hA
    exact ⟨t, va_Zref (hts (.laysStatic "ClaimChains" "CONSTANT_TABLES" "[J") (by decide +kernel)) hini h1 hA, h2⟩
  have e2 : ∀ k : Nat, k < 4 → (Term.elem (Term.static "ClaimChains" "VARIABLE_TABLES" "[J") (.int (Int32.ofNat k))).eval #[Value.ref b] s none [] s = some (stV 2 k) := by
    intro k hk
    match k, hk with
    | 0, _ => exact va_eqtl (z := -6148914691236517206) (hs _ (by decide +kernel))
    | 1, _ => exact va_eqtl (z := -3689348814741910324) (hs _ (by decide +kernel))
    | 2, _ => exact va_eqtl (z := -1085102592571150096) (hs _ (by decide +kernel))
    | 3, _ => exact va_eqtl (z := -71777214294589696) (hs _ (by decide +kernel))
    | k + 4, hk => exact absurd hk (by omega)
  have z2 : ∃ t : Nat, va_Z "ClaimChains" (stN 2) (stD 2) (.ref t) (fun q : Nat => s.heap.size ≤ q) s s.heap ∧ va_T (stTy 2) t (stLen 2) (stV 2) (fun q : Nat => s.heap.size ≤ q) s s.heap := by
    obtain ⟨t, h1, h2⟩ := va_Tof (args := #[Value.ref b]) (s := s) (tm := (Term.static "ClaimChains" "VARIABLE_TABLES" "[J")) (ty := .long) (N := 4) (f := stV 2) (A := fun q : Nat => s.heap.size ≤ q) (by decide) (hs _ (by decide +kernel)) (va_eqt (z := 4) (hs _ (by decide +kernel))) e2 hA
    exact ⟨t, va_Zref (hts (.laysStatic "ClaimChains" "VARIABLE_TABLES" "[J") (by decide +kernel)) hini h1 hA, h2⟩
  have e3 : ∀ k : Nat, k < 2 → (Term.elem (Term.static "ClaimChains" "INPUT_TABLES" "[J") (.int (Int32.ofNat k))).eval #[Value.ref b] s none [] s = some (stV 3 k) := by
    intro k hk
    match k, hk with
    | 0, _ => exact va_eqtl (z := -281470681808896) (hs _ (by decide +kernel))
    | 1, _ => exact va_eqtl (z := -4294967296) (hs _ (by decide +kernel))
    | k + 2, hk => exact absurd hk (by omega)
  have z3 : ∃ t : Nat, va_Z "ClaimChains" (stN 3) (stD 3) (.ref t) (fun q : Nat => s.heap.size ≤ q) s s.heap ∧ va_T (stTy 3) t (stLen 3) (stV 3) (fun q : Nat => s.heap.size ≤ q) s s.heap := by
    obtain ⟨t, h1, h2⟩ := va_Tof (args := #[Value.ref b]) (s := s) (tm := (Term.static "ClaimChains" "INPUT_TABLES" "[J")) (ty := .long) (N := 2) (f := stV 3) (A := fun q : Nat => s.heap.size ≤ q) (by decide) (hs _ (by decide +kernel)) (va_eqt (z := 2) (hs _ (by decide +kernel))) e3 hA
    exact ⟨t, va_Zref (hts (.laysStatic "ClaimChains" "INPUT_TABLES" "[J") (by decide +kernel)) hini h1 hA, h2⟩
  obtain ⟨t0, z0⟩ := z0
  obtain ⟨t1, z1⟩ := z1
  obtain ⟨t2, z2⟩ := z2
  obtain ⟨t3, z3⟩ := z3
  refine ⟨fun j => if j = 0 then t0 else if j = 1 then t1 else if j = 2 then t2 else t3, fun j hj => ?_⟩
  rcases b4 hj with rfl | rfl | rfl | rfl
  · exact z0
  · exact z1
  · exact z2
  · exact z3
/-- the classes, as the tables give them -/
theorem k_all {b : Nat} {s : State} (hts : ∀ w ∈ lw_tbl, w.before #[Value.ref b] s = true) : ∃ (D : va_G) (cs : CS), va_K D vwC (tysOf cs) s := by
  have hg : ∀ w ∈ wsG, w.before #[Value.ref b] s = true := fun w hw => hts w (List.mem_filter.mp hw).1
  obtain ⟨c0, i0, h0⟩ := u_known (C := RX0) (T := TX0) (N := 3) (n := 3) hg iw_0 (hts (.instantiable RX0 3) (by decide +kernel))
  obtain ⟨c1, i1, h1⟩ := u_known (C := RX1) (T := TX1) (N := 10) (n := 10) hg iw_1 (hts (.instantiable RX1 10) (by decide +kernel))
  obtain ⟨c2, i2, h2⟩ := u_known (C := RX2) (T := TX2) (N := 5) (n := 5) hg iw_2 (hts (.instantiable RX2 5) (by decide +kernel))
  obtain ⟨c3, i3, h3⟩ := u_known (C := RX3) (T := TX3) (N := 15) (n := 15) hg iw_3 (hts (.instantiable RX3 15) (by decide +kernel))
  obtain ⟨c4, i4, h4⟩ := u_known (C := RX4) (T := TX4) (N := 10) (n := 10) hg iw_4 (hts (.instantiable RX4 10) (by decide +kernel))
  obtain ⟨c5, i5, h5⟩ := u_known (C := RX5) (T := TX5) (N := 3) (n := 3) hg iw_5 (hts (.instantiable RX5 3) (by decide +kernel))
  obtain ⟨c6, i6, h6⟩ := u_known (C := RX6) (T := TX6) (N := 8) (n := 8) hg iw_6 (hts (.instantiable RX6 8) (by decide +kernel))
  obtain ⟨c7, i7, h7⟩ := u_known (C := RX7) (T := TX7) (N := 30) (n := 30) hg iw_7 (hts (.instantiable RX7 30) (by decide +kernel))
  obtain ⟨aI, kI, pI, a1, a2, a3⟩ := Cond.arrayClass_spec (hts (.arrayClass .int) (by decide +kernel))
  obtain ⟨aJ, kJ, pJ, j1, j2, j3⟩ := Cond.arrayClass_spec (hts (.arrayClass .long) (by decide +kernel))
  obtain ⟨pB, aB, kB, b1, b2, b3, b4, b5⟩ := Cond.arrayOver_spec (hts (.arrayOver (.object "ClaimChains$Box")) (by decide +kernel))
  refine ⟨(fun k => nth c7 [c0, c1, c2, c3, c4, c5, c6] k, fun k => nth i7 [i0, i1, i2, i3, i4, i5, i6] k), (aI, aJ, aB), fun k q hq => ?_, fun k q hq => ?_⟩
  · match k, hq with
    | 0, hq => cases hq; exact h0
    | 1, hq => cases hq; exact h1
    | 2, hq => cases hq; exact h2
    | 3, hq => cases hq; exact h3
    | 4, hq => cases hq; exact h4
    | 5, hq => cases hq; exact h5
    | 6, hq => cases hq; exact h6
    | 7, hq => cases hq; exact h7
    | k + 8, hq => simp [vwC] at hq
  · match k, hq with
    | 0, hq => cases hq; exact ⟨fun n z => ⟨fun k h => (by cases h), kI, a2, pI, a3⟩, a1⟩
    | 1, hq => cases hq; exact ⟨fun n z => ⟨fun k h => (by cases h), kJ, j2, pJ, j3⟩, j1⟩
    | 2, hq => cases hq; exact ⟨fun n z => ⟨fun k h => (by cases h), kB, b3, pB, b4⟩, kB, pB, b3, b4, b1, b5⟩
    | k + 3, hq => simp at hq
theorem whole_start {p : Program} {e : Env} {s : State} {m : MethodId} {below : List Frame} {meth : Method} {c : Code} (l : Launch) (hflags : l.flags = flags0) (hnm : meth.name = "law") {b L : Nat} {xs : Nat → Int32} (hL : L ≤ 3072) (C0 : lw_At p s m meth c b L xs) : W p l e room_1 s m #[Value.ref b] below meth c s.heap [] 0 0 (lw_Z below #[Value.ref b] s) (entryFrame m ([Value.ref b] : List Value).toArray 4) := by
  obtain ⟨hx, hb, hr, hml, hown, hts, hX, hbl, hlocks, hgv⟩ := id C0
  obtain ⟨D, cs, hK⟩ := k_all hts
  obtain ⟨ts, hst⟩ := st_all hgv hts
  have hC : Cx mL_law 13 p room_1 s m #[Value.ref b] meth c := by
    refine ⟨hx, hb, hml, hown, fun w hw => hts w (List.mem_filter.mp hw).1, fun w hw => ?_, va_AO.of (hts (.arrayOver (.object "ClaimChains$Box")) (by decide +kernel)), hnm, hr, hlocks, Nat.le_of_ble_eq_true rfl, Nat.le_of_ble_eq_true rfl⟩
    have h1 := (List.mem_filter.mp hw).2
    have h2 := hts w (List.mem_filter.mp hw).1
    cases w <;> simp only [isNest] at h1 <;> first | (cases h1; done) | exact va_Nw.of rfl h2
  have hl := lv_entry ([.ref b]) (n := 4) (Nat.le_of_ble_eq_true rfl)
  rw [lg_entry_eq]
  generalize (lg_sl ([.ref b]) ++ List.replicate (4 - (lg_sl ([.ref b])).length) Slot.unset).toArray = ls at hl ⊢
  have hl : lv_has ls 4 [(0, .ref b)] := hl
  generalize hI0 : (fun o k => if o = 2000 then xs k else if o = 2001 then nI L else 0 : IT) = I0
  have e0 : I0 2000 = xs := by rw [← hI0]; rfl
  have e1 : I0 2001 0 = nI L := by rw [← hI0]; rfl
  generalize had : (fun o => if o = 2000 then b else ts (o - 1000) : Nat → Nat) = ad
  have d0 : ad 2000 = b := by rw [← had]; rfl
  have d1 : ∀ j, j < 4 → ad (1000 + j) = ts j := fun j hj => by
    rw [← had]
    show (if 1000 + j = 2000 then b else ts (1000 + j - 1000)) = ts j
    rw [if_neg (by omega), show 1000 + j - 1000 = j by omega]
  have hW : Wd D cs (fun q : Nat => s.heap.size ≤ q) s ad I0 0 ad 0 RA0 I0 (fun _ _ => 0) s.heap [] := by
    refine ⟨hK, fun k q h => by (cases h), ⟨fun i j p q h => by (cases h), fun k q h => by (cases h)⟩, va_S.rf, fun _ h => h, fun o k o' h => by (cases h), ⟨Nat.le_refl _, Nat.zero_le _⟩, ⟨fun _ _ => rfl, rfl, rfl⟩, fun j hj => ?_, L, by omega, e1, ?_, ?_, ?_⟩
    · rw [d1 j hj]; exact hst j hj
    · rw [d0, e0]; exact hX
    · rw [d0]; exact hbl
    · rw [d0]; exact Nat.not_le.mpr hbl
  have hl2 : lv_has ls (MI.maxL mL_law) ([(0, Value.ref 2000)].map (cvq ad)) := by
    show lv_has ls 4 [(0, Value.ref (ad 2000))]
    rw [d0]; exact hl
  have key := law_all (I := I0) (J := fun _ _ => 0) e1 hL l p e room_1 s m #[Value.ref b] below meth c D cs (fun q : Nat => s.heap.size ≤ q) ad I0 0 (lw_Z below #[Value.ref b] s) hC (Nat.le_of_ble_eq_true rfl) (by decide +kernel) (fun r n' R' I' J' ad' H' locs' pc' ls' hq hW' hra => ?_) ad s.heap [] ls hW hl2
  · exact key
  · obtain ⟨hn, -, hr1⟩ := hq
    subst hn hr1
    refine va_forget (fun q hq => hW'.2.2.2.1.2.2 q hq) ?_
    refine W.widen (k := 600000) (n := 7302250) (Nat.le_of_ble_eq_true rfl) (by decide +kernel) ?_
    exact lw_ret hx hb hr hlocks hra.1
set_option maxHeartbeats 4000000 in
theorem lw_walk (l : Launch) (hflags : l.flags = flags0) (b : Addr) (xs : List Int32) : MetFree l x (headSpec (Jvm.Cond.code x code maxLocals ret :: tables_1) room_1) (lw_P b xs) (fun _ _ _ _ _ => True) lw_Q := by
  refine MetFree.of_bodyS (code := code) (maxLocals := maxLocals) (ret := ret) (by decide) ?_ ?_
  · intro args s m h hn
    obtain ⟨meth, c, h1, h2, h3, h4, h5, h6, -, -⟩ := Cond.code_spec hn (atoms_spec (ws := Jvm.Cond.code x code maxLocals ret :: tables_1) h _ List.mem_cons_self)
    exact ⟨meth, c, h1, h2, h3, h4, h5, h6⟩
  · intro p e s m args below meth c s₁ B hml0 hP _
    obtain ⟨rfl, hx, hbd, hgv⟩ := hP
    obtain ⟨scr, harrAt, hlist, hof, hsmall⟩ := hx
    obtain ⟨hcb, hkn, -, -⟩ := State.arrayAt?_spec harrAt
    have hown : s.vm.findClass R_law = some m.cls := findClass_of_methodNamed B.named
    have hts0 : ∀ c ∈ (Jvm.Cond.code x code maxLocals ret :: tables_1), c.before #[Value.ref b] s = true := atoms_spec (ws := Jvm.Cond.code x code maxLocals ret :: tables_1) B.pre
    have hts : ∀ w ∈ lw_tbl, w.before #[Value.ref b] s = true := k2_hts_sels lw_privs (fun w hw => hts0 w (List.mem_cons_of_mem _ hw)) lw_privs_ok
    have hml : c.maxLocals = 4 := B.maxLocals_eq (hts0 _ List.mem_cons_self)
    have X₀ : Stand p l e room_1 s m #[Value.ref b] below meth c s₁ [] 0 0 := Stand.of_body B
    have hh0 : s₁.heap = s.heap := by rw [B.state]; rfl
    have hsz : scr.slots.size = xs.length := by rw [← Array.length_toList, hlist, List.length_map]
    have hval : ∀ j : Nat, j < xs.length → scr.slots[j]? = some (.int (xs.getD j 0)) := fun j hj => by
      rw [← Array.getElem?_toList, hlist]
      simp [hj]
    have hbl : b < s.heap.size := (Array.getElem?_eq_some_iff.mp hcb).1
    have hX : va_X b xs.length (fun j => xs.getD j 0) s s.heap := ⟨scr, hcb, hof, hkn, hsz, hval⟩
    have K : W p l e room_1 s m #[Value.ref b] below meth c s₁.heap [] 0 0 (lw_Z below #[Value.ref b] s) (entryFrame m ([Value.ref b] : List Value).toArray 4) := by
      rw [hh0]
      exact whole_start l hflags (name_of_methodNamed B.named B.method).1 hbd ⟨B.exec, B.bytes, B.returns, hml, hown, hts, hX, hbl, B.notSynchronized, hgv⟩
    obtain ⟨t, a1, o, b1, b2, b3⟩ := K s₁ rfl X₀
    exact ⟨t, o, a1, b1, b2, b3⟩
theorem lw_pre_spec {args : Array Value} {s : State} (h : (Jvm.Cond.and given_1 narrow_1).before args s = true) (hr : rest_1_c.before args s = true) : ∃ (b : Addr) (xs : List Int32), lw_P b xs args s := by
  have hs := flat_of_before _ h
  have hq := flat_of_before _ hr
  have hc : (Cond.count 1).before args s = true := hs _ (by decide +kernel)
  have harr : (Cond.arrayOf (.arg 0) .int).before args s = true := hs _ (by decide +kernel)
  have hle : (Cond.le (.length (.arg 0)) (.int 3072)).before args s = true := hs _ (by decide +kernel)
  have hlen : (Cond.isInt (.length (.arg 0))).before args s = true := hq _ (by decide +kernel)
  have hall : (Cond.all (.arg 0) (.isInt (.elem (.arg 0) (.index 0)))).before args s = true := hq _ (by decide +kernel)
  obtain ⟨b, xs, hb, hx⟩ := State.ints_of_pre rfl harr hlen hall
  have hsm : xs.length < 2 ^ 31 := hx.choose_spec.2.2.2
  have hev : (Term.length (.arg 0)).eval args s none [] s = some (.int xs.length.toInt32) := hx.length_eval hb
  have hv := Cond.le_ints hev (show (Term.int 3072).eval args s none [] s = some (.int 3072) from rfl)
  have hd : xs.length.toInt32 ≤ 3072 := by
    simpa [Cond.before, Cond.holds, hv] using hle
  have hN : xs.length ≤ 3072 := (Int32.ofNat_le_ofNat hsm (by decide)).mp (show Int32.ofNat xs.length ≤ Int32.ofNat 3072 from hd)
  exact ⟨b, xs, Cond.one_arg hc (show args[0]? = some (.ref b) from hb), hx, hN, h⟩
theorem lw_comes (l : Launch) (hflags : l.flags = flags0) : Comes l x (Jvm.Cond.code x code maxLocals ret :: tables_1) room_1 (fun tb e args s => Calls_1 tb e args s ∧ rest_1 tb e args s ∧ Pre_1 tb e args s)
    (fun _ _ args s o t => lw_Q args s o t) := by
  intro p e ha hc hk s m args below hf hfit hheap happ hpre
  obtain ⟨b, xs, hP⟩ := lw_pre_spec hpre.2.2 hpre.2.1
  obtain ⟨k, o, h1, h2, h3, hQ⟩ := lw_walk l hflags b xs p e ha hc hk s m args below hf ((Spec.applies_iff_loose hf).mp happ).1 hP trivial
  exact ⟨k, o, h1, h2, h3, hQ⟩
theorem lw_frame {s t : State} {o : Outcome} {args : Array Value} (h : Framed s o t [] 600000 7302250) :
    Framed s o t (fieldLocs frame_1_writes args s ++ arrayLocs frame_1_arrays args s ++ staticLocs frame_1_statics s) 600000 7302250 := h
theorem lw_limb (L : Cond) (hL : ∀ (args : Array Value) (s t : State), L.after args s (.returned (some (.int 1))) t = true) :
    ArmFor flags0 classFile x code maxLocals ret World_1 tables_1 room_1 Calls_1 rest_1 Pre_1
      (fun tb e a s o t => postC L tb e a s o t ∧ Framed s o t (fieldLocs frame_1_writes a s ++ arrayLocs frame_1_arrays a s ++ staticLocs frame_1_statics s) 600000 7302250) := by
  intro l hflags _ _ p e ha hc hk s m args below hf hfit hheap happ hpre
  obtain ⟨k, o, h1, h2, h3, rfl, hF⟩ := lw_comes l hflags p e ha hc hk s m args below hf hfit hheap happ hpre
  exact ⟨k, _, h1, h2, h3, hL args s _, lw_frame hF⟩
theorem i_vc : Claimed_1_1 ∧ Claimed_1_2 := ⟨lw_limb limb_1_1 (fun args s t => by simp [limb_1_1, Cond.after, Cond.holds, Cond.value]), lw_limb limb_1_2 (fun args s t => Cond.after_iff.mpr (by
  first | (rw [show limb_1_2 = Cond.eq .result (.int 1) from rfl, Cond.eq_ints (x := 1) (y := 1) rfl rfl]; simp; done) | (simp [limb_1_2, Cond.value, Term.eval]; done)))⟩
