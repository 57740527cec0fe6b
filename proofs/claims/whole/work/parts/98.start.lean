/-! THE LAW FROM ITS ENTRY -/
theorem law_all {I : IT} {J : JT} {Ln : Nat} (hL : I 2001 0 = nI Ln) (hL2 : Ln ≤ 3072) : Ends mL_law 13 62 0 [(0, .ref 2000)] [] 0 RA0 I J (QN 62 RF (fun r _ _ => r = some (.int 1))) := by
  refine n_L_law_0 rfl (by decide) rfl rfl (nm ?_)
  refine blk s_L_law_3 (And.intro rfl (nm ?_))
  refine e_callA i_L_law_4 ct_R39 (rest := [.ref 0]) rfl (by decide) (by decide) (by decide) (by decide) rfl (by decide) (fun _ => ⟨6, 0, [], rfl, by decide, rfl, by decide, rfl⟩) rfl rfl (fun r R' I1 J1 hq => ?_)
  obtain ⟨hR, hr, hC, hF⟩ := hq
  subst hR hr
  refine blk s_L_law_7 (nm ?_)
  refine n_L_law_8 rfl (by decide) rfl rfl (nm ?_)
  refine blk s_L_law_11 (And.intro rfl (nm ?_))
  refine e_callA i_L_law_12 (ct_mdR (R := R40) (I := rs2 I1 39 0) (fun m => by rw [rs2_s])) (rest := [.ref 39]) rfl (by decide) (by decide) (by decide) (by decide) rfl (by decide) (fun _ => ⟨7, 39, [], rfl, by decide, rfl, by decide, rfl⟩) rfl rfl (fun r R' I2 J2 hq => ?_)
  obtain ⟨hR, hr, ⟨m0, m1, m9, m10, m16⟩, m47, mF⟩ := hq
  subst hR hr
  rw [R62]
  have lo : ∀ o, o < 39 → I2 o = I1 o := fun o ho => by rw [mF o (Or.inl ho), rs2_o (by omega)]
  have hi : ∀ o, 62 ≤ o → I2 o = I o := fun o ho => by rw [mF o (Or.inr (by omega)), rs2_o (by omega), hF o (by omega), rs2_o (by omega)]
  refine blk s_L_law_15 (nm ?_)
  have hinv : INV I (1 + 0) I2 J2 := by
    obtain ⟨c1, c2, c3, c4, c5⟩ := hC
    refine ⟨0, nx0, none, none, 0, 1, fun _ => none, 0, Nat.le_refl _, fun b so l p _ h => (by cases h), ⟨?_, ?_, ⟨?_, ?_⟩, ?_, ?_⟩, ⟨⟨⟨m1, by decide, fun t s r ht => absurd ht (Nat.not_lt_zero t)⟩, ⟨m9, fun t h => (by cases h)⟩, ⟨m10, fun t h => (by cases h)⟩, fun v hv => (m47 v hv).1, fun v t _ h => (by cases h)⟩, fun t ht => absurd ht (Nat.not_lt_zero t), ⟨m16, Nat.zero_le _, fun k hk => absurd hk (Nat.not_lt_zero k)⟩, fun b hb => ⟨fun _ => (m47 b hb).2, fun so l p h => (by cases h)⟩, m0⟩, hi⟩
    · exact MX_cg (MX_J c1 (fun t s r ht => absurd ht (Nat.not_lt_zero t))) fun o ho => lo o (by omega)
    · exact LM_cg c2 (lo 19 (by decide)) (lo 20 (by decide))
    · rw [lo 11 (by decide)]; exact c3.1
    · have e : Tx J2 nx0 = Tx J1 nx0 := Tx_J (C := 0) (fun t s r ht => absurd ht (Nat.not_lt_zero t)) (fun v t _ h => by cases h)
      rw [e]
      exact KpOk_cg c3.2 (lo 22 (by decide)) (lo 23 (by decide)) (lo 24 (by decide))
    · exact CBX_cg c4 fun o a b => lo o (by omega)
    · rw [lo 0 (by decide)]; exact c5
  exact law_loop (sc := I) hL hL2 (fun _ _ => rfl) (Ln / 6) 0 I2 J2 (Nat.zero_add _) hinv
