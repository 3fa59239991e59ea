/-! THE SMALL MACHINE'S RUNS ARE THE REAL ONE'S -/
theorem mono_put {h : List mE} {q : Nat} {e0 e : mE} (hq : mown h q = some e0) (hz : msz e = msz e0) : h.length ≤ (mput h q e).length ∧ mhs h ≤ mhs (mput h q e) := by
  have := mhs_put hq hz
  exact ⟨Nat.le_of_eq this.2.symm, Nat.le_of_eq this.1.symm⟩
theorem mono_app (h t : List mE) : h.length ≤ (h ++ t).length ∧ mhs h ≤ mhs (h ++ t) := by
  rw [List.length_append, mhs_app]
  exact ⟨Nat.le_add_right _ _, Nat.le_add_right _ _⟩
theorem mx_mono {ret : Option FieldType} {ex : List mE} {I : Instr} {n a1 b1 q1 pc : Nat} {L : mL} {S : List Value} {h : List mE} {pc' : Nat} {L' : mL} {S' : List Value} {h' : List mE} (hm : mx ret ex (I, n, a1, b1, q1) pc L S h = some (.inl (pc', L', S', h'))) : h.length ≤ h'.length ∧ mhs h ≤ mhs h' := by
  cases I with
  | _ =>
    dsimp only [mx] at hm
    first
      | (cases hm; done)
      | (simp only [mgo, Option.some.injEq, Sum.inl.injEq, Prod.mk.injEq] at hm; obtain ⟨rfl, rfl, rfl, rfl⟩ := hm; exact ⟨Nat.le_refl _, Nat.le_refl _⟩)
      | (repeat' (split at hm)) <;> first
          | (cases hm; done)
          | (simp [mcall] at hm; done)
          | (simp only [mgo, Option.some.injEq, Sum.inl.injEq, Prod.mk.injEq] at hm
             obtain ⟨rfl, rfl, rfl, rfl⟩ := hm
             first
               | exact ⟨Nat.le_refl _, Nat.le_refl _⟩
               | exact mono_app _ _
               | exact mono_put (by assumption) rfl
               | exact mono_put (by assumption) (by simp [msz]))
theorem g_sim (mchk : ∀ (m : Nat) (M : mMR), mrec m = some M → m < mLaw → g_M M ∧ g_MW M) (ex : List mE) : ∀ f, g_Sim ex f := by
  intro f
  induction f with
  | zero =>
    intro d mi pc L S h v h1 hrun
    cases hrun
  | succ f ih =>
    intro d mi pc L S h v h1 hrun
    have hrun0 := hrun
    unfold mrun at hrun
    cases hM : mrec mi with
    | none => rw [hM] at hrun; cases hrun
    | some M =>
    rw [hM] at hrun
    try dsimp only at hrun
    cases hr : mcd M.2.2.2.2.2.2.2 pc with
    | none => rw [hr] at hrun; cases hrun
    | some r =>
    rw [hr] at hrun
    try dsimp only at hrun
    cases hm : mx M.2.2.2.1 ex r pc L S h with
    | none => rw [hm] at hrun; cases hrun
    | some z =>
    rw [hm] at hrun
    try dsimp only at hrun
    rcases z with ⟨pc', L', S', h'⟩ | ⟨m', as, T⟩ | v'
    · try dsimp only at hrun
      obtain ⟨i1, i2, i3⟩ := ih d mi pc' L' S' h' v h1 hrun
      obtain ⟨I, n, a1, b1, q1⟩ := r
      have hmono := mx_mono hm
      refine ⟨Nat.le_trans hmono.1 i1, Nat.le_trans hmono.2 i2, ?_⟩
      intro p l e R s m args below meth c H locs cells slots Q ls xs b aC D M2 hM2 C hR1 hR2 hW hS hL hl hc hs kk
      cases hM2
      refine g_step C hW hS hL hl ⟨by omega, by omega⟩ (mcd_ok C.2.2.2.2.2.2.2.2.2.1 hr) hm (by omega) (by omega) (fun H1 locs1 ls1 w st hL1 hl1 => ?_)
      refine i3 p l e R s m args below meth c H1 locs1 _ _ Q ls1 xs b aC D M hM C hR1 hR2 w st hL1 (hl1.trans hl) (by omega) (by omega) (fun H2 locs2 ls2 pc2 I2 w2 st2 hd2 hr2 => ?_)
      have kk := kk H2 locs2 ls2 pc2 I2 w2 st2 hd2 hr2
      rw [show cells + (h1.length - h.length) = cells + (h'.length - h.length) + (h1.length - h'.length) by omega, show slots + (mhs h1 - mhs h) = slots + (mhs h' - mhs h) + (mhs h1 - mhs h') by omega] at kk
      exact kk
    · try dsimp only at hrun
      cases d with
      | zero => cases hrun
      | succ d =>
      cases hM' : mrec m' with
      | none => rw [hM'] at hrun; cases hrun
      | some M' =>
      rw [hM'] at hrun
      try dsimp only at hrun
      by_cases hlen : M'.2.2.1 < (lent1 as).length
      · rw [if_pos hlen] at hrun; cases hrun
      rw [if_neg hlen] at hrun
      cases hcall : mrun ex f d m' 0 (lent as M'.2.2.1) [] h with
      | none => rw [hcall] at hrun; cases hrun
      | some z =>
      obtain ⟨v2, h2⟩ := z
      rw [hcall] at hrun
      try dsimp only at hrun
      obtain ⟨j1, j2, -⟩ := ih d m' 0 _ [] h v2 h2 hcall
      obtain ⟨i1, i2, i3⟩ := ih (d + 1) mi _ L _ h2 v h1 hrun
      refine ⟨Nat.le_trans j1 i1, Nat.le_trans j2 i2, ?_⟩
      intro p l e R s m args below meth c H locs cells slots Q ls xs b aC D M2 hM2 C hR1 hR2 hW hS hL hl hc hs kk
      cases hM2
      refine g_call C hW hS hL hl (by omega) (by omega) (mcd_ok C.2.2.2.2.2.2.2.2.2.1 hr) hm hM' (mchk m' M' hM') (Nat.not_lt.mp hlen) ih hcall (by omega) (by omega) (fun H1 locs1 w st => ?_)
      refine i3 p l e R s m args below meth c H1 locs1 _ _ Q ls xs b aC D M hM C hR1 hR2 w st hL hl (by omega) (by omega) (fun H2 locs2 ls2 pc2 I2 w2 st2 hd2 hr2 => ?_)
      have kk := kk H2 locs2 ls2 pc2 I2 w2 st2 hd2 hr2
      rw [show cells + (h1.length - h.length) = cells + (h2.length - h.length) + (h1.length - h2.length) by omega, show slots + (mhs h1 - mhs h) = slots + (mhs h2 - mhs h) + (mhs h1 - mhs h2) by omega] at kk
      exact kk
    · try dsimp only at hrun
      simp only [Option.some.injEq, Prod.mk.injEq] at hrun
      obtain ⟨rfl, rfl⟩ := hrun
      refine ⟨Nat.le_refl _, Nat.le_refl _, ?_⟩
      intro p l e R s m args below meth c H locs cells slots Q ls xs b aC D M2 hM2 C hR1 hR2 hW hS hL hl hc hs kk
      cases hM2
      obtain ⟨I, n, a1, b1, q1⟩ := r
      have hok := mcd_ok C.2.2.2.2.2.2.2.2.2.1 hr
      have hI : I = .ireturn ∨ I = .lreturn ∨ I = .areturn ∨ I = .return_ := by
        rcases mx_out hm with ⟨i, rfl⟩ | ⟨i, rfl⟩ | ⟨i, rfl⟩ | hI
        · exfalso
          dsimp only [mx] at hm
          (repeat' (split at hm)) <;> first | (cases hm; done) | (simp [mcall] at hm; done)
        · exfalso
          dsimp only [mx] at hm
          (repeat' (split at hm)) <;> first | (cases hm; done) | (simp [mcall] at hm; done)
        · exfalso
          dsimp only [mx] at hm
          (repeat' (split at hm)) <;> first | (cases hm; done) | (simp [mcall] at hm; done)
        · exact hI
      obtain ⟨v2, hz, hS2, hr2⟩ := s_ret hI hm
      have hv2 : v' = v2 := Sum.inr.inj (Sum.inr.inj hz)
      subst hv2
      simp only [okI] at hok
      split at hok
      · cases hok
      rename_i J n2 hd
      simp only [Bool.and_eq_true, beq_iff_eq, Bool.or_eq_true] at hok
      obtain ⟨⟨rfl, hlen⟩, hok⟩ := hok
      have hJ : J = I ∧ n2 = 1 := by
        rcases hI with rfl | rfl | rfl | rfl <;> (
          cases J <;> first
            | exact ⟨rfl, by simpa [mlen] using hlen⟩
            | (exfalso; cases hok; done)
            | (exfalso; simp [mnorm] at hok; done)
            | (exfalso; simp only [mnorm, Bool.and_eq_true, decide_eq_true_eq] at hok; split at hok <;> simp at hok))
      obtain ⟨rfl, rfl⟩ := hJ
      have kk := kk H locs ls pc J hW hS hd hr2
      rw [Nat.sub_self, Nat.sub_self, Nat.add_zero, Nat.add_zero] at kk
      rw [hS2]
      cases v' with
      | none => exact kk
      | some v' => exact kk
