/-! .. BY FUEL -/
section GRUN
variable {p : Program} {l : Launch} {e : Env} {R : Room} {s : State} {m : MethodId} {args : Array Value} {below : List Frame} {meth : Method} {c : Code} {H : Heap} {locs : List Loc} {cells slots : Nat} {Q : State → Prop}
variable {pc : Nat} {ls : Array Slot} {ex : List mE} {a1 b1 q1 : Nat} {L : mL} {S : List Value} {h : List mE} {xs : Nat → Nat} {b : Nat} {aC : Nat → ClassId} {D : va_G} {M M' : mMR}
theorem mmk_of {a b st : Nat} {ini : Bool} (hm : mrec a = some M') (h : mmk a b st ini = true) : a < mLaw ∧ M'.2.2.2.2.2.1 = st ∧ M'.2.2.2.2.2.2.1 = b ∧ (decide (M'.1.name = "<init>") = ini) := by
  unfold mmk at h
  rw [hm] at h
  simp only [Bool.and_eq_true, beq_iff_eq] at h
  obtain ⟨⟨⟨h1, h2⟩, h3⟩, h4⟩ := h
  exact ⟨Nat.blt_eq.mp h1, h2, h3, h4⟩
theorem e45_x {a d r : Nat} (h1 : a ≤ 45) (h2 : 64 * (d + 6) ≤ r) : 8 + (a + 11) + 64 * (d + 5) ≤ r := by
  have e : 64 * (d + 6) = 64 * (d + 5) + 64 := Nat.mul_succ 64 (d + 5)
  rw [e, Nat.add_comm] at h2
  exact Nat.le_trans (Nat.add_le_add_right (Nat.add_le_add_left (Nat.add_le_add_right h1 11) 8) _) h2
/-- what stands on a call, whichever -/
theorem g_run {f d' m' : Nat} {as T : List Value} {v : Option Value} {h1 : List mE}
    (hr : ∀ hM : Met l M'.1 (g_ws M') (g_rm d' (h1.length - h.length) (mhs h1 - mhs h)) (g_Pc xs b aC D ex as h) (g_Qc xs b aC D v h1) (h1.length - h.length) (mhs h1 - mhs h) (g_A b), va_Run p l e R s m args below meth c H locs cells slots (h1.length - h.length) (mhs h1 - mhs h) (F0 m pc ls (S.map (g_V (g_ad xs b)))) (T.map (g_V (g_ad xs b))) (g_Qc xs b aC D v h1 (as.map (g_V (g_ad xs b))).toArray) (g_A b))
    (hm' : mrec m' = some M') (hM' : g_M M') (hMW : g_MW M') (hlen : (lent1 as).length ≤ M'.2.2.1) (hf : g_Sim ex f) (hrun : mrun ex f d' m' 0 (lent as M'.2.2.1) [] h = some (v, h1)) (hS : va_S (g_A b) s.heap H locs)
    (kk : ∀ (H1 : Heap) (locs1 : List Loc), g_W xs b aC D h1 H1 → va_S (g_A b) s.heap H1 locs1 → W p l e R s m args below meth c H1 locs1 (cells + (h1.length - h.length)) (slots + (mhs h1 - mhs h)) Q (F0 m (pc + 3) ls ((mpush v T).map (g_V (g_ad xs b))))) : W p l e R s m args below meth c H locs cells slots Q (F0 m pc ls (S.map (g_V (g_ad xs b)))) := by
  refine x_call (hr (g_met hf hrun hm' hM' hMW hlen)) (fun st oc t h0 hq => hq) hS (fun _ z => z) (fun H1 locs1 w st => ?_)
  have kk := kk H1 locs1 w st
  cases v with
  | none => exact kk
  | some v => exact kk
theorem g_call {r : mR} {f d' m' : Nat} {as T : List Value} {v : Option Value} {h1 : List mE} (C : g_C xs b aC D ex p s m meth c M) (hW : g_W xs b aC D h H) (hS : va_S (g_A b) s.heap H locs) (hL : g_H (g_ad xs b) ls L) (hl : L.length = M.2.2.1) (hR1 : d' + 6 ≤ R.frames) (hR2 : 64 * (d' + 6) ≤ R.locals) (hk : okI M.2.2.2.2.1 M.1 M.2.1 pc r = true)
    (hm : mx M.2.2.2.1 ex r pc L S h = some (.inr (.inl (m', as, T)))) (hm' : mrec m' = some M') (hMM : m' < mLaw → g_M M' ∧ g_MW M') (hlen : (lent1 as).length ≤ M'.2.2.1) (hf : g_Sim ex f) (hrun : mrun ex f d' m' 0 (lent as M'.2.2.1) [] h = some (v, h1)) (hc : cells + (h1.length - h.length) ≤ R.cells) (hs : slots + (mhs h1 - mhs h) ≤ R.slots)
    (kk : ∀ (H1 : Heap) (locs1 : List Loc), g_W xs b aC D h1 H1 → va_S (g_A b) s.heap H1 locs1 → W p l e R s m args below meth c H1 locs1 (cells + (h1.length - h.length)) (slots + (mhs h1 - mhs h)) Q (F0 m (pc + r.2.1) ls ((mpush v T).map (g_V (g_ad xs b))))) : W p l e R s m args below meth c H locs cells slots Q (F0 m pc ls (S.map (g_V (g_ad xs b)))) := by
  obtain ⟨hx, hb, hml, hown, -, -, hnm, -, hE, hM⟩ := C
  obtain ⟨I, n, a1, b1, q1⟩ := r
  have hsz : (F0 m pc ls (S.map (g_V (g_ad xs b)))).locals.size = M.2.2.1 := by show ls.size = _; rw [hL.1, hl]
  have hTs : ∀ w ∈ lw_tbl.filter goodWord, w.before args s = true := g_hts hE args
  have hcw : goodWord (Jvm.Cond.code M'.1 M'.2.1 M'.2.2.1 M'.2.2.2.1) = true := rfl
  have e45 : ∀ hMW : g_MW M', (g_rm d' (h1.length - h.length) (mhs h1 - mhs h)).frames + 1 ≤ R.frames ∧ 8 + (M'.2.2.1 + 11) + (g_rm d' (h1.length - h.length) (mhs h1 - mhs h)).locals ≤ R.locals := fun hMW => by
    have h5 := hMW.2.2.2.2.1
    refine ⟨by show d' + 5 + 1 ≤ _; omega, ?_⟩
    exact e45_x h5 hR2
  rcases mx_out hm with ⟨i, rfl⟩ | ⟨i, rfl⟩ | ⟨i, rfl⟩ | hI
  · replace hm : (match mtake b1 S [] with
        | some (as, T) => if mcat T ≤ 8 then mcall a1 as T else none
        | none => none) = some (.inr (.inl (m', as, T))) := hm
    simp only [okI] at hk
    split at hk
    · cases hk
    rename_i J n2 hd
    simp only [Bool.and_eq_true, beq_iff_eq, Bool.or_eq_true] at hk
    obtain ⟨⟨rfl, hlen2⟩, hk⟩ := hk
    obtain ⟨i2, rfl⟩ : ∃ i2, J = .invokestatic i2 := by
      cases J with
      | invokestatic i2 => exact ⟨i2, rfl⟩
      | _ => first | (cases hk; done) | (simp [mnorm] at hk; done) | (simp only [mnorm, Bool.and_eq_true, decide_eq_true_eq] at hk; split at hk <;> simp at hk)
    simp only [Bool.and_eq_true, beq_iff_eq] at hk
    obtain ⟨⟨rfl, hk⟩, hmk⟩ := hk
    replace hlen2 : n2 = 3 := by simpa [mlen] using hlen2
    subst hlen2
    split at hm
    · rename_i as2 T2 ht
      by_cases h8 : mcat T2 ≤ 8
      · rw [if_pos h8] at hm
        simp only [mcall, Option.some.injEq, Sum.inr.injEq, Sum.inl.injEq, Prod.mk.injEq] at hm
        obtain ⟨rfl, rfl, rfl⟩ := hm
        obtain ⟨hlaw, hst, hna, -⟩ := mmk_of hm' hmk
        obtain ⟨hM', hMW⟩ := hMM hlaw
        obtain ⟨ta, tb⟩ := mtake_0 ht
        have hd3 := hMW.2.2.1
        have hstw := hMW.2.2.2.2.2.1 hst
        refine g_run (fun hMet => ?_) hm' hM' hMW hlen hf hrun hS kk
        have hstk : (F0 m pc ls (S.map (g_V (g_ad xs b)))).stack = (as2.map (g_V (g_ad xs b))).reverse ++ T2.map (g_V (g_ad xs b)) := by
          show S.map _ = _
          rw [tb, List.map_append, List.map_reverse]
        have hpr : PreS s H (g_Pc xs b aC D ex as2 h) (as2.map (g_V (g_ad xs b))) := ⟨g_pcb, g_pcs hE hW hS⟩
        rcases g_lm (args := args) hM hE hm' hk with hl2 | ⟨host, hl2⟩
        · exact va_runS ⟨hx, hb, hml, hown, hTs⟩ hMet ⟨callB_of (n := M'.2.2.2.2.2.2.1) hTs (g_good hMW hcw) rfl rfl rfl (hE.1 _ hMW.2.1 rfl args) hl2 hd3 (e45 hMW), hE.1 _ hstw rfl args⟩ hpr rfl (by rw [List.length_map, ta, hna]) hsz hstk (lv_room (by rw [g_mcat]; exact h8)) hd ⟨hc, hs⟩
        · exact va_runSN ⟨hx, hb, hml, hown, hTs⟩ hMet ⟨va_cnB (n := M'.2.2.2.2.2.2.1) hTs (g_good hMW hcw) rfl rfl rfl hl2 (hE.1 _ hMW.2.1 rfl args) hd3 (e45 hMW), hE.1 _ hstw rfl args, trivial⟩ hpr rfl (by rw [List.length_map, ta, hna]) hsz hstk (lv_room (by rw [g_mcat]; exact h8)) hd ⟨hc, hs⟩
      · rw [if_neg h8] at hm; cases hm
    · cases hm
  · replace hm : (match mtake b1 S [] with
      | some (as, .ref q :: T) => (match mown h q, mrec a1 with
          | some (.inr (ci, _)), some R => if ci = R.2.2.2.2.1 ∧ mcat T ≤ 8 then mcall a1 (.ref q :: as) T else none
          | _, _ => none)
      | _ => none) = some (.inr (.inl (m', as, T))) := hm
    simp only [okI] at hk
    split at hk
    · cases hk
    rename_i J n2 hd
    simp only [Bool.and_eq_true, beq_iff_eq, Bool.or_eq_true] at hk
    obtain ⟨⟨rfl, hlen2⟩, hk⟩ := hk
    obtain ⟨i2, rfl⟩ : ∃ i2, J = .invokevirtual i2 := by
      cases J with
      | invokevirtual i2 => exact ⟨i2, rfl⟩
      | _ => first | (cases hk; done) | (simp [mnorm] at hk; done) | (simp only [mnorm, Bool.and_eq_true, decide_eq_true_eq] at hk; split at hk <;> simp at hk)
    simp only [Bool.and_eq_true, beq_iff_eq] at hk
    obtain ⟨⟨rfl, hk⟩, hmk⟩ := hk
    replace hlen2 : n2 = 3 := by simpa [mlen] using hlen2
    subst hlen2
    split at hm
    · rename_i as2 q T2 ht
      split at hm
      · rename_i ci fs R2 hq hR2'
        by_cases h8 : ci = R2.2.2.2.2.1 ∧ mcat T2 ≤ 8
        · rw [if_pos h8] at hm
          simp only [mcall, Option.some.injEq, Sum.inr.injEq, Sum.inl.injEq, Prod.mk.injEq] at hm
          obtain ⟨rfl, rfl, rfl⟩ := hm
          cases hm'.symm.trans hR2'
          obtain ⟨h7, h8⟩ := h8
          obtain ⟨hlaw, hst, hna, hni⟩ := mmk_of hm' hmk
          obtain ⟨hM', hMW⟩ := hMM hlaw
          obtain ⟨ta, tb⟩ := mtake_0 ht
          have hd3 := hMW.2.2.1
          obtain ⟨hiw, hsw, -⟩ := hMW.2.2.2.2.2.2 (by rw [hst]; decide)
          have hsw := hsw.resolve_left (of_decide_eq_false hni)
          refine g_run (fun hMet => ?_) hm' hM' hMW hlen hf hrun hS kk
          have hstk : (F0 m pc ls (S.map (g_V (g_ad xs b)))).stack = (as2.map (g_V (g_ad xs b))).reverse ++ .ref (g_ad xs b q) :: T2.map (g_V (g_ad xs b)) := by
            show S.map _ = _
            rw [tb, List.map_append, List.map_reverse]
            rfl
          have hrecv : ∃ cellB : Cell, H[g_ad xs b q]? = some cellB ∧ cellB.vm.isStatics = false ∧ s.vm.findClass M'.1.cls = some cellB.cls := by
            have h0 := hM'.2
            obtain ⟨⟨Cn, T0, N⟩, hcl⟩ : ∃ t, vwCl[ci]? = some t := by
              obtain ⟨r, hr1, -⟩ := g_at hW hq
              exact ⟨r, hr1⟩
            have h1 := va_recv hE.2.2.2.1 (x_one (g_at hW hq)) hcl (q0 := 0) rfl
            have h2 := ck_ow ci Cn T0 N hcl
            rw [← h7, h2] at h0
            have h3 : Cn = M'.1.cls := Option.some.inj h0
            rw [← h3]
            exact h1
          have hpr : PreV s H M'.1.cls (g_ad xs b q) (g_Pc xs b aC D ex (.ref q :: as2) h) (as2.map (g_V (g_ad xs b))) := ⟨g_pcb, hrecv, g_pcs hE hW hS⟩
          rcases g_lm (args := args) hM hE hm' hk with hl2 | ⟨host, hl2⟩
          · exact va_runV ⟨hx, hb, hml, hown, hTs⟩ hMet ⟨callB_of (n := M'.2.2.2.2.2.2.1) hTs (g_good hMW hcw) rfl rfl rfl (hE.1 _ hMW.2.1 rfl args) hl2 hd3 (e45 hMW), hE.1 _ hiw rfl args, hE.1 _ hsw rfl args⟩ hpr rfl (by rw [List.length_map, ta, hna]) hsz hstk (lv_room (by rw [g_mcat]; exact h8)) hd ⟨hc, hs⟩
          · exact va_runVN ⟨hx, hb, hml, hown, hTs⟩ hMet ⟨va_cnB (n := M'.2.2.2.2.2.2.1) hTs (g_good hMW hcw) rfl rfl rfl hl2 (hE.1 _ hMW.2.1 rfl args) hd3 (e45 hMW), hE.1 _ hiw rfl args, hE.1 _ hsw rfl args⟩ hpr rfl (by rw [List.length_map, ta, hna]) hsz hstk (lv_room (by rw [g_mcat]; exact h8)) hd ⟨hc, hs⟩
        · rw [if_neg h8] at hm; cases hm
      · cases hm
    · cases hm
  · replace hm : (match mtake b1 S [] with
      | some (as, .ref q :: T) => if mcat T ≤ 8 then mcall a1 (.ref q :: as) T else none
      | _ => none) = some (.inr (.inl (m', as, T))) := hm
    simp only [okI] at hk
    split at hk
    · cases hk
    rename_i J n2 hd
    simp only [Bool.and_eq_true, beq_iff_eq, Bool.or_eq_true] at hk
    obtain ⟨⟨rfl, hlen2⟩, hk⟩ := hk
    obtain ⟨i2, rfl⟩ : ∃ i2, J = .invokespecial i2 := by
      cases J with
      | invokespecial i2 => exact ⟨i2, rfl⟩
      | _ => first | (cases hk; done) | (simp [mnorm] at hk; done) | (simp only [mnorm, Bool.and_eq_true, decide_eq_true_eq] at hk; split at hk <;> simp at hk)
    simp only [Bool.and_eq_true, beq_iff_eq] at hk
    obtain ⟨⟨rfl, hk⟩, hmk⟩ := hk
    replace hlen2 : n2 = 3 := by simpa [mlen] using hlen2
    subst hlen2
    split at hm
    · rename_i as2 q T2 ht
      by_cases h8 : mcat T2 ≤ 8
      · rw [if_pos h8] at hm
        simp only [mcall, Option.some.injEq, Sum.inr.injEq, Sum.inl.injEq, Prod.mk.injEq] at hm
        obtain ⟨rfl, rfl, rfl⟩ := hm
        obtain ⟨hlaw, hst, hna, hni⟩ := mmk_of hm' hmk
        obtain ⟨hM', hMW⟩ := hMM hlaw
        obtain ⟨ta, tb⟩ := mtake_0 ht
        have hd3 := hMW.2.2.1
        obtain ⟨hiw, -, hret⟩ := hMW.2.2.2.2.2.2 (by rw [hst]; decide)
        have hin := of_decide_eq_true hni
        have hret := hret hin
        refine g_run (fun hMet => ?_) hm' hM' hMW hlen hf hrun hS kk
        have hstk : (F0 m pc ls (S.map (g_V (g_ad xs b)))).stack = (as2.map (g_V (g_ad xs b))).reverse ++ .ref (g_ad xs b q) :: T2.map (g_V (g_ad xs b)) := by
          show S.map _ = _
          rw [tb, List.map_append, List.map_reverse]
          rfl
        have hpr : PreS s H (g_Pc xs b aC D ex (.ref q :: as2) h) (.ref (g_ad xs b q) :: as2.map (g_V (g_ad xs b))) := ⟨g_pcb, g_pcs hE hW hS⟩
        have hw0 : g_ws M' = .code M'.1 M'.2.1 M'.2.2.1 none :: lw_tbl.filter goodWord := by unfold g_ws; rw [hret]
        rcases g_lm (args := args) hM hE hm' hk with hl2 | ⟨host, hl2⟩
        · exact va_runI ⟨hx, hb, hml, hown, hTs⟩ hMet ⟨callB_of (n := M'.2.2.2.2.2.2.1) hTs (g_good hMW hcw) hw0 rfl rfl (hE.1 _ hMW.2.1 rfl args) hl2 hd3 (e45 hMW), hin, hE.1 _ hiw rfl args⟩ hpr rfl (by rw [List.length_map, ta, hna]) hsz hstk (lv_room (by rw [g_mcat]; exact h8)) hd ⟨hc, hs⟩
        · exact va_runIN ⟨hx, hb, hml, hown, hTs⟩ hMet ⟨va_cnB (n := M'.2.2.2.2.2.2.1) hTs (g_good hMW hcw) hw0 rfl rfl hl2 (hE.1 _ hMW.2.1 rfl args) hd3 (e45 hMW), hin, hE.1 _ hiw rfl args⟩ hpr rfl (by rw [List.length_map, ta, hna]) hsz hstk (lv_room (by rw [g_mcat]; exact h8)) hd ⟨hc, hs⟩
      · rw [if_neg h8] at hm; cases hm
    · cases hm
  · obtain ⟨v2, hz, -⟩ := s_ret hI hm
    cases hz
end GRUN
