def I1s (τ : List Nat) (h : List mE) (s : Int) : Prop := ∀ q : Nat, ty τ q 11 → ∃ r1 r2 : Nat, fR h q 0 = some r1 ∧ fR h q 1 = some r2 ∧ ty τ r1 116 ∧ ty τ r2 117 ∧ fI h q 2 ≤ (aN h r1 : Int) ∧ aN h r1 = aN h r2 ∧ fI h q 2 ≤ fI h 4 1 + 1 + s
theorem I1s_of {τ : List Nat} {h : List mE} (hI : I1 τ h) : I1s τ h 1 := fun q hq => by
  obtain ⟨r1, r2, a1, a2, t1, t2, a3, a4, a5⟩ := hI q hq
  exact ⟨r1, r2, a1, a2, t1, t2, a3, a4, by omega⟩
theorem I1s_fr {τ : List Nat} {h h' : List mE} {W : List (Nat × Nat)} {E : EP} {s : Int} (hI : I1s τ h s) (hT : TH E τ h) (hF : Fr τ W h h') (hw : avd W [(11, 0), (11, 1), (11, 2), (1, 1)] = true) : I1s τ h' s := fun q hq => by
  obtain ⟨r1, r2, h1, h2, t1, t2, h3, h4, h5⟩ := hI q hq
  refine ⟨r1, r2, ?_, ?_, t1, t2, ?_, ?_, ?_⟩
  · rw [Fr_fR hF hq (avd_of hw (by decide))]; exact h1
  · rw [Fr_fR hF hq (avd_of hw (by decide))]; exact h2
  · rw [Fr_fI hF hq (avd_of hw (by decide)), (hF r1 116 t1).1]; exact h3
  · rw [(hF r1 116 t1).1, (hF r2 117 t2).1]; exact h4
  · rw [Fr_fI hF hq (avd_of hw (by decide)), Fr_fI hF (tf (q := 4) (t := 1) hT rfl rfl) (avd_of hw (by decide))]; exact h5
theorem I1s_inc {τ : List Nat} {h h' : List mE} {q0 : Nat} {z : Int} (hI : I1 τ h) (hq4 : q0 ≠ 4) (hu : FUp h q0 2 (vI z) h') (hr : -2147483648 ≤ z ∧ z ≤ 2147483647) (hz : z = fI h q0 2 + 1) (hl : ∀ r : Nat, fR h q0 0 = some r → fI h q0 2 < (aN h r : Int)) : I1s τ h' 1 := fun q hq => by
  obtain ⟨r1, r2, a1, a2, t1, t2, a3, a4, a5⟩ := hI q hq
  have n1 := (FUp_arr (q' := r1) hu).2.2
  have n2 := (FUp_arr (q' := r2) hu).2.2
  refine ⟨r1, r2, (FUp_fRne hu (fun z => absurd z.2 (by decide))).trans a1, (FUp_fRne hu (fun z => absurd z.2 (by decide))).trans a2, t1, t2, ?_, by rw [n1, n2]; exact a4, ?_⟩
  · rw [n1]
    by_cases e : q = q0
    · subst e
      rw [FUp_fI hu hr.1 hr.2]
      have := hl r1 a1
      omega
    · rw [FUp_fIne hu (fun z => e z.1)]; exact a3
  · rw [FUp_fIne (q' := 4) hu (fun z => hq4 z.1.symm)]
    by_cases e : q = q0
    · subst e
      rw [FUp_fI hu hr.1 hr.2]
      omega
    · rw [FUp_fIne hu (fun z => e z.1)]; omega
theorem I1_up {τ : List Nat} {h h' : List mE} {z : Int} {E : EP} (hT : TH E τ h) (hI : I1s τ h 1) (hu : FUp h 4 1 (vI z) h') (hr : -2147483648 ≤ z ∧ z ≤ 2147483647) (hz : z = fI h 4 1 + 1) : I1 τ h' := fun q hq => by
  obtain ⟨r1, r2, a1, a2, t1, t2, a3, a4, a5⟩ := hI q hq
  have n1 := (FUp_arr (q' := r1) hu).2.2
  have n2 := (FUp_arr (q' := r2) hu).2.2
  have h4 : q ≠ 4 := fun e => by
    subst e
    exact absurd (ty_1 hq (tf (q := 4) (t := 1) hT rfl rfl)) (by decide)
  refine ⟨r1, r2, (FUp_fRne hu (fun z => absurd z.2 (by decide))).trans a1, (FUp_fRne hu (fun z => h4 z.1)).trans a2, t1, t2, ?_, by rw [n1, n2]; exact a4, ?_⟩
  · rw [n1, FUp_fIne hu (fun z => h4 z.1)]; exact a3
  · rw [FUp_fIne hu (fun z => h4 z.1), FUp_fI hu hr.1 hr.2]
    omega
def Wgr : List (Nat × Nat) := [(11, 0), (11, 1)]
set_option maxHeartbeats 0 in
theorem K63 {Ln : Nat} {xs : Nat → Int32} {τ : List Nat} {h : List mE} (hT : TH Tr τ h) (q0 : Nat) (hq0 : ty τ q0 11) (hI : I1 τ h) (hI2 : I2 τ h) (hs : fI h q0 2 ≤ 400) (d : Nat) (hd : 1 ≤ d) (Q : Option Value → List mE → Prop) (hQ : ∀ v h', (v = none ∧ ∃ τ' : List Nat, (∃ ts : List Nat, τ' = τ ++ ts ∧ gsT ts = true) ∧ TH Tr τ' h' ∧ Fr τ Wgr h h' ∧ I1 τ' h' ∧ I2 τ' h' ∧ fI h' q0 2 = fI h q0 2 ∧ (∀ r : Nat, fR h' q0 0 = some r → fI h q0 2 < (aN h' r : Int))) → Q v h') : MR (mex Ln xs) d 63 0 [some (.ref q0)] [] h Q := by
  refine st_aload c63_0 rfl ?_
  refine st_getI c63_1 hT hq0 fd_11_2 (fun e1 e2 => ?_)
  refine st_aload c63_4 rfl ?_
  refine st_getR c63_5 hT hq0 fd_11_0 (u := 116) rfl (fun r1 x1 t1 => ?_)
  have g1 := I1_0 hI hq0 x1
  refine st_alenI c63_8 hT t1 ay_116 rfl (fun e3 e4 => ?_)
  refine st_icmp_ne c63_9 (by omega) (by omega) (fun k1 => ?_) (fun k2 => ?_)
  · refine st_return c63_46 ?_
    exact hQ _ _ ⟨rfl, τ, ⟨[], (List.append_nil τ).symm, rfl⟩, hT, Fr_rf _ _ _, hI, hI2, rfl, fun r hr => by cases x1.symm.trans hr; omega⟩
  · refine st_aload c63_12 rfl ?_
    refine st_aload c63_13 rfl ?_
    refine st_getNr c63_14 hT hq0 fd_11_0 x1 ?_
    refine st_iconst c63_17 ?_
    refine st_aload c63_18 rfl ?_
    refine st_getI c63_19 hT hq0 fd_11_2 (fun _ _ => ?_)
    refine st_imul c63_22 ?_
    obtain ⟨n, hn⟩ : ∃ n : Nat, (n : Int) = 2 * fI h q0 2 := ⟨(2 * fI h q0 2).toNat, by omega⟩
    rw [← hn]
    refine st_calls (as := [.ref r1, vI (n : Int)]) c63_23 cm_291 rfl rfl rfl rfl (by omega) (Kcopy hT t1 ay_116 (by decide) n (by omega) (d - 1)) (fun v1 h1 H => ?_)
    obtain ⟨g, rfl, rfl, hg⟩ := H
    obtain ⟨hA, eA⟩ : ∃ x, x = h ++ [(.inl (0, (n, .inl g)) : mE)] := ⟨_, rfl⟩
    rw [← eA]
    have hTA : TH Tr (τ ++ [116]) hA := by
      rw [eA]
      exact TH_app hT rfl (fun i t e h1 h2 => match i, h1, h2 with
        | 0, h1, h2 => by cases h1; cases h2; exact okC_i (lo := (-2147483648)) (hi := 2147483647) (by omega) (by omega) ok_full
        | n + 1, h1, h2 => by cases h1)
    have tA : ty (τ ++ [116]) (h.length + 4) 116 := ty_new (k := 0) hT rfl
    have FA0 : Fr τ [] h hA := by rw [eA]; exact Fr_app hT
    have FA : Fr τ Wgr h hA := by rw [eA]; exact Fr_app hT
    have IA : I1 (τ ++ [116]) hA := by rw [eA]; exact I1_app0 hI hT rfl
    have IA2 : I2 (τ ++ [116]) hA := by rw [eA]; exact I2_app0 hI2 hT rfl
    refine st_putR2 c63_26 hTA (Ext_ty Ext_app hq0) fd_11_0 tA Ext_app Stb_T FA (by decide +kernel) (fun h2 hT2 hF2 hU2 => ?_)
    have s2 : fI h2 q0 2 = fI h q0 2 := (FUp_fIne hU2 (fun z => absurd z.2 (by decide))).trans (Fr_fI FA0 hq0 rfl)
    refine st_aload c63_29 rfl ?_
    refine st_aload c63_30 rfl ?_
    refine st_getR c63_31 hT2 (Ext_ty Ext_app hq0) fd_11_1 (u := 117) rfl (fun r2 x2 t2 => ?_)
    refine st_iconst c63_34 ?_
    refine st_aload c63_35 rfl ?_
    refine st_getI c63_36 hT2 (Ext_ty Ext_app hq0) fd_11_2 (fun _ _ => ?_)
    refine st_imul c63_39 ?_
    rw [s2, ← hn]
    refine st_calls (as := [.ref r2, vI (n : Int)]) c63_40 cm_291 rfl rfl rfl rfl (by omega) (Kcopy hT2 t2 ay_117 (by decide) n (by omega) (d - 1)) (fun v1 h1 H => ?_)
    obtain ⟨g2, rfl, rfl, hg2⟩ := H
    obtain ⟨hB, eB⟩ : ∃ x, x = h2 ++ [(.inl (0, (n, .inl g2)) : mE)] := ⟨_, rfl⟩
    rw [← eB]
    have hTB : TH Tr ((τ ++ [116]) ++ [117]) hB := by
      rw [eB]
      exact TH_app hT2 rfl (fun i t e h1 h2 => match i, h1, h2 with
        | 0, h1, h2 => by cases h1; cases h2; exact okC_i (lo := (-2147483648)) (hi := 2147483647) (by omega) (by omega) ok_full
        | n + 1, h1, h2 => by cases h1)
    have tB : ty ((τ ++ [116]) ++ [117]) (h2.length + 4) 117 := ty_new (k := 0) hT2 rfl
    have hE2 : Ext τ ((τ ++ [116]) ++ [117]) := Ext_tr Ext_app Ext_app
    have FB0 : Fr (τ ++ [116]) [] h2 hB := by rw [eB]; exact Fr_app hT2
    have FBt : Fr τ Wgr h2 hB := fun q t ht => by
      have := FB0 q t (Ext_ty Ext_app ht)
      exact ⟨this.1, fun b _ => this.2 b List.not_mem_nil⟩
    have FB : Fr τ Wgr h hB := Fr_tr hF2 FBt
    have IB2 : I2 ((τ ++ [116]) ++ [117]) hB := by
      rw [eB]
      exact I2_app0 (I2_fr IA2 (FUp_1 hU2 (Ext_ty Ext_app hq0)) (by decide +kernel)) hT2 rfl
    refine st_putR2 c63_43 hTB (Ext_ty hE2 hq0) fd_11_1 tB hE2 Stb_T FB (by decide +kernel) (fun h4 hT4 hF4 hU4 => ?_)
    have IC2 := I2_fr IB2 (FUp_1 hU4 (Ext_ty hE2 hq0)) (by decide +kernel)
    refine st_return c63_46 ?_
    -- what the cells hold now
    have f2 : fI h4 q0 2 = fI h q0 2 := ((FUp_fIne hU4 (fun z => absurd z.2 (by decide))).trans (Fr_fI FB0 (Ext_ty Ext_app hq0) rfl)).trans s2
    have c0 : fR h4 q0 0 = some (h.length + 4) := ((FUp_fRne hU4 (fun z => absurd z.2 (by decide))).trans (Fr_fR FB0 (Ext_ty Ext_app hq0) rfl)).trans (FUp_fR hU2)
    have c1 : fR h4 q0 1 = some (h2.length + 4) := FUp_fR hU4
    have nA : aN hA (h.length + 4) = n := by rw [eA]; exact tl_aN (T := [.inl (0, (n, .inl g))]) (k := 0) rfl
    have n0 : aN h4 (h.length + 4) = n := ((FUp_arr hU4).2.2.trans (FB0 _ _ tA).1).trans ((FUp_arr hU2).2.2.trans nA)
    have nB : aN hB (h2.length + 4) = n := by rw [eB]; exact tl_aN (T := [.inl (0, (n, .inl g2))]) (k := 0) rfl
    have n1 : aN h4 (h2.length + 4) = n := (FUp_arr hU4).2.2.trans nB
    have hq4 : q0 ≠ 4 := fun e => by
      subst e
      exact absurd (ty_1 hq0 (tf (q := 4) (t := 1) hT rfl rfl)) (by decide)
    have f4 : fI h4 4 1 = fI h 4 1 := ((FUp_fIne hU4 (fun z => hq4 z.1.symm)).trans (Fr_fI FB0 (tf (q := 4) (t := 1) hT2 rfl rfl) rfl)).trans ((FUp_fIne hU2 (fun z => absurd z.2 (by decide))).trans (Fr_fI FA0 (tf (q := 4) (t := 1) hT rfl rfl) rfl))
    have I4' : I1 ((τ ++ [116]) ++ [117]) h4 := fun q hq => by
      have hq' : ty τ q 11 := by
        rcases ty_app hT2 hq with hq | ⟨k, -, hk⟩
        · rcases ty_app hT hq with hq | ⟨k, -, hk⟩
          · exact hq
          · exact (nocon (u := 11) rfl hk).elim
        · exact (nocon (u := 11) rfl hk).elim
      by_cases e : q = q0
      · subst e
        obtain ⟨y1, y2, b1, b2, -, -, b3, b4, b5⟩ := hI q hq'
        exact ⟨_, _, c0, c1, Ext_ty Ext_app tA, tB, by rw [f2, n0]; omega, by rw [n0, n1], by rw [f2, f4]; exact b5⟩
      · obtain ⟨y1, y2, b1, b2, w1, w2, b3, b4, b5⟩ := hI q hq'
        have k0 : fR h4 q 0 = fR h q 0 := ((FUp_fRne hU4 (fun z => e z.1)).trans (Fr_fR FB0 (Ext_ty Ext_app hq') rfl)).trans ((FUp_fRne hU2 (fun z => e z.1)).trans (Fr_fR FA0 hq' rfl))
        have k1 : fR h4 q 1 = fR h q 1 := ((FUp_fRne hU4 (fun z => e z.1)).trans (Fr_fR FB0 (Ext_ty Ext_app hq') rfl)).trans ((FUp_fRne hU2 (fun z => e z.1)).trans (Fr_fR FA0 hq' rfl))
        have k2 : fI h4 q 2 = fI h q 2 := ((FUp_fIne hU4 (fun z => e z.1)).trans (Fr_fI FB0 (Ext_ty Ext_app hq') rfl)).trans ((FUp_fIne hU2 (fun z => e z.1)).trans (Fr_fI FA0 hq' rfl))
        have m1 : aN h4 y1 = aN h y1 := ((FUp_arr hU4).2.2.trans (FB0 _ _ (Ext_ty Ext_app w1)).1).trans ((FUp_arr hU2).2.2.trans (FA0 _ _ w1).1)
        have m2 : aN h4 y2 = aN h y2 := ((FUp_arr hU4).2.2.trans (FB0 _ _ (Ext_ty Ext_app w2)).1).trans ((FUp_arr hU2).2.2.trans (FA0 _ _ w2).1)
        exact ⟨y1, y2, k0.trans b1, k1.trans b2, Ext_ty hE2 w1, Ext_ty hE2 w2, by rw [k2, m1]; exact b3, by rw [m1, m2]; exact b4, by rw [k2, f4]; exact b5⟩
    exact hQ _ _ ⟨rfl, (τ ++ [116]) ++ [117], ⟨[116, 117], by rw [List.append_assoc]; rfl, rfl⟩, hT4, hF4, I4', IC2, f2, fun r hr => by cases c0.symm.trans hr; rw [n0]; omega⟩
def Wtl : List (Nat × Nat) := [(11, 0), (11, 1), (11, 2), (11, 3), (116, 0), (117, 0)]
set_option maxHeartbeats 0 in
theorem K62e {Ln : Nat} {xs : Nat → Int32} {τ τ' : List Nat} {h0 h : List mE} (hE : Ext τ τ') (hT : TH Tr τ' h) (q0 : Nat) (hq0 : ty τ' q0 11) (p1 p2 : Int) (hp2 : (-2147483648) ≤ p2 ∧ p2 ≤ 2147483647) (hF : Fr τ Wtl h0 h) (hI : I1s τ' h 1) (hI2 : I2 τ' h) (d : Nat) (Q : Option Value → List mE → Prop) (hQ : ∀ h', TH Tr τ' h' → Fr τ Wtl h0 h' → (I1 τ' h → I1 τ' h') → I1s τ' h' 1 → I2 τ' h' → Q none h') : MR (mex Ln xs) d 62 48 [some (.ref q0), some (vI p1), some (vI p2)] [] h Q := by
  obtain ⟨y1, y2, b1, b2, w1, w2, b3, b4, b5⟩ := hI q0 hq0
  refine st_aload c62_48 rfl ?_
  refine st_getR c62_49 hT hq0 fd_11_1 (u := 117) rfl (fun r2 x2 t2 => ?_)
  have er : y2 = r2 := Option.some.inj (b2.symm.trans x2)
  refine st_aload c62_52 rfl ?_
  refine st_getI c62_53 hT hq0 fd_11_2 (fun e1 e2 => ?_)
  refine st_iconst c62_56 ?_
  refine st_isub c62_57 ?_
  refine st_iload c62_58 rfl ?_
  have hlen : fI h q0 2 ≤ (aN h r2 : Int) := by rw [← er, ← b4]; exact b3
  refine st_iast c62_59 hT t2 ay_117 (by omega) hp2 (by omega) hE Stb_T hF (by decide +kernel) (fun h1 hT1 hF1 hU1 => ?_)
  refine st_return c62_60 ?_
  exact hQ _ hT1 hF1 (fun hi => I1_fr hi hT (AUp_1 hU1 t2) (by decide +kernel)) (I1s_fr hI hT (AUp_1 hU1 t2) (by decide +kernel)) (I2_fr hI2 (AUp_1 hU1 t2) (by decide +kernel))
set_option maxHeartbeats 0 in
theorem K62 {Ln : Nat} {xs : Nat → Int32} {τ : List Nat} {h : List mE} (hT : TH Tr τ h) (q0 : Nat) (hq0 : ty τ q0 11) (p1 p2 : Int) (hp1 : (-2147483648) ≤ p1 ∧ p1 ≤ 2147483647) (hp2 : (-2147483648) ≤ p2 ∧ p2 ≤ 2147483647) (hI : I1 τ h) (hI2 : I2 τ h) (pre : fI h q0 2 ≤ 400 ∨ TOLD h q0 p1) (d : Nat) (hd : 3 ≤ d) (Q : Option Value → List mE → Prop) (hQ : ∀ v h', (v = none ∧ ∃ τ' : List Nat, (∃ ts : List Nat, τ' = τ ++ ts ∧ gsT ts = true) ∧ TH Tr τ' h' ∧ Fr τ Wtl h h' ∧ I1s τ' h' 1 ∧ (TOLD h q0 p1 → I1 τ' h') ∧ I2 τ' h') → Q v h') : MR (mex Ln xs) d 62 0 [some (.ref q0), some (vI p1), some (vI p2)] [] h Q := by
  have hq4 : q0 ≠ 4 := fun e => by
    subst e
    exact absurd (ty_1 hq0 (tf (q := 4) (t := 1) hT rfl rfl)) (by decide)
  refine st_aload c62_0 rfl ?_
  refine st_iload c62_1 rfl ?_
  refine st_callt (as := [vI p1]) c62_2 cm_60 hT hq0 fd_11_0 rfl rfl rfl rfl (by omega) (K60 hT q0 hq0 p1 (by omega) hI (d - 1) (by omega) _ (fun v h0 H => H)) (fun v1 h1 H => ?_)
  rcases H with ⟨rfl, u0, rfl⟩ | ⟨rfl, u1, rfl⟩
  · refine st_if_ne c62_5 (by omega) (fun k1 => False.elim (by omega)) (fun k2 => ?_)
    have hs : fI h q0 2 ≤ 400 := pre.resolve_right (fun ⟨r, a, b⟩ => u0 r a b)
    refine st_aload c62_8 rfl ?_
    refine st_callt (as := []) c62_9 cm_63 hT hq0 fd_11_0 rfl rfl rfl rfl (by omega) (K63 hT q0 hq0 hI hI2 hs (d - 1) (by omega) _ (fun v h0 H => H)) (fun v1 h1 H => ?_)
    obtain ⟨rfl, τ', ⟨ts, rfl, hg⟩, hT1, hF1, hJ, hJ2, hsz, hln⟩ := H
    have hq1 : ty (τ ++ ts) q0 11 := Ext_ty Ext_app hq0
    have hFa : Fr τ Wtl h h1 := Fr_mono hF1 (by decide +kernel)
    refine st_aload c62_12 rfl ?_
    refine st_getR c62_13 hT1 hq1 fd_11_0 (u := 116) rfl (fun r1 x1 t1 => ?_)
    have l1 := hln r1 x1
    refine st_aload c62_16 rfl ?_
    refine st_getI c62_17 hT1 hq1 fd_11_2 (fun e1 e2 => ?_)
    refine st_iload c62_20 rfl ?_
    refine st_iast c62_21 hT1 t1 ay_116 (by omega) hp1 (by omega) Ext_app Stb_T hFa (by decide +kernel) (fun h2 hT2 hF2 hU2 => ?_)
    have hJb := I1_fr hJ hT1 (AUp_1 hU2 t1) (by decide +kernel)
    have hJb2 := I2_fr hJ2 (AUp_1 hU2 t1) (by decide +kernel)
    have z2 : fI h2 q0 2 = fI h1 q0 2 := AUp_fI hU2
    refine st_aload c62_22 rfl ?_
    refine st_dup c62_23 rfl ?_
    refine st_getI c62_24 hT2 hq1 fd_11_2 (fun e3 e4 => ?_)
    refine st_iconst c62_27 ?_
    refine st_iadd c62_28 ?_
    refine st_putI c62_29 hT2 hq1 fd_11_2 (by omega) (by omega) Ext_app Stb_T hF2 (by decide +kernel) (fun h3 hT3 hF3 hU3 => ?_)
    have hJc : I1s (τ ++ ts) h3 1 := I1s_inc hJb hq4 hU3 (by omega) rfl (fun r hr => by
      have e5 : fR h2 q0 0 = fR h1 q0 0 := AUp_fR hU2
      rw [e5] at hr
      have := hln r hr
      have e6 : aN h2 r = aN h1 r := (AUp_o (q' := r) hU2).2.1
      rw [e6, z2, hsz]; exact this)
    have hJc2 := I2_fr hJb2 (FUp_1 hU3 hq1) (by decide +kernel)
    refine st_goto c62_32 ?_
    refine K62e Ext_app hT3 q0 hq1 p1 p2 hp2 hF3 hJc hJc2 d Q (fun h' a1 a2 a3 a4 a5 => ?_)
    exact hQ _ _ ⟨rfl, τ ++ ts, ⟨ts, rfl, hg⟩, a1, a2, a4, fun ⟨r, a, b⟩ => (u0 r a b).elim, a5⟩
  · refine st_if_ne c62_5 (by omega) (fun k1 => ?_) (fun k2 => False.elim (by omega))
    refine st_aload c62_35 rfl ?_
    refine st_getI c62_36 hT hq0 fd_11_2 (fun e1 e2 => ?_)
    refine st_iconst c62_39 ?_
    have fin : ∀ (h2 : List mE), TH Tr τ h2 → Fr τ Wtl h h2 → I1 τ h2 → I2 τ h2 → MR (mex Ln xs) d 62 48 [some (.ref q0), some (vI p1), some (vI p2)] [] h2 Q := fun h2 hT2 hF2 hj hj2 => K62e (Ext_rf τ) hT2 q0 hq0 p1 p2 hp2 hF2 (I1s_of hj) hj2 d Q (fun h' a1 a2 a3 a4 a5 => hQ _ _ ⟨rfl, τ, ⟨[], (List.append_nil τ).symm, rfl⟩, a1, a2, a4, fun _ => a3 hj, a5⟩)
    refine st_icmp_ne c62_40 (by omega) (by omega) (fun k3 => ?_) (fun k4 => ?_)
    · exact fin h hT (Fr_rf _ _ _) hI hI2
    · refine st_aload c62_43 rfl ?_
      refine st_iconst c62_44 ?_
      refine st_putI c62_45 hT hq0 fd_11_3 (by omega) (by omega) (Ext_rf τ) Stb_T (Fr_rf τ Wtl h) (by decide +kernel) (fun h2 hT2 hF2 hU2 => ?_)
      exact fin h2 hT2 hF2 (I1_fr hI hT (FUp_1 hU2 hq0) (by decide +kernel)) (I2_fr hI2 (FUp_1 hU2 hq0) (by decide +kernel))
