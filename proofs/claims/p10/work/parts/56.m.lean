def W248 : List (Nat × Nat) := [(8, 77), (102, 0)]
set_option maxHeartbeats 0 in
theorem K248 {Ln : Nat} {xs : Nat → Int32} {τ : List Nat} {h : List mE} {E : EP} (hT : TH E τ h) (hS : Stb E W248) (p1 : Int) (hp1 : (-2147483648) ≤ p1 ∧ p1 ≤ 2147483647) (pre0 : fI h 64 77≤196) (d : Nat) (hd : 0 ≤ d) (Q : Option Value → List mE → Prop) (hQ : ∀ v h', (v = none ∧ (fI h' 64 77=fI h 64 77+4) ∧ (PFe1 h h' p1) ∧ TH E τ h' ∧ Fr τ W248 h h') → Q v h') : MR (mex Ln xs) d 248 0 [some (.ref 64), some (vI p1), none] [] h Q := by
  have hF := Fr_rf τ W248 h
  have e1 := fI_bd (q := 64) hT (tf hT rfl rfl) fd_8_77
  refine st_iconst c248_0 ?_
  refine st_istore (L' := [some (.ref 64), some (vI p1), some (vI 3)]) c248_1 rfl rfl ?_
  have lp112 : ∀ (n113 : Nat) (z107 : Int) (h108 : List mE), (z107 : Int) - (-1) < (n113 : Int) → (-1) ≤ z107 ∧ z107 ≤ 3 → fI h108 64 77+z107 ≤ 199 → fI h108 64 77 + z107 = fI h 64 77 + 3 → RIn h h108 p1 → TH E τ h108 → Fr τ W248 h h108 → Fr τ [(8, 77), (102, 0)] h h108 → MR (mex Ln xs) d 248 2 [some (.ref 64), some (vI p1), some (vI z107)] [] h108 Q := by
    intro n113
    induction n113 with
    | zero =>
      intro z107 h108 hm115 b116 x117 x118 x119 hT109 hF110 hL111
      exfalso; omega
    | succ n113 ih114 =>
      intro z107 h108 hm115 b116 x117 x118 x119 hT109 hF110 hL111
      have e120 := fI_bd (q := 64) hT109 (tf hT109 rfl rfl) fd_8_77
      refine st_iload c248_2 rfl ?_
      refine st_if_lt c248_3 (by omega) (fun k121 => ?_) (fun k122 => ?_)
      refine st_return c248_38 ?_
      exact hQ _ _ ⟨rfl, by omega, PFe1_of x119 (by omega), hT109, hF110⟩
      refine st_aload c248_6 rfl ?_
      refine st_getX (u := 124) c248_7 hT109 (tf hT109 rfl rfl) fd_8_76 rfl ?_
      refine st_aload c248_10 rfl ?_
      refine st_getI c248_11 hT109 (tf hT109 rfl rfl) fd_8_77 (fun e123 e124 => ?_)
      refine st_iload c248_14 rfl ?_
      refine st_iconst c248_15 ?_
      refine st_iload c248_17 rfl ?_
      refine st_imul c248_18 ?_
      refine st_ishrx c248_19 ?_
      refine st_i2bx c248_20 ?_
      have e125 := I2B_bd (SHR p1 (8 * z107))
      refine st_bast c248_21 hT109 (tf hT109 rfl rfl) ay_102 (by omega) (by omega) (by omega) (Ext_rf _) hS hF110 (by decide +kernel) (fun h126 hT127 hF128 hU129 => ?_)
      refine st_aload c248_22 rfl ?_
      refine st_dup c248_23 rfl ?_
      refine st_getI c248_24 hT127 (tf hT127 rfl rfl) fd_8_77 (fun e130 e131 => ?_)
      have q132 : fI h126 64 77 = fI h108 64 77 := AUp_fI hU129
      refine st_iconst c248_27 ?_
      refine st_iadd c248_28 ?_
      refine st_putI c248_29 hT127 (tf hT127 rfl rfl) fd_8_77 (by omega) (by omega) (Ext_rf _) hS hF128 (by decide +kernel) (fun h133 hT134 hF135 hU136 => ?_)
      refine st_iinc (L' := [some (.ref 64), some (vI p1), some (vI (z107 + (-1)))]) c248_32 rfl rfl rfl ?_
      refine st_goto c248_35 ?_
      have e137 := fI_bd (q := 64) hT134 (tf hT134 rfl rfl) fd_8_77
      have q138 : fI h133 64 77 = (fI h126 64 77) + 1 := FUp_fI hU136 (by omega) (by omega)
      have bq139 := bt_2 (v := p1) (k := z107) (by omega) (by omega)
      rw [show z107 = 3 - (fI h108 64 77 - fI h 64 77) from by omega] at bq139
      have bq140 : z107 = 3 - (fI h108 64 77 - fI h 64 77) := by omega
      exact ih114 (z107 + (-1)) h133 (by omega) (by omega) (by omega) (by omega) (RIn_s x119 hU129 (by omega) hU136 (by omega) (by rw [bq140]; exact bq139) (by omega) (by omega)) hT134 hF135 (FUp_Fr (AUp_Fr hL111 hU129 (fun u hu => by rw [ty_1 hu (tf hT134 rfl rfl)]; decide)) hU136 (fun u hu => by rw [ty_1 hu (tf hT134 rfl rfl)]; decide))
  have e141 := fI_bd (q := 64) hT (tf hT rfl rfl) fd_8_77
  exact lp112 ((((3 : Int) - (-1) : Int) + 1).toNat) 3 h (by omega) (by omega) (by omega) (by omega) RIn_0 hT hF (Fr_rf _ _ _)
def W247 : List (Nat × Nat) := [(8, 77), (102, 0)]
set_option maxHeartbeats 0 in
theorem K247 {Ln : Nat} {xs : Nat → Int32} {τ : List Nat} {h : List mE} {E : EP} (hT : TH E τ h) (hS : Stb E W247) (p1 : Int) (hp1 : (-2147483648) ≤ p1 ∧ p1 ≤ 2147483647) (p2 : Int) (hp2 : (-2147483648) ≤ p2 ∧ p2 ≤ 2147483647) (p3 : Int) (hp3 : (-2147483648) ≤ p3 ∧ p3 ≤ 2147483647) (p4 : Int) (hp4 : (-2147483648) ≤ p4 ∧ p4 ≤ 2147483647) (p5 : Int) (hp5 : (-2147483648) ≤ p5 ∧ p5 ≤ 2147483647) (d : Nat) (hd : 1 ≤ d) (Q : Option Value → List mE → Prop) (hQ : ∀ v h', (∃ z : Int, v = some (vI z) ∧ ((-3) ≤ z ∧ z ≤ 200) ∧ (PFeR h h' p1 p2 p3 p4 p5 z) ∧ TH E τ h' ∧ Fr τ W247 h h') → Q v h') : MR (mex Ln xs) d 247 0 [some (.ref 64), some (vI p1), some (vI p2), some (vI p3), some (vI p4), some (vI p5)] [] h Q := by
  have hF := Fr_rf τ W247 h
  refine st_aload c247_0 rfl ?_
  refine st_getI c247_1 hT (tf hT rfl rfl) fd_8_77 (fun e1 e2 => ?_)
  refine st_iconst c247_4 ?_
  refine st_iadd c247_6 ?_
  refine st_iconst c247_7 ?_
  refine st_icmp_le c247_10 (by omega) (by omega) (fun k3 => ?_) (fun k4 => ?_)
  refine st_aload c247_16 rfl ?_
  refine st_iload c247_17 rfl ?_
  refine st_callt (as := [vI p1]) c247_18 cm_248 hT (tf hT rfl rfl) fd_8_0 rfl rfl rfl rfl (by omega) (K248 hT (Stb_mono hS (by decide +kernel)) p1 (by omega) (by omega) (d - 1) (by omega) _ (fun v h0 H => H)) (fun v1 h5 H => ?_)
  obtain ⟨rfl, pf8, pf9, hT6, hF7⟩ := H
  have hF10 := Fr_cp hF hF7 (by decide +kernel : Wsub W248 W247 = true)
  have e11 := fI_bd (q := 64) hT6 (tf hT6 rfl rfl) fd_8_77
  refine st_aload c247_21 rfl ?_
  refine st_iload c247_22 rfl ?_
  refine st_callt (as := [vI p2]) c247_23 cm_248 hT6 (tf hT6 rfl rfl) fd_8_0 rfl rfl rfl rfl (by omega) (K248 hT6 (Stb_mono hS (by decide +kernel)) p2 (by omega) (by omega) (d - 1) (by omega) _ (fun v h0 H => H)) (fun v1 h12 H => ?_)
  obtain ⟨rfl, pf15, pf16, hT13, hF14⟩ := H
  have hF17 := Fr_cp hF10 hF14 (by decide +kernel : Wsub W248 W247 = true)
  have e18 := fI_bd (q := 64) hT13 (tf hT13 rfl rfl) fd_8_77
  refine st_aload c247_26 rfl ?_
  refine st_iload c247_27 rfl ?_
  refine st_callt (as := [vI p3]) c247_28 cm_248 hT13 (tf hT13 rfl rfl) fd_8_0 rfl rfl rfl rfl (by omega) (K248 hT13 (Stb_mono hS (by decide +kernel)) p3 (by omega) (by omega) (d - 1) (by omega) _ (fun v h0 H => H)) (fun v1 h19 H => ?_)
  obtain ⟨rfl, pf22, pf23, hT20, hF21⟩ := H
  have hF24 := Fr_cp hF17 hF21 (by decide +kernel : Wsub W248 W247 = true)
  have e25 := fI_bd (q := 64) hT20 (tf hT20 rfl rfl) fd_8_77
  refine st_aload c247_31 rfl ?_
  refine st_iload c247_32 rfl ?_
  refine st_callt (as := [vI p4]) c247_34 cm_248 hT20 (tf hT20 rfl rfl) fd_8_0 rfl rfl rfl rfl (by omega) (K248 hT20 (Stb_mono hS (by decide +kernel)) p4 (by omega) (by omega) (d - 1) (by omega) _ (fun v h0 H => H)) (fun v1 h26 H => ?_)
  obtain ⟨rfl, pf29, pf30, hT27, hF28⟩ := H
  have hF31 := Fr_cp hF24 hF28 (by decide +kernel : Wsub W248 W247 = true)
  have e32 := fI_bd (q := 64) hT27 (tf hT27 rfl rfl) fd_8_77
  refine st_aload c247_37 rfl ?_
  refine st_iload c247_38 rfl ?_
  refine st_callt (as := [vI p5]) c247_40 cm_248 hT27 (tf hT27 rfl rfl) fd_8_0 rfl rfl rfl rfl (by omega) (K248 hT27 (Stb_mono hS (by decide +kernel)) p5 (by omega) (by omega) (d - 1) (by omega) _ (fun v h0 H => H)) (fun v1 h33 H => ?_)
  obtain ⟨rfl, pf36, pf37, hT34, hF35⟩ := H
  have hF38 := Fr_cp hF31 hF35 (by decide +kernel : Wsub W248 W247 = true)
  have e39 := fI_bd (q := 64) hT34 (tf hT34 rfl rfl) fd_8_77
  refine st_aload c247_43 rfl ?_
  refine st_getI c247_44 hT34 (tf hT34 rfl rfl) fd_8_77 (fun e40 e41 => ?_)
  refine st_ireturn c247_47 ?_
  exact hQ _ _ ⟨fI h33 64 77, rfl, by omega, PFeR_of (by omega) pf9 pf16 pf23 pf30 pf37 (by omega), hT34, hF38⟩
  refine st_iconst c247_13 ?_
  refine st_ireturn c247_15 ?_
  exact hQ _ _ ⟨(-3), rfl, by omega, Or.inl ⟨by omega, by omega, by omega, rfl⟩, hT, hF⟩
def W249 : List (Nat × Nat) := [(8, 77)]
set_option maxHeartbeats 0 in
theorem K249 {Ln : Nat} {xs : Nat → Int32} {τ : List Nat} {h : List mE} {E : EP} (hT : TH E τ h) (hS : Stb E W249) (p1 : Int) (hp1 : (-2147483648) ≤ p1 ∧ p1 ≤ 2147483647) (d : Nat) (hd : 1 ≤ d) (Q : Option Value → List mE → Prop) (hQ : ∀ v h', (∃ z : Int, v = some (vI z) ∧ ((-1) ≤ z ∧ z ≤ 200) ∧ ((0 ≤ p1 ∧ p1 ≤ fI h 64 77 ∧ z = p1 ∧ fI h' 64 77 = p1) ∨ ((p1 < 0 ∨ fI h 64 77 < p1) ∧ z = -1 ∧ fI h' 64 77 = fI h 64 77)) ∧ TH E τ h' ∧ Fr τ W249 h h') → Q v h') : MR (mex Ln xs) d 249 0 [some (.ref 64), some (vI p1)] [] h Q := by
  have hF := Fr_rf τ W249 h
  refine st_iload c249_0 rfl ?_
  refine st_iconst c249_1 ?_
  refine st_aload c249_2 rfl ?_
  refine st_getI c249_3 hT (tf hT rfl rfl) fd_8_77 (fun e1 e2 => ?_)
  refine st_calls (as := [vI p1, vI 0, vI (fI h 64 77)]) c249_6 cm_180 rfl rfl rfl rfl (by omega) (K180 hT p1 (by omega) 0 (by omega) (fI h 64 77) (by omega) (d - 1) (by omega) _ (fun v h0 H => H)) (fun v1 h1 H => ?_)
  rcases H with ⟨rfl, pf3, rfl⟩ | ⟨rfl, pf4, pf5, rfl⟩
  refine st_if_ne c249_9 (by omega) (fun k6 => False.elim (by omega)) (fun k7 => ?_)
  refine st_iconst c249_12 ?_
  refine st_ireturn c249_13 ?_
  exact hQ _ _ ⟨(-1), rfl, by omega, by omega, hT, hF⟩
  refine st_if_ne c249_9 (by omega) (fun k8 => ?_) (fun k9 => False.elim (by omega))
  refine st_aload c249_14 rfl ?_
  refine st_iload c249_15 rfl ?_
  refine st_putI c249_16 hT (tf hT rfl rfl) fd_8_77 (by omega) (by omega) (Ext_rf _) hS hF (by decide +kernel) (fun h10 hT11 hF12 hU13 => ?_)
  refine st_iload c249_19 rfl ?_
  refine st_ireturn c249_20 ?_
  have e14 := fI_bd (q := 64) hT11 (tf hT11 rfl rfl) fd_8_77
  have q15 : fI h10 64 77 = p1 := FUp_fI hU13 (by omega) (by omega)
  exact hQ _ _ ⟨p1, rfl, by omega, by omega, hT11, hF12⟩
set_option maxHeartbeats 0 in
theorem K250 {Ln : Nat} {xs : Nat → Int32} {τ : List Nat} {h : List mE} {E : EP} (hT : TH E τ h) (p0 : Int) (hp0 : (-2147483648) ≤ p0 ∧ p0 ≤ 2147483647) (d : Nat) (hd : 1 ≤ d) (Q : Option Value → List mE → Prop) (hQ : ∀ v h', ((v = some (vI 0) ∧ (p0 < 97 ∨ 122 < p0) ∧ h = h') ∨ (v = some (vI 1) ∧ (97≤p0) ∧ (p0≤122) ∧ h = h')) → Q v h') : MR (mex Ln xs) d 250 0 [some (vI p0)] [] h Q := by
  refine st_iload c250_0 rfl ?_
  refine st_iconst c250_1 ?_
  refine st_iconst c250_3 ?_
  refine st_calls (as := [vI p0, vI 97, vI 122]) c250_5 cm_180 rfl rfl rfl rfl (by omega) (K180 hT p0 (by omega) 97 (by omega) 122 (by omega) (d - 1) (by omega) _ (fun v h0 H => H)) (fun v1 h1 H => ?_)
  rcases H with ⟨rfl, pf1, rfl⟩ | ⟨rfl, pf2, pf3, rfl⟩
  refine st_zreturn c250_8 (by omega) ?_
  exact hQ _ _ (Or.inl ⟨rfl, by omega, rfl⟩)
  refine st_zreturn c250_8 (by omega) ?_
  exact hQ _ _ (Or.inr ⟨rfl, by omega, by omega, rfl⟩)
set_option maxHeartbeats 0 in
theorem K251 {Ln : Nat} {xs : Nat → Int32} {τ : List Nat} {h : List mE} {E : EP} (hT : TH E τ h) (p0 : Int) (hp0 : (-2147483648) ≤ p0 ∧ p0 ≤ 2147483647) (d : Nat) (hd : 1 ≤ d) (Q : Option Value → List mE → Prop) (hQ : ∀ v h', ((v = some (vI 0) ∧ (p0 < 48 ∨ 57 < p0) ∧ h = h') ∨ (v = some (vI 1) ∧ (48≤p0) ∧ (p0≤57) ∧ h = h')) → Q v h') : MR (mex Ln xs) d 251 0 [some (vI p0)] [] h Q := by
  refine st_iload c251_0 rfl ?_
  refine st_iconst c251_1 ?_
  refine st_iconst c251_3 ?_
  refine st_calls (as := [vI p0, vI 48, vI 57]) c251_5 cm_180 rfl rfl rfl rfl (by omega) (K180 hT p0 (by omega) 48 (by omega) 57 (by omega) (d - 1) (by omega) _ (fun v h0 H => H)) (fun v1 h1 H => ?_)
  rcases H with ⟨rfl, pf1, rfl⟩ | ⟨rfl, pf2, pf3, rfl⟩
  refine st_zreturn c251_8 (by omega) ?_
  exact hQ _ _ (Or.inl ⟨rfl, by omega, rfl⟩)
  refine st_zreturn c251_8 (by omega) ?_
  exact hQ _ _ (Or.inr ⟨rfl, by omega, by omega, rfl⟩)
def W252 : List (Nat × Nat) := [(8, 86), (8, 87), (8, 88), (8, 89)]
set_option maxHeartbeats 0 in
theorem K252 {S F P : Int → Int} {a : Int} {Ln : Nat} {xs : Nat → Int32} {τ : List Nat} {h : List mE} {E : EP} (hT : TH E τ h) (hS : Stb E W252) (pre0 : fI h 64 87≤fI h 64 77) (pre1 : NX S F P h a) (d : Nat) (hd : 2 ≤ d) (Q : Option Value → List mE → Prop) (hQ : ∀ v h', (v = none ∧ (fI h 64 87≤fI h' 64 86) ∧ (fI h' 64 86≤fI h' 64 87) ∧ (fI h' 64 87≤fI h 64 77) ∧ (fI h' 64 88 = 0 ∨ fI h' 64 86 + 1 ≤ fI h' 64 87) ∧ (CU S F P h' a) ∧ TH E τ h' ∧ Fr τ W252 h h') → Q v h') : MR (mex Ln xs) d 252 0 [some (.ref 64)] [] h Q := by
  have hF := Fr_rf τ W252 h
  have e1 := fI_bd (q := 64) hT (tf hT rfl rfl) fd_8_87
  have e2 := fI_bd (q := 64) hT (tf hT rfl rfl) fd_8_77
  refine st_aload c252_0 rfl ?_
  refine st_aload c252_1 rfl ?_
  refine st_getI c252_2 hT (tf hT rfl rfl) fd_8_87 (fun e3 e4 => ?_)
  refine st_putI c252_5 hT (tf hT rfl rfl) fd_8_86 (by omega) (by omega) (Ext_rf _) hS hF (by decide +kernel) (fun h5 hT6 hF7 hU8 => ?_)
  have lp37 : ∀ (n38 : Nat) (h33 : List mE), fI h33 64 77 - fI h33 64 86 < (n38 : Int) → fI h33 64 86 ≤ fI h33 64 77 → fI h33 64 87 ≤ fI h33 64 86 → fI h 64 87 ≤ fI h33 64 86 → BL h h33 (fI h 64 87) → TH E τ h33 → Fr τ W252 h h33 → Fr τ [(8, 86)] h5 h33 → MR (mex Ln xs) d 252 8 [some (.ref 64)] [] h33 Q := by
    intro n38
    induction n38 with
    | zero =>
      intro h33 hm40 x41 x42 x43 x44 hT34 hF35 hL36
      exfalso; omega
    | succ n38 ih39 =>
      intro h33 hm40 x41 x42 x43 x44 hT34 hF35 hL36
      have e45 := fI_bd (q := 64) hT34 (tf hT34 rfl rfl) fd_8_86
      have e46 := fI_bd (q := 64) hT34 (tf hT34 rfl rfl) fd_8_77
      have q47 : fI h33 64 77 = fI h 64 77 := (Fr_fI hL36 (tf hT6 rfl rfl) (by decide +kernel)).trans (FUp_fIne hU8 (fun z => absurd z.2 (by decide)))
      have e48 := fI_bd (q := 64) hT34 (tf hT34 rfl rfl) fd_8_87
      have q49 : fI h33 64 87 = fI h 64 87 := (Fr_fI hL36 (tf hT6 rfl rfl) (by decide +kernel)).trans (FUp_fIne hU8 (fun z => absurd z.2 (by decide)))
      refine st_aload c252_8 rfl ?_
      refine st_getI c252_9 hT34 (tf hT34 rfl rfl) fd_8_86 (fun e50 e51 => ?_)
      refine st_aload c252_12 rfl ?_
      refine st_getI c252_13 hT34 (tf hT34 rfl rfl) fd_8_77 (fun e52 e53 => ?_)
      have q54 : fI h33 64 77 = fI h 64 77 := (Fr_fI hL36 (tf hT6 rfl rfl) (by decide +kernel)).trans (FUp_fIne hU8 (fun z => absurd z.2 (by decide)))
      refine st_icmp_ge c252_16 (by omega) (by omega) (fun k55 => ?_) (fun k56 => ?_)
      refine st_aload c252_46 rfl ?_
      refine st_aload c252_47 rfl ?_
      refine st_getI c252_48 hT34 (tf hT34 rfl rfl) fd_8_86 (fun e57 e58 => ?_)
      refine st_putI c252_51 hT34 (tf hT34 rfl rfl) fd_8_87 (by omega) (by omega) (Ext_rf _) hS hF35 (by decide +kernel) (fun h59 hT60 hF61 hU62 => ?_)
      refine st_aload c252_54 rfl ?_
      refine st_getI c252_55 hT60 (tf hT60 rfl rfl) fd_8_86 (fun e63 e64 => ?_)
      have q65 : fI h59 64 86 = fI h33 64 86 := FUp_fIne hU62 (fun z => absurd z.2 (by decide))
      refine st_aload c252_58 rfl ?_
      refine st_getI c252_59 hT60 (tf hT60 rfl rfl) fd_8_77 (fun e66 e67 => ?_)
      have q68 : fI h59 64 77 = fI h33 64 77 := FUp_fIne hU62 (fun z => absurd z.2 (by decide))
      refine st_icmp_ne c252_62 (by omega) (by omega) (fun k69 => ?_) (fun k70 => ?_)
      refine st_aload c252_71 rfl ?_
      refine st_getX (u := 124) c252_72 hT60 (tf hT60 rfl rfl) fd_8_76 rfl ?_
      refine st_aload c252_75 rfl ?_
      refine st_getI c252_76 hT60 (tf hT60 rfl rfl) fd_8_86 (fun e71 e72 => ?_)
      have q73 : fI h59 64 86 = fI h33 64 86 := FUp_fIne hU62 (fun z => absurd z.2 (by decide))
      refine st_bald c252_79 hT60 (tf hT60 rfl rfl) ay_102 (Or.inr rfl) (by omega) (fun e74 e75 => ?_)
      have q76 : aI h59 124 (fI h59 64 86) = aI h 124 (fI h59 64 86) := (FUp_aI hU62 (fI h59 64 86)).trans ((Fr_aI hL36 (tf hT6 rfl rfl) (by decide +kernel) (fI h59 64 86)).trans (FUp_aI hU8 (fI h59 64 86)))
      refine st_calls (as := [vI (aI h59 124 (fI h59 64 86))]) c252_80 cm_250 rfl rfl rfl rfl (by omega) (K250 hT60 (aI h59 124 (fI h59 64 86)) (by omega) (d - 1) (by omega) _ (fun v h0 H => H)) (fun v1 h1 H => ?_)
      rcases H with ⟨rfl, pf77, rfl⟩ | ⟨rfl, pf78, pf79, rfl⟩
      refine st_if_eq c252_83 (by omega) (fun k80 => ?_) (fun k81 => False.elim (by omega))
      refine st_aload c252_131 rfl ?_
      refine st_getX (u := 124) c252_132 hT60 (tf hT60 rfl rfl) fd_8_76 rfl ?_
      refine st_aload c252_135 rfl ?_
      refine st_getI c252_136 hT60 (tf hT60 rfl rfl) fd_8_86 (fun e82 e83 => ?_)
      have q84 : fI h59 64 86 = fI h33 64 86 := FUp_fIne hU62 (fun z => absurd z.2 (by decide))
      refine st_bald c252_139 hT60 (tf hT60 rfl rfl) ay_102 (Or.inr rfl) (by omega) (fun e85 e86 => ?_)
      have q87 : aI h59 124 (fI h59 64 86) = aI h 124 (fI h59 64 86) := (FUp_aI hU62 (fI h59 64 86)).trans ((Fr_aI hL36 (tf hT6 rfl rfl) (by decide +kernel) (fI h59 64 86)).trans (FUp_aI hU8 (fI h59 64 86)))
      refine st_calls (as := [vI (aI h59 124 (fI h59 64 86))]) c252_140 cm_251 rfl rfl rfl rfl (by omega) (K251 hT60 (aI h59 124 (fI h59 64 86)) (by omega) (d - 1) (by omega) _ (fun v h0 H => H)) (fun v1 h1 H => ?_)
      rcases H with ⟨rfl, pf88, rfl⟩ | ⟨rfl, pf89, pf90, rfl⟩
      refine st_if_eq c252_143 (by omega) (fun k91 => ?_) (fun k92 => False.elim (by omega))
      refine st_aload c252_259 rfl ?_
      refine st_dup c252_260 rfl ?_
      refine st_getI c252_261 hT60 (tf hT60 rfl rfl) fd_8_87 (fun e93 e94 => ?_)
      have q95 : fI h59 64 87 = fI h33 64 86 := FUp_fI hU62 (by omega) (by omega)
      refine st_iconst c252_264 ?_
      refine st_iadd c252_265 ?_
      refine st_putI c252_266 hT60 (tf hT60 rfl rfl) fd_8_87 (by omega) (by omega) (Ext_rf _) hS hF61 (by decide +kernel) (fun h96 hT97 hF98 hU99 => ?_)
      refine st_aload c252_269 rfl ?_
      refine st_aload c252_270 rfl ?_
      refine st_getX (u := 124) c252_271 hT97 (tf hT97 rfl rfl) fd_8_76 rfl ?_
      refine st_aload c252_274 rfl ?_
      refine st_getI c252_275 hT97 (tf hT97 rfl rfl) fd_8_86 (fun e100 e101 => ?_)
      have q102 : fI h96 64 86 = fI h59 64 86 := FUp_fIne hU99 (fun z => absurd z.2 (by decide))
      refine st_bald c252_278 hT97 (tf hT97 rfl rfl) ay_102 (Or.inr rfl) (by omega) (fun e103 e104 => ?_)
      have q105 : aI h96 124 (fI h96 64 86) = aI h 124 (fI h96 64 86) := (FUp_aI hU99 (fI h96 64 86)).trans ((FUp_aI hU62 (fI h96 64 86)).trans ((Fr_aI hL36 (tf hT6 rfl rfl) (by decide +kernel) (fI h96 64 86)).trans (FUp_aI hU8 (fI h96 64 86))))
      refine st_iconst c252_279 ?_
      refine st_icmp_le c252_281 (by omega) (by omega) (fun k106 => ?_) (fun k107 => ?_)
      refine st_iconst c252_296 ?_
      refine st_putI c252_297 hT97 (tf hT97 rfl rfl) fd_8_88 (by omega) (by omega) (Ext_rf _) hS hF98 (by decide +kernel) (fun h108 hT109 hF110 hU111 => ?_)
      refine st_return c252_300 ?_
      have e112 := fI_bd (q := 64) hT109 (tf hT109 rfl rfl) fd_8_86
      have q113 : fI h108 64 86 = fI h96 64 86 := FUp_fIne hU111 (fun z => absurd z.2 (by decide))
      have e114 := fI_bd (q := 64) hT109 (tf hT109 rfl rfl) fd_8_87
      have q115 : fI h108 64 87 = (fI h59 64 87) + 1 := (FUp_fIne hU111 (fun z => absurd z.2 (by decide))).trans (FUp_fI hU99 (by omega) (by omega))
      have e116 := fI_bd (q := 64) hT109 (tf hT109 rfl rfl) fd_8_88
      have q117 : fI h108 64 88 = (-1) := FUp_fI hU111 (by omega) (by omega)
      have e118 := fI_bd (q := 64) hT109 (tf hT109 rfl rfl) fd_8_77
      have q119 : fI h108 64 77 = fI h59 64 77 := (FUp_fIne hU111 (fun z => absurd z.2 (by decide))).trans (FUp_fIne hU99 (fun z => absurd z.2 (by decide)))
      have e120 := fI_bd (q := 64) hT109 (tf hT109 rfl rfl) fd_8_90
      have q121 : fI h108 64 90 = fI h 64 90 := (FUp_fIne hU111 (fun z => absurd z.2 (by decide))).trans ((FUp_fIne hU99 (fun z => absurd z.2 (by decide))).trans ((FUp_fIne hU62 (fun z => absurd z.2 (by decide))).trans ((Fr_fI hL36 (tf hT6 rfl rfl) (by decide +kernel)).trans (FUp_fIne hU8 (fun z => absurd z.2 (by decide))))))
      have e122 := fI_bd (q := 64) hT (tf hT rfl rfl) fd_8_77
      have e123 := fI_bd (q := 64) hT (tf hT rfl rfl) fd_8_86
      have e124 := fI_bd (q := 64) hT (tf hT rfl rfl) fd_8_88
      have e125 := fI_bd (q := 64) hT (tf hT rfl rfl) fd_8_90
      have e126 := fI_bd (q := 64) hT34 (tf hT34 rfl rfl) fd_8_88
      have q127 : fI h33 64 88 = fI h 64 88 := (Fr_fI hL36 (tf hT6 rfl rfl) (by decide +kernel)).trans (FUp_fIne hU8 (fun z => absurd z.2 (by decide)))
      have e128 := fI_bd (q := 64) hT34 (tf hT34 rfl rfl) fd_8_90
      have q129 : fI h33 64 90 = fI h 64 90 := (Fr_fI hL36 (tf hT6 rfl rfl) (by decide +kernel)).trans (FUp_fIne hU8 (fun z => absurd z.2 (by decide)))
      have tg131 : TT h108 = TT h33 := (TT_fr hT hF110 (by decide +kernel)).trans (TT_fr hT hF35 (by decide +kernel)).symm
      have bl130 := BL_m x44 tg131 (by omega)
      have tt132 := TT_at hT109 (fI h108 64 86)
      have te133 : TT h108 = TT h := TT_fr hT hF110 (by decide +kernel)
      rw [te133] at tt132
      exact hQ _ _ ⟨rfl, by omega, by omega, by omega, by omega, NT_sig pre1 bl130 (by omega) (by omega) (by omega) (by intro k; have k : (97 : Int) ≤ TT h (fI h108 64 86) ∧ TT h (fI h108 64 86) ≤ 122 := k; omega) (by intro k; have k : (48 : Int) ≤ TT h (fI h108 64 86) ∧ TT h (fI h108 64 86) ≤ 57 := k; omega) (by omega) (by omega) (by omega), hT109, hF110⟩
      refine st_aload c252_284 rfl ?_
      refine st_getX (u := 124) c252_285 hT97 (tf hT97 rfl rfl) fd_8_76 rfl ?_
      refine st_aload c252_288 rfl ?_
      refine st_getI c252_289 hT97 (tf hT97 rfl rfl) fd_8_86 (fun e134 e135 => ?_)
      have q136 : fI h96 64 86 = fI h59 64 86 := FUp_fIne hU99 (fun z => absurd z.2 (by decide))
      refine st_bald c252_292 hT97 (tf hT97 rfl rfl) ay_102 (Or.inr rfl) (by omega) (fun e137 e138 => ?_)
      have q139 : aI h96 124 (fI h96 64 86) = aI h 124 (fI h96 64 86) := (FUp_aI hU99 (fI h96 64 86)).trans ((FUp_aI hU62 (fI h96 64 86)).trans ((Fr_aI hL36 (tf hT6 rfl rfl) (by decide +kernel) (fI h96 64 86)).trans (FUp_aI hU8 (fI h96 64 86))))
      refine st_goto c252_293 ?_
      refine st_putI c252_297 hT97 (tf hT97 rfl rfl) fd_8_88 (by omega) (by omega) (Ext_rf _) hS hF98 (by decide +kernel) (fun h140 hT141 hF142 hU143 => ?_)
      refine st_return c252_300 ?_
      have e144 := fI_bd (q := 64) hT141 (tf hT141 rfl rfl) fd_8_86
      have q145 : fI h140 64 86 = fI h96 64 86 := FUp_fIne hU143 (fun z => absurd z.2 (by decide))
      have e146 := fI_bd (q := 64) hT141 (tf hT141 rfl rfl) fd_8_87
      have q147 : fI h140 64 87 = (fI h59 64 87) + 1 := (FUp_fIne hU143 (fun z => absurd z.2 (by decide))).trans (FUp_fI hU99 (by omega) (by omega))
      have e148 := fI_bd (q := 64) hT141 (tf hT141 rfl rfl) fd_8_88
      have q149 : fI h140 64 88 = aI h96 124 (fI h96 64 86) := FUp_fI hU143 (by omega) (by omega)
      have e150 := fI_bd (q := 64) hT141 (tf hT141 rfl rfl) fd_8_77
      have q151 : fI h140 64 77 = fI h59 64 77 := (FUp_fIne hU143 (fun z => absurd z.2 (by decide))).trans (FUp_fIne hU99 (fun z => absurd z.2 (by decide)))
      have e152 := fI_bd (q := 64) hT141 (tf hT141 rfl rfl) fd_8_90
      have q153 : fI h140 64 90 = fI h 64 90 := (FUp_fIne hU143 (fun z => absurd z.2 (by decide))).trans ((FUp_fIne hU99 (fun z => absurd z.2 (by decide))).trans ((FUp_fIne hU62 (fun z => absurd z.2 (by decide))).trans ((Fr_fI hL36 (tf hT6 rfl rfl) (by decide +kernel)).trans (FUp_fIne hU8 (fun z => absurd z.2 (by decide))))))
      have e154 := fI_bd (q := 64) hT (tf hT rfl rfl) fd_8_77
      have e155 := fI_bd (q := 64) hT (tf hT rfl rfl) fd_8_86
      have e156 := fI_bd (q := 64) hT (tf hT rfl rfl) fd_8_88
      have e157 := fI_bd (q := 64) hT (tf hT rfl rfl) fd_8_90
      have e158 := fI_bd (q := 64) hT34 (tf hT34 rfl rfl) fd_8_88
      have q159 : fI h33 64 88 = fI h 64 88 := (Fr_fI hL36 (tf hT6 rfl rfl) (by decide +kernel)).trans (FUp_fIne hU8 (fun z => absurd z.2 (by decide)))
      have e160 := fI_bd (q := 64) hT34 (tf hT34 rfl rfl) fd_8_90
      have q161 : fI h33 64 90 = fI h 64 90 := (Fr_fI hL36 (tf hT6 rfl rfl) (by decide +kernel)).trans (FUp_fIne hU8 (fun z => absurd z.2 (by decide)))
      have tg163 : TT h140 = TT h33 := (TT_fr hT hF142 (by decide +kernel)).trans (TT_fr hT hF35 (by decide +kernel)).symm
      have bl162 := BL_m x44 tg163 (by omega)
      have tt164 := TT_at hT141 (fI h140 64 86)
      have te165 : TT h140 = TT h := TT_fr hT hF142 (by decide +kernel)
      rw [te165] at tt164
      exact hQ _ _ ⟨rfl, by omega, by omega, by omega, by omega, NT_sig pre1 bl162 (by omega) (by omega) (by omega) (by intro k; have k : (97 : Int) ≤ TT h (fI h140 64 86) ∧ TT h (fI h140 64 86) ≤ 122 := k; omega) (by intro k; have k : (48 : Int) ≤ TT h (fI h140 64 86) ∧ TT h (fI h140 64 86) ≤ 57 := k; omega) (by omega) (by omega) (by omega), hT141, hF142⟩
      refine st_if_eq c252_143 (by omega) (fun k166 => False.elim (by omega)) (fun k167 => ?_)
      refine st_aload c252_146 rfl ?_
      refine st_iconst c252_147 ?_
      refine st_putI c252_148 hT60 (tf hT60 rfl rfl) fd_8_89 (by omega) (by omega) (Ext_rf _) hS hF61 (by decide +kernel) (fun h168 hT169 hF170 hU171 => ?_)
      have lp249 : ∀ (n250 : Nat) (h245 : List mE), fI h245 64 77 - fI h245 64 87 < (n250 : Int) → fI h245 64 87 ≤ fI h245 64 77 → fI h245 64 86 ≤ fI h245 64 87 → fI h245 64 86+1 ≤ fI h245 64 77 → fI h245 64 86 + 1 ≤ fI h245 64 87 ∨ (48 ≤ aI h245 124 (fI h245 64 87) ∧ aI h245 124 (fI h245 64 87) ≤ 57) → fI h 64 87 ≤ fI h245 64 86 → fI h245 64 77 = fI h 64 77 → BL h h245 (fI h 64 87) → RU (fun i => isD (TT h i)) h245 → TH E τ h245 → Fr τ W252 h h245 → Fr τ [(8, 87), (8, 89)] h168 h245 → MR (mex Ln xs) d 252 151 [some (.ref 64)] [] h245 Q := by
        intro n250
        induction n250 with
        | zero =>
          intro h245 hm252 x253 x254 x255 x256 x257 x258 x259 x260 hT246 hF247 hL248
          exfalso; omega
        | succ n250 ih251 =>
          intro h245 hm252 x253 x254 x255 x256 x257 x258 x259 x260 hT246 hF247 hL248
          have e261 := fI_bd (q := 64) hT246 (tf hT246 rfl rfl) fd_8_87
          have e262 := fI_bd (q := 64) hT246 (tf hT246 rfl rfl) fd_8_77
          have q263 : fI h245 64 77 = fI h59 64 77 := (Fr_fI hL248 (tf hT169 rfl rfl) (by decide +kernel)).trans (FUp_fIne hU171 (fun z => absurd z.2 (by decide)))
          have e264 := fI_bd (q := 64) hT246 (tf hT246 rfl rfl) fd_8_86
          have q265 : fI h245 64 86 = fI h59 64 86 := (Fr_fI hL248 (tf hT169 rfl rfl) (by decide +kernel)).trans (FUp_fIne hU171 (fun z => absurd z.2 (by decide)))
          refine st_aload c252_151 rfl ?_
          refine st_getI c252_152 hT246 (tf hT246 rfl rfl) fd_8_87 (fun e266 e267 => ?_)
          refine st_aload c252_155 rfl ?_
          refine st_getI c252_156 hT246 (tf hT246 rfl rfl) fd_8_77 (fun e268 e269 => ?_)
          have q270 : fI h245 64 77 = fI h59 64 77 := (Fr_fI hL248 (tf hT169 rfl rfl) (by decide +kernel)).trans (FUp_fIne hU171 (fun z => absurd z.2 (by decide)))
          refine st_icmp_ge c252_159 (by omega) (by omega) (fun k271 => ?_) (fun k272 => ?_)
          refine st_aload c252_235 rfl ?_
          refine st_aload c252_236 rfl ?_
          refine st_getI c252_237 hT246 (tf hT246 rfl rfl) fd_8_87 (fun e273 e274 => ?_)
          refine st_aload c252_240 rfl ?_
          refine st_getI c252_241 hT246 (tf hT246 rfl rfl) fd_8_86 (fun e275 e276 => ?_)
          have q277 : fI h245 64 86 = fI h59 64 86 := (Fr_fI hL248 (tf hT169 rfl rfl) (by decide +kernel)).trans (FUp_fIne hU171 (fun z => absurd z.2 (by decide)))
          refine st_isub c252_244 ?_
          refine st_iconst c252_245 ?_
          refine st_icmp_le c252_247 (by omega) (by omega) (fun k278 => ?_) (fun k279 => ?_)
          refine st_iconst c252_254 ?_
          refine st_putI c252_255 hT246 (tf hT246 rfl rfl) fd_8_88 (by omega) (by omega) (Ext_rf _) hS hF247 (by decide +kernel) (fun h280 hT281 hF282 hU283 => ?_)
          refine st_return c252_258 ?_
          have e284 := fI_bd (q := 64) hT281 (tf hT281 rfl rfl) fd_8_86
          have q285 : fI h280 64 86 = fI h245 64 86 := FUp_fIne hU283 (fun z => absurd z.2 (by decide))
          have e286 := fI_bd (q := 64) hT281 (tf hT281 rfl rfl) fd_8_87
          have q287 : fI h280 64 87 = fI h245 64 87 := FUp_fIne hU283 (fun z => absurd z.2 (by decide))
          have e288 := fI_bd (q := 64) hT281 (tf hT281 rfl rfl) fd_8_88
          have q289 : fI h280 64 88 = 2 := FUp_fI hU283 (by omega) (by omega)
          have e290 := fI_bd (q := 64) hT281 (tf hT281 rfl rfl) fd_8_77
          have q291 : fI h280 64 77 = fI h245 64 77 := FUp_fIne hU283 (fun z => absurd z.2 (by decide))
          have e292 := fI_bd (q := 64) hT281 (tf hT281 rfl rfl) fd_8_90
          have q293 : fI h280 64 90 = fI h 64 90 := (FUp_fIne hU283 (fun z => absurd z.2 (by decide))).trans ((Fr_fI hL248 (tf hT169 rfl rfl) (by decide +kernel)).trans ((FUp_fIne hU171 (fun z => absurd z.2 (by decide))).trans ((FUp_fIne hU62 (fun z => absurd z.2 (by decide))).trans ((Fr_fI hL36 (tf hT6 rfl rfl) (by decide +kernel)).trans (FUp_fIne hU8 (fun z => absurd z.2 (by decide)))))))
          have e294 := fI_bd (q := 64) hT (tf hT rfl rfl) fd_8_77
          have e295 := fI_bd (q := 64) hT (tf hT rfl rfl) fd_8_86
          have e296 := fI_bd (q := 64) hT (tf hT rfl rfl) fd_8_88
          have e297 := fI_bd (q := 64) hT (tf hT rfl rfl) fd_8_90
          have e298 := fI_bd (q := 64) hT246 (tf hT246 rfl rfl) fd_8_88
          have q299 : fI h245 64 88 = fI h 64 88 := (Fr_fI hL248 (tf hT169 rfl rfl) (by decide +kernel)).trans ((FUp_fIne hU171 (fun z => absurd z.2 (by decide))).trans ((FUp_fIne hU62 (fun z => absurd z.2 (by decide))).trans ((Fr_fI hL36 (tf hT6 rfl rfl) (by decide +kernel)).trans (FUp_fIne hU8 (fun z => absurd z.2 (by decide))))))
          have e300 := fI_bd (q := 64) hT246 (tf hT246 rfl rfl) fd_8_90
          have q301 : fI h245 64 90 = fI h 64 90 := (Fr_fI hL248 (tf hT169 rfl rfl) (by decide +kernel)).trans ((FUp_fIne hU171 (fun z => absurd z.2 (by decide))).trans ((FUp_fIne hU62 (fun z => absurd z.2 (by decide))).trans ((Fr_fI hL36 (tf hT6 rfl rfl) (by decide +kernel)).trans (FUp_fIne hU8 (fun z => absurd z.2 (by decide))))))
          have tg303 : TT h280 = TT h245 := (TT_fr hT hF282 (by decide +kernel)).trans (TT_fr hT hF247 (by decide +kernel)).symm
          have bl302 := BL_m x259 tg303 (by omega)
          have tt304 := TT_at hT281 (fI h280 64 86)
          have te305 : TT h280 = TT h := TT_fr hT hF282 (by decide +kernel)
          rw [te305] at tt304
          have ru306 : RU (fun i => isD (TT h i)) h280 := fun j a b => x260 j (by omega) (by omega)
          have tt307 := TT_at hT281 (fI h280 64 87)
          have te308 : TT h280 = TT h := TT_fr hT hF282 (by decide +kernel)
          rw [te308] at tt307
          have sq309 : fI h280 64 87 = fI h 64 77 ∨ ¬ isD (TT h (fI h280 64 87)) := by
            by_cases c : fI h280 64 87 = fI h 64 77
            · exact Or.inl c
            · exact Or.inr (by intro k; have k : (48 : Int) ≤ TT h (fI h280 64 87) ∧ TT h (fI h280 64 87) ≤ 57 := k; omega)
          exact hQ _ _ ⟨rfl, by omega, by omega, by omega, by omega, NT_dig pre1 bl302 (by omega) (by omega) (by omega) (show 48 ≤ TT h (fI h280 64 86) ∧ TT h (fI h280 64 86) ≤ 57 by omega) ru306 (by omega) (by omega) sq309 (by omega), hT281, hF282⟩
          refine st_iconst c252_250 ?_
          refine st_goto c252_251 ?_
          refine st_putI c252_255 hT246 (tf hT246 rfl rfl) fd_8_88 (by omega) (by omega) (Ext_rf _) hS hF247 (by decide +kernel) (fun h310 hT311 hF312 hU313 => ?_)
          refine st_return c252_258 ?_
          have e314 := fI_bd (q := 64) hT311 (tf hT311 rfl rfl) fd_8_86
          have q315 : fI h310 64 86 = fI h245 64 86 := FUp_fIne hU313 (fun z => absurd z.2 (by decide))
          have e316 := fI_bd (q := 64) hT311 (tf hT311 rfl rfl) fd_8_87
          have q317 : fI h310 64 87 = fI h245 64 87 := FUp_fIne hU313 (fun z => absurd z.2 (by decide))
          have e318 := fI_bd (q := 64) hT311 (tf hT311 rfl rfl) fd_8_88
          have q319 : fI h310 64 88 = (-1) := FUp_fI hU313 (by omega) (by omega)
          have e320 := fI_bd (q := 64) hT311 (tf hT311 rfl rfl) fd_8_77
          have q321 : fI h310 64 77 = fI h245 64 77 := FUp_fIne hU313 (fun z => absurd z.2 (by decide))
          have e322 := fI_bd (q := 64) hT311 (tf hT311 rfl rfl) fd_8_90
          have q323 : fI h310 64 90 = fI h 64 90 := (FUp_fIne hU313 (fun z => absurd z.2 (by decide))).trans ((Fr_fI hL248 (tf hT169 rfl rfl) (by decide +kernel)).trans ((FUp_fIne hU171 (fun z => absurd z.2 (by decide))).trans ((FUp_fIne hU62 (fun z => absurd z.2 (by decide))).trans ((Fr_fI hL36 (tf hT6 rfl rfl) (by decide +kernel)).trans (FUp_fIne hU8 (fun z => absurd z.2 (by decide)))))))
          have e324 := fI_bd (q := 64) hT (tf hT rfl rfl) fd_8_77
          have e325 := fI_bd (q := 64) hT (tf hT rfl rfl) fd_8_86
          have e326 := fI_bd (q := 64) hT (tf hT rfl rfl) fd_8_88
          have e327 := fI_bd (q := 64) hT (tf hT rfl rfl) fd_8_90
          have e328 := fI_bd (q := 64) hT246 (tf hT246 rfl rfl) fd_8_88
          have q329 : fI h245 64 88 = fI h 64 88 := (Fr_fI hL248 (tf hT169 rfl rfl) (by decide +kernel)).trans ((FUp_fIne hU171 (fun z => absurd z.2 (by decide))).trans ((FUp_fIne hU62 (fun z => absurd z.2 (by decide))).trans ((Fr_fI hL36 (tf hT6 rfl rfl) (by decide +kernel)).trans (FUp_fIne hU8 (fun z => absurd z.2 (by decide))))))
          have e330 := fI_bd (q := 64) hT246 (tf hT246 rfl rfl) fd_8_90
          have q331 : fI h245 64 90 = fI h 64 90 := (Fr_fI hL248 (tf hT169 rfl rfl) (by decide +kernel)).trans ((FUp_fIne hU171 (fun z => absurd z.2 (by decide))).trans ((FUp_fIne hU62 (fun z => absurd z.2 (by decide))).trans ((Fr_fI hL36 (tf hT6 rfl rfl) (by decide +kernel)).trans (FUp_fIne hU8 (fun z => absurd z.2 (by decide))))))
          have tg333 : TT h310 = TT h245 := (TT_fr hT hF312 (by decide +kernel)).trans (TT_fr hT hF247 (by decide +kernel)).symm
          have bl332 := BL_m x259 tg333 (by omega)
          have tt334 := TT_at hT311 (fI h310 64 86)
          have te335 : TT h310 = TT h := TT_fr hT hF312 (by decide +kernel)
          rw [te335] at tt334
          have ru336 : RU (fun i => isD (TT h i)) h310 := fun j a b => x260 j (by omega) (by omega)
          have tt337 := TT_at hT311 (fI h310 64 87)
          have te338 : TT h310 = TT h := TT_fr hT hF312 (by decide +kernel)
          rw [te338] at tt337
          have sq339 : fI h310 64 87 = fI h 64 77 ∨ ¬ isD (TT h (fI h310 64 87)) := by
            by_cases c : fI h310 64 87 = fI h 64 77
            · exact Or.inl c
            · exact Or.inr (by intro k; have k : (48 : Int) ≤ TT h (fI h310 64 87) ∧ TT h (fI h310 64 87) ≤ 57 := k; omega)
          exact hQ _ _ ⟨rfl, by omega, by omega, by omega, by omega, NT_dig pre1 bl332 (by omega) (by omega) (by omega) (show 48 ≤ TT h (fI h310 64 86) ∧ TT h (fI h310 64 86) ≤ 57 by omega) ru336 (by omega) (by omega) sq339 (by omega), hT311, hF312⟩
          refine st_aload c252_162 rfl ?_
          refine st_getX (u := 124) c252_163 hT246 (tf hT246 rfl rfl) fd_8_76 rfl ?_
          refine st_aload c252_166 rfl ?_
          refine st_getI c252_167 hT246 (tf hT246 rfl rfl) fd_8_87 (fun e340 e341 => ?_)
          refine st_bald c252_170 hT246 (tf hT246 rfl rfl) ay_102 (Or.inr rfl) (by omega) (fun e342 e343 => ?_)
          have q344 : aI h245 124 (fI h245 64 87) = aI h 124 (fI h245 64 87) := (Fr_aI hL248 (tf hT169 rfl rfl) (by decide +kernel) (fI h245 64 87)).trans ((FUp_aI hU171 (fI h245 64 87)).trans ((FUp_aI hU62 (fI h245 64 87)).trans ((Fr_aI hL36 (tf hT6 rfl rfl) (by decide +kernel) (fI h245 64 87)).trans (FUp_aI hU8 (fI h245 64 87)))))
          refine st_calls (as := [vI (aI h245 124 (fI h245 64 87))]) c252_171 cm_251 rfl rfl rfl rfl (by omega) (K251 hT246 (aI h245 124 (fI h245 64 87)) (by omega) (d - 1) (by omega) _ (fun v h0 H => H)) (fun v1 h1 H => ?_)
          rcases H with ⟨rfl, pf345, rfl⟩ | ⟨rfl, pf346, pf347, rfl⟩
          refine st_if_eq c252_174 (by omega) (fun k348 => ?_) (fun k349 => False.elim (by omega))
          refine st_aload c252_235 rfl ?_
          refine st_aload c252_236 rfl ?_
          refine st_getI c252_237 hT246 (tf hT246 rfl rfl) fd_8_87 (fun e350 e351 => ?_)
          refine st_aload c252_240 rfl ?_
          refine st_getI c252_241 hT246 (tf hT246 rfl rfl) fd_8_86 (fun e352 e353 => ?_)
          have q354 : fI h245 64 86 = fI h59 64 86 := (Fr_fI hL248 (tf hT169 rfl rfl) (by decide +kernel)).trans (FUp_fIne hU171 (fun z => absurd z.2 (by decide)))
          refine st_isub c252_244 ?_
          refine st_iconst c252_245 ?_
          refine st_icmp_le c252_247 (by omega) (by omega) (fun k355 => ?_) (fun k356 => ?_)
          refine st_iconst c252_254 ?_
          refine st_putI c252_255 hT246 (tf hT246 rfl rfl) fd_8_88 (by omega) (by omega) (Ext_rf _) hS hF247 (by decide +kernel) (fun h357 hT358 hF359 hU360 => ?_)
          refine st_return c252_258 ?_
          have e361 := fI_bd (q := 64) hT358 (tf hT358 rfl rfl) fd_8_86
          have q362 : fI h357 64 86 = fI h245 64 86 := FUp_fIne hU360 (fun z => absurd z.2 (by decide))
          have e363 := fI_bd (q := 64) hT358 (tf hT358 rfl rfl) fd_8_87
          have q364 : fI h357 64 87 = fI h245 64 87 := FUp_fIne hU360 (fun z => absurd z.2 (by decide))
          have e365 := fI_bd (q := 64) hT358 (tf hT358 rfl rfl) fd_8_88
          have q366 : fI h357 64 88 = 2 := FUp_fI hU360 (by omega) (by omega)
          have e367 := fI_bd (q := 64) hT358 (tf hT358 rfl rfl) fd_8_77
          have q368 : fI h357 64 77 = fI h245 64 77 := FUp_fIne hU360 (fun z => absurd z.2 (by decide))
          have e369 := fI_bd (q := 64) hT358 (tf hT358 rfl rfl) fd_8_90
          have q370 : fI h357 64 90 = fI h 64 90 := (FUp_fIne hU360 (fun z => absurd z.2 (by decide))).trans ((Fr_fI hL248 (tf hT169 rfl rfl) (by decide +kernel)).trans ((FUp_fIne hU171 (fun z => absurd z.2 (by decide))).trans ((FUp_fIne hU62 (fun z => absurd z.2 (by decide))).trans ((Fr_fI hL36 (tf hT6 rfl rfl) (by decide +kernel)).trans (FUp_fIne hU8 (fun z => absurd z.2 (by decide)))))))
          have e371 := fI_bd (q := 64) hT (tf hT rfl rfl) fd_8_77
          have e372 := fI_bd (q := 64) hT (tf hT rfl rfl) fd_8_86
          have e373 := fI_bd (q := 64) hT (tf hT rfl rfl) fd_8_88
          have e374 := fI_bd (q := 64) hT (tf hT rfl rfl) fd_8_90
          have e375 := fI_bd (q := 64) hT246 (tf hT246 rfl rfl) fd_8_88
          have q376 : fI h245 64 88 = fI h 64 88 := (Fr_fI hL248 (tf hT169 rfl rfl) (by decide +kernel)).trans ((FUp_fIne hU171 (fun z => absurd z.2 (by decide))).trans ((FUp_fIne hU62 (fun z => absurd z.2 (by decide))).trans ((Fr_fI hL36 (tf hT6 rfl rfl) (by decide +kernel)).trans (FUp_fIne hU8 (fun z => absurd z.2 (by decide))))))
          have e377 := fI_bd (q := 64) hT246 (tf hT246 rfl rfl) fd_8_90
          have q378 : fI h245 64 90 = fI h 64 90 := (Fr_fI hL248 (tf hT169 rfl rfl) (by decide +kernel)).trans ((FUp_fIne hU171 (fun z => absurd z.2 (by decide))).trans ((FUp_fIne hU62 (fun z => absurd z.2 (by decide))).trans ((Fr_fI hL36 (tf hT6 rfl rfl) (by decide +kernel)).trans (FUp_fIne hU8 (fun z => absurd z.2 (by decide))))))
          have tg380 : TT h357 = TT h245 := (TT_fr hT hF359 (by decide +kernel)).trans (TT_fr hT hF247 (by decide +kernel)).symm
          have bl379 := BL_m x259 tg380 (by omega)
          have tt381 := TT_at hT358 (fI h357 64 86)
          have te382 : TT h357 = TT h := TT_fr hT hF359 (by decide +kernel)
          rw [te382] at tt381
          have ru383 : RU (fun i => isD (TT h i)) h357 := fun j a b => x260 j (by omega) (by omega)
          have tt384 := TT_at hT358 (fI h357 64 87)
          have te385 : TT h357 = TT h := TT_fr hT hF359 (by decide +kernel)
          rw [te385] at tt384
          have sq386 : fI h357 64 87 = fI h 64 77 ∨ ¬ isD (TT h (fI h357 64 87)) := by
            by_cases c : fI h357 64 87 = fI h 64 77
            · exact Or.inl c
            · exact Or.inr (by intro k; have k : (48 : Int) ≤ TT h (fI h357 64 87) ∧ TT h (fI h357 64 87) ≤ 57 := k; omega)
          exact hQ _ _ ⟨rfl, by omega, by omega, by omega, by omega, NT_dig pre1 bl379 (by omega) (by omega) (by omega) (show 48 ≤ TT h (fI h357 64 86) ∧ TT h (fI h357 64 86) ≤ 57 by omega) ru383 (by omega) (by omega) sq386 (by omega), hT358, hF359⟩
          refine st_iconst c252_250 ?_
          refine st_goto c252_251 ?_
          refine st_putI c252_255 hT246 (tf hT246 rfl rfl) fd_8_88 (by omega) (by omega) (Ext_rf _) hS hF247 (by decide +kernel) (fun h387 hT388 hF389 hU390 => ?_)
          refine st_return c252_258 ?_
          have e391 := fI_bd (q := 64) hT388 (tf hT388 rfl rfl) fd_8_86
          have q392 : fI h387 64 86 = fI h245 64 86 := FUp_fIne hU390 (fun z => absurd z.2 (by decide))
          have e393 := fI_bd (q := 64) hT388 (tf hT388 rfl rfl) fd_8_87
          have q394 : fI h387 64 87 = fI h245 64 87 := FUp_fIne hU390 (fun z => absurd z.2 (by decide))
          have e395 := fI_bd (q := 64) hT388 (tf hT388 rfl rfl) fd_8_88
          have q396 : fI h387 64 88 = (-1) := FUp_fI hU390 (by omega) (by omega)
          have e397 := fI_bd (q := 64) hT388 (tf hT388 rfl rfl) fd_8_77
          have q398 : fI h387 64 77 = fI h245 64 77 := FUp_fIne hU390 (fun z => absurd z.2 (by decide))
          have e399 := fI_bd (q := 64) hT388 (tf hT388 rfl rfl) fd_8_90
          have q400 : fI h387 64 90 = fI h 64 90 := (FUp_fIne hU390 (fun z => absurd z.2 (by decide))).trans ((Fr_fI hL248 (tf hT169 rfl rfl) (by decide +kernel)).trans ((FUp_fIne hU171 (fun z => absurd z.2 (by decide))).trans ((FUp_fIne hU62 (fun z => absurd z.2 (by decide))).trans ((Fr_fI hL36 (tf hT6 rfl rfl) (by decide +kernel)).trans (FUp_fIne hU8 (fun z => absurd z.2 (by decide)))))))
          have e401 := fI_bd (q := 64) hT (tf hT rfl rfl) fd_8_77
          have e402 := fI_bd (q := 64) hT (tf hT rfl rfl) fd_8_86
          have e403 := fI_bd (q := 64) hT (tf hT rfl rfl) fd_8_88
          have e404 := fI_bd (q := 64) hT (tf hT rfl rfl) fd_8_90
          have e405 := fI_bd (q := 64) hT246 (tf hT246 rfl rfl) fd_8_88
          have q406 : fI h245 64 88 = fI h 64 88 := (Fr_fI hL248 (tf hT169 rfl rfl) (by decide +kernel)).trans ((FUp_fIne hU171 (fun z => absurd z.2 (by decide))).trans ((FUp_fIne hU62 (fun z => absurd z.2 (by decide))).trans ((Fr_fI hL36 (tf hT6 rfl rfl) (by decide +kernel)).trans (FUp_fIne hU8 (fun z => absurd z.2 (by decide))))))
          have e407 := fI_bd (q := 64) hT246 (tf hT246 rfl rfl) fd_8_90
          have q408 : fI h245 64 90 = fI h 64 90 := (Fr_fI hL248 (tf hT169 rfl rfl) (by decide +kernel)).trans ((FUp_fIne hU171 (fun z => absurd z.2 (by decide))).trans ((FUp_fIne hU62 (fun z => absurd z.2 (by decide))).trans ((Fr_fI hL36 (tf hT6 rfl rfl) (by decide +kernel)).trans (FUp_fIne hU8 (fun z => absurd z.2 (by decide))))))
          have tg410 : TT h387 = TT h245 := (TT_fr hT hF389 (by decide +kernel)).trans (TT_fr hT hF247 (by decide +kernel)).symm
          have bl409 := BL_m x259 tg410 (by omega)
          have tt411 := TT_at hT388 (fI h387 64 86)
          have te412 : TT h387 = TT h := TT_fr hT hF389 (by decide +kernel)
          rw [te412] at tt411
          have ru413 : RU (fun i => isD (TT h i)) h387 := fun j a b => x260 j (by omega) (by omega)
          have tt414 := TT_at hT388 (fI h387 64 87)
          have te415 : TT h387 = TT h := TT_fr hT hF389 (by decide +kernel)
          rw [te415] at tt414
          have sq416 : fI h387 64 87 = fI h 64 77 ∨ ¬ isD (TT h (fI h387 64 87)) := by
            by_cases c : fI h387 64 87 = fI h 64 77
            · exact Or.inl c
            · exact Or.inr (by intro k; have k : (48 : Int) ≤ TT h (fI h387 64 87) ∧ TT h (fI h387 64 87) ≤ 57 := k; omega)
          exact hQ _ _ ⟨rfl, by omega, by omega, by omega, by omega, NT_dig pre1 bl409 (by omega) (by omega) (by omega) (show 48 ≤ TT h (fI h387 64 86) ∧ TT h (fI h387 64 86) ≤ 57 by omega) ru413 (by omega) (by omega) sq416 (by omega), hT388, hF389⟩
          refine st_if_eq c252_174 (by omega) (fun k417 => False.elim (by omega)) (fun k418 => ?_)
          refine st_aload c252_177 rfl ?_
          refine st_aload c252_178 rfl ?_
          refine st_getI c252_179 hT246 (tf hT246 rfl rfl) fd_8_87 (fun e419 e420 => ?_)
          refine st_aload c252_182 rfl ?_
          refine st_getI c252_183 hT246 (tf hT246 rfl rfl) fd_8_86 (fun e421 e422 => ?_)
          have q423 : fI h245 64 86 = fI h59 64 86 := (Fr_fI hL248 (tf hT169 rfl rfl) (by decide +kernel)).trans (FUp_fIne hU171 (fun z => absurd z.2 (by decide)))
          refine st_isub c252_186 ?_
          refine st_iconst c252_187 ?_
          refine st_icmp_ge c252_189 (by omega) (by omega) (fun k424 => ?_) (fun k425 => ?_)
          refine st_aload c252_215 rfl ?_
          refine st_getI c252_216 hT246 (tf hT246 rfl rfl) fd_8_89 (fun e426 e427 => ?_)
          refine st_putI c252_219 hT246 (tf hT246 rfl rfl) fd_8_89 (by omega) (by omega) (Ext_rf _) hS hF247 (by decide +kernel) (fun h428 hT429 hF430 hU431 => ?_)
          refine st_aload c252_222 rfl ?_
          refine st_dup c252_223 rfl ?_
          refine st_getI c252_224 hT429 (tf hT429 rfl rfl) fd_8_87 (fun e432 e433 => ?_)
          have q434 : fI h428 64 87 = fI h245 64 87 := FUp_fIne hU431 (fun z => absurd z.2 (by decide))
          refine st_iconst c252_227 ?_
          refine st_iadd c252_228 ?_
          refine st_putI c252_229 hT429 (tf hT429 rfl rfl) fd_8_87 (by omega) (by omega) (Ext_rf _) hS hF430 (by decide +kernel) (fun h435 hT436 hF437 hU438 => ?_)
          refine st_goto c252_232 ?_
          have e439 := fI_bd (q := 64) hT436 (tf hT436 rfl rfl) fd_8_87
          have q440 : fI h435 64 87 = (fI h428 64 87) + 1 := FUp_fI hU438 (by omega) (by omega)
          have e441 := fI_bd (q := 64) hT436 (tf hT436 rfl rfl) fd_8_77
          have q442 : fI h435 64 77 = fI h245 64 77 := (FUp_fIne hU438 (fun z => absurd z.2 (by decide))).trans (FUp_fIne hU431 (fun z => absurd z.2 (by decide)))
          have e443 := fI_bd (q := 64) hT436 (tf hT436 rfl rfl) fd_8_86
          have q444 : fI h435 64 86 = fI h245 64 86 := (FUp_fIne hU438 (fun z => absurd z.2 (by decide))).trans (FUp_fIne hU431 (fun z => absurd z.2 (by decide)))
          have e445 := fI_bd (q := 64) hT436 (tf hT436 rfl rfl) fd_8_88
          have q446 : fI h435 64 88 = fI h 64 88 := (FUp_fIne hU438 (fun z => absurd z.2 (by decide))).trans ((FUp_fIne hU431 (fun z => absurd z.2 (by decide))).trans ((Fr_fI hL248 (tf hT169 rfl rfl) (by decide +kernel)).trans ((FUp_fIne hU171 (fun z => absurd z.2 (by decide))).trans ((FUp_fIne hU62 (fun z => absurd z.2 (by decide))).trans ((Fr_fI hL36 (tf hT6 rfl rfl) (by decide +kernel)).trans (FUp_fIne hU8 (fun z => absurd z.2 (by decide))))))))
          have e447 := fI_bd (q := 64) hT436 (tf hT436 rfl rfl) fd_8_90
          have q448 : fI h435 64 90 = fI h 64 90 := (FUp_fIne hU438 (fun z => absurd z.2 (by decide))).trans ((FUp_fIne hU431 (fun z => absurd z.2 (by decide))).trans ((Fr_fI hL248 (tf hT169 rfl rfl) (by decide +kernel)).trans ((FUp_fIne hU171 (fun z => absurd z.2 (by decide))).trans ((FUp_fIne hU62 (fun z => absurd z.2 (by decide))).trans ((Fr_fI hL36 (tf hT6 rfl rfl) (by decide +kernel)).trans (FUp_fIne hU8 (fun z => absurd z.2 (by decide))))))))
          have e449 := fI_bd (q := 64) hT246 (tf hT246 rfl rfl) fd_8_88
          have q450 : fI h245 64 88 = fI h 64 88 := (Fr_fI hL248 (tf hT169 rfl rfl) (by decide +kernel)).trans ((FUp_fIne hU171 (fun z => absurd z.2 (by decide))).trans ((FUp_fIne hU62 (fun z => absurd z.2 (by decide))).trans ((Fr_fI hL36 (tf hT6 rfl rfl) (by decide +kernel)).trans (FUp_fIne hU8 (fun z => absurd z.2 (by decide))))))
          have e451 := fI_bd (q := 64) hT246 (tf hT246 rfl rfl) fd_8_90
          have q452 : fI h245 64 90 = fI h 64 90 := (Fr_fI hL248 (tf hT169 rfl rfl) (by decide +kernel)).trans ((FUp_fIne hU171 (fun z => absurd z.2 (by decide))).trans ((FUp_fIne hU62 (fun z => absurd z.2 (by decide))).trans ((Fr_fI hL36 (tf hT6 rfl rfl) (by decide +kernel)).trans (FUp_fIne hU8 (fun z => absurd z.2 (by decide))))))
          have tg453 : TT h435 = TT h245 := (TT_fr hT hF437 (by decide +kernel)).trans (TT_fr hT hF247 (by decide +kernel)).symm
          have e454 := fI_bd (q := 64) hT436 (tf hT436 rfl rfl) fd_8_88
          have q455 : fI h435 64 88 = fI h 64 88 := (FUp_fIne hU438 (fun z => absurd z.2 (by decide))).trans ((FUp_fIne hU431 (fun z => absurd z.2 (by decide))).trans ((Fr_fI hL248 (tf hT169 rfl rfl) (by decide +kernel)).trans ((FUp_fIne hU171 (fun z => absurd z.2 (by decide))).trans ((FUp_fIne hU62 (fun z => absurd z.2 (by decide))).trans ((Fr_fI hL36 (tf hT6 rfl rfl) (by decide +kernel)).trans (FUp_fIne hU8 (fun z => absurd z.2 (by decide))))))))
          have e456 := fI_bd (q := 64) hT436 (tf hT436 rfl rfl) fd_8_90
          have q457 : fI h435 64 90 = fI h 64 90 := (FUp_fIne hU438 (fun z => absurd z.2 (by decide))).trans ((FUp_fIne hU431 (fun z => absurd z.2 (by decide))).trans ((Fr_fI hL248 (tf hT169 rfl rfl) (by decide +kernel)).trans ((FUp_fIne hU171 (fun z => absurd z.2 (by decide))).trans ((FUp_fIne hU62 (fun z => absurd z.2 (by decide))).trans ((Fr_fI hL36 (tf hT6 rfl rfl) (by decide +kernel)).trans (FUp_fIne hU8 (fun z => absurd z.2 (by decide))))))))
          have e458 := fI_bd (q := 64) hT246 (tf hT246 rfl rfl) fd_8_88
          have q459 : fI h245 64 88 = fI h 64 88 := (Fr_fI hL248 (tf hT169 rfl rfl) (by decide +kernel)).trans ((FUp_fIne hU171 (fun z => absurd z.2 (by decide))).trans ((FUp_fIne hU62 (fun z => absurd z.2 (by decide))).trans ((Fr_fI hL36 (tf hT6 rfl rfl) (by decide +kernel)).trans (FUp_fIne hU8 (fun z => absurd z.2 (by decide))))))
          have e460 := fI_bd (q := 64) hT246 (tf hT246 rfl rfl) fd_8_90
          have q461 : fI h245 64 90 = fI h 64 90 := (Fr_fI hL248 (tf hT169 rfl rfl) (by decide +kernel)).trans ((FUp_fIne hU171 (fun z => absurd z.2 (by decide))).trans ((FUp_fIne hU62 (fun z => absurd z.2 (by decide))).trans ((Fr_fI hL36 (tf hT6 rfl rfl) (by decide +kernel)).trans (FUp_fIne hU8 (fun z => absurd z.2 (by decide))))))
          have tt462 := TT_at hT246 (fI h245 64 87)
          have te463 : TT h245 = TT h := TT_fr hT hF247 (by decide +kernel)
          rw [te463] at tt462
          exact ih251 h435 (by omega) (by omega) (by omega) (by omega) (Or.inl (by omega)) (by omega) (by omega) (BL_m x259 tg453 (by omega)) (RU_s (Q := fun i => isD (TT h i)) x260 (by omega) (by omega) (show 48 ≤ TT h (fI h245 64 87) ∧ TT h (fI h245 64 87) ≤ 57 by omega)) hT436 hF437 (FUp_Fr (FUp_Fr hL248 hU431 (fun u hu => by rw [ty_1 hu (tf hT436 rfl rfl)]; decide)) hU438 (fun u hu => by rw [ty_1 hu (tf hT436 rfl rfl)]; decide))
          refine st_iconst c252_192 ?_
          refine st_aload c252_194 rfl ?_
          refine st_getI c252_195 hT246 (tf hT246 rfl rfl) fd_8_89 (fun e464 e465 => ?_)
          refine st_imul c252_198 ?_
          refine MR_wrap (fun w466 e467 e468 e469 => ?_)
          refine st_aload c252_199 rfl ?_
          refine st_getX (u := 124) c252_200 hT246 (tf hT246 rfl rfl) fd_8_76 rfl ?_
          refine st_aload c252_203 rfl ?_
          refine st_getI c252_204 hT246 (tf hT246 rfl rfl) fd_8_87 (fun e470 e471 => ?_)
          refine st_bald c252_207 hT246 (tf hT246 rfl rfl) ay_102 (Or.inr rfl) (by omega) (fun e472 e473 => ?_)
          have q474 : aI h245 124 (fI h245 64 87) = aI h 124 (fI h245 64 87) := (Fr_aI hL248 (tf hT169 rfl rfl) (by decide +kernel) (fI h245 64 87)).trans ((FUp_aI hU171 (fI h245 64 87)).trans ((FUp_aI hU62 (fI h245 64 87)).trans ((Fr_aI hL36 (tf hT6 rfl rfl) (by decide +kernel) (fI h245 64 87)).trans (FUp_aI hU8 (fI h245 64 87)))))
          refine st_iadd c252_208 ?_
          refine MR_wrap (fun w475 e476 e477 e478 => ?_)
          refine st_iconst c252_209 ?_
          refine st_isub c252_211 ?_
          refine MR_wrap (fun w479 e480 e481 e482 => ?_)
          refine st_goto c252_212 ?_
          refine st_putI c252_219 hT246 (tf hT246 rfl rfl) fd_8_89 (by omega) (by omega) (Ext_rf _) hS hF247 (by decide +kernel) (fun h483 hT484 hF485 hU486 => ?_)
          refine st_aload c252_222 rfl ?_
          refine st_dup c252_223 rfl ?_
          refine st_getI c252_224 hT484 (tf hT484 rfl rfl) fd_8_87 (fun e487 e488 => ?_)
          have q489 : fI h483 64 87 = fI h245 64 87 := FUp_fIne hU486 (fun z => absurd z.2 (by decide))
          refine st_iconst c252_227 ?_
          refine st_iadd c252_228 ?_
          refine st_putI c252_229 hT484 (tf hT484 rfl rfl) fd_8_87 (by omega) (by omega) (Ext_rf _) hS hF485 (by decide +kernel) (fun h490 hT491 hF492 hU493 => ?_)
          refine st_goto c252_232 ?_
          have e494 := fI_bd (q := 64) hT491 (tf hT491 rfl rfl) fd_8_87
          have q495 : fI h490 64 87 = (fI h483 64 87) + 1 := FUp_fI hU493 (by omega) (by omega)
          have e496 := fI_bd (q := 64) hT491 (tf hT491 rfl rfl) fd_8_77
          have q497 : fI h490 64 77 = fI h245 64 77 := (FUp_fIne hU493 (fun z => absurd z.2 (by decide))).trans (FUp_fIne hU486 (fun z => absurd z.2 (by decide)))
          have e498 := fI_bd (q := 64) hT491 (tf hT491 rfl rfl) fd_8_86
          have q499 : fI h490 64 86 = fI h245 64 86 := (FUp_fIne hU493 (fun z => absurd z.2 (by decide))).trans (FUp_fIne hU486 (fun z => absurd z.2 (by decide)))
          have e500 := fI_bd (q := 64) hT491 (tf hT491 rfl rfl) fd_8_88
          have q501 : fI h490 64 88 = fI h 64 88 := (FUp_fIne hU493 (fun z => absurd z.2 (by decide))).trans ((FUp_fIne hU486 (fun z => absurd z.2 (by decide))).trans ((Fr_fI hL248 (tf hT169 rfl rfl) (by decide +kernel)).trans ((FUp_fIne hU171 (fun z => absurd z.2 (by decide))).trans ((FUp_fIne hU62 (fun z => absurd z.2 (by decide))).trans ((Fr_fI hL36 (tf hT6 rfl rfl) (by decide +kernel)).trans (FUp_fIne hU8 (fun z => absurd z.2 (by decide))))))))
          have e502 := fI_bd (q := 64) hT491 (tf hT491 rfl rfl) fd_8_90
          have q503 : fI h490 64 90 = fI h 64 90 := (FUp_fIne hU493 (fun z => absurd z.2 (by decide))).trans ((FUp_fIne hU486 (fun z => absurd z.2 (by decide))).trans ((Fr_fI hL248 (tf hT169 rfl rfl) (by decide +kernel)).trans ((FUp_fIne hU171 (fun z => absurd z.2 (by decide))).trans ((FUp_fIne hU62 (fun z => absurd z.2 (by decide))).trans ((Fr_fI hL36 (tf hT6 rfl rfl) (by decide +kernel)).trans (FUp_fIne hU8 (fun z => absurd z.2 (by decide))))))))
          have e504 := fI_bd (q := 64) hT246 (tf hT246 rfl rfl) fd_8_88
          have q505 : fI h245 64 88 = fI h 64 88 := (Fr_fI hL248 (tf hT169 rfl rfl) (by decide +kernel)).trans ((FUp_fIne hU171 (fun z => absurd z.2 (by decide))).trans ((FUp_fIne hU62 (fun z => absurd z.2 (by decide))).trans ((Fr_fI hL36 (tf hT6 rfl rfl) (by decide +kernel)).trans (FUp_fIne hU8 (fun z => absurd z.2 (by decide))))))
          have e506 := fI_bd (q := 64) hT246 (tf hT246 rfl rfl) fd_8_90
          have q507 : fI h245 64 90 = fI h 64 90 := (Fr_fI hL248 (tf hT169 rfl rfl) (by decide +kernel)).trans ((FUp_fIne hU171 (fun z => absurd z.2 (by decide))).trans ((FUp_fIne hU62 (fun z => absurd z.2 (by decide))).trans ((Fr_fI hL36 (tf hT6 rfl rfl) (by decide +kernel)).trans (FUp_fIne hU8 (fun z => absurd z.2 (by decide))))))
          have tg508 : TT h490 = TT h245 := (TT_fr hT hF492 (by decide +kernel)).trans (TT_fr hT hF247 (by decide +kernel)).symm
          have e509 := fI_bd (q := 64) hT491 (tf hT491 rfl rfl) fd_8_88
          have q510 : fI h490 64 88 = fI h 64 88 := (FUp_fIne hU493 (fun z => absurd z.2 (by decide))).trans ((FUp_fIne hU486 (fun z => absurd z.2 (by decide))).trans ((Fr_fI hL248 (tf hT169 rfl rfl) (by decide +kernel)).trans ((FUp_fIne hU171 (fun z => absurd z.2 (by decide))).trans ((FUp_fIne hU62 (fun z => absurd z.2 (by decide))).trans ((Fr_fI hL36 (tf hT6 rfl rfl) (by decide +kernel)).trans (FUp_fIne hU8 (fun z => absurd z.2 (by decide))))))))
          have e511 := fI_bd (q := 64) hT491 (tf hT491 rfl rfl) fd_8_90
          have q512 : fI h490 64 90 = fI h 64 90 := (FUp_fIne hU493 (fun z => absurd z.2 (by decide))).trans ((FUp_fIne hU486 (fun z => absurd z.2 (by decide))).trans ((Fr_fI hL248 (tf hT169 rfl rfl) (by decide +kernel)).trans ((FUp_fIne hU171 (fun z => absurd z.2 (by decide))).trans ((FUp_fIne hU62 (fun z => absurd z.2 (by decide))).trans ((Fr_fI hL36 (tf hT6 rfl rfl) (by decide +kernel)).trans (FUp_fIne hU8 (fun z => absurd z.2 (by decide))))))))
          have e513 := fI_bd (q := 64) hT246 (tf hT246 rfl rfl) fd_8_88
          have q514 : fI h245 64 88 = fI h 64 88 := (Fr_fI hL248 (tf hT169 rfl rfl) (by decide +kernel)).trans ((FUp_fIne hU171 (fun z => absurd z.2 (by decide))).trans ((FUp_fIne hU62 (fun z => absurd z.2 (by decide))).trans ((Fr_fI hL36 (tf hT6 rfl rfl) (by decide +kernel)).trans (FUp_fIne hU8 (fun z => absurd z.2 (by decide))))))
          have e515 := fI_bd (q := 64) hT246 (tf hT246 rfl rfl) fd_8_90
          have q516 : fI h245 64 90 = fI h 64 90 := (Fr_fI hL248 (tf hT169 rfl rfl) (by decide +kernel)).trans ((FUp_fIne hU171 (fun z => absurd z.2 (by decide))).trans ((FUp_fIne hU62 (fun z => absurd z.2 (by decide))).trans ((Fr_fI hL36 (tf hT6 rfl rfl) (by decide +kernel)).trans (FUp_fIne hU8 (fun z => absurd z.2 (by decide))))))
          have tt517 := TT_at hT246 (fI h245 64 87)
          have te518 : TT h245 = TT h := TT_fr hT hF247 (by decide +kernel)
          rw [te518] at tt517
          exact ih251 h490 (by omega) (by omega) (by omega) (by omega) (Or.inl (by omega)) (by omega) (by omega) (BL_m x259 tg508 (by omega)) (RU_s (Q := fun i => isD (TT h i)) x260 (by omega) (by omega) (show 48 ≤ TT h (fI h245 64 87) ∧ TT h (fI h245 64 87) ≤ 57 by omega)) hT491 hF492 (FUp_Fr (FUp_Fr hL248 hU486 (fun u hu => by rw [ty_1 hu (tf hT491 rfl rfl)]; decide)) hU493 (fun u hu => by rw [ty_1 hu (tf hT491 rfl rfl)]; decide))
      have e519 := fI_bd (q := 64) hT169 (tf hT169 rfl rfl) fd_8_87
      have q520 : fI h168 64 87 = fI h33 64 86 := (FUp_fIne hU171 (fun z => absurd z.2 (by decide))).trans (FUp_fI hU62 (by omega) (by omega))
      have e521 := fI_bd (q := 64) hT169 (tf hT169 rfl rfl) fd_8_77
      have q522 : fI h168 64 77 = fI h59 64 77 := FUp_fIne hU171 (fun z => absurd z.2 (by decide))
      have e523 := fI_bd (q := 64) hT169 (tf hT169 rfl rfl) fd_8_86
      have q524 : fI h168 64 86 = fI h59 64 86 := FUp_fIne hU171 (fun z => absurd z.2 (by decide))
      have q525 : aI h168 124 (fI h59 64 86) = aI h59 124 (fI h59 64 86) := FUp_aI hU171 (fI h59 64 86)
      have e526 := fI_bd (q := 64) hT169 (tf hT169 rfl rfl) fd_8_88
      have q527 : fI h168 64 88 = fI h 64 88 := (FUp_fIne hU171 (fun z => absurd z.2 (by decide))).trans ((FUp_fIne hU62 (fun z => absurd z.2 (by decide))).trans ((Fr_fI hL36 (tf hT6 rfl rfl) (by decide +kernel)).trans (FUp_fIne hU8 (fun z => absurd z.2 (by decide)))))
      have e528 := fI_bd (q := 64) hT169 (tf hT169 rfl rfl) fd_8_90
      have q529 : fI h168 64 90 = fI h 64 90 := (FUp_fIne hU171 (fun z => absurd z.2 (by decide))).trans ((FUp_fIne hU62 (fun z => absurd z.2 (by decide))).trans ((Fr_fI hL36 (tf hT6 rfl rfl) (by decide +kernel)).trans (FUp_fIne hU8 (fun z => absurd z.2 (by decide)))))
      have e530 := fI_bd (q := 64) hT34 (tf hT34 rfl rfl) fd_8_88
      have q531 : fI h33 64 88 = fI h 64 88 := (Fr_fI hL36 (tf hT6 rfl rfl) (by decide +kernel)).trans (FUp_fIne hU8 (fun z => absurd z.2 (by decide)))
      have e532 := fI_bd (q := 64) hT34 (tf hT34 rfl rfl) fd_8_90
      have q533 : fI h33 64 90 = fI h 64 90 := (Fr_fI hL36 (tf hT6 rfl rfl) (by decide +kernel)).trans (FUp_fIne hU8 (fun z => absurd z.2 (by decide)))
      have tg534 : TT h168 = TT h33 := (TT_fr hT hF170 (by decide +kernel)).trans (TT_fr hT hF35 (by decide +kernel)).symm
      have e535 := fI_bd (q := 64) hT169 (tf hT169 rfl rfl) fd_8_88
      have q536 : fI h168 64 88 = fI h 64 88 := (FUp_fIne hU171 (fun z => absurd z.2 (by decide))).trans ((FUp_fIne hU62 (fun z => absurd z.2 (by decide))).trans ((Fr_fI hL36 (tf hT6 rfl rfl) (by decide +kernel)).trans (FUp_fIne hU8 (fun z => absurd z.2 (by decide)))))
      have e537 := fI_bd (q := 64) hT169 (tf hT169 rfl rfl) fd_8_90
      have q538 : fI h168 64 90 = fI h 64 90 := (FUp_fIne hU171 (fun z => absurd z.2 (by decide))).trans ((FUp_fIne hU62 (fun z => absurd z.2 (by decide))).trans ((Fr_fI hL36 (tf hT6 rfl rfl) (by decide +kernel)).trans (FUp_fIne hU8 (fun z => absurd z.2 (by decide)))))
      exact lp249 (((fI h168 64 77 - fI h168 64 87 : Int) + 1).toNat) h168 (by omega) (by omega) (by omega) (by omega) (Or.inr (by rw [show fI h168 64 87 = fI h59 64 86 from by omega]; omega)) (by omega) (by omega) (BL_m x44 tg534 (by omega)) (RU_0 (by omega)) hT169 hF170 (Fr_rf _ _ _)
      refine st_if_eq c252_83 (by omega) (fun k539 => False.elim (by omega)) (fun k540 => ?_)
      have lp574 : ∀ (n575 : Nat) (h570 : List mE), fI h570 64 77 - fI h570 64 87 < (n575 : Int) → fI h570 64 87 ≤ fI h570 64 77 → fI h570 64 86 ≤ fI h570 64 87 → fI h570 64 86+1 ≤ fI h570 64 77 → fI h570 64 86 + 1 ≤ fI h570 64 87 ∨ (97 ≤ aI h570 124 (fI h570 64 87) ∧ aI h570 124 (fI h570 64 87) ≤ 122) → fI h 64 87 ≤ fI h570 64 86 → fI h570 64 77 = fI h 64 77 → BL h h570 (fI h 64 87) → RU (fun i => isL (TT h i)) h570 → TH E τ h570 → Fr τ W252 h h570 → Fr τ [(8, 87)] h59 h570 → MR (mex Ln xs) d 252 86 [some (.ref 64)] [] h570 Q := by
        intro n575
        induction n575 with
        | zero =>
          intro h570 hm577 x578 x579 x580 x581 x582 x583 x584 x585 hT571 hF572 hL573
          exfalso; omega
        | succ n575 ih576 =>
          intro h570 hm577 x578 x579 x580 x581 x582 x583 x584 x585 hT571 hF572 hL573
          have e586 := fI_bd (q := 64) hT571 (tf hT571 rfl rfl) fd_8_87
          have e587 := fI_bd (q := 64) hT571 (tf hT571 rfl rfl) fd_8_77
          have q588 : fI h570 64 77 = fI h59 64 77 := Fr_fI hL573 (tf hT60 rfl rfl) (by decide +kernel)
          have e589 := fI_bd (q := 64) hT571 (tf hT571 rfl rfl) fd_8_86
          have q590 : fI h570 64 86 = fI h59 64 86 := Fr_fI hL573 (tf hT60 rfl rfl) (by decide +kernel)
          refine st_aload c252_86 rfl ?_
          refine st_getI c252_87 hT571 (tf hT571 rfl rfl) fd_8_87 (fun e591 e592 => ?_)
          refine st_aload c252_90 rfl ?_
          refine st_getI c252_91 hT571 (tf hT571 rfl rfl) fd_8_77 (fun e593 e594 => ?_)
          have q595 : fI h570 64 77 = fI h59 64 77 := Fr_fI hL573 (tf hT60 rfl rfl) (by decide +kernel)
          refine st_icmp_ge c252_94 (by omega) (by omega) (fun k596 => ?_) (fun k597 => ?_)
          refine st_aload c252_125 rfl ?_
          refine st_iconst c252_126 ?_
          refine st_putI c252_127 hT571 (tf hT571 rfl rfl) fd_8_88 (by omega) (by omega) (Ext_rf _) hS hF572 (by decide +kernel) (fun h598 hT599 hF600 hU601 => ?_)
          refine st_return c252_130 ?_
          have e602 := fI_bd (q := 64) hT599 (tf hT599 rfl rfl) fd_8_86
          have q603 : fI h598 64 86 = fI h570 64 86 := FUp_fIne hU601 (fun z => absurd z.2 (by decide))
          have e604 := fI_bd (q := 64) hT599 (tf hT599 rfl rfl) fd_8_87
          have q605 : fI h598 64 87 = fI h570 64 87 := FUp_fIne hU601 (fun z => absurd z.2 (by decide))
          have e606 := fI_bd (q := 64) hT599 (tf hT599 rfl rfl) fd_8_88
          have q607 : fI h598 64 88 = 1 := FUp_fI hU601 (by omega) (by omega)
          have e608 := fI_bd (q := 64) hT599 (tf hT599 rfl rfl) fd_8_77
          have q609 : fI h598 64 77 = fI h570 64 77 := FUp_fIne hU601 (fun z => absurd z.2 (by decide))
          have e610 := fI_bd (q := 64) hT599 (tf hT599 rfl rfl) fd_8_90
          have q611 : fI h598 64 90 = fI h 64 90 := (FUp_fIne hU601 (fun z => absurd z.2 (by decide))).trans ((Fr_fI hL573 (tf hT60 rfl rfl) (by decide +kernel)).trans ((FUp_fIne hU62 (fun z => absurd z.2 (by decide))).trans ((Fr_fI hL36 (tf hT6 rfl rfl) (by decide +kernel)).trans (FUp_fIne hU8 (fun z => absurd z.2 (by decide))))))
          have e612 := fI_bd (q := 64) hT (tf hT rfl rfl) fd_8_77
          have e613 := fI_bd (q := 64) hT (tf hT rfl rfl) fd_8_86
          have e614 := fI_bd (q := 64) hT (tf hT rfl rfl) fd_8_88
          have e615 := fI_bd (q := 64) hT (tf hT rfl rfl) fd_8_90
          have e616 := fI_bd (q := 64) hT571 (tf hT571 rfl rfl) fd_8_88
          have q617 : fI h570 64 88 = fI h 64 88 := (Fr_fI hL573 (tf hT60 rfl rfl) (by decide +kernel)).trans ((FUp_fIne hU62 (fun z => absurd z.2 (by decide))).trans ((Fr_fI hL36 (tf hT6 rfl rfl) (by decide +kernel)).trans (FUp_fIne hU8 (fun z => absurd z.2 (by decide)))))
          have e618 := fI_bd (q := 64) hT571 (tf hT571 rfl rfl) fd_8_90
          have q619 : fI h570 64 90 = fI h 64 90 := (Fr_fI hL573 (tf hT60 rfl rfl) (by decide +kernel)).trans ((FUp_fIne hU62 (fun z => absurd z.2 (by decide))).trans ((Fr_fI hL36 (tf hT6 rfl rfl) (by decide +kernel)).trans (FUp_fIne hU8 (fun z => absurd z.2 (by decide)))))
          have tg621 : TT h598 = TT h570 := (TT_fr hT hF600 (by decide +kernel)).trans (TT_fr hT hF572 (by decide +kernel)).symm
          have bl620 := BL_m x584 tg621 (by omega)
          have tt622 := TT_at hT599 (fI h598 64 86)
          have te623 : TT h598 = TT h := TT_fr hT hF600 (by decide +kernel)
          rw [te623] at tt622
          have ru624 : RU (fun i => isL (TT h i)) h598 := fun j a b => x585 j (by omega) (by omega)
          have tt625 := TT_at hT599 (fI h598 64 87)
          have te626 : TT h598 = TT h := TT_fr hT hF600 (by decide +kernel)
          rw [te626] at tt625
          have sq627 : fI h598 64 87 = fI h 64 77 ∨ ¬ isL (TT h (fI h598 64 87)) := by
            by_cases c : fI h598 64 87 = fI h 64 77
            · exact Or.inl c
            · exact Or.inr (by intro k; have k : (97 : Int) ≤ TT h (fI h598 64 87) ∧ TT h (fI h598 64 87) ≤ 122 := k; omega)
          exact hQ _ _ ⟨rfl, by omega, by omega, by omega, by omega, NT_let pre1 bl620 (by omega) (by omega) (by omega) (show 97 ≤ TT h (fI h598 64 86) ∧ TT h (fI h598 64 86) ≤ 122 by omega) ru624 (by omega) (by omega) sq627 (by omega), hT599, hF600⟩
          refine st_aload c252_97 rfl ?_
          refine st_getX (u := 124) c252_98 hT571 (tf hT571 rfl rfl) fd_8_76 rfl ?_
          refine st_aload c252_101 rfl ?_
          refine st_getI c252_102 hT571 (tf hT571 rfl rfl) fd_8_87 (fun e628 e629 => ?_)
          refine st_bald c252_105 hT571 (tf hT571 rfl rfl) ay_102 (Or.inr rfl) (by omega) (fun e630 e631 => ?_)
          have q632 : aI h570 124 (fI h570 64 87) = aI h 124 (fI h570 64 87) := (Fr_aI hL573 (tf hT60 rfl rfl) (by decide +kernel) (fI h570 64 87)).trans ((FUp_aI hU62 (fI h570 64 87)).trans ((Fr_aI hL36 (tf hT6 rfl rfl) (by decide +kernel) (fI h570 64 87)).trans (FUp_aI hU8 (fI h570 64 87))))
          refine st_calls (as := [vI (aI h570 124 (fI h570 64 87))]) c252_106 cm_250 rfl rfl rfl rfl (by omega) (K250 hT571 (aI h570 124 (fI h570 64 87)) (by omega) (d - 1) (by omega) _ (fun v h0 H => H)) (fun v1 h1 H => ?_)
          rcases H with ⟨rfl, pf633, rfl⟩ | ⟨rfl, pf634, pf635, rfl⟩
          refine st_if_eq c252_109 (by omega) (fun k636 => ?_) (fun k637 => False.elim (by omega))
          refine st_aload c252_125 rfl ?_
          refine st_iconst c252_126 ?_
          refine st_putI c252_127 hT571 (tf hT571 rfl rfl) fd_8_88 (by omega) (by omega) (Ext_rf _) hS hF572 (by decide +kernel) (fun h638 hT639 hF640 hU641 => ?_)
          refine st_return c252_130 ?_
          have e642 := fI_bd (q := 64) hT639 (tf hT639 rfl rfl) fd_8_86
          have q643 : fI h638 64 86 = fI h570 64 86 := FUp_fIne hU641 (fun z => absurd z.2 (by decide))
          have e644 := fI_bd (q := 64) hT639 (tf hT639 rfl rfl) fd_8_87
          have q645 : fI h638 64 87 = fI h570 64 87 := FUp_fIne hU641 (fun z => absurd z.2 (by decide))
          have e646 := fI_bd (q := 64) hT639 (tf hT639 rfl rfl) fd_8_88
          have q647 : fI h638 64 88 = 1 := FUp_fI hU641 (by omega) (by omega)
          have e648 := fI_bd (q := 64) hT639 (tf hT639 rfl rfl) fd_8_77
          have q649 : fI h638 64 77 = fI h570 64 77 := FUp_fIne hU641 (fun z => absurd z.2 (by decide))
          have e650 := fI_bd (q := 64) hT639 (tf hT639 rfl rfl) fd_8_90
          have q651 : fI h638 64 90 = fI h 64 90 := (FUp_fIne hU641 (fun z => absurd z.2 (by decide))).trans ((Fr_fI hL573 (tf hT60 rfl rfl) (by decide +kernel)).trans ((FUp_fIne hU62 (fun z => absurd z.2 (by decide))).trans ((Fr_fI hL36 (tf hT6 rfl rfl) (by decide +kernel)).trans (FUp_fIne hU8 (fun z => absurd z.2 (by decide))))))
          have e652 := fI_bd (q := 64) hT (tf hT rfl rfl) fd_8_77
          have e653 := fI_bd (q := 64) hT (tf hT rfl rfl) fd_8_86
          have e654 := fI_bd (q := 64) hT (tf hT rfl rfl) fd_8_88
          have e655 := fI_bd (q := 64) hT (tf hT rfl rfl) fd_8_90
          have e656 := fI_bd (q := 64) hT571 (tf hT571 rfl rfl) fd_8_88
          have q657 : fI h570 64 88 = fI h 64 88 := (Fr_fI hL573 (tf hT60 rfl rfl) (by decide +kernel)).trans ((FUp_fIne hU62 (fun z => absurd z.2 (by decide))).trans ((Fr_fI hL36 (tf hT6 rfl rfl) (by decide +kernel)).trans (FUp_fIne hU8 (fun z => absurd z.2 (by decide)))))
          have e658 := fI_bd (q := 64) hT571 (tf hT571 rfl rfl) fd_8_90
          have q659 : fI h570 64 90 = fI h 64 90 := (Fr_fI hL573 (tf hT60 rfl rfl) (by decide +kernel)).trans ((FUp_fIne hU62 (fun z => absurd z.2 (by decide))).trans ((Fr_fI hL36 (tf hT6 rfl rfl) (by decide +kernel)).trans (FUp_fIne hU8 (fun z => absurd z.2 (by decide)))))
          have tg661 : TT h638 = TT h570 := (TT_fr hT hF640 (by decide +kernel)).trans (TT_fr hT hF572 (by decide +kernel)).symm
          have bl660 := BL_m x584 tg661 (by omega)
          have tt662 := TT_at hT639 (fI h638 64 86)
          have te663 : TT h638 = TT h := TT_fr hT hF640 (by decide +kernel)
          rw [te663] at tt662
          have ru664 : RU (fun i => isL (TT h i)) h638 := fun j a b => x585 j (by omega) (by omega)
          have tt665 := TT_at hT639 (fI h638 64 87)
          have te666 : TT h638 = TT h := TT_fr hT hF640 (by decide +kernel)
          rw [te666] at tt665
          have sq667 : fI h638 64 87 = fI h 64 77 ∨ ¬ isL (TT h (fI h638 64 87)) := by
            by_cases c : fI h638 64 87 = fI h 64 77
            · exact Or.inl c
            · exact Or.inr (by intro k; have k : (97 : Int) ≤ TT h (fI h638 64 87) ∧ TT h (fI h638 64 87) ≤ 122 := k; omega)
          exact hQ _ _ ⟨rfl, by omega, by omega, by omega, by omega, NT_let pre1 bl660 (by omega) (by omega) (by omega) (show 97 ≤ TT h (fI h638 64 86) ∧ TT h (fI h638 64 86) ≤ 122 by omega) ru664 (by omega) (by omega) sq667 (by omega), hT639, hF640⟩
          refine st_if_eq c252_109 (by omega) (fun k668 => False.elim (by omega)) (fun k669 => ?_)
          refine st_aload c252_112 rfl ?_
          refine st_dup c252_113 rfl ?_
          refine st_getI c252_114 hT571 (tf hT571 rfl rfl) fd_8_87 (fun e670 e671 => ?_)
          refine st_iconst c252_117 ?_
          refine st_iadd c252_118 ?_
          refine st_putI c252_119 hT571 (tf hT571 rfl rfl) fd_8_87 (by omega) (by omega) (Ext_rf _) hS hF572 (by decide +kernel) (fun h672 hT673 hF674 hU675 => ?_)
          refine st_goto c252_122 ?_
          have e676 := fI_bd (q := 64) hT673 (tf hT673 rfl rfl) fd_8_87
          have q677 : fI h672 64 87 = (fI h570 64 87) + 1 := FUp_fI hU675 (by omega) (by omega)
          have e678 := fI_bd (q := 64) hT673 (tf hT673 rfl rfl) fd_8_77
          have q679 : fI h672 64 77 = fI h570 64 77 := FUp_fIne hU675 (fun z => absurd z.2 (by decide))
          have e680 := fI_bd (q := 64) hT673 (tf hT673 rfl rfl) fd_8_86
          have q681 : fI h672 64 86 = fI h570 64 86 := FUp_fIne hU675 (fun z => absurd z.2 (by decide))
          have e682 := fI_bd (q := 64) hT673 (tf hT673 rfl rfl) fd_8_88
          have q683 : fI h672 64 88 = fI h 64 88 := (FUp_fIne hU675 (fun z => absurd z.2 (by decide))).trans ((Fr_fI hL573 (tf hT60 rfl rfl) (by decide +kernel)).trans ((FUp_fIne hU62 (fun z => absurd z.2 (by decide))).trans ((Fr_fI hL36 (tf hT6 rfl rfl) (by decide +kernel)).trans (FUp_fIne hU8 (fun z => absurd z.2 (by decide))))))
          have e684 := fI_bd (q := 64) hT673 (tf hT673 rfl rfl) fd_8_90
          have q685 : fI h672 64 90 = fI h 64 90 := (FUp_fIne hU675 (fun z => absurd z.2 (by decide))).trans ((Fr_fI hL573 (tf hT60 rfl rfl) (by decide +kernel)).trans ((FUp_fIne hU62 (fun z => absurd z.2 (by decide))).trans ((Fr_fI hL36 (tf hT6 rfl rfl) (by decide +kernel)).trans (FUp_fIne hU8 (fun z => absurd z.2 (by decide))))))
          have e686 := fI_bd (q := 64) hT571 (tf hT571 rfl rfl) fd_8_88
          have q687 : fI h570 64 88 = fI h 64 88 := (Fr_fI hL573 (tf hT60 rfl rfl) (by decide +kernel)).trans ((FUp_fIne hU62 (fun z => absurd z.2 (by decide))).trans ((Fr_fI hL36 (tf hT6 rfl rfl) (by decide +kernel)).trans (FUp_fIne hU8 (fun z => absurd z.2 (by decide)))))
          have e688 := fI_bd (q := 64) hT571 (tf hT571 rfl rfl) fd_8_90
          have q689 : fI h570 64 90 = fI h 64 90 := (Fr_fI hL573 (tf hT60 rfl rfl) (by decide +kernel)).trans ((FUp_fIne hU62 (fun z => absurd z.2 (by decide))).trans ((Fr_fI hL36 (tf hT6 rfl rfl) (by decide +kernel)).trans (FUp_fIne hU8 (fun z => absurd z.2 (by decide)))))
          have tg690 : TT h672 = TT h570 := (TT_fr hT hF674 (by decide +kernel)).trans (TT_fr hT hF572 (by decide +kernel)).symm
          have e691 := fI_bd (q := 64) hT673 (tf hT673 rfl rfl) fd_8_88
          have q692 : fI h672 64 88 = fI h 64 88 := (FUp_fIne hU675 (fun z => absurd z.2 (by decide))).trans ((Fr_fI hL573 (tf hT60 rfl rfl) (by decide +kernel)).trans ((FUp_fIne hU62 (fun z => absurd z.2 (by decide))).trans ((Fr_fI hL36 (tf hT6 rfl rfl) (by decide +kernel)).trans (FUp_fIne hU8 (fun z => absurd z.2 (by decide))))))
          have e693 := fI_bd (q := 64) hT673 (tf hT673 rfl rfl) fd_8_90
          have q694 : fI h672 64 90 = fI h 64 90 := (FUp_fIne hU675 (fun z => absurd z.2 (by decide))).trans ((Fr_fI hL573 (tf hT60 rfl rfl) (by decide +kernel)).trans ((FUp_fIne hU62 (fun z => absurd z.2 (by decide))).trans ((Fr_fI hL36 (tf hT6 rfl rfl) (by decide +kernel)).trans (FUp_fIne hU8 (fun z => absurd z.2 (by decide))))))
          have e695 := fI_bd (q := 64) hT571 (tf hT571 rfl rfl) fd_8_88
          have q696 : fI h570 64 88 = fI h 64 88 := (Fr_fI hL573 (tf hT60 rfl rfl) (by decide +kernel)).trans ((FUp_fIne hU62 (fun z => absurd z.2 (by decide))).trans ((Fr_fI hL36 (tf hT6 rfl rfl) (by decide +kernel)).trans (FUp_fIne hU8 (fun z => absurd z.2 (by decide)))))
          have e697 := fI_bd (q := 64) hT571 (tf hT571 rfl rfl) fd_8_90
          have q698 : fI h570 64 90 = fI h 64 90 := (Fr_fI hL573 (tf hT60 rfl rfl) (by decide +kernel)).trans ((FUp_fIne hU62 (fun z => absurd z.2 (by decide))).trans ((Fr_fI hL36 (tf hT6 rfl rfl) (by decide +kernel)).trans (FUp_fIne hU8 (fun z => absurd z.2 (by decide)))))
          have tt699 := TT_at hT571 (fI h570 64 87)
          have te700 : TT h570 = TT h := TT_fr hT hF572 (by decide +kernel)
          rw [te700] at tt699
          exact ih576 h672 (by omega) (by omega) (by omega) (by omega) (Or.inl (by omega)) (by omega) (by omega) (BL_m x584 tg690 (by omega)) (RU_s (Q := fun i => isL (TT h i)) x585 (by omega) (by omega) (show 97 ≤ TT h (fI h570 64 87) ∧ TT h (fI h570 64 87) ≤ 122 by omega)) hT673 hF674 (FUp_Fr hL573 hU675 (fun u hu => by rw [ty_1 hu (tf hT673 rfl rfl)]; decide))
      have e701 := fI_bd (q := 64) hT60 (tf hT60 rfl rfl) fd_8_87
      have q702 : fI h59 64 87 = fI h33 64 86 := FUp_fI hU62 (by omega) (by omega)
      have e703 := fI_bd (q := 64) hT60 (tf hT60 rfl rfl) fd_8_88
      have q704 : fI h59 64 88 = fI h 64 88 := (FUp_fIne hU62 (fun z => absurd z.2 (by decide))).trans ((Fr_fI hL36 (tf hT6 rfl rfl) (by decide +kernel)).trans (FUp_fIne hU8 (fun z => absurd z.2 (by decide))))
      have e705 := fI_bd (q := 64) hT60 (tf hT60 rfl rfl) fd_8_90
      have q706 : fI h59 64 90 = fI h 64 90 := (FUp_fIne hU62 (fun z => absurd z.2 (by decide))).trans ((Fr_fI hL36 (tf hT6 rfl rfl) (by decide +kernel)).trans (FUp_fIne hU8 (fun z => absurd z.2 (by decide))))
      have e707 := fI_bd (q := 64) hT34 (tf hT34 rfl rfl) fd_8_88
      have q708 : fI h33 64 88 = fI h 64 88 := (Fr_fI hL36 (tf hT6 rfl rfl) (by decide +kernel)).trans (FUp_fIne hU8 (fun z => absurd z.2 (by decide)))
      have e709 := fI_bd (q := 64) hT34 (tf hT34 rfl rfl) fd_8_90
      have q710 : fI h33 64 90 = fI h 64 90 := (Fr_fI hL36 (tf hT6 rfl rfl) (by decide +kernel)).trans (FUp_fIne hU8 (fun z => absurd z.2 (by decide)))
      have tg711 : TT h59 = TT h33 := (TT_fr hT hF61 (by decide +kernel)).trans (TT_fr hT hF35 (by decide +kernel)).symm
      have e712 := fI_bd (q := 64) hT60 (tf hT60 rfl rfl) fd_8_88
      have q713 : fI h59 64 88 = fI h 64 88 := (FUp_fIne hU62 (fun z => absurd z.2 (by decide))).trans ((Fr_fI hL36 (tf hT6 rfl rfl) (by decide +kernel)).trans (FUp_fIne hU8 (fun z => absurd z.2 (by decide))))
      have e714 := fI_bd (q := 64) hT60 (tf hT60 rfl rfl) fd_8_90
      have q715 : fI h59 64 90 = fI h 64 90 := (FUp_fIne hU62 (fun z => absurd z.2 (by decide))).trans ((Fr_fI hL36 (tf hT6 rfl rfl) (by decide +kernel)).trans (FUp_fIne hU8 (fun z => absurd z.2 (by decide))))
      exact lp574 (((fI h59 64 77 - fI h59 64 87 : Int) + 1).toNat) h59 (by omega) (by omega) (by omega) (by omega) (Or.inr (by rw [show fI h59 64 87 = fI h59 64 86 from by omega]; omega)) (by omega) (by omega) (BL_m x44 tg711 (by omega)) (RU_0 (by omega)) hT60 hF61 (Fr_rf _ _ _)
      refine st_aload c252_65 rfl ?_
      refine st_iconst c252_66 ?_
      refine st_putI c252_67 hT60 (tf hT60 rfl rfl) fd_8_88 (by omega) (by omega) (Ext_rf _) hS hF61 (by decide +kernel) (fun h716 hT717 hF718 hU719 => ?_)
      refine st_return c252_70 ?_
      have e720 := fI_bd (q := 64) hT717 (tf hT717 rfl rfl) fd_8_86
      have q721 : fI h716 64 86 = fI h59 64 86 := FUp_fIne hU719 (fun z => absurd z.2 (by decide))
      have e722 := fI_bd (q := 64) hT717 (tf hT717 rfl rfl) fd_8_87
      have q723 : fI h716 64 87 = fI h33 64 86 := (FUp_fIne hU719 (fun z => absurd z.2 (by decide))).trans (FUp_fI hU62 (by omega) (by omega))
      have e724 := fI_bd (q := 64) hT717 (tf hT717 rfl rfl) fd_8_88
      have q725 : fI h716 64 88 = 0 := FUp_fI hU719 (by omega) (by omega)
      have e726 := fI_bd (q := 64) hT717 (tf hT717 rfl rfl) fd_8_77
      have q727 : fI h716 64 77 = fI h59 64 77 := FUp_fIne hU719 (fun z => absurd z.2 (by decide))
      have e728 := fI_bd (q := 64) hT717 (tf hT717 rfl rfl) fd_8_90
      have q729 : fI h716 64 90 = fI h 64 90 := (FUp_fIne hU719 (fun z => absurd z.2 (by decide))).trans ((FUp_fIne hU62 (fun z => absurd z.2 (by decide))).trans ((Fr_fI hL36 (tf hT6 rfl rfl) (by decide +kernel)).trans (FUp_fIne hU8 (fun z => absurd z.2 (by decide)))))
      have e730 := fI_bd (q := 64) hT (tf hT rfl rfl) fd_8_77
      have e731 := fI_bd (q := 64) hT (tf hT rfl rfl) fd_8_86
      have e732 := fI_bd (q := 64) hT (tf hT rfl rfl) fd_8_88
      have e733 := fI_bd (q := 64) hT (tf hT rfl rfl) fd_8_90
      have e734 := fI_bd (q := 64) hT34 (tf hT34 rfl rfl) fd_8_88
      have q735 : fI h33 64 88 = fI h 64 88 := (Fr_fI hL36 (tf hT6 rfl rfl) (by decide +kernel)).trans (FUp_fIne hU8 (fun z => absurd z.2 (by decide)))
      have e736 := fI_bd (q := 64) hT34 (tf hT34 rfl rfl) fd_8_90
      have q737 : fI h33 64 90 = fI h 64 90 := (Fr_fI hL36 (tf hT6 rfl rfl) (by decide +kernel)).trans (FUp_fIne hU8 (fun z => absurd z.2 (by decide)))
      have tg739 : TT h716 = TT h33 := (TT_fr hT hF718 (by decide +kernel)).trans (TT_fr hT hF35 (by decide +kernel)).symm
      have bl738 := BL_m x44 tg739 (by omega)
      have tt740 := TT_at hT717 (fI h716 64 86)
      have te741 : TT h716 = TT h := TT_fr hT hF718 (by decide +kernel)
      rw [te741] at tt740
      exact hQ _ _ ⟨rfl, by omega, by omega, by omega, by omega, NT_end pre1 bl738 (by omega) (by omega) (by omega) (by omega) (by omega), hT717, hF718⟩
      refine st_aload c252_19 rfl ?_
      refine st_getX (u := 124) c252_20 hT34 (tf hT34 rfl rfl) fd_8_76 rfl ?_
      refine st_aload c252_23 rfl ?_
      refine st_getI c252_24 hT34 (tf hT34 rfl rfl) fd_8_86 (fun e742 e743 => ?_)
      refine st_bald c252_27 hT34 (tf hT34 rfl rfl) ay_102 (Or.inr rfl) (by omega) (fun e744 e745 => ?_)
      have q746 : aI h33 124 (fI h33 64 86) = aI h 124 (fI h33 64 86) := (Fr_aI hL36 (tf hT6 rfl rfl) (by decide +kernel) (fI h33 64 86)).trans (FUp_aI hU8 (fI h33 64 86))
      refine st_iconst c252_28 ?_
      refine st_icmp_ne c252_30 (by omega) (by omega) (fun k747 => ?_) (fun k748 => ?_)
      refine st_aload c252_46 rfl ?_
      refine st_aload c252_47 rfl ?_
      refine st_getI c252_48 hT34 (tf hT34 rfl rfl) fd_8_86 (fun e749 e750 => ?_)
      refine st_putI c252_51 hT34 (tf hT34 rfl rfl) fd_8_87 (by omega) (by omega) (Ext_rf _) hS hF35 (by decide +kernel) (fun h751 hT752 hF753 hU754 => ?_)
      refine st_aload c252_54 rfl ?_
      refine st_getI c252_55 hT752 (tf hT752 rfl rfl) fd_8_86 (fun e755 e756 => ?_)
      have q757 : fI h751 64 86 = fI h33 64 86 := FUp_fIne hU754 (fun z => absurd z.2 (by decide))
      refine st_aload c252_58 rfl ?_
      refine st_getI c252_59 hT752 (tf hT752 rfl rfl) fd_8_77 (fun e758 e759 => ?_)
      have q760 : fI h751 64 77 = fI h33 64 77 := FUp_fIne hU754 (fun z => absurd z.2 (by decide))
      refine st_icmp_ne c252_62 (by omega) (by omega) (fun k761 => ?_) (fun k762 => ?_)
      refine st_aload c252_71 rfl ?_
      refine st_getX (u := 124) c252_72 hT752 (tf hT752 rfl rfl) fd_8_76 rfl ?_
      refine st_aload c252_75 rfl ?_
      refine st_getI c252_76 hT752 (tf hT752 rfl rfl) fd_8_86 (fun e763 e764 => ?_)
      have q765 : fI h751 64 86 = fI h33 64 86 := FUp_fIne hU754 (fun z => absurd z.2 (by decide))
      refine st_bald c252_79 hT752 (tf hT752 rfl rfl) ay_102 (Or.inr rfl) (by omega) (fun e766 e767 => ?_)
      have q768 : aI h751 124 (fI h751 64 86) = aI h 124 (fI h751 64 86) := (FUp_aI hU754 (fI h751 64 86)).trans ((Fr_aI hL36 (tf hT6 rfl rfl) (by decide +kernel) (fI h751 64 86)).trans (FUp_aI hU8 (fI h751 64 86)))
      refine st_calls (as := [vI (aI h751 124 (fI h751 64 86))]) c252_80 cm_250 rfl rfl rfl rfl (by omega) (K250 hT752 (aI h751 124 (fI h751 64 86)) (by omega) (d - 1) (by omega) _ (fun v h0 H => H)) (fun v1 h1 H => ?_)
      rcases H with ⟨rfl, pf769, rfl⟩ | ⟨rfl, pf770, pf771, rfl⟩
      refine st_if_eq c252_83 (by omega) (fun k772 => ?_) (fun k773 => False.elim (by omega))
      refine st_aload c252_131 rfl ?_
      refine st_getX (u := 124) c252_132 hT752 (tf hT752 rfl rfl) fd_8_76 rfl ?_
      refine st_aload c252_135 rfl ?_
      refine st_getI c252_136 hT752 (tf hT752 rfl rfl) fd_8_86 (fun e774 e775 => ?_)
      have q776 : fI h751 64 86 = fI h33 64 86 := FUp_fIne hU754 (fun z => absurd z.2 (by decide))
      refine st_bald c252_139 hT752 (tf hT752 rfl rfl) ay_102 (Or.inr rfl) (by omega) (fun e777 e778 => ?_)
      have q779 : aI h751 124 (fI h751 64 86) = aI h 124 (fI h751 64 86) := (FUp_aI hU754 (fI h751 64 86)).trans ((Fr_aI hL36 (tf hT6 rfl rfl) (by decide +kernel) (fI h751 64 86)).trans (FUp_aI hU8 (fI h751 64 86)))
      refine st_calls (as := [vI (aI h751 124 (fI h751 64 86))]) c252_140 cm_251 rfl rfl rfl rfl (by omega) (K251 hT752 (aI h751 124 (fI h751 64 86)) (by omega) (d - 1) (by omega) _ (fun v h0 H => H)) (fun v1 h1 H => ?_)
      rcases H with ⟨rfl, pf780, rfl⟩ | ⟨rfl, pf781, pf782, rfl⟩
      refine st_if_eq c252_143 (by omega) (fun k783 => ?_) (fun k784 => False.elim (by omega))
      refine st_aload c252_259 rfl ?_
      refine st_dup c252_260 rfl ?_
      refine st_getI c252_261 hT752 (tf hT752 rfl rfl) fd_8_87 (fun e785 e786 => ?_)
      have q787 : fI h751 64 87 = fI h33 64 86 := FUp_fI hU754 (by omega) (by omega)
      refine st_iconst c252_264 ?_
      refine st_iadd c252_265 ?_
      refine st_putI c252_266 hT752 (tf hT752 rfl rfl) fd_8_87 (by omega) (by omega) (Ext_rf _) hS hF753 (by decide +kernel) (fun h788 hT789 hF790 hU791 => ?_)
      refine st_aload c252_269 rfl ?_
      refine st_aload c252_270 rfl ?_
      refine st_getX (u := 124) c252_271 hT789 (tf hT789 rfl rfl) fd_8_76 rfl ?_
      refine st_aload c252_274 rfl ?_
      refine st_getI c252_275 hT789 (tf hT789 rfl rfl) fd_8_86 (fun e792 e793 => ?_)
      have q794 : fI h788 64 86 = fI h751 64 86 := FUp_fIne hU791 (fun z => absurd z.2 (by decide))
      refine st_bald c252_278 hT789 (tf hT789 rfl rfl) ay_102 (Or.inr rfl) (by omega) (fun e795 e796 => ?_)
      have q797 : aI h788 124 (fI h788 64 86) = aI h 124 (fI h788 64 86) := (FUp_aI hU791 (fI h788 64 86)).trans ((FUp_aI hU754 (fI h788 64 86)).trans ((Fr_aI hL36 (tf hT6 rfl rfl) (by decide +kernel) (fI h788 64 86)).trans (FUp_aI hU8 (fI h788 64 86))))
      refine st_iconst c252_279 ?_
      refine st_icmp_le c252_281 (by omega) (by omega) (fun k798 => ?_) (fun k799 => ?_)
      refine st_iconst c252_296 ?_
      refine st_putI c252_297 hT789 (tf hT789 rfl rfl) fd_8_88 (by omega) (by omega) (Ext_rf _) hS hF790 (by decide +kernel) (fun h800 hT801 hF802 hU803 => ?_)
      refine st_return c252_300 ?_
      have e804 := fI_bd (q := 64) hT801 (tf hT801 rfl rfl) fd_8_86
      have q805 : fI h800 64 86 = fI h788 64 86 := FUp_fIne hU803 (fun z => absurd z.2 (by decide))
      have e806 := fI_bd (q := 64) hT801 (tf hT801 rfl rfl) fd_8_87
      have q807 : fI h800 64 87 = (fI h751 64 87) + 1 := (FUp_fIne hU803 (fun z => absurd z.2 (by decide))).trans (FUp_fI hU791 (by omega) (by omega))
      have e808 := fI_bd (q := 64) hT801 (tf hT801 rfl rfl) fd_8_88
      have q809 : fI h800 64 88 = (-1) := FUp_fI hU803 (by omega) (by omega)
      have e810 := fI_bd (q := 64) hT801 (tf hT801 rfl rfl) fd_8_77
      have q811 : fI h800 64 77 = fI h751 64 77 := (FUp_fIne hU803 (fun z => absurd z.2 (by decide))).trans (FUp_fIne hU791 (fun z => absurd z.2 (by decide)))
      have e812 := fI_bd (q := 64) hT801 (tf hT801 rfl rfl) fd_8_90
      have q813 : fI h800 64 90 = fI h 64 90 := (FUp_fIne hU803 (fun z => absurd z.2 (by decide))).trans ((FUp_fIne hU791 (fun z => absurd z.2 (by decide))).trans ((FUp_fIne hU754 (fun z => absurd z.2 (by decide))).trans ((Fr_fI hL36 (tf hT6 rfl rfl) (by decide +kernel)).trans (FUp_fIne hU8 (fun z => absurd z.2 (by decide))))))
      have e814 := fI_bd (q := 64) hT (tf hT rfl rfl) fd_8_77
      have e815 := fI_bd (q := 64) hT (tf hT rfl rfl) fd_8_86
      have e816 := fI_bd (q := 64) hT (tf hT rfl rfl) fd_8_88
      have e817 := fI_bd (q := 64) hT (tf hT rfl rfl) fd_8_90
      have e818 := fI_bd (q := 64) hT34 (tf hT34 rfl rfl) fd_8_88
      have q819 : fI h33 64 88 = fI h 64 88 := (Fr_fI hL36 (tf hT6 rfl rfl) (by decide +kernel)).trans (FUp_fIne hU8 (fun z => absurd z.2 (by decide)))
      have e820 := fI_bd (q := 64) hT34 (tf hT34 rfl rfl) fd_8_90
      have q821 : fI h33 64 90 = fI h 64 90 := (Fr_fI hL36 (tf hT6 rfl rfl) (by decide +kernel)).trans (FUp_fIne hU8 (fun z => absurd z.2 (by decide)))
      have tg823 : TT h800 = TT h33 := (TT_fr hT hF802 (by decide +kernel)).trans (TT_fr hT hF35 (by decide +kernel)).symm
      have bl822 := BL_m x44 tg823 (by omega)
      have tt824 := TT_at hT801 (fI h800 64 86)
      have te825 : TT h800 = TT h := TT_fr hT hF802 (by decide +kernel)
      rw [te825] at tt824
      exact hQ _ _ ⟨rfl, by omega, by omega, by omega, by omega, NT_sig pre1 bl822 (by omega) (by omega) (by omega) (by intro k; have k : (97 : Int) ≤ TT h (fI h800 64 86) ∧ TT h (fI h800 64 86) ≤ 122 := k; omega) (by intro k; have k : (48 : Int) ≤ TT h (fI h800 64 86) ∧ TT h (fI h800 64 86) ≤ 57 := k; omega) (by omega) (by omega) (by omega), hT801, hF802⟩
      refine st_aload c252_284 rfl ?_
      refine st_getX (u := 124) c252_285 hT789 (tf hT789 rfl rfl) fd_8_76 rfl ?_
      refine st_aload c252_288 rfl ?_
      refine st_getI c252_289 hT789 (tf hT789 rfl rfl) fd_8_86 (fun e826 e827 => ?_)
      have q828 : fI h788 64 86 = fI h751 64 86 := FUp_fIne hU791 (fun z => absurd z.2 (by decide))
      refine st_bald c252_292 hT789 (tf hT789 rfl rfl) ay_102 (Or.inr rfl) (by omega) (fun e829 e830 => ?_)
      have q831 : aI h788 124 (fI h788 64 86) = aI h 124 (fI h788 64 86) := (FUp_aI hU791 (fI h788 64 86)).trans ((FUp_aI hU754 (fI h788 64 86)).trans ((Fr_aI hL36 (tf hT6 rfl rfl) (by decide +kernel) (fI h788 64 86)).trans (FUp_aI hU8 (fI h788 64 86))))
      refine st_goto c252_293 ?_
      refine st_putI c252_297 hT789 (tf hT789 rfl rfl) fd_8_88 (by omega) (by omega) (Ext_rf _) hS hF790 (by decide +kernel) (fun h832 hT833 hF834 hU835 => ?_)
      refine st_return c252_300 ?_
      have e836 := fI_bd (q := 64) hT833 (tf hT833 rfl rfl) fd_8_86
      have q837 : fI h832 64 86 = fI h788 64 86 := FUp_fIne hU835 (fun z => absurd z.2 (by decide))
      have e838 := fI_bd (q := 64) hT833 (tf hT833 rfl rfl) fd_8_87
      have q839 : fI h832 64 87 = (fI h751 64 87) + 1 := (FUp_fIne hU835 (fun z => absurd z.2 (by decide))).trans (FUp_fI hU791 (by omega) (by omega))
      have e840 := fI_bd (q := 64) hT833 (tf hT833 rfl rfl) fd_8_88
      have q841 : fI h832 64 88 = aI h788 124 (fI h788 64 86) := FUp_fI hU835 (by omega) (by omega)
      have e842 := fI_bd (q := 64) hT833 (tf hT833 rfl rfl) fd_8_77
      have q843 : fI h832 64 77 = fI h751 64 77 := (FUp_fIne hU835 (fun z => absurd z.2 (by decide))).trans (FUp_fIne hU791 (fun z => absurd z.2 (by decide)))
      have e844 := fI_bd (q := 64) hT833 (tf hT833 rfl rfl) fd_8_90
      have q845 : fI h832 64 90 = fI h 64 90 := (FUp_fIne hU835 (fun z => absurd z.2 (by decide))).trans ((FUp_fIne hU791 (fun z => absurd z.2 (by decide))).trans ((FUp_fIne hU754 (fun z => absurd z.2 (by decide))).trans ((Fr_fI hL36 (tf hT6 rfl rfl) (by decide +kernel)).trans (FUp_fIne hU8 (fun z => absurd z.2 (by decide))))))
      have e846 := fI_bd (q := 64) hT (tf hT rfl rfl) fd_8_77
      have e847 := fI_bd (q := 64) hT (tf hT rfl rfl) fd_8_86
      have e848 := fI_bd (q := 64) hT (tf hT rfl rfl) fd_8_88
      have e849 := fI_bd (q := 64) hT (tf hT rfl rfl) fd_8_90
      have e850 := fI_bd (q := 64) hT34 (tf hT34 rfl rfl) fd_8_88
      have q851 : fI h33 64 88 = fI h 64 88 := (Fr_fI hL36 (tf hT6 rfl rfl) (by decide +kernel)).trans (FUp_fIne hU8 (fun z => absurd z.2 (by decide)))
      have e852 := fI_bd (q := 64) hT34 (tf hT34 rfl rfl) fd_8_90
      have q853 : fI h33 64 90 = fI h 64 90 := (Fr_fI hL36 (tf hT6 rfl rfl) (by decide +kernel)).trans (FUp_fIne hU8 (fun z => absurd z.2 (by decide)))
      have tg855 : TT h832 = TT h33 := (TT_fr hT hF834 (by decide +kernel)).trans (TT_fr hT hF35 (by decide +kernel)).symm
      have bl854 := BL_m x44 tg855 (by omega)
      have tt856 := TT_at hT833 (fI h832 64 86)
      have te857 : TT h832 = TT h := TT_fr hT hF834 (by decide +kernel)
      rw [te857] at tt856
      exact hQ _ _ ⟨rfl, by omega, by omega, by omega, by omega, NT_sig pre1 bl854 (by omega) (by omega) (by omega) (by intro k; have k : (97 : Int) ≤ TT h (fI h832 64 86) ∧ TT h (fI h832 64 86) ≤ 122 := k; omega) (by intro k; have k : (48 : Int) ≤ TT h (fI h832 64 86) ∧ TT h (fI h832 64 86) ≤ 57 := k; omega) (by omega) (by omega) (by omega), hT833, hF834⟩
      refine st_if_eq c252_143 (by omega) (fun k858 => False.elim (by omega)) (fun k859 => ?_)
      refine st_aload c252_146 rfl ?_
      refine st_iconst c252_147 ?_
      refine st_putI c252_148 hT752 (tf hT752 rfl rfl) fd_8_89 (by omega) (by omega) (Ext_rf _) hS hF753 (by decide +kernel) (fun h860 hT861 hF862 hU863 => ?_)
      have lp941 : ∀ (n942 : Nat) (h937 : List mE), fI h937 64 77 - fI h937 64 87 < (n942 : Int) → fI h937 64 87 ≤ fI h937 64 77 → fI h937 64 86 ≤ fI h937 64 87 → fI h937 64 86+1 ≤ fI h937 64 77 → fI h937 64 86 + 1 ≤ fI h937 64 87 ∨ (48 ≤ aI h937 124 (fI h937 64 87) ∧ aI h937 124 (fI h937 64 87) ≤ 57) → fI h 64 87 ≤ fI h937 64 86 → fI h937 64 77 = fI h 64 77 → BL h h937 (fI h 64 87) → RU (fun i => isD (TT h i)) h937 → TH E τ h937 → Fr τ W252 h h937 → Fr τ [(8, 87), (8, 89)] h860 h937 → MR (mex Ln xs) d 252 151 [some (.ref 64)] [] h937 Q := by
        intro n942
        induction n942 with
        | zero =>
          intro h937 hm944 x945 x946 x947 x948 x949 x950 x951 x952 hT938 hF939 hL940
          exfalso; omega
        | succ n942 ih943 =>
          intro h937 hm944 x945 x946 x947 x948 x949 x950 x951 x952 hT938 hF939 hL940
          have e953 := fI_bd (q := 64) hT938 (tf hT938 rfl rfl) fd_8_87
          have e954 := fI_bd (q := 64) hT938 (tf hT938 rfl rfl) fd_8_77
          have q955 : fI h937 64 77 = fI h751 64 77 := (Fr_fI hL940 (tf hT861 rfl rfl) (by decide +kernel)).trans (FUp_fIne hU863 (fun z => absurd z.2 (by decide)))
          have e956 := fI_bd (q := 64) hT938 (tf hT938 rfl rfl) fd_8_86
          have q957 : fI h937 64 86 = fI h751 64 86 := (Fr_fI hL940 (tf hT861 rfl rfl) (by decide +kernel)).trans (FUp_fIne hU863 (fun z => absurd z.2 (by decide)))
          refine st_aload c252_151 rfl ?_
          refine st_getI c252_152 hT938 (tf hT938 rfl rfl) fd_8_87 (fun e958 e959 => ?_)
          refine st_aload c252_155 rfl ?_
          refine st_getI c252_156 hT938 (tf hT938 rfl rfl) fd_8_77 (fun e960 e961 => ?_)
          have q962 : fI h937 64 77 = fI h751 64 77 := (Fr_fI hL940 (tf hT861 rfl rfl) (by decide +kernel)).trans (FUp_fIne hU863 (fun z => absurd z.2 (by decide)))
          refine st_icmp_ge c252_159 (by omega) (by omega) (fun k963 => ?_) (fun k964 => ?_)
          refine st_aload c252_235 rfl ?_
          refine st_aload c252_236 rfl ?_
          refine st_getI c252_237 hT938 (tf hT938 rfl rfl) fd_8_87 (fun e965 e966 => ?_)
          refine st_aload c252_240 rfl ?_
          refine st_getI c252_241 hT938 (tf hT938 rfl rfl) fd_8_86 (fun e967 e968 => ?_)
          have q969 : fI h937 64 86 = fI h751 64 86 := (Fr_fI hL940 (tf hT861 rfl rfl) (by decide +kernel)).trans (FUp_fIne hU863 (fun z => absurd z.2 (by decide)))
          refine st_isub c252_244 ?_
          refine st_iconst c252_245 ?_
          refine st_icmp_le c252_247 (by omega) (by omega) (fun k970 => ?_) (fun k971 => ?_)
          refine st_iconst c252_254 ?_
          refine st_putI c252_255 hT938 (tf hT938 rfl rfl) fd_8_88 (by omega) (by omega) (Ext_rf _) hS hF939 (by decide +kernel) (fun h972 hT973 hF974 hU975 => ?_)
          refine st_return c252_258 ?_
          have e976 := fI_bd (q := 64) hT973 (tf hT973 rfl rfl) fd_8_86
          have q977 : fI h972 64 86 = fI h937 64 86 := FUp_fIne hU975 (fun z => absurd z.2 (by decide))
          have e978 := fI_bd (q := 64) hT973 (tf hT973 rfl rfl) fd_8_87
          have q979 : fI h972 64 87 = fI h937 64 87 := FUp_fIne hU975 (fun z => absurd z.2 (by decide))
          have e980 := fI_bd (q := 64) hT973 (tf hT973 rfl rfl) fd_8_88
          have q981 : fI h972 64 88 = 2 := FUp_fI hU975 (by omega) (by omega)
          have e982 := fI_bd (q := 64) hT973 (tf hT973 rfl rfl) fd_8_77
          have q983 : fI h972 64 77 = fI h937 64 77 := FUp_fIne hU975 (fun z => absurd z.2 (by decide))
          have e984 := fI_bd (q := 64) hT973 (tf hT973 rfl rfl) fd_8_90
          have q985 : fI h972 64 90 = fI h 64 90 := (FUp_fIne hU975 (fun z => absurd z.2 (by decide))).trans ((Fr_fI hL940 (tf hT861 rfl rfl) (by decide +kernel)).trans ((FUp_fIne hU863 (fun z => absurd z.2 (by decide))).trans ((FUp_fIne hU754 (fun z => absurd z.2 (by decide))).trans ((Fr_fI hL36 (tf hT6 rfl rfl) (by decide +kernel)).trans (FUp_fIne hU8 (fun z => absurd z.2 (by decide)))))))
          have e986 := fI_bd (q := 64) hT (tf hT rfl rfl) fd_8_77
          have e987 := fI_bd (q := 64) hT (tf hT rfl rfl) fd_8_86
          have e988 := fI_bd (q := 64) hT (tf hT rfl rfl) fd_8_88
          have e989 := fI_bd (q := 64) hT (tf hT rfl rfl) fd_8_90
          have e990 := fI_bd (q := 64) hT938 (tf hT938 rfl rfl) fd_8_88
          have q991 : fI h937 64 88 = fI h 64 88 := (Fr_fI hL940 (tf hT861 rfl rfl) (by decide +kernel)).trans ((FUp_fIne hU863 (fun z => absurd z.2 (by decide))).trans ((FUp_fIne hU754 (fun z => absurd z.2 (by decide))).trans ((Fr_fI hL36 (tf hT6 rfl rfl) (by decide +kernel)).trans (FUp_fIne hU8 (fun z => absurd z.2 (by decide))))))
          have e992 := fI_bd (q := 64) hT938 (tf hT938 rfl rfl) fd_8_90
          have q993 : fI h937 64 90 = fI h 64 90 := (Fr_fI hL940 (tf hT861 rfl rfl) (by decide +kernel)).trans ((FUp_fIne hU863 (fun z => absurd z.2 (by decide))).trans ((FUp_fIne hU754 (fun z => absurd z.2 (by decide))).trans ((Fr_fI hL36 (tf hT6 rfl rfl) (by decide +kernel)).trans (FUp_fIne hU8 (fun z => absurd z.2 (by decide))))))
          have tg995 : TT h972 = TT h937 := (TT_fr hT hF974 (by decide +kernel)).trans (TT_fr hT hF939 (by decide +kernel)).symm
          have bl994 := BL_m x951 tg995 (by omega)
          have tt996 := TT_at hT973 (fI h972 64 86)
          have te997 : TT h972 = TT h := TT_fr hT hF974 (by decide +kernel)
          rw [te997] at tt996
          have ru998 : RU (fun i => isD (TT h i)) h972 := fun j a b => x952 j (by omega) (by omega)
          have tt999 := TT_at hT973 (fI h972 64 87)
          have te1000 : TT h972 = TT h := TT_fr hT hF974 (by decide +kernel)
          rw [te1000] at tt999
          have sq1001 : fI h972 64 87 = fI h 64 77 ∨ ¬ isD (TT h (fI h972 64 87)) := by
            by_cases c : fI h972 64 87 = fI h 64 77
            · exact Or.inl c
            · exact Or.inr (by intro k; have k : (48 : Int) ≤ TT h (fI h972 64 87) ∧ TT h (fI h972 64 87) ≤ 57 := k; omega)
          exact hQ _ _ ⟨rfl, by omega, by omega, by omega, by omega, NT_dig pre1 bl994 (by omega) (by omega) (by omega) (show 48 ≤ TT h (fI h972 64 86) ∧ TT h (fI h972 64 86) ≤ 57 by omega) ru998 (by omega) (by omega) sq1001 (by omega), hT973, hF974⟩
          refine st_iconst c252_250 ?_
          refine st_goto c252_251 ?_
          refine st_putI c252_255 hT938 (tf hT938 rfl rfl) fd_8_88 (by omega) (by omega) (Ext_rf _) hS hF939 (by decide +kernel) (fun h1002 hT1003 hF1004 hU1005 => ?_)
          refine st_return c252_258 ?_
          have e1006 := fI_bd (q := 64) hT1003 (tf hT1003 rfl rfl) fd_8_86
          have q1007 : fI h1002 64 86 = fI h937 64 86 := FUp_fIne hU1005 (fun z => absurd z.2 (by decide))
          have e1008 := fI_bd (q := 64) hT1003 (tf hT1003 rfl rfl) fd_8_87
          have q1009 : fI h1002 64 87 = fI h937 64 87 := FUp_fIne hU1005 (fun z => absurd z.2 (by decide))
          have e1010 := fI_bd (q := 64) hT1003 (tf hT1003 rfl rfl) fd_8_88
          have q1011 : fI h1002 64 88 = (-1) := FUp_fI hU1005 (by omega) (by omega)
          have e1012 := fI_bd (q := 64) hT1003 (tf hT1003 rfl rfl) fd_8_77
          have q1013 : fI h1002 64 77 = fI h937 64 77 := FUp_fIne hU1005 (fun z => absurd z.2 (by decide))
          have e1014 := fI_bd (q := 64) hT1003 (tf hT1003 rfl rfl) fd_8_90
          have q1015 : fI h1002 64 90 = fI h 64 90 := (FUp_fIne hU1005 (fun z => absurd z.2 (by decide))).trans ((Fr_fI hL940 (tf hT861 rfl rfl) (by decide +kernel)).trans ((FUp_fIne hU863 (fun z => absurd z.2 (by decide))).trans ((FUp_fIne hU754 (fun z => absurd z.2 (by decide))).trans ((Fr_fI hL36 (tf hT6 rfl rfl) (by decide +kernel)).trans (FUp_fIne hU8 (fun z => absurd z.2 (by decide)))))))
          have e1016 := fI_bd (q := 64) hT (tf hT rfl rfl) fd_8_77
          have e1017 := fI_bd (q := 64) hT (tf hT rfl rfl) fd_8_86
          have e1018 := fI_bd (q := 64) hT (tf hT rfl rfl) fd_8_88
          have e1019 := fI_bd (q := 64) hT (tf hT rfl rfl) fd_8_90
          have e1020 := fI_bd (q := 64) hT938 (tf hT938 rfl rfl) fd_8_88
          have q1021 : fI h937 64 88 = fI h 64 88 := (Fr_fI hL940 (tf hT861 rfl rfl) (by decide +kernel)).trans ((FUp_fIne hU863 (fun z => absurd z.2 (by decide))).trans ((FUp_fIne hU754 (fun z => absurd z.2 (by decide))).trans ((Fr_fI hL36 (tf hT6 rfl rfl) (by decide +kernel)).trans (FUp_fIne hU8 (fun z => absurd z.2 (by decide))))))
          have e1022 := fI_bd (q := 64) hT938 (tf hT938 rfl rfl) fd_8_90
          have q1023 : fI h937 64 90 = fI h 64 90 := (Fr_fI hL940 (tf hT861 rfl rfl) (by decide +kernel)).trans ((FUp_fIne hU863 (fun z => absurd z.2 (by decide))).trans ((FUp_fIne hU754 (fun z => absurd z.2 (by decide))).trans ((Fr_fI hL36 (tf hT6 rfl rfl) (by decide +kernel)).trans (FUp_fIne hU8 (fun z => absurd z.2 (by decide))))))
          have tg1025 : TT h1002 = TT h937 := (TT_fr hT hF1004 (by decide +kernel)).trans (TT_fr hT hF939 (by decide +kernel)).symm
          have bl1024 := BL_m x951 tg1025 (by omega)
          have tt1026 := TT_at hT1003 (fI h1002 64 86)
          have te1027 : TT h1002 = TT h := TT_fr hT hF1004 (by decide +kernel)
          rw [te1027] at tt1026
          have ru1028 : RU (fun i => isD (TT h i)) h1002 := fun j a b => x952 j (by omega) (by omega)
          have tt1029 := TT_at hT1003 (fI h1002 64 87)
          have te1030 : TT h1002 = TT h := TT_fr hT hF1004 (by decide +kernel)
          rw [te1030] at tt1029
          have sq1031 : fI h1002 64 87 = fI h 64 77 ∨ ¬ isD (TT h (fI h1002 64 87)) := by
            by_cases c : fI h1002 64 87 = fI h 64 77
            · exact Or.inl c
            · exact Or.inr (by intro k; have k : (48 : Int) ≤ TT h (fI h1002 64 87) ∧ TT h (fI h1002 64 87) ≤ 57 := k; omega)
          exact hQ _ _ ⟨rfl, by omega, by omega, by omega, by omega, NT_dig pre1 bl1024 (by omega) (by omega) (by omega) (show 48 ≤ TT h (fI h1002 64 86) ∧ TT h (fI h1002 64 86) ≤ 57 by omega) ru1028 (by omega) (by omega) sq1031 (by omega), hT1003, hF1004⟩
          refine st_aload c252_162 rfl ?_
          refine st_getX (u := 124) c252_163 hT938 (tf hT938 rfl rfl) fd_8_76 rfl ?_
          refine st_aload c252_166 rfl ?_
          refine st_getI c252_167 hT938 (tf hT938 rfl rfl) fd_8_87 (fun e1032 e1033 => ?_)
          refine st_bald c252_170 hT938 (tf hT938 rfl rfl) ay_102 (Or.inr rfl) (by omega) (fun e1034 e1035 => ?_)
          have q1036 : aI h937 124 (fI h937 64 87) = aI h 124 (fI h937 64 87) := (Fr_aI hL940 (tf hT861 rfl rfl) (by decide +kernel) (fI h937 64 87)).trans ((FUp_aI hU863 (fI h937 64 87)).trans ((FUp_aI hU754 (fI h937 64 87)).trans ((Fr_aI hL36 (tf hT6 rfl rfl) (by decide +kernel) (fI h937 64 87)).trans (FUp_aI hU8 (fI h937 64 87)))))
          refine st_calls (as := [vI (aI h937 124 (fI h937 64 87))]) c252_171 cm_251 rfl rfl rfl rfl (by omega) (K251 hT938 (aI h937 124 (fI h937 64 87)) (by omega) (d - 1) (by omega) _ (fun v h0 H => H)) (fun v1 h1 H => ?_)
          rcases H with ⟨rfl, pf1037, rfl⟩ | ⟨rfl, pf1038, pf1039, rfl⟩
          refine st_if_eq c252_174 (by omega) (fun k1040 => ?_) (fun k1041 => False.elim (by omega))
          refine st_aload c252_235 rfl ?_
          refine st_aload c252_236 rfl ?_
          refine st_getI c252_237 hT938 (tf hT938 rfl rfl) fd_8_87 (fun e1042 e1043 => ?_)
          refine st_aload c252_240 rfl ?_
          refine st_getI c252_241 hT938 (tf hT938 rfl rfl) fd_8_86 (fun e1044 e1045 => ?_)
          have q1046 : fI h937 64 86 = fI h751 64 86 := (Fr_fI hL940 (tf hT861 rfl rfl) (by decide +kernel)).trans (FUp_fIne hU863 (fun z => absurd z.2 (by decide)))
          refine st_isub c252_244 ?_
          refine st_iconst c252_245 ?_
          refine st_icmp_le c252_247 (by omega) (by omega) (fun k1047 => ?_) (fun k1048 => ?_)
          refine st_iconst c252_254 ?_
          refine st_putI c252_255 hT938 (tf hT938 rfl rfl) fd_8_88 (by omega) (by omega) (Ext_rf _) hS hF939 (by decide +kernel) (fun h1049 hT1050 hF1051 hU1052 => ?_)
          refine st_return c252_258 ?_
          have e1053 := fI_bd (q := 64) hT1050 (tf hT1050 rfl rfl) fd_8_86
          have q1054 : fI h1049 64 86 = fI h937 64 86 := FUp_fIne hU1052 (fun z => absurd z.2 (by decide))
          have e1055 := fI_bd (q := 64) hT1050 (tf hT1050 rfl rfl) fd_8_87
          have q1056 : fI h1049 64 87 = fI h937 64 87 := FUp_fIne hU1052 (fun z => absurd z.2 (by decide))
          have e1057 := fI_bd (q := 64) hT1050 (tf hT1050 rfl rfl) fd_8_88
          have q1058 : fI h1049 64 88 = 2 := FUp_fI hU1052 (by omega) (by omega)
          have e1059 := fI_bd (q := 64) hT1050 (tf hT1050 rfl rfl) fd_8_77
          have q1060 : fI h1049 64 77 = fI h937 64 77 := FUp_fIne hU1052 (fun z => absurd z.2 (by decide))
          have e1061 := fI_bd (q := 64) hT1050 (tf hT1050 rfl rfl) fd_8_90
          have q1062 : fI h1049 64 90 = fI h 64 90 := (FUp_fIne hU1052 (fun z => absurd z.2 (by decide))).trans ((Fr_fI hL940 (tf hT861 rfl rfl) (by decide +kernel)).trans ((FUp_fIne hU863 (fun z => absurd z.2 (by decide))).trans ((FUp_fIne hU754 (fun z => absurd z.2 (by decide))).trans ((Fr_fI hL36 (tf hT6 rfl rfl) (by decide +kernel)).trans (FUp_fIne hU8 (fun z => absurd z.2 (by decide)))))))
          have e1063 := fI_bd (q := 64) hT (tf hT rfl rfl) fd_8_77
          have e1064 := fI_bd (q := 64) hT (tf hT rfl rfl) fd_8_86
          have e1065 := fI_bd (q := 64) hT (tf hT rfl rfl) fd_8_88
          have e1066 := fI_bd (q := 64) hT (tf hT rfl rfl) fd_8_90
          have e1067 := fI_bd (q := 64) hT938 (tf hT938 rfl rfl) fd_8_88
          have q1068 : fI h937 64 88 = fI h 64 88 := (Fr_fI hL940 (tf hT861 rfl rfl) (by decide +kernel)).trans ((FUp_fIne hU863 (fun z => absurd z.2 (by decide))).trans ((FUp_fIne hU754 (fun z => absurd z.2 (by decide))).trans ((Fr_fI hL36 (tf hT6 rfl rfl) (by decide +kernel)).trans (FUp_fIne hU8 (fun z => absurd z.2 (by decide))))))
          have e1069 := fI_bd (q := 64) hT938 (tf hT938 rfl rfl) fd_8_90
          have q1070 : fI h937 64 90 = fI h 64 90 := (Fr_fI hL940 (tf hT861 rfl rfl) (by decide +kernel)).trans ((FUp_fIne hU863 (fun z => absurd z.2 (by decide))).trans ((FUp_fIne hU754 (fun z => absurd z.2 (by decide))).trans ((Fr_fI hL36 (tf hT6 rfl rfl) (by decide +kernel)).trans (FUp_fIne hU8 (fun z => absurd z.2 (by decide))))))
          have tg1072 : TT h1049 = TT h937 := (TT_fr hT hF1051 (by decide +kernel)).trans (TT_fr hT hF939 (by decide +kernel)).symm
          have bl1071 := BL_m x951 tg1072 (by omega)
          have tt1073 := TT_at hT1050 (fI h1049 64 86)
          have te1074 : TT h1049 = TT h := TT_fr hT hF1051 (by decide +kernel)
          rw [te1074] at tt1073
          have ru1075 : RU (fun i => isD (TT h i)) h1049 := fun j a b => x952 j (by omega) (by omega)
          have tt1076 := TT_at hT1050 (fI h1049 64 87)
          have te1077 : TT h1049 = TT h := TT_fr hT hF1051 (by decide +kernel)
          rw [te1077] at tt1076
          have sq1078 : fI h1049 64 87 = fI h 64 77 ∨ ¬ isD (TT h (fI h1049 64 87)) := by
            by_cases c : fI h1049 64 87 = fI h 64 77
            · exact Or.inl c
            · exact Or.inr (by intro k; have k : (48 : Int) ≤ TT h (fI h1049 64 87) ∧ TT h (fI h1049 64 87) ≤ 57 := k; omega)
          exact hQ _ _ ⟨rfl, by omega, by omega, by omega, by omega, NT_dig pre1 bl1071 (by omega) (by omega) (by omega) (show 48 ≤ TT h (fI h1049 64 86) ∧ TT h (fI h1049 64 86) ≤ 57 by omega) ru1075 (by omega) (by omega) sq1078 (by omega), hT1050, hF1051⟩
          refine st_iconst c252_250 ?_
          refine st_goto c252_251 ?_
          refine st_putI c252_255 hT938 (tf hT938 rfl rfl) fd_8_88 (by omega) (by omega) (Ext_rf _) hS hF939 (by decide +kernel) (fun h1079 hT1080 hF1081 hU1082 => ?_)
          refine st_return c252_258 ?_
          have e1083 := fI_bd (q := 64) hT1080 (tf hT1080 rfl rfl) fd_8_86
          have q1084 : fI h1079 64 86 = fI h937 64 86 := FUp_fIne hU1082 (fun z => absurd z.2 (by decide))
          have e1085 := fI_bd (q := 64) hT1080 (tf hT1080 rfl rfl) fd_8_87
          have q1086 : fI h1079 64 87 = fI h937 64 87 := FUp_fIne hU1082 (fun z => absurd z.2 (by decide))
          have e1087 := fI_bd (q := 64) hT1080 (tf hT1080 rfl rfl) fd_8_88
          have q1088 : fI h1079 64 88 = (-1) := FUp_fI hU1082 (by omega) (by omega)
          have e1089 := fI_bd (q := 64) hT1080 (tf hT1080 rfl rfl) fd_8_77
          have q1090 : fI h1079 64 77 = fI h937 64 77 := FUp_fIne hU1082 (fun z => absurd z.2 (by decide))
          have e1091 := fI_bd (q := 64) hT1080 (tf hT1080 rfl rfl) fd_8_90
          have q1092 : fI h1079 64 90 = fI h 64 90 := (FUp_fIne hU1082 (fun z => absurd z.2 (by decide))).trans ((Fr_fI hL940 (tf hT861 rfl rfl) (by decide +kernel)).trans ((FUp_fIne hU863 (fun z => absurd z.2 (by decide))).trans ((FUp_fIne hU754 (fun z => absurd z.2 (by decide))).trans ((Fr_fI hL36 (tf hT6 rfl rfl) (by decide +kernel)).trans (FUp_fIne hU8 (fun z => absurd z.2 (by decide)))))))
          have e1093 := fI_bd (q := 64) hT (tf hT rfl rfl) fd_8_77
          have e1094 := fI_bd (q := 64) hT (tf hT rfl rfl) fd_8_86
          have e1095 := fI_bd (q := 64) hT (tf hT rfl rfl) fd_8_88
          have e1096 := fI_bd (q := 64) hT (tf hT rfl rfl) fd_8_90
          have e1097 := fI_bd (q := 64) hT938 (tf hT938 rfl rfl) fd_8_88
          have q1098 : fI h937 64 88 = fI h 64 88 := (Fr_fI hL940 (tf hT861 rfl rfl) (by decide +kernel)).trans ((FUp_fIne hU863 (fun z => absurd z.2 (by decide))).trans ((FUp_fIne hU754 (fun z => absurd z.2 (by decide))).trans ((Fr_fI hL36 (tf hT6 rfl rfl) (by decide +kernel)).trans (FUp_fIne hU8 (fun z => absurd z.2 (by decide))))))
          have e1099 := fI_bd (q := 64) hT938 (tf hT938 rfl rfl) fd_8_90
          have q1100 : fI h937 64 90 = fI h 64 90 := (Fr_fI hL940 (tf hT861 rfl rfl) (by decide +kernel)).trans ((FUp_fIne hU863 (fun z => absurd z.2 (by decide))).trans ((FUp_fIne hU754 (fun z => absurd z.2 (by decide))).trans ((Fr_fI hL36 (tf hT6 rfl rfl) (by decide +kernel)).trans (FUp_fIne hU8 (fun z => absurd z.2 (by decide))))))
          have tg1102 : TT h1079 = TT h937 := (TT_fr hT hF1081 (by decide +kernel)).trans (TT_fr hT hF939 (by decide +kernel)).symm
          have bl1101 := BL_m x951 tg1102 (by omega)
          have tt1103 := TT_at hT1080 (fI h1079 64 86)
          have te1104 : TT h1079 = TT h := TT_fr hT hF1081 (by decide +kernel)
          rw [te1104] at tt1103
          have ru1105 : RU (fun i => isD (TT h i)) h1079 := fun j a b => x952 j (by omega) (by omega)
          have tt1106 := TT_at hT1080 (fI h1079 64 87)
          have te1107 : TT h1079 = TT h := TT_fr hT hF1081 (by decide +kernel)
          rw [te1107] at tt1106
          have sq1108 : fI h1079 64 87 = fI h 64 77 ∨ ¬ isD (TT h (fI h1079 64 87)) := by
            by_cases c : fI h1079 64 87 = fI h 64 77
            · exact Or.inl c
            · exact Or.inr (by intro k; have k : (48 : Int) ≤ TT h (fI h1079 64 87) ∧ TT h (fI h1079 64 87) ≤ 57 := k; omega)
          exact hQ _ _ ⟨rfl, by omega, by omega, by omega, by omega, NT_dig pre1 bl1101 (by omega) (by omega) (by omega) (show 48 ≤ TT h (fI h1079 64 86) ∧ TT h (fI h1079 64 86) ≤ 57 by omega) ru1105 (by omega) (by omega) sq1108 (by omega), hT1080, hF1081⟩
          refine st_if_eq c252_174 (by omega) (fun k1109 => False.elim (by omega)) (fun k1110 => ?_)
          refine st_aload c252_177 rfl ?_
          refine st_aload c252_178 rfl ?_
          refine st_getI c252_179 hT938 (tf hT938 rfl rfl) fd_8_87 (fun e1111 e1112 => ?_)
          refine st_aload c252_182 rfl ?_
          refine st_getI c252_183 hT938 (tf hT938 rfl rfl) fd_8_86 (fun e1113 e1114 => ?_)
          have q1115 : fI h937 64 86 = fI h751 64 86 := (Fr_fI hL940 (tf hT861 rfl rfl) (by decide +kernel)).trans (FUp_fIne hU863 (fun z => absurd z.2 (by decide)))
          refine st_isub c252_186 ?_
          refine st_iconst c252_187 ?_
          refine st_icmp_ge c252_189 (by omega) (by omega) (fun k1116 => ?_) (fun k1117 => ?_)
          refine st_aload c252_215 rfl ?_
          refine st_getI c252_216 hT938 (tf hT938 rfl rfl) fd_8_89 (fun e1118 e1119 => ?_)
          refine st_putI c252_219 hT938 (tf hT938 rfl rfl) fd_8_89 (by omega) (by omega) (Ext_rf _) hS hF939 (by decide +kernel) (fun h1120 hT1121 hF1122 hU1123 => ?_)
          refine st_aload c252_222 rfl ?_
          refine st_dup c252_223 rfl ?_
          refine st_getI c252_224 hT1121 (tf hT1121 rfl rfl) fd_8_87 (fun e1124 e1125 => ?_)
          have q1126 : fI h1120 64 87 = fI h937 64 87 := FUp_fIne hU1123 (fun z => absurd z.2 (by decide))
          refine st_iconst c252_227 ?_
          refine st_iadd c252_228 ?_
          refine st_putI c252_229 hT1121 (tf hT1121 rfl rfl) fd_8_87 (by omega) (by omega) (Ext_rf _) hS hF1122 (by decide +kernel) (fun h1127 hT1128 hF1129 hU1130 => ?_)
          refine st_goto c252_232 ?_
          have e1131 := fI_bd (q := 64) hT1128 (tf hT1128 rfl rfl) fd_8_87
          have q1132 : fI h1127 64 87 = (fI h1120 64 87) + 1 := FUp_fI hU1130 (by omega) (by omega)
          have e1133 := fI_bd (q := 64) hT1128 (tf hT1128 rfl rfl) fd_8_77
          have q1134 : fI h1127 64 77 = fI h937 64 77 := (FUp_fIne hU1130 (fun z => absurd z.2 (by decide))).trans (FUp_fIne hU1123 (fun z => absurd z.2 (by decide)))
          have e1135 := fI_bd (q := 64) hT1128 (tf hT1128 rfl rfl) fd_8_86
          have q1136 : fI h1127 64 86 = fI h937 64 86 := (FUp_fIne hU1130 (fun z => absurd z.2 (by decide))).trans (FUp_fIne hU1123 (fun z => absurd z.2 (by decide)))
          have e1137 := fI_bd (q := 64) hT1128 (tf hT1128 rfl rfl) fd_8_88
          have q1138 : fI h1127 64 88 = fI h 64 88 := (FUp_fIne hU1130 (fun z => absurd z.2 (by decide))).trans ((FUp_fIne hU1123 (fun z => absurd z.2 (by decide))).trans ((Fr_fI hL940 (tf hT861 rfl rfl) (by decide +kernel)).trans ((FUp_fIne hU863 (fun z => absurd z.2 (by decide))).trans ((FUp_fIne hU754 (fun z => absurd z.2 (by decide))).trans ((Fr_fI hL36 (tf hT6 rfl rfl) (by decide +kernel)).trans (FUp_fIne hU8 (fun z => absurd z.2 (by decide))))))))
          have e1139 := fI_bd (q := 64) hT1128 (tf hT1128 rfl rfl) fd_8_90
          have q1140 : fI h1127 64 90 = fI h 64 90 := (FUp_fIne hU1130 (fun z => absurd z.2 (by decide))).trans ((FUp_fIne hU1123 (fun z => absurd z.2 (by decide))).trans ((Fr_fI hL940 (tf hT861 rfl rfl) (by decide +kernel)).trans ((FUp_fIne hU863 (fun z => absurd z.2 (by decide))).trans ((FUp_fIne hU754 (fun z => absurd z.2 (by decide))).trans ((Fr_fI hL36 (tf hT6 rfl rfl) (by decide +kernel)).trans (FUp_fIne hU8 (fun z => absurd z.2 (by decide))))))))
          have e1141 := fI_bd (q := 64) hT938 (tf hT938 rfl rfl) fd_8_88
          have q1142 : fI h937 64 88 = fI h 64 88 := (Fr_fI hL940 (tf hT861 rfl rfl) (by decide +kernel)).trans ((FUp_fIne hU863 (fun z => absurd z.2 (by decide))).trans ((FUp_fIne hU754 (fun z => absurd z.2 (by decide))).trans ((Fr_fI hL36 (tf hT6 rfl rfl) (by decide +kernel)).trans (FUp_fIne hU8 (fun z => absurd z.2 (by decide))))))
          have e1143 := fI_bd (q := 64) hT938 (tf hT938 rfl rfl) fd_8_90
          have q1144 : fI h937 64 90 = fI h 64 90 := (Fr_fI hL940 (tf hT861 rfl rfl) (by decide +kernel)).trans ((FUp_fIne hU863 (fun z => absurd z.2 (by decide))).trans ((FUp_fIne hU754 (fun z => absurd z.2 (by decide))).trans ((Fr_fI hL36 (tf hT6 rfl rfl) (by decide +kernel)).trans (FUp_fIne hU8 (fun z => absurd z.2 (by decide))))))
          have tg1145 : TT h1127 = TT h937 := (TT_fr hT hF1129 (by decide +kernel)).trans (TT_fr hT hF939 (by decide +kernel)).symm
          have e1146 := fI_bd (q := 64) hT1128 (tf hT1128 rfl rfl) fd_8_88
          have q1147 : fI h1127 64 88 = fI h 64 88 := (FUp_fIne hU1130 (fun z => absurd z.2 (by decide))).trans ((FUp_fIne hU1123 (fun z => absurd z.2 (by decide))).trans ((Fr_fI hL940 (tf hT861 rfl rfl) (by decide +kernel)).trans ((FUp_fIne hU863 (fun z => absurd z.2 (by decide))).trans ((FUp_fIne hU754 (fun z => absurd z.2 (by decide))).trans ((Fr_fI hL36 (tf hT6 rfl rfl) (by decide +kernel)).trans (FUp_fIne hU8 (fun z => absurd z.2 (by decide))))))))
          have e1148 := fI_bd (q := 64) hT1128 (tf hT1128 rfl rfl) fd_8_90
          have q1149 : fI h1127 64 90 = fI h 64 90 := (FUp_fIne hU1130 (fun z => absurd z.2 (by decide))).trans ((FUp_fIne hU1123 (fun z => absurd z.2 (by decide))).trans ((Fr_fI hL940 (tf hT861 rfl rfl) (by decide +kernel)).trans ((FUp_fIne hU863 (fun z => absurd z.2 (by decide))).trans ((FUp_fIne hU754 (fun z => absurd z.2 (by decide))).trans ((Fr_fI hL36 (tf hT6 rfl rfl) (by decide +kernel)).trans (FUp_fIne hU8 (fun z => absurd z.2 (by decide))))))))
          have e1150 := fI_bd (q := 64) hT938 (tf hT938 rfl rfl) fd_8_88
          have q1151 : fI h937 64 88 = fI h 64 88 := (Fr_fI hL940 (tf hT861 rfl rfl) (by decide +kernel)).trans ((FUp_fIne hU863 (fun z => absurd z.2 (by decide))).trans ((FUp_fIne hU754 (fun z => absurd z.2 (by decide))).trans ((Fr_fI hL36 (tf hT6 rfl rfl) (by decide +kernel)).trans (FUp_fIne hU8 (fun z => absurd z.2 (by decide))))))
          have e1152 := fI_bd (q := 64) hT938 (tf hT938 rfl rfl) fd_8_90
          have q1153 : fI h937 64 90 = fI h 64 90 := (Fr_fI hL940 (tf hT861 rfl rfl) (by decide +kernel)).trans ((FUp_fIne hU863 (fun z => absurd z.2 (by decide))).trans ((FUp_fIne hU754 (fun z => absurd z.2 (by decide))).trans ((Fr_fI hL36 (tf hT6 rfl rfl) (by decide +kernel)).trans (FUp_fIne hU8 (fun z => absurd z.2 (by decide))))))
          have tt1154 := TT_at hT938 (fI h937 64 87)
          have te1155 : TT h937 = TT h := TT_fr hT hF939 (by decide +kernel)
          rw [te1155] at tt1154
          exact ih943 h1127 (by omega) (by omega) (by omega) (by omega) (Or.inl (by omega)) (by omega) (by omega) (BL_m x951 tg1145 (by omega)) (RU_s (Q := fun i => isD (TT h i)) x952 (by omega) (by omega) (show 48 ≤ TT h (fI h937 64 87) ∧ TT h (fI h937 64 87) ≤ 57 by omega)) hT1128 hF1129 (FUp_Fr (FUp_Fr hL940 hU1123 (fun u hu => by rw [ty_1 hu (tf hT1128 rfl rfl)]; decide)) hU1130 (fun u hu => by rw [ty_1 hu (tf hT1128 rfl rfl)]; decide))
          refine st_iconst c252_192 ?_
          refine st_aload c252_194 rfl ?_
          refine st_getI c252_195 hT938 (tf hT938 rfl rfl) fd_8_89 (fun e1156 e1157 => ?_)
          refine st_imul c252_198 ?_
          refine MR_wrap (fun w1158 e1159 e1160 e1161 => ?_)
          refine st_aload c252_199 rfl ?_
          refine st_getX (u := 124) c252_200 hT938 (tf hT938 rfl rfl) fd_8_76 rfl ?_
          refine st_aload c252_203 rfl ?_
          refine st_getI c252_204 hT938 (tf hT938 rfl rfl) fd_8_87 (fun e1162 e1163 => ?_)
          refine st_bald c252_207 hT938 (tf hT938 rfl rfl) ay_102 (Or.inr rfl) (by omega) (fun e1164 e1165 => ?_)
          have q1166 : aI h937 124 (fI h937 64 87) = aI h 124 (fI h937 64 87) := (Fr_aI hL940 (tf hT861 rfl rfl) (by decide +kernel) (fI h937 64 87)).trans ((FUp_aI hU863 (fI h937 64 87)).trans ((FUp_aI hU754 (fI h937 64 87)).trans ((Fr_aI hL36 (tf hT6 rfl rfl) (by decide +kernel) (fI h937 64 87)).trans (FUp_aI hU8 (fI h937 64 87)))))
          refine st_iadd c252_208 ?_
          refine MR_wrap (fun w1167 e1168 e1169 e1170 => ?_)
          refine st_iconst c252_209 ?_
          refine st_isub c252_211 ?_
          refine MR_wrap (fun w1171 e1172 e1173 e1174 => ?_)
          refine st_goto c252_212 ?_
          refine st_putI c252_219 hT938 (tf hT938 rfl rfl) fd_8_89 (by omega) (by omega) (Ext_rf _) hS hF939 (by decide +kernel) (fun h1175 hT1176 hF1177 hU1178 => ?_)
          refine st_aload c252_222 rfl ?_
          refine st_dup c252_223 rfl ?_
          refine st_getI c252_224 hT1176 (tf hT1176 rfl rfl) fd_8_87 (fun e1179 e1180 => ?_)
          have q1181 : fI h1175 64 87 = fI h937 64 87 := FUp_fIne hU1178 (fun z => absurd z.2 (by decide))
          refine st_iconst c252_227 ?_
          refine st_iadd c252_228 ?_
          refine st_putI c252_229 hT1176 (tf hT1176 rfl rfl) fd_8_87 (by omega) (by omega) (Ext_rf _) hS hF1177 (by decide +kernel) (fun h1182 hT1183 hF1184 hU1185 => ?_)
          refine st_goto c252_232 ?_
          have e1186 := fI_bd (q := 64) hT1183 (tf hT1183 rfl rfl) fd_8_87
          have q1187 : fI h1182 64 87 = (fI h1175 64 87) + 1 := FUp_fI hU1185 (by omega) (by omega)
          have e1188 := fI_bd (q := 64) hT1183 (tf hT1183 rfl rfl) fd_8_77
          have q1189 : fI h1182 64 77 = fI h937 64 77 := (FUp_fIne hU1185 (fun z => absurd z.2 (by decide))).trans (FUp_fIne hU1178 (fun z => absurd z.2 (by decide)))
          have e1190 := fI_bd (q := 64) hT1183 (tf hT1183 rfl rfl) fd_8_86
          have q1191 : fI h1182 64 86 = fI h937 64 86 := (FUp_fIne hU1185 (fun z => absurd z.2 (by decide))).trans (FUp_fIne hU1178 (fun z => absurd z.2 (by decide)))
          have e1192 := fI_bd (q := 64) hT1183 (tf hT1183 rfl rfl) fd_8_88
          have q1193 : fI h1182 64 88 = fI h 64 88 := (FUp_fIne hU1185 (fun z => absurd z.2 (by decide))).trans ((FUp_fIne hU1178 (fun z => absurd z.2 (by decide))).trans ((Fr_fI hL940 (tf hT861 rfl rfl) (by decide +kernel)).trans ((FUp_fIne hU863 (fun z => absurd z.2 (by decide))).trans ((FUp_fIne hU754 (fun z => absurd z.2 (by decide))).trans ((Fr_fI hL36 (tf hT6 rfl rfl) (by decide +kernel)).trans (FUp_fIne hU8 (fun z => absurd z.2 (by decide))))))))
          have e1194 := fI_bd (q := 64) hT1183 (tf hT1183 rfl rfl) fd_8_90
          have q1195 : fI h1182 64 90 = fI h 64 90 := (FUp_fIne hU1185 (fun z => absurd z.2 (by decide))).trans ((FUp_fIne hU1178 (fun z => absurd z.2 (by decide))).trans ((Fr_fI hL940 (tf hT861 rfl rfl) (by decide +kernel)).trans ((FUp_fIne hU863 (fun z => absurd z.2 (by decide))).trans ((FUp_fIne hU754 (fun z => absurd z.2 (by decide))).trans ((Fr_fI hL36 (tf hT6 rfl rfl) (by decide +kernel)).trans (FUp_fIne hU8 (fun z => absurd z.2 (by decide))))))))
          have e1196 := fI_bd (q := 64) hT938 (tf hT938 rfl rfl) fd_8_88
          have q1197 : fI h937 64 88 = fI h 64 88 := (Fr_fI hL940 (tf hT861 rfl rfl) (by decide +kernel)).trans ((FUp_fIne hU863 (fun z => absurd z.2 (by decide))).trans ((FUp_fIne hU754 (fun z => absurd z.2 (by decide))).trans ((Fr_fI hL36 (tf hT6 rfl rfl) (by decide +kernel)).trans (FUp_fIne hU8 (fun z => absurd z.2 (by decide))))))
          have e1198 := fI_bd (q := 64) hT938 (tf hT938 rfl rfl) fd_8_90
          have q1199 : fI h937 64 90 = fI h 64 90 := (Fr_fI hL940 (tf hT861 rfl rfl) (by decide +kernel)).trans ((FUp_fIne hU863 (fun z => absurd z.2 (by decide))).trans ((FUp_fIne hU754 (fun z => absurd z.2 (by decide))).trans ((Fr_fI hL36 (tf hT6 rfl rfl) (by decide +kernel)).trans (FUp_fIne hU8 (fun z => absurd z.2 (by decide))))))
          have tg1200 : TT h1182 = TT h937 := (TT_fr hT hF1184 (by decide +kernel)).trans (TT_fr hT hF939 (by decide +kernel)).symm
          have e1201 := fI_bd (q := 64) hT1183 (tf hT1183 rfl rfl) fd_8_88
          have q1202 : fI h1182 64 88 = fI h 64 88 := (FUp_fIne hU1185 (fun z => absurd z.2 (by decide))).trans ((FUp_fIne hU1178 (fun z => absurd z.2 (by decide))).trans ((Fr_fI hL940 (tf hT861 rfl rfl) (by decide +kernel)).trans ((FUp_fIne hU863 (fun z => absurd z.2 (by decide))).trans ((FUp_fIne hU754 (fun z => absurd z.2 (by decide))).trans ((Fr_fI hL36 (tf hT6 rfl rfl) (by decide +kernel)).trans (FUp_fIne hU8 (fun z => absurd z.2 (by decide))))))))
          have e1203 := fI_bd (q := 64) hT1183 (tf hT1183 rfl rfl) fd_8_90
          have q1204 : fI h1182 64 90 = fI h 64 90 := (FUp_fIne hU1185 (fun z => absurd z.2 (by decide))).trans ((FUp_fIne hU1178 (fun z => absurd z.2 (by decide))).trans ((Fr_fI hL940 (tf hT861 rfl rfl) (by decide +kernel)).trans ((FUp_fIne hU863 (fun z => absurd z.2 (by decide))).trans ((FUp_fIne hU754 (fun z => absurd z.2 (by decide))).trans ((Fr_fI hL36 (tf hT6 rfl rfl) (by decide +kernel)).trans (FUp_fIne hU8 (fun z => absurd z.2 (by decide))))))))
          have e1205 := fI_bd (q := 64) hT938 (tf hT938 rfl rfl) fd_8_88
          have q1206 : fI h937 64 88 = fI h 64 88 := (Fr_fI hL940 (tf hT861 rfl rfl) (by decide +kernel)).trans ((FUp_fIne hU863 (fun z => absurd z.2 (by decide))).trans ((FUp_fIne hU754 (fun z => absurd z.2 (by decide))).trans ((Fr_fI hL36 (tf hT6 rfl rfl) (by decide +kernel)).trans (FUp_fIne hU8 (fun z => absurd z.2 (by decide))))))
          have e1207 := fI_bd (q := 64) hT938 (tf hT938 rfl rfl) fd_8_90
          have q1208 : fI h937 64 90 = fI h 64 90 := (Fr_fI hL940 (tf hT861 rfl rfl) (by decide +kernel)).trans ((FUp_fIne hU863 (fun z => absurd z.2 (by decide))).trans ((FUp_fIne hU754 (fun z => absurd z.2 (by decide))).trans ((Fr_fI hL36 (tf hT6 rfl rfl) (by decide +kernel)).trans (FUp_fIne hU8 (fun z => absurd z.2 (by decide))))))
          have tt1209 := TT_at hT938 (fI h937 64 87)
          have te1210 : TT h937 = TT h := TT_fr hT hF939 (by decide +kernel)
          rw [te1210] at tt1209
          exact ih943 h1182 (by omega) (by omega) (by omega) (by omega) (Or.inl (by omega)) (by omega) (by omega) (BL_m x951 tg1200 (by omega)) (RU_s (Q := fun i => isD (TT h i)) x952 (by omega) (by omega) (show 48 ≤ TT h (fI h937 64 87) ∧ TT h (fI h937 64 87) ≤ 57 by omega)) hT1183 hF1184 (FUp_Fr (FUp_Fr hL940 hU1178 (fun u hu => by rw [ty_1 hu (tf hT1183 rfl rfl)]; decide)) hU1185 (fun u hu => by rw [ty_1 hu (tf hT1183 rfl rfl)]; decide))
      have e1211 := fI_bd (q := 64) hT861 (tf hT861 rfl rfl) fd_8_87
      have q1212 : fI h860 64 87 = fI h33 64 86 := (FUp_fIne hU863 (fun z => absurd z.2 (by decide))).trans (FUp_fI hU754 (by omega) (by omega))
      have e1213 := fI_bd (q := 64) hT861 (tf hT861 rfl rfl) fd_8_77
      have q1214 : fI h860 64 77 = fI h751 64 77 := FUp_fIne hU863 (fun z => absurd z.2 (by decide))
      have e1215 := fI_bd (q := 64) hT861 (tf hT861 rfl rfl) fd_8_86
      have q1216 : fI h860 64 86 = fI h751 64 86 := FUp_fIne hU863 (fun z => absurd z.2 (by decide))
      have q1217 : aI h860 124 (fI h751 64 86) = aI h751 124 (fI h751 64 86) := FUp_aI hU863 (fI h751 64 86)
      have e1218 := fI_bd (q := 64) hT861 (tf hT861 rfl rfl) fd_8_88
      have q1219 : fI h860 64 88 = fI h 64 88 := (FUp_fIne hU863 (fun z => absurd z.2 (by decide))).trans ((FUp_fIne hU754 (fun z => absurd z.2 (by decide))).trans ((Fr_fI hL36 (tf hT6 rfl rfl) (by decide +kernel)).trans (FUp_fIne hU8 (fun z => absurd z.2 (by decide)))))
      have e1220 := fI_bd (q := 64) hT861 (tf hT861 rfl rfl) fd_8_90
      have q1221 : fI h860 64 90 = fI h 64 90 := (FUp_fIne hU863 (fun z => absurd z.2 (by decide))).trans ((FUp_fIne hU754 (fun z => absurd z.2 (by decide))).trans ((Fr_fI hL36 (tf hT6 rfl rfl) (by decide +kernel)).trans (FUp_fIne hU8 (fun z => absurd z.2 (by decide)))))
      have e1222 := fI_bd (q := 64) hT34 (tf hT34 rfl rfl) fd_8_88
      have q1223 : fI h33 64 88 = fI h 64 88 := (Fr_fI hL36 (tf hT6 rfl rfl) (by decide +kernel)).trans (FUp_fIne hU8 (fun z => absurd z.2 (by decide)))
      have e1224 := fI_bd (q := 64) hT34 (tf hT34 rfl rfl) fd_8_90
      have q1225 : fI h33 64 90 = fI h 64 90 := (Fr_fI hL36 (tf hT6 rfl rfl) (by decide +kernel)).trans (FUp_fIne hU8 (fun z => absurd z.2 (by decide)))
      have tg1226 : TT h860 = TT h33 := (TT_fr hT hF862 (by decide +kernel)).trans (TT_fr hT hF35 (by decide +kernel)).symm
      have e1227 := fI_bd (q := 64) hT861 (tf hT861 rfl rfl) fd_8_88
      have q1228 : fI h860 64 88 = fI h 64 88 := (FUp_fIne hU863 (fun z => absurd z.2 (by decide))).trans ((FUp_fIne hU754 (fun z => absurd z.2 (by decide))).trans ((Fr_fI hL36 (tf hT6 rfl rfl) (by decide +kernel)).trans (FUp_fIne hU8 (fun z => absurd z.2 (by decide)))))
      have e1229 := fI_bd (q := 64) hT861 (tf hT861 rfl rfl) fd_8_90
      have q1230 : fI h860 64 90 = fI h 64 90 := (FUp_fIne hU863 (fun z => absurd z.2 (by decide))).trans ((FUp_fIne hU754 (fun z => absurd z.2 (by decide))).trans ((Fr_fI hL36 (tf hT6 rfl rfl) (by decide +kernel)).trans (FUp_fIne hU8 (fun z => absurd z.2 (by decide)))))
      exact lp941 (((fI h860 64 77 - fI h860 64 87 : Int) + 1).toNat) h860 (by omega) (by omega) (by omega) (by omega) (Or.inr (by rw [show fI h860 64 87 = fI h751 64 86 from by omega]; omega)) (by omega) (by omega) (BL_m x44 tg1226 (by omega)) (RU_0 (by omega)) hT861 hF862 (Fr_rf _ _ _)
      refine st_if_eq c252_83 (by omega) (fun k1231 => False.elim (by omega)) (fun k1232 => ?_)
      have lp1266 : ∀ (n1267 : Nat) (h1262 : List mE), fI h1262 64 77 - fI h1262 64 87 < (n1267 : Int) → fI h1262 64 87 ≤ fI h1262 64 77 → fI h1262 64 86 ≤ fI h1262 64 87 → fI h1262 64 86+1 ≤ fI h1262 64 77 → fI h1262 64 86 + 1 ≤ fI h1262 64 87 ∨ (97 ≤ aI h1262 124 (fI h1262 64 87) ∧ aI h1262 124 (fI h1262 64 87) ≤ 122) → fI h 64 87 ≤ fI h1262 64 86 → fI h1262 64 77 = fI h 64 77 → BL h h1262 (fI h 64 87) → RU (fun i => isL (TT h i)) h1262 → TH E τ h1262 → Fr τ W252 h h1262 → Fr τ [(8, 87)] h751 h1262 → MR (mex Ln xs) d 252 86 [some (.ref 64)] [] h1262 Q := by
        intro n1267
        induction n1267 with
        | zero =>
          intro h1262 hm1269 x1270 x1271 x1272 x1273 x1274 x1275 x1276 x1277 hT1263 hF1264 hL1265
          exfalso; omega
        | succ n1267 ih1268 =>
          intro h1262 hm1269 x1270 x1271 x1272 x1273 x1274 x1275 x1276 x1277 hT1263 hF1264 hL1265
          have e1278 := fI_bd (q := 64) hT1263 (tf hT1263 rfl rfl) fd_8_87
          have e1279 := fI_bd (q := 64) hT1263 (tf hT1263 rfl rfl) fd_8_77
          have q1280 : fI h1262 64 77 = fI h751 64 77 := Fr_fI hL1265 (tf hT752 rfl rfl) (by decide +kernel)
          have e1281 := fI_bd (q := 64) hT1263 (tf hT1263 rfl rfl) fd_8_86
          have q1282 : fI h1262 64 86 = fI h751 64 86 := Fr_fI hL1265 (tf hT752 rfl rfl) (by decide +kernel)
          refine st_aload c252_86 rfl ?_
          refine st_getI c252_87 hT1263 (tf hT1263 rfl rfl) fd_8_87 (fun e1283 e1284 => ?_)
          refine st_aload c252_90 rfl ?_
          refine st_getI c252_91 hT1263 (tf hT1263 rfl rfl) fd_8_77 (fun e1285 e1286 => ?_)
          have q1287 : fI h1262 64 77 = fI h751 64 77 := Fr_fI hL1265 (tf hT752 rfl rfl) (by decide +kernel)
          refine st_icmp_ge c252_94 (by omega) (by omega) (fun k1288 => ?_) (fun k1289 => ?_)
          refine st_aload c252_125 rfl ?_
          refine st_iconst c252_126 ?_
          refine st_putI c252_127 hT1263 (tf hT1263 rfl rfl) fd_8_88 (by omega) (by omega) (Ext_rf _) hS hF1264 (by decide +kernel) (fun h1290 hT1291 hF1292 hU1293 => ?_)
          refine st_return c252_130 ?_
          have e1294 := fI_bd (q := 64) hT1291 (tf hT1291 rfl rfl) fd_8_86
          have q1295 : fI h1290 64 86 = fI h1262 64 86 := FUp_fIne hU1293 (fun z => absurd z.2 (by decide))
          have e1296 := fI_bd (q := 64) hT1291 (tf hT1291 rfl rfl) fd_8_87
          have q1297 : fI h1290 64 87 = fI h1262 64 87 := FUp_fIne hU1293 (fun z => absurd z.2 (by decide))
          have e1298 := fI_bd (q := 64) hT1291 (tf hT1291 rfl rfl) fd_8_88
          have q1299 : fI h1290 64 88 = 1 := FUp_fI hU1293 (by omega) (by omega)
          have e1300 := fI_bd (q := 64) hT1291 (tf hT1291 rfl rfl) fd_8_77
          have q1301 : fI h1290 64 77 = fI h1262 64 77 := FUp_fIne hU1293 (fun z => absurd z.2 (by decide))
          have e1302 := fI_bd (q := 64) hT1291 (tf hT1291 rfl rfl) fd_8_90
          have q1303 : fI h1290 64 90 = fI h 64 90 := (FUp_fIne hU1293 (fun z => absurd z.2 (by decide))).trans ((Fr_fI hL1265 (tf hT752 rfl rfl) (by decide +kernel)).trans ((FUp_fIne hU754 (fun z => absurd z.2 (by decide))).trans ((Fr_fI hL36 (tf hT6 rfl rfl) (by decide +kernel)).trans (FUp_fIne hU8 (fun z => absurd z.2 (by decide))))))
          have e1304 := fI_bd (q := 64) hT (tf hT rfl rfl) fd_8_77
          have e1305 := fI_bd (q := 64) hT (tf hT rfl rfl) fd_8_86
          have e1306 := fI_bd (q := 64) hT (tf hT rfl rfl) fd_8_88
          have e1307 := fI_bd (q := 64) hT (tf hT rfl rfl) fd_8_90
          have e1308 := fI_bd (q := 64) hT1263 (tf hT1263 rfl rfl) fd_8_88
          have q1309 : fI h1262 64 88 = fI h 64 88 := (Fr_fI hL1265 (tf hT752 rfl rfl) (by decide +kernel)).trans ((FUp_fIne hU754 (fun z => absurd z.2 (by decide))).trans ((Fr_fI hL36 (tf hT6 rfl rfl) (by decide +kernel)).trans (FUp_fIne hU8 (fun z => absurd z.2 (by decide)))))
          have e1310 := fI_bd (q := 64) hT1263 (tf hT1263 rfl rfl) fd_8_90
          have q1311 : fI h1262 64 90 = fI h 64 90 := (Fr_fI hL1265 (tf hT752 rfl rfl) (by decide +kernel)).trans ((FUp_fIne hU754 (fun z => absurd z.2 (by decide))).trans ((Fr_fI hL36 (tf hT6 rfl rfl) (by decide +kernel)).trans (FUp_fIne hU8 (fun z => absurd z.2 (by decide)))))
          have tg1313 : TT h1290 = TT h1262 := (TT_fr hT hF1292 (by decide +kernel)).trans (TT_fr hT hF1264 (by decide +kernel)).symm
          have bl1312 := BL_m x1276 tg1313 (by omega)
          have tt1314 := TT_at hT1291 (fI h1290 64 86)
          have te1315 : TT h1290 = TT h := TT_fr hT hF1292 (by decide +kernel)
          rw [te1315] at tt1314
          have ru1316 : RU (fun i => isL (TT h i)) h1290 := fun j a b => x1277 j (by omega) (by omega)
          have tt1317 := TT_at hT1291 (fI h1290 64 87)
          have te1318 : TT h1290 = TT h := TT_fr hT hF1292 (by decide +kernel)
          rw [te1318] at tt1317
          have sq1319 : fI h1290 64 87 = fI h 64 77 ∨ ¬ isL (TT h (fI h1290 64 87)) := by
            by_cases c : fI h1290 64 87 = fI h 64 77
            · exact Or.inl c
            · exact Or.inr (by intro k; have k : (97 : Int) ≤ TT h (fI h1290 64 87) ∧ TT h (fI h1290 64 87) ≤ 122 := k; omega)
          exact hQ _ _ ⟨rfl, by omega, by omega, by omega, by omega, NT_let pre1 bl1312 (by omega) (by omega) (by omega) (show 97 ≤ TT h (fI h1290 64 86) ∧ TT h (fI h1290 64 86) ≤ 122 by omega) ru1316 (by omega) (by omega) sq1319 (by omega), hT1291, hF1292⟩
          refine st_aload c252_97 rfl ?_
          refine st_getX (u := 124) c252_98 hT1263 (tf hT1263 rfl rfl) fd_8_76 rfl ?_
          refine st_aload c252_101 rfl ?_
          refine st_getI c252_102 hT1263 (tf hT1263 rfl rfl) fd_8_87 (fun e1320 e1321 => ?_)
          refine st_bald c252_105 hT1263 (tf hT1263 rfl rfl) ay_102 (Or.inr rfl) (by omega) (fun e1322 e1323 => ?_)
          have q1324 : aI h1262 124 (fI h1262 64 87) = aI h 124 (fI h1262 64 87) := (Fr_aI hL1265 (tf hT752 rfl rfl) (by decide +kernel) (fI h1262 64 87)).trans ((FUp_aI hU754 (fI h1262 64 87)).trans ((Fr_aI hL36 (tf hT6 rfl rfl) (by decide +kernel) (fI h1262 64 87)).trans (FUp_aI hU8 (fI h1262 64 87))))
          refine st_calls (as := [vI (aI h1262 124 (fI h1262 64 87))]) c252_106 cm_250 rfl rfl rfl rfl (by omega) (K250 hT1263 (aI h1262 124 (fI h1262 64 87)) (by omega) (d - 1) (by omega) _ (fun v h0 H => H)) (fun v1 h1 H => ?_)
          rcases H with ⟨rfl, pf1325, rfl⟩ | ⟨rfl, pf1326, pf1327, rfl⟩
          refine st_if_eq c252_109 (by omega) (fun k1328 => ?_) (fun k1329 => False.elim (by omega))
          refine st_aload c252_125 rfl ?_
          refine st_iconst c252_126 ?_
          refine st_putI c252_127 hT1263 (tf hT1263 rfl rfl) fd_8_88 (by omega) (by omega) (Ext_rf _) hS hF1264 (by decide +kernel) (fun h1330 hT1331 hF1332 hU1333 => ?_)
          refine st_return c252_130 ?_
          have e1334 := fI_bd (q := 64) hT1331 (tf hT1331 rfl rfl) fd_8_86
          have q1335 : fI h1330 64 86 = fI h1262 64 86 := FUp_fIne hU1333 (fun z => absurd z.2 (by decide))
          have e1336 := fI_bd (q := 64) hT1331 (tf hT1331 rfl rfl) fd_8_87
          have q1337 : fI h1330 64 87 = fI h1262 64 87 := FUp_fIne hU1333 (fun z => absurd z.2 (by decide))
          have e1338 := fI_bd (q := 64) hT1331 (tf hT1331 rfl rfl) fd_8_88
          have q1339 : fI h1330 64 88 = 1 := FUp_fI hU1333 (by omega) (by omega)
          have e1340 := fI_bd (q := 64) hT1331 (tf hT1331 rfl rfl) fd_8_77
          have q1341 : fI h1330 64 77 = fI h1262 64 77 := FUp_fIne hU1333 (fun z => absurd z.2 (by decide))
          have e1342 := fI_bd (q := 64) hT1331 (tf hT1331 rfl rfl) fd_8_90
          have q1343 : fI h1330 64 90 = fI h 64 90 := (FUp_fIne hU1333 (fun z => absurd z.2 (by decide))).trans ((Fr_fI hL1265 (tf hT752 rfl rfl) (by decide +kernel)).trans ((FUp_fIne hU754 (fun z => absurd z.2 (by decide))).trans ((Fr_fI hL36 (tf hT6 rfl rfl) (by decide +kernel)).trans (FUp_fIne hU8 (fun z => absurd z.2 (by decide))))))
          have e1344 := fI_bd (q := 64) hT (tf hT rfl rfl) fd_8_77
          have e1345 := fI_bd (q := 64) hT (tf hT rfl rfl) fd_8_86
          have e1346 := fI_bd (q := 64) hT (tf hT rfl rfl) fd_8_88
          have e1347 := fI_bd (q := 64) hT (tf hT rfl rfl) fd_8_90
          have e1348 := fI_bd (q := 64) hT1263 (tf hT1263 rfl rfl) fd_8_88
          have q1349 : fI h1262 64 88 = fI h 64 88 := (Fr_fI hL1265 (tf hT752 rfl rfl) (by decide +kernel)).trans ((FUp_fIne hU754 (fun z => absurd z.2 (by decide))).trans ((Fr_fI hL36 (tf hT6 rfl rfl) (by decide +kernel)).trans (FUp_fIne hU8 (fun z => absurd z.2 (by decide)))))
          have e1350 := fI_bd (q := 64) hT1263 (tf hT1263 rfl rfl) fd_8_90
          have q1351 : fI h1262 64 90 = fI h 64 90 := (Fr_fI hL1265 (tf hT752 rfl rfl) (by decide +kernel)).trans ((FUp_fIne hU754 (fun z => absurd z.2 (by decide))).trans ((Fr_fI hL36 (tf hT6 rfl rfl) (by decide +kernel)).trans (FUp_fIne hU8 (fun z => absurd z.2 (by decide)))))
          have tg1353 : TT h1330 = TT h1262 := (TT_fr hT hF1332 (by decide +kernel)).trans (TT_fr hT hF1264 (by decide +kernel)).symm
          have bl1352 := BL_m x1276 tg1353 (by omega)
          have tt1354 := TT_at hT1331 (fI h1330 64 86)
          have te1355 : TT h1330 = TT h := TT_fr hT hF1332 (by decide +kernel)
          rw [te1355] at tt1354
          have ru1356 : RU (fun i => isL (TT h i)) h1330 := fun j a b => x1277 j (by omega) (by omega)
          have tt1357 := TT_at hT1331 (fI h1330 64 87)
          have te1358 : TT h1330 = TT h := TT_fr hT hF1332 (by decide +kernel)
          rw [te1358] at tt1357
          have sq1359 : fI h1330 64 87 = fI h 64 77 ∨ ¬ isL (TT h (fI h1330 64 87)) := by
            by_cases c : fI h1330 64 87 = fI h 64 77
            · exact Or.inl c
            · exact Or.inr (by intro k; have k : (97 : Int) ≤ TT h (fI h1330 64 87) ∧ TT h (fI h1330 64 87) ≤ 122 := k; omega)
          exact hQ _ _ ⟨rfl, by omega, by omega, by omega, by omega, NT_let pre1 bl1352 (by omega) (by omega) (by omega) (show 97 ≤ TT h (fI h1330 64 86) ∧ TT h (fI h1330 64 86) ≤ 122 by omega) ru1356 (by omega) (by omega) sq1359 (by omega), hT1331, hF1332⟩
          refine st_if_eq c252_109 (by omega) (fun k1360 => False.elim (by omega)) (fun k1361 => ?_)
          refine st_aload c252_112 rfl ?_
          refine st_dup c252_113 rfl ?_
          refine st_getI c252_114 hT1263 (tf hT1263 rfl rfl) fd_8_87 (fun e1362 e1363 => ?_)
          refine st_iconst c252_117 ?_
          refine st_iadd c252_118 ?_
          refine st_putI c252_119 hT1263 (tf hT1263 rfl rfl) fd_8_87 (by omega) (by omega) (Ext_rf _) hS hF1264 (by decide +kernel) (fun h1364 hT1365 hF1366 hU1367 => ?_)
          refine st_goto c252_122 ?_
          have e1368 := fI_bd (q := 64) hT1365 (tf hT1365 rfl rfl) fd_8_87
          have q1369 : fI h1364 64 87 = (fI h1262 64 87) + 1 := FUp_fI hU1367 (by omega) (by omega)
          have e1370 := fI_bd (q := 64) hT1365 (tf hT1365 rfl rfl) fd_8_77
          have q1371 : fI h1364 64 77 = fI h1262 64 77 := FUp_fIne hU1367 (fun z => absurd z.2 (by decide))
          have e1372 := fI_bd (q := 64) hT1365 (tf hT1365 rfl rfl) fd_8_86
          have q1373 : fI h1364 64 86 = fI h1262 64 86 := FUp_fIne hU1367 (fun z => absurd z.2 (by decide))
          have e1374 := fI_bd (q := 64) hT1365 (tf hT1365 rfl rfl) fd_8_88
          have q1375 : fI h1364 64 88 = fI h 64 88 := (FUp_fIne hU1367 (fun z => absurd z.2 (by decide))).trans ((Fr_fI hL1265 (tf hT752 rfl rfl) (by decide +kernel)).trans ((FUp_fIne hU754 (fun z => absurd z.2 (by decide))).trans ((Fr_fI hL36 (tf hT6 rfl rfl) (by decide +kernel)).trans (FUp_fIne hU8 (fun z => absurd z.2 (by decide))))))
          have e1376 := fI_bd (q := 64) hT1365 (tf hT1365 rfl rfl) fd_8_90
          have q1377 : fI h1364 64 90 = fI h 64 90 := (FUp_fIne hU1367 (fun z => absurd z.2 (by decide))).trans ((Fr_fI hL1265 (tf hT752 rfl rfl) (by decide +kernel)).trans ((FUp_fIne hU754 (fun z => absurd z.2 (by decide))).trans ((Fr_fI hL36 (tf hT6 rfl rfl) (by decide +kernel)).trans (FUp_fIne hU8 (fun z => absurd z.2 (by decide))))))
          have e1378 := fI_bd (q := 64) hT1263 (tf hT1263 rfl rfl) fd_8_88
          have q1379 : fI h1262 64 88 = fI h 64 88 := (Fr_fI hL1265 (tf hT752 rfl rfl) (by decide +kernel)).trans ((FUp_fIne hU754 (fun z => absurd z.2 (by decide))).trans ((Fr_fI hL36 (tf hT6 rfl rfl) (by decide +kernel)).trans (FUp_fIne hU8 (fun z => absurd z.2 (by decide)))))
          have e1380 := fI_bd (q := 64) hT1263 (tf hT1263 rfl rfl) fd_8_90
          have q1381 : fI h1262 64 90 = fI h 64 90 := (Fr_fI hL1265 (tf hT752 rfl rfl) (by decide +kernel)).trans ((FUp_fIne hU754 (fun z => absurd z.2 (by decide))).trans ((Fr_fI hL36 (tf hT6 rfl rfl) (by decide +kernel)).trans (FUp_fIne hU8 (fun z => absurd z.2 (by decide)))))
          have tg1382 : TT h1364 = TT h1262 := (TT_fr hT hF1366 (by decide +kernel)).trans (TT_fr hT hF1264 (by decide +kernel)).symm
          have e1383 := fI_bd (q := 64) hT1365 (tf hT1365 rfl rfl) fd_8_88
          have q1384 : fI h1364 64 88 = fI h 64 88 := (FUp_fIne hU1367 (fun z => absurd z.2 (by decide))).trans ((Fr_fI hL1265 (tf hT752 rfl rfl) (by decide +kernel)).trans ((FUp_fIne hU754 (fun z => absurd z.2 (by decide))).trans ((Fr_fI hL36 (tf hT6 rfl rfl) (by decide +kernel)).trans (FUp_fIne hU8 (fun z => absurd z.2 (by decide))))))
          have e1385 := fI_bd (q := 64) hT1365 (tf hT1365 rfl rfl) fd_8_90
          have q1386 : fI h1364 64 90 = fI h 64 90 := (FUp_fIne hU1367 (fun z => absurd z.2 (by decide))).trans ((Fr_fI hL1265 (tf hT752 rfl rfl) (by decide +kernel)).trans ((FUp_fIne hU754 (fun z => absurd z.2 (by decide))).trans ((Fr_fI hL36 (tf hT6 rfl rfl) (by decide +kernel)).trans (FUp_fIne hU8 (fun z => absurd z.2 (by decide))))))
          have e1387 := fI_bd (q := 64) hT1263 (tf hT1263 rfl rfl) fd_8_88
          have q1388 : fI h1262 64 88 = fI h 64 88 := (Fr_fI hL1265 (tf hT752 rfl rfl) (by decide +kernel)).trans ((FUp_fIne hU754 (fun z => absurd z.2 (by decide))).trans ((Fr_fI hL36 (tf hT6 rfl rfl) (by decide +kernel)).trans (FUp_fIne hU8 (fun z => absurd z.2 (by decide)))))
          have e1389 := fI_bd (q := 64) hT1263 (tf hT1263 rfl rfl) fd_8_90
          have q1390 : fI h1262 64 90 = fI h 64 90 := (Fr_fI hL1265 (tf hT752 rfl rfl) (by decide +kernel)).trans ((FUp_fIne hU754 (fun z => absurd z.2 (by decide))).trans ((Fr_fI hL36 (tf hT6 rfl rfl) (by decide +kernel)).trans (FUp_fIne hU8 (fun z => absurd z.2 (by decide)))))
          have tt1391 := TT_at hT1263 (fI h1262 64 87)
          have te1392 : TT h1262 = TT h := TT_fr hT hF1264 (by decide +kernel)
          rw [te1392] at tt1391
          exact ih1268 h1364 (by omega) (by omega) (by omega) (by omega) (Or.inl (by omega)) (by omega) (by omega) (BL_m x1276 tg1382 (by omega)) (RU_s (Q := fun i => isL (TT h i)) x1277 (by omega) (by omega) (show 97 ≤ TT h (fI h1262 64 87) ∧ TT h (fI h1262 64 87) ≤ 122 by omega)) hT1365 hF1366 (FUp_Fr hL1265 hU1367 (fun u hu => by rw [ty_1 hu (tf hT1365 rfl rfl)]; decide))
      have e1393 := fI_bd (q := 64) hT752 (tf hT752 rfl rfl) fd_8_87
      have q1394 : fI h751 64 87 = fI h33 64 86 := FUp_fI hU754 (by omega) (by omega)
      have e1395 := fI_bd (q := 64) hT752 (tf hT752 rfl rfl) fd_8_88
      have q1396 : fI h751 64 88 = fI h 64 88 := (FUp_fIne hU754 (fun z => absurd z.2 (by decide))).trans ((Fr_fI hL36 (tf hT6 rfl rfl) (by decide +kernel)).trans (FUp_fIne hU8 (fun z => absurd z.2 (by decide))))
      have e1397 := fI_bd (q := 64) hT752 (tf hT752 rfl rfl) fd_8_90
      have q1398 : fI h751 64 90 = fI h 64 90 := (FUp_fIne hU754 (fun z => absurd z.2 (by decide))).trans ((Fr_fI hL36 (tf hT6 rfl rfl) (by decide +kernel)).trans (FUp_fIne hU8 (fun z => absurd z.2 (by decide))))
      have e1399 := fI_bd (q := 64) hT34 (tf hT34 rfl rfl) fd_8_88
      have q1400 : fI h33 64 88 = fI h 64 88 := (Fr_fI hL36 (tf hT6 rfl rfl) (by decide +kernel)).trans (FUp_fIne hU8 (fun z => absurd z.2 (by decide)))
      have e1401 := fI_bd (q := 64) hT34 (tf hT34 rfl rfl) fd_8_90
      have q1402 : fI h33 64 90 = fI h 64 90 := (Fr_fI hL36 (tf hT6 rfl rfl) (by decide +kernel)).trans (FUp_fIne hU8 (fun z => absurd z.2 (by decide)))
      have tg1403 : TT h751 = TT h33 := (TT_fr hT hF753 (by decide +kernel)).trans (TT_fr hT hF35 (by decide +kernel)).symm
      have e1404 := fI_bd (q := 64) hT752 (tf hT752 rfl rfl) fd_8_88
      have q1405 : fI h751 64 88 = fI h 64 88 := (FUp_fIne hU754 (fun z => absurd z.2 (by decide))).trans ((Fr_fI hL36 (tf hT6 rfl rfl) (by decide +kernel)).trans (FUp_fIne hU8 (fun z => absurd z.2 (by decide))))
      have e1406 := fI_bd (q := 64) hT752 (tf hT752 rfl rfl) fd_8_90
      have q1407 : fI h751 64 90 = fI h 64 90 := (FUp_fIne hU754 (fun z => absurd z.2 (by decide))).trans ((Fr_fI hL36 (tf hT6 rfl rfl) (by decide +kernel)).trans (FUp_fIne hU8 (fun z => absurd z.2 (by decide))))
      exact lp1266 (((fI h751 64 77 - fI h751 64 87 : Int) + 1).toNat) h751 (by omega) (by omega) (by omega) (by omega) (Or.inr (by rw [show fI h751 64 87 = fI h751 64 86 from by omega]; omega)) (by omega) (by omega) (BL_m x44 tg1403 (by omega)) (RU_0 (by omega)) hT752 hF753 (Fr_rf _ _ _)
      refine st_aload c252_65 rfl ?_
      refine st_iconst c252_66 ?_
      refine st_putI c252_67 hT752 (tf hT752 rfl rfl) fd_8_88 (by omega) (by omega) (Ext_rf _) hS hF753 (by decide +kernel) (fun h1408 hT1409 hF1410 hU1411 => ?_)
      refine st_return c252_70 ?_
      have e1412 := fI_bd (q := 64) hT1409 (tf hT1409 rfl rfl) fd_8_86
      have q1413 : fI h1408 64 86 = fI h751 64 86 := FUp_fIne hU1411 (fun z => absurd z.2 (by decide))
      have e1414 := fI_bd (q := 64) hT1409 (tf hT1409 rfl rfl) fd_8_87
      have q1415 : fI h1408 64 87 = fI h33 64 86 := (FUp_fIne hU1411 (fun z => absurd z.2 (by decide))).trans (FUp_fI hU754 (by omega) (by omega))
      have e1416 := fI_bd (q := 64) hT1409 (tf hT1409 rfl rfl) fd_8_88
      have q1417 : fI h1408 64 88 = 0 := FUp_fI hU1411 (by omega) (by omega)
      have e1418 := fI_bd (q := 64) hT1409 (tf hT1409 rfl rfl) fd_8_77
      have q1419 : fI h1408 64 77 = fI h751 64 77 := FUp_fIne hU1411 (fun z => absurd z.2 (by decide))
      have e1420 := fI_bd (q := 64) hT1409 (tf hT1409 rfl rfl) fd_8_90
      have q1421 : fI h1408 64 90 = fI h 64 90 := (FUp_fIne hU1411 (fun z => absurd z.2 (by decide))).trans ((FUp_fIne hU754 (fun z => absurd z.2 (by decide))).trans ((Fr_fI hL36 (tf hT6 rfl rfl) (by decide +kernel)).trans (FUp_fIne hU8 (fun z => absurd z.2 (by decide)))))
      have e1422 := fI_bd (q := 64) hT (tf hT rfl rfl) fd_8_77
      have e1423 := fI_bd (q := 64) hT (tf hT rfl rfl) fd_8_86
      have e1424 := fI_bd (q := 64) hT (tf hT rfl rfl) fd_8_88
      have e1425 := fI_bd (q := 64) hT (tf hT rfl rfl) fd_8_90
      have e1426 := fI_bd (q := 64) hT34 (tf hT34 rfl rfl) fd_8_88
      have q1427 : fI h33 64 88 = fI h 64 88 := (Fr_fI hL36 (tf hT6 rfl rfl) (by decide +kernel)).trans (FUp_fIne hU8 (fun z => absurd z.2 (by decide)))
      have e1428 := fI_bd (q := 64) hT34 (tf hT34 rfl rfl) fd_8_90
      have q1429 : fI h33 64 90 = fI h 64 90 := (Fr_fI hL36 (tf hT6 rfl rfl) (by decide +kernel)).trans (FUp_fIne hU8 (fun z => absurd z.2 (by decide)))
      have tg1431 : TT h1408 = TT h33 := (TT_fr hT hF1410 (by decide +kernel)).trans (TT_fr hT hF35 (by decide +kernel)).symm
      have bl1430 := BL_m x44 tg1431 (by omega)
      have tt1432 := TT_at hT1409 (fI h1408 64 86)
      have te1433 : TT h1408 = TT h := TT_fr hT hF1410 (by decide +kernel)
      rw [te1433] at tt1432
      exact hQ _ _ ⟨rfl, by omega, by omega, by omega, by omega, NT_end pre1 bl1430 (by omega) (by omega) (by omega) (by omega) (by omega), hT1409, hF1410⟩
      refine st_aload c252_33 rfl ?_
      refine st_dup c252_34 rfl ?_
      refine st_getI c252_35 hT34 (tf hT34 rfl rfl) fd_8_86 (fun e1434 e1435 => ?_)
      refine st_iconst c252_38 ?_
      refine st_iadd c252_39 ?_
      refine st_putI c252_40 hT34 (tf hT34 rfl rfl) fd_8_86 (by omega) (by omega) (Ext_rf _) hS hF35 (by decide +kernel) (fun h1436 hT1437 hF1438 hU1439 => ?_)
      refine st_goto c252_43 ?_
      have e1440 := fI_bd (q := 64) hT1437 (tf hT1437 rfl rfl) fd_8_86
      have q1441 : fI h1436 64 86 = (fI h33 64 86) + 1 := FUp_fI hU1439 (by omega) (by omega)
      have e1442 := fI_bd (q := 64) hT1437 (tf hT1437 rfl rfl) fd_8_77
      have q1443 : fI h1436 64 77 = fI h33 64 77 := FUp_fIne hU1439 (fun z => absurd z.2 (by decide))
      have e1444 := fI_bd (q := 64) hT1437 (tf hT1437 rfl rfl) fd_8_87
      have q1445 : fI h1436 64 87 = fI h33 64 87 := FUp_fIne hU1439 (fun z => absurd z.2 (by decide))
      have e1446 := fI_bd (q := 64) hT1437 (tf hT1437 rfl rfl) fd_8_88
      have q1447 : fI h1436 64 88 = fI h 64 88 := (FUp_fIne hU1439 (fun z => absurd z.2 (by decide))).trans ((Fr_fI hL36 (tf hT6 rfl rfl) (by decide +kernel)).trans (FUp_fIne hU8 (fun z => absurd z.2 (by decide))))
      have e1448 := fI_bd (q := 64) hT1437 (tf hT1437 rfl rfl) fd_8_90
      have q1449 : fI h1436 64 90 = fI h 64 90 := (FUp_fIne hU1439 (fun z => absurd z.2 (by decide))).trans ((Fr_fI hL36 (tf hT6 rfl rfl) (by decide +kernel)).trans (FUp_fIne hU8 (fun z => absurd z.2 (by decide))))
      have e1450 := fI_bd (q := 64) hT34 (tf hT34 rfl rfl) fd_8_88
      have q1451 : fI h33 64 88 = fI h 64 88 := (Fr_fI hL36 (tf hT6 rfl rfl) (by decide +kernel)).trans (FUp_fIne hU8 (fun z => absurd z.2 (by decide)))
      have e1452 := fI_bd (q := 64) hT34 (tf hT34 rfl rfl) fd_8_90
      have q1453 : fI h33 64 90 = fI h 64 90 := (Fr_fI hL36 (tf hT6 rfl rfl) (by decide +kernel)).trans (FUp_fIne hU8 (fun z => absurd z.2 (by decide)))
      have tt1454 := TT_at hT34 (fI h33 64 86)
      have te1455 : TT h33 = TT h := TT_fr hT hF35 (by decide +kernel)
      rw [te1455] at tt1454
      have tg1456 : TT h1436 = TT h33 := (TT_fr hT hF1438 (by decide +kernel)).trans (TT_fr hT hF35 (by decide +kernel)).symm
      exact ih39 h1436 (by omega) (by omega) (by omega) (by omega) (BL_s x44 tg1456 (by omega) (by omega)) hT1437 hF1438 (FUp_Fr hL36 hU1439 (fun u hu => by rw [ty_1 hu (tf hT1437 rfl rfl)]; decide))
  have e1457 := fI_bd (q := 64) hT6 (tf hT6 rfl rfl) fd_8_86
  have q1458 : fI h5 64 86 = fI h 64 87 := FUp_fI hU8 (by omega) (by omega)
  have e1459 := fI_bd (q := 64) hT6 (tf hT6 rfl rfl) fd_8_77
  have q1460 : fI h5 64 77 = fI h 64 77 := FUp_fIne hU8 (fun z => absurd z.2 (by decide))
  have e1461 := fI_bd (q := 64) hT6 (tf hT6 rfl rfl) fd_8_87
  have q1462 : fI h5 64 87 = fI h 64 87 := FUp_fIne hU8 (fun z => absurd z.2 (by decide))
  have e1463 := fI_bd (q := 64) hT6 (tf hT6 rfl rfl) fd_8_88
  have q1464 : fI h5 64 88 = fI h 64 88 := FUp_fIne hU8 (fun z => absurd z.2 (by decide))
  have e1465 := fI_bd (q := 64) hT6 (tf hT6 rfl rfl) fd_8_90
  have q1466 : fI h5 64 90 = fI h 64 90 := FUp_fIne hU8 (fun z => absurd z.2 (by decide))
  exact lp37 (((fI h5 64 77 - fI h5 64 86 : Int) + 1).toNat) h5 (by omega) (by omega) (by omega) (by omega) (BL_0 (TT_fr hT hF7 (by decide +kernel)) (by omega)) hT6 hF7 (Fr_rf _ _ _)
set_option maxHeartbeats 0 in
theorem K253 {Ln : Nat} {xs : Nat → Int32} {τ : List Nat} {h : List mE} {E : EP} (hT : TH E τ h) (p1 : Int64) (pre0 : fI h 64 86≤fI h 64 87) (d : Nat) (hd : 0 ≤ d) (Q : Option Value → List mE → Prop) (hQ : ∀ v h', ((v = some (vI 0) ∧ (¬ WH h p1) ∧ h = h') ∨ (v = some (vI 1) ∧ (fI h 64 88=1) ∧ (WH h p1) ∧ h = h')) → Q v h') : MR (mex Ln xs) d 253 0 [some (.ref 64), some (.long p1), none, none, none, none] [] h Q := by
  have e1 := fI_bd (q := 64) hT (tf hT rfl rfl) fd_8_86
  have e2 := fI_bd (q := 64) hT (tf hT rfl rfl) fd_8_87
  refine st_aload c253_0 rfl ?_
  refine st_getI c253_1 hT (tf hT rfl rfl) fd_8_88 (fun e3 e4 => ?_)
  refine st_iconst c253_4 ?_
  refine st_icmp_ne c253_5 (by omega) (by omega) (fun k5 => ?_) (fun k6 => ?_)
  refine st_iconst c253_22 ?_
  refine st_zreturn c253_23 (by omega) ?_
  exact hQ _ _ (Or.inl ⟨rfl, WH_n0 (by omega), rfl⟩)
  refine st_aload c253_8 rfl ?_
  refine st_getI c253_9 hT (tf hT rfl rfl) fd_8_87 (fun e7 e8 => ?_)
  refine st_aload c253_12 rfl ?_
  refine st_getI c253_13 hT (tf hT rfl rfl) fd_8_86 (fun e9 e10 => ?_)
  refine st_isub c253_16 ?_
  refine st_iconst c253_17 ?_
  refine st_icmp_le c253_19 (by omega) (by omega) (fun k11 => ?_) (fun k12 => ?_)
  refine st_lconst c253_24 ?_
  refine st_lstore (L' := [some (.ref 64), some (.long p1), none, some (.long (Int64.ofInt 0)), none, none]) c253_25 rfl rfl ?_
  refine st_aload c253_26 rfl ?_
  refine st_getI c253_27 hT (tf hT rfl rfl) fd_8_86 (fun e13 e14 => ?_)
  refine st_istore (L' := [some (.ref 64), some (.long p1), none, some (.long (Int64.ofInt 0)), none, some (vI (fI h 64 86))]) c253_30 rfl rfl ?_
  have lp25 : ∀ (n26 : Nat) (w23 : Int64) (z24 : Int), (200 : Int) - z24 < (n26 : Int) → 0 ≤ z24 ∧ z24 ≤ 200 → w23 = HJ (aI h 124) (fI h 64 86) (z24 - fI h 64 86).toNat → z24 ≤ fI h 64 87 → fI h 64 86 ≤ z24 → MR (mex Ln xs) d 253 32 [some (.ref 64), some (.long p1), none, some (.long w23), none, some (vI z24)] [] h Q := by
    intro n26
    induction n26 with
    | zero =>
      intro w23 z24 hm28 b29 x30 x31 x32
      exfalso; omega
    | succ n26 ih27 =>
      intro w23 z24 hm28 b29 x30 x31 x32
      refine st_iload c253_32 rfl ?_
      refine st_aload c253_34 rfl ?_
      refine st_getI c253_35 hT (tf hT rfl rfl) fd_8_87 (fun e33 e34 => ?_)
      refine st_icmp_ge c253_38 (by omega) (by omega) (fun k35 => ?_) (fun k36 => ?_)
      refine st_lload c253_66 rfl ?_
      refine st_lload c253_67 rfl ?_
      refine st_lcmpx c253_68 (fun w37 e38 e39 e40 => ?_)
      refine st_if_ne c253_69 (by omega) (fun k41 => ?_) (fun k42 => ?_)
      refine st_iconst c253_76 ?_
      refine st_zreturn c253_77 (by omega) ?_
      exact hQ _ _ (Or.inl ⟨rfl, WH_no x30 (by omega) (fun c => absurd (e40.mpr c) (by omega)), rfl⟩)
      refine st_iconst c253_72 ?_
      refine st_goto c253_73 ?_
      refine st_zreturn c253_77 (by omega) ?_
      exact hQ _ _ (Or.inr ⟨rfl, by omega, WH_mk (by omega) (by omega) x30 (by omega) (e40.mp (by omega)), rfl⟩)
      refine st_lconst c253_41 ?_
      refine st_lload c253_44 rfl ?_
      refine st_lmulx c253_45 ?_
      refine st_aload c253_46 rfl ?_
      refine st_getX (u := 124) c253_47 hT (tf hT rfl rfl) fd_8_76 rfl ?_
      refine st_iload c253_50 rfl ?_
      refine st_bald c253_52 hT (tf hT rfl rfl) ay_102 (Or.inr rfl) (by omega) (fun e43 e44 => ?_)
      refine st_i2lx c253_53 (by omega) ?_
      refine st_laddx c253_54 ?_
      refine st_lconst c253_55 ?_
      refine st_lsubx c253_58 ?_
      refine st_lstore (L' := [some (.ref 64), some (.long p1), none, some (.long ((((Int64.ofInt 27) * w23) + (Int64.ofInt (aI h 124 z24))) - (Int64.ofInt 96))), none, some (vI z24)]) c253_59 rfl rfl ?_
      refine st_iinc (L' := [some (.ref 64), some (.long p1), none, some (.long ((((Int64.ofInt 27) * w23) + (Int64.ofInt (aI h 124 z24))) - (Int64.ofInt 96))), none, some (vI (z24 + 1))]) c253_60 rfl rfl rfl ?_
      refine st_goto c253_63 ?_
      exact ih27 ((((Int64.ofInt 27) * w23) + (Int64.ofInt (aI h 124 z24))) - (Int64.ofInt 96)) (z24 + 1) (by omega) (by omega) (HJ_s x30 (by omega)) (by omega) (by omega)
  exact lp25 ((((200 : Int) - (fI h 64 86) : Int) + 1).toNat) (Int64.ofInt 0) (fI h 64 86) (by omega) (by omega) HJ_0 (by omega) (by omega)
  refine st_iconst c253_22 ?_
  refine st_zreturn c253_23 (by omega) ?_
  exact hQ _ _ (Or.inl ⟨rfl, WH_n0 (by omega), rfl⟩)
def W254 : List (Nat × Nat) := [(8, 90)]
set_option maxHeartbeats 0 in
theorem K254 {Ln : Nat} {xs : Nat → Int32} {τ : List Nat} {h : List mE} {E : EP} (hT : TH E τ h) (hS : Stb E W254) (d : Nat) (hd : 0 ≤ d) (Q : Option Value → List mE → Prop) (hQ : ∀ v h', (v = none ∧ (0≤fI h' 64 90) ∧ (fI h 64 90 < 0 ∨ fI h' 64 90 = fI h 64 90) ∧ (0 ≤ fI h 64 90 ∨ fI h' 64 90 = fI h 64 86) ∧ TH E τ h' ∧ Fr τ W254 h h') → Q v h') : MR (mex Ln xs) d 254 0 [some (.ref 64)] [] h Q := by
  have hF := Fr_rf τ W254 h
  refine st_aload c254_0 rfl ?_
  refine st_getI c254_1 hT (tf hT rfl rfl) fd_8_90 (fun e1 e2 => ?_)
  refine st_if_ge c254_4 (by omega) (fun k3 => ?_) (fun k4 => ?_)
  refine st_return c254_15 ?_
  exact hQ _ _ ⟨rfl, by omega, by omega, by omega, hT, hF⟩
  refine st_aload c254_7 rfl ?_
  refine st_aload c254_8 rfl ?_
  refine st_getI c254_9 hT (tf hT rfl rfl) fd_8_86 (fun e5 e6 => ?_)
  refine st_putI c254_12 hT (tf hT rfl rfl) fd_8_90 (by omega) (by omega) (Ext_rf _) hS hF (by decide +kernel) (fun h7 hT8 hF9 hU10 => ?_)
  refine st_return c254_15 ?_
  have e11 := fI_bd (q := 64) hT8 (tf hT8 rfl rfl) fd_8_90
  have q12 : fI h7 64 90 = fI h 64 86 := FUp_fI hU10 (by omega) (by omega)
  exact hQ _ _ ⟨rfl, by omega, by omega, by omega, hT8, hF9⟩
set_option maxHeartbeats 0 in
theorem K259 {S F P : Int → Int} {a : Int} {Ln : Nat} {xs : Nat → Int32} {τ : List Nat} {h : List mE} {E : EP} (hT : TH E τ h) (pre0 : fI h 64 86≤fI h 64 87) (pre1 : CU S F P h a) (d : Nat) (hd : 1 ≤ d) (Q : Option Value → List mE → Prop) (hQ : ∀ v h', (∃ z : Int, v = some (vI z) ∧ ((-1) ≤ z ∧ z ≤ 13) ∧ (z = -1 ∨ fI h 64 88 = 1) ∧ ((0 ≤ z ∧ z < 14 ∧ S a = z) ∨ (z = -1 ∧ (S a < 0 ∨ 14 ≤ S a))) ∧ h = h') → Q v h') : MR (mex Ln xs) d 259 0 [some (.ref 64), none] [] h Q := by
  have e1 := fI_bd (q := 64) hT (tf hT rfl rfl) fd_8_86
  have e2 := fI_bd (q := 64) hT (tf hT rfl rfl) fd_8_87
  refine st_iconst c259_0 ?_
  refine st_istore (L' := [some (.ref 64), some (vI 0)]) c259_1 rfl rfl ?_
  have lp68 : ∀ (n69 : Nat) (z67 : Int), (14 : Int) - z67 < (n69 : Int) → 0 ≤ z67 ∧ z67 ≤ 14 → S a < 0 ∨ z67 ≤ S a → MR (mex Ln xs) d 259 2 [some (.ref 64), some (vI z67)] [] h Q := by
    intro n69
    induction n69 with
    | zero =>
      intro z67 hm71 b72 x73
      exfalso; omega
    | succ n69 ih70 =>
      intro z67 hm71 b72 x73
      refine st_iload c259_2 rfl ?_
      refine st_iconst c259_3 ?_
      refine st_icmp_ge c259_5 (by omega) (by omega) (fun k74 => ?_) (fun k75 => ?_)
      refine st_iconst c259_28 ?_
      refine st_ireturn c259_29 ?_
      exact hQ _ _ ⟨(-1), rfl, by omega, by omega, by omega, rfl⟩
      refine st_aload c259_8 rfl ?_
      refine st_getstatic c259_9 rfl ?_
      refine st_iload c259_12 rfl ?_
      refine st_nms c259_13 (by omega) ?_
      have e77 := fI_bd (q := 64) hT (tf hT rfl rfl) fd_8_88
      have e78 := fI_bd (q := 64) hT (tf hT rfl rfl) fd_8_86
      have e79 := fI_bd (q := 64) hT (tf hT rfl rfl) fd_8_87
      refine st_callt (as := [.long (mNm.getD z67.toNat 0)]) c259_14 cm_253 hT (tf hT rfl rfl) fd_8_0 rfl rfl rfl rfl (by omega) (K253 hT (mNm.getD z67.toNat 0) (by omega) (d - 1) (by omega) _ (fun v h0 H => H)) (fun v1 h1 H => ?_)
      rcases H with ⟨rfl, pf80, rfl⟩ | ⟨rfl, pf81, pf82, rfl⟩
      have wq83 := mt (WH_nm hT pre1 (x := z67) (by omega) (by omega)).mpr pf80
      refine st_if_eq c259_17 (by omega) (fun k84 => ?_) (fun k85 => False.elim (by omega))
      refine st_iinc (L' := [some (.ref 64), some (vI (z67 + 1))]) c259_22 rfl rfl rfl ?_
      refine st_goto c259_25 ?_
      exact ih70 (z67 + 1) (by omega) (by omega) (by omega)
      have wq86 := (WH_nm hT pre1 (x := z67) (by omega) (by omega)).mp pf82
      refine st_if_eq c259_17 (by omega) (fun k87 => False.elim (by omega)) (fun k88 => ?_)
      refine st_iload c259_20 rfl ?_
      refine st_ireturn c259_21 ?_
      exact hQ _ _ ⟨z67, rfl, by omega, by omega, by omega, rfl⟩
  exact lp68 ((((14 : Int) - 0 : Int) + 1).toNat) 0 (by omega) (by omega) (by omega)
def W256 : List (Nat × Nat) := [(8, 86), (8, 87), (8, 88), (8, 89), (8, 90)]
set_option maxHeartbeats 0 in
theorem K256 {S F P : Int → Int} {a : Int} {Ln : Nat} {xs : Nat → Int32} {τ : List Nat} {h : List mE} {E : EP} (hT : TH E τ h) (hS : Stb E W256) (p1 : Int) (hp1 : (-2147483648) ≤ p1 ∧ p1 ≤ 2147483647) (pre0 : fI h 64 87≤fI h 64 77) (pre1 : CU S F P h a) (d : Nat) (hd : 3 ≤ d) (Q : Option Value → List mE → Prop) (hQ : ∀ v h', ((v = some (vI 0) ∧ (0≤fI h' 64 90) ∧ (fI h' 64 86=fI h 64 86) ∧ (fI h' 64 87=fI h 64 87) ∧ (fI h' 64 88=fI h 64 88) ∧ (fI h 64 88 ≠ p1) ∧ ((0 ≤ fI h 64 90 ∧ fI h' 64 90 = fI h 64 90) ∨ (fI h 64 90 < 0 ∧ fI h' 64 90 = F a)) ∧ TH E τ h' ∧ Fr τ W256 h h') ∨ (v = some (vI 1) ∧ (fI h 64 88=p1) ∧ (fI h' 64 90=fI h 64 90) ∧ (fI h 64 87≤fI h' 64 86) ∧ (fI h' 64 86≤fI h' 64 87) ∧ (fI h' 64 87≤fI h 64 77) ∧ (fI h' 64 88 = 0 ∨ fI h' 64 86 + 1 ≤ fI h' 64 87) ∧ (CU S F P h' (a + 1)) ∧ TH E τ h' ∧ Fr τ W256 h h')) → Q v h') : MR (mex Ln xs) d 256 0 [some (.ref 64), some (vI p1)] [] h Q := by
  have hF := Fr_rf τ W256 h
  have e1 := fI_bd (q := 64) hT (tf hT rfl rfl) fd_8_87
  have e2 := fI_bd (q := 64) hT (tf hT rfl rfl) fd_8_77
  have cf := CU_F pre1
  refine st_aload c256_0 rfl ?_
  refine st_getI c256_1 hT (tf hT rfl rfl) fd_8_88 (fun e3 e4 => ?_)
  refine st_iload c256_4 rfl ?_
  refine st_icmp_eq c256_5 (by omega) (by omega) (fun k5 => ?_) (fun k6 => ?_)
  refine st_aload c256_14 rfl ?_
  have e7 := fI_bd (q := 64) hT (tf hT rfl rfl) fd_8_87
  have e8 := fI_bd (q := 64) hT (tf hT rfl rfl) fd_8_77
  refine st_callt (as := []) c256_15 cm_252 hT (tf hT rfl rfl) fd_8_0 rfl rfl rfl rfl (by omega) (K252 hT (Stb_mono hS (by decide +kernel)) (by omega) (CU_nx pre1) (d - 1) (by omega) _ (fun v h0 H => H)) (fun v1 h9 H => ?_)
  obtain ⟨rfl, pf12, pf13, pf14, pf15, pf16, hT10, hF11⟩ := H
  have hF17 := Fr_cp hF hF11 (by decide +kernel : Wsub W252 W256 = true)
  have e18 := fI_bd (q := 64) hT10 (tf hT10 rfl rfl) fd_8_86
  have e19 := fI_bd (q := 64) hT10 (tf hT10 rfl rfl) fd_8_87
  have e20 := fI_bd (q := 64) hT10 (tf hT10 rfl rfl) fd_8_88
  refine st_iconst c256_18 ?_
  refine st_zreturn c256_19 (by omega) ?_
  have e21 := fI_bd (q := 64) hT10 (tf hT10 rfl rfl) fd_8_90
  have q22 : fI h9 64 90 = fI h 64 90 := Fr_fI hF11 (tf hT rfl rfl) (by decide +kernel)
  exact hQ _ _ (Or.inr ⟨rfl, by omega, by omega, by omega, by omega, by omega, by omega, pf16, hT10, hF17⟩)
  refine st_aload c256_8 rfl ?_
  have e23 := fI_bd (q := 64) hT (tf hT rfl rfl) fd_8_90
  have e24 := fI_bd (q := 64) hT (tf hT rfl rfl) fd_8_86
  refine st_callt (as := []) c256_9 cm_254 hT (tf hT rfl rfl) fd_8_0 rfl rfl rfl rfl (by omega) (K254 hT (Stb_mono hS (by decide +kernel)) (d - 1) (by omega) _ (fun v h0 H => H)) (fun v1 h25 H => ?_)
  obtain ⟨rfl, pf28, pf29, pf30, hT26, hF27⟩ := H
  have hF31 := Fr_cp hF hF27 (by decide +kernel : Wsub W254 W256 = true)
  have e32 := fI_bd (q := 64) hT26 (tf hT26 rfl rfl) fd_8_90
  refine st_iconst c256_12 ?_
  refine st_zreturn c256_13 (by omega) ?_
  have e33 := fI_bd (q := 64) hT26 (tf hT26 rfl rfl) fd_8_86
  have q34 : fI h25 64 86 = fI h 64 86 := Fr_fI hF27 (tf hT rfl rfl) (by decide +kernel)
  have e35 := fI_bd (q := 64) hT26 (tf hT26 rfl rfl) fd_8_87
  have q36 : fI h25 64 87 = fI h 64 87 := Fr_fI hF27 (tf hT rfl rfl) (by decide +kernel)
  have e37 := fI_bd (q := 64) hT26 (tf hT26 rfl rfl) fd_8_88
  have q38 : fI h25 64 88 = fI h 64 88 := Fr_fI hF27 (tf hT rfl rfl) (by decide +kernel)
  exact hQ _ _ (Or.inl ⟨rfl, by omega, by omega, by omega, by omega, by omega, by omega, hT26, hF31⟩)
def W257 : List (Nat × Nat) := [(8, 86), (8, 87), (8, 88), (8, 89), (8, 90), (8, 91)]
set_option maxHeartbeats 0 in
theorem K257 {S F P : Int → Int} {a : Int} {Ln : Nat} {xs : Nat → Int32} {τ : List Nat} {h : List mE} {E : EP} (hT : TH E τ h) (hS : Stb E W257) (pre0 : fI h 64 87≤fI h 64 77) (pre1 : CU S F P h a) (d : Nat) (hd : 3 ≤ d) (Q : Option Value → List mE → Prop) (hQ : ∀ v h', ((v = some (vI 0) ∧ (0≤fI h' 64 90) ∧ (fI h' 64 91=fI h 64 91) ∧ (fI h' 64 86=fI h 64 86) ∧ (fI h' 64 87=fI h 64 87) ∧ (fI h' 64 88=fI h 64 88) ∧ (fI h 64 88 ≠ 40 ∨ 8 ≤ fI h 64 91) ∧ ((0 ≤ fI h 64 90 ∧ fI h' 64 90 = fI h 64 90) ∨ (fI h 64 90 < 0 ∧ fI h' 64 90 = F a)) ∧ TH E τ h' ∧ Fr τ W257 h h') ∨ (v = some (vI 1) ∧ (fI h 64 88=40) ∧ (fI h' 64 90=fI h 64 90) ∧ (fI h 64 91≤7) ∧ (fI h' 64 91=fI h 64 91+1) ∧ (fI h 64 87≤fI h' 64 86) ∧ (fI h' 64 86≤fI h' 64 87) ∧ (fI h' 64 87≤fI h 64 77) ∧ (fI h' 64 88 = 0 ∨ fI h' 64 86 + 1 ≤ fI h' 64 87) ∧ (CU S F P h' (a + 1)) ∧ TH E τ h' ∧ Fr τ W257 h h')) → Q v h') : MR (mex Ln xs) d 257 0 [some (.ref 64)] [] h Q := by
  have hF := Fr_rf τ W257 h
  have e1 := fI_bd (q := 64) hT (tf hT rfl rfl) fd_8_87
  have e2 := fI_bd (q := 64) hT (tf hT rfl rfl) fd_8_77
  have cf := CU_F pre1
  refine st_aload c257_0 rfl ?_
  refine st_getI c257_1 hT (tf hT rfl rfl) fd_8_88 (fun e3 e4 => ?_)
  refine st_iconst c257_4 ?_
  refine st_icmp_ne c257_6 (by omega) (by omega) (fun k5 => ?_) (fun k6 => ?_)
  refine st_aload c257_18 rfl ?_
  have e7 := fI_bd (q := 64) hT (tf hT rfl rfl) fd_8_90
  have e8 := fI_bd (q := 64) hT (tf hT rfl rfl) fd_8_86
  refine st_callt (as := []) c257_19 cm_254 hT (tf hT rfl rfl) fd_8_0 rfl rfl rfl rfl (by omega) (K254 hT (Stb_mono hS (by decide +kernel)) (d - 1) (by omega) _ (fun v h0 H => H)) (fun v1 h9 H => ?_)
  obtain ⟨rfl, pf12, pf13, pf14, hT10, hF11⟩ := H
  have hF15 := Fr_cp hF hF11 (by decide +kernel : Wsub W254 W257 = true)
  have e16 := fI_bd (q := 64) hT10 (tf hT10 rfl rfl) fd_8_90
  refine st_iconst c257_22 ?_
  refine st_zreturn c257_23 (by omega) ?_
  have e17 := fI_bd (q := 64) hT10 (tf hT10 rfl rfl) fd_8_91
  have q18 : fI h9 64 91 = fI h 64 91 := Fr_fI hF11 (tf hT rfl rfl) (by decide +kernel)
  have e19 := fI_bd (q := 64) hT10 (tf hT10 rfl rfl) fd_8_86
  have q20 : fI h9 64 86 = fI h 64 86 := Fr_fI hF11 (tf hT rfl rfl) (by decide +kernel)
  have e21 := fI_bd (q := 64) hT10 (tf hT10 rfl rfl) fd_8_87
  have q22 : fI h9 64 87 = fI h 64 87 := Fr_fI hF11 (tf hT rfl rfl) (by decide +kernel)
  have e23 := fI_bd (q := 64) hT10 (tf hT10 rfl rfl) fd_8_88
  have q24 : fI h9 64 88 = fI h 64 88 := Fr_fI hF11 (tf hT rfl rfl) (by decide +kernel)
  exact hQ _ _ (Or.inl ⟨rfl, by omega, by omega, by omega, by omega, by omega, by omega, by omega, hT10, hF15⟩)
  refine st_aload c257_9 rfl ?_
  refine st_getI c257_10 hT (tf hT rfl rfl) fd_8_91 (fun e25 e26 => ?_)
  refine st_iconst c257_13 ?_
  refine st_icmp_ne c257_15 (by omega) (by omega) (fun k27 => ?_) (fun k28 => ?_)
  refine st_aload c257_24 rfl ?_
  refine st_dup c257_25 rfl ?_
  refine st_getI c257_26 hT (tf hT rfl rfl) fd_8_91 (fun e29 e30 => ?_)
  refine st_iconst c257_29 ?_
  refine st_iadd c257_30 ?_
  refine st_putI c257_31 hT (tf hT rfl rfl) fd_8_91 (by omega) (by omega) (Ext_rf _) hS hF (by decide +kernel) (fun h31 hT32 hF33 hU34 => ?_)
  refine st_aload c257_34 rfl ?_
  have e35 := fI_bd (q := 64) hT32 (tf hT32 rfl rfl) fd_8_87
  have q36 : fI h31 64 87 = fI h 64 87 := FUp_fIne hU34 (fun z => absurd z.2 (by decide))
  have e37 := fI_bd (q := 64) hT32 (tf hT32 rfl rfl) fd_8_77
  have q38 : fI h31 64 77 = fI h 64 77 := FUp_fIne hU34 (fun z => absurd z.2 (by decide))
  refine st_callt (as := []) c257_35 cm_252 hT32 (tf hT32 rfl rfl) fd_8_0 rfl rfl rfl rfl (by omega) (K252 hT32 (Stb_mono hS (by decide +kernel)) (by omega) (CU_nx (CU_fr pre1 hT (FUp_1 hU34 (tf hT rfl rfl)) (by decide +kernel))) (d - 1) (by omega) _ (fun v h0 H => H)) (fun v1 h39 H => ?_)
  obtain ⟨rfl, pf42, pf43, pf44, pf45, pf46, hT40, hF41⟩ := H
  have hF47 := Fr_cp hF33 hF41 (by decide +kernel : Wsub W252 W257 = true)
  have e48 := fI_bd (q := 64) hT40 (tf hT40 rfl rfl) fd_8_86
  have e49 := fI_bd (q := 64) hT40 (tf hT40 rfl rfl) fd_8_87
  have e50 := fI_bd (q := 64) hT40 (tf hT40 rfl rfl) fd_8_88
  refine st_iconst c257_38 ?_
  refine st_zreturn c257_39 (by omega) ?_
  have e51 := fI_bd (q := 64) hT40 (tf hT40 rfl rfl) fd_8_90
  have q52 : fI h39 64 90 = fI h 64 90 := (Fr_fI hF41 (tf hT32 rfl rfl) (by decide +kernel)).trans (FUp_fIne hU34 (fun z => absurd z.2 (by decide)))
  have e53 := fI_bd (q := 64) hT40 (tf hT40 rfl rfl) fd_8_91
  have q54 : fI h39 64 91 = (fI h 64 91) + 1 := (Fr_fI hF41 (tf hT32 rfl rfl) (by decide +kernel)).trans (FUp_fI hU34 (by omega) (by omega))
  exact hQ _ _ (Or.inr ⟨rfl, by omega, by omega, by omega, by omega, by omega, by omega, by omega, by omega, pf46, hT40, hF47⟩)
  refine st_aload c257_18 rfl ?_
  have e55 := fI_bd (q := 64) hT (tf hT rfl rfl) fd_8_90
  have e56 := fI_bd (q := 64) hT (tf hT rfl rfl) fd_8_86
  refine st_callt (as := []) c257_19 cm_254 hT (tf hT rfl rfl) fd_8_0 rfl rfl rfl rfl (by omega) (K254 hT (Stb_mono hS (by decide +kernel)) (d - 1) (by omega) _ (fun v h0 H => H)) (fun v1 h57 H => ?_)
  obtain ⟨rfl, pf60, pf61, pf62, hT58, hF59⟩ := H
  have hF63 := Fr_cp hF hF59 (by decide +kernel : Wsub W254 W257 = true)
  have e64 := fI_bd (q := 64) hT58 (tf hT58 rfl rfl) fd_8_90
  refine st_iconst c257_22 ?_
  refine st_zreturn c257_23 (by omega) ?_
  have e65 := fI_bd (q := 64) hT58 (tf hT58 rfl rfl) fd_8_91
  have q66 : fI h57 64 91 = fI h 64 91 := Fr_fI hF59 (tf hT rfl rfl) (by decide +kernel)
  have e67 := fI_bd (q := 64) hT58 (tf hT58 rfl rfl) fd_8_86
  have q68 : fI h57 64 86 = fI h 64 86 := Fr_fI hF59 (tf hT rfl rfl) (by decide +kernel)
  have e69 := fI_bd (q := 64) hT58 (tf hT58 rfl rfl) fd_8_87
  have q70 : fI h57 64 87 = fI h 64 87 := Fr_fI hF59 (tf hT rfl rfl) (by decide +kernel)
  have e71 := fI_bd (q := 64) hT58 (tf hT58 rfl rfl) fd_8_88
  have q72 : fI h57 64 88 = fI h 64 88 := Fr_fI hF59 (tf hT rfl rfl) (by decide +kernel)
  exact hQ _ _ (Or.inl ⟨rfl, by omega, by omega, by omega, by omega, by omega, by omega, by omega, hT58, hF63⟩)
def W258 : List (Nat × Nat) := [(8, 86), (8, 87), (8, 88), (8, 89), (8, 90), (8, 91)]
set_option maxHeartbeats 0 in
theorem K258 {S F P : Int → Int} {a : Int} {Ln : Nat} {xs : Nat → Int32} {τ : List Nat} {h : List mE} {E : EP} (hT : TH E τ h) (hS : Stb E W258) (pre0 : fI h 64 87≤fI h 64 77) (pre1 : 1≤fI h 64 91) (pre2 : CU S F P h a) (d : Nat) (hd : 4 ≤ d) (Q : Option Value → List mE → Prop) (hQ : ∀ v h', ((v = some (vI 0) ∧ (0≤fI h' 64 90) ∧ (fI h' 64 91=fI h 64 91) ∧ (fI h' 64 86=fI h 64 86) ∧ (fI h' 64 87=fI h 64 87) ∧ (fI h' 64 88=fI h 64 88) ∧ (fI h 64 88 ≠ 41) ∧ ((0 ≤ fI h 64 90 ∧ fI h' 64 90 = fI h 64 90) ∨ (fI h 64 90 < 0 ∧ fI h' 64 90 = F a)) ∧ TH E τ h' ∧ Fr τ W258 h h') ∨ (v = some (vI 1) ∧ (fI h 64 88=41) ∧ (fI h' 64 90=fI h 64 90) ∧ (fI h' 64 91=fI h 64 91-1) ∧ (fI h 64 87≤fI h' 64 86) ∧ (fI h' 64 86≤fI h' 64 87) ∧ (fI h' 64 87≤fI h 64 77) ∧ (fI h' 64 88 = 0 ∨ fI h' 64 86 + 1 ≤ fI h' 64 87) ∧ (CU S F P h' (a + 1)) ∧ TH E τ h' ∧ Fr τ W258 h h')) → Q v h') : MR (mex Ln xs) d 258 0 [some (.ref 64)] [] h Q := by
  have hF := Fr_rf τ W258 h
  have e1 := fI_bd (q := 64) hT (tf hT rfl rfl) fd_8_87
  have e2 := fI_bd (q := 64) hT (tf hT rfl rfl) fd_8_77
  have e3 := fI_bd (q := 64) hT (tf hT rfl rfl) fd_8_91
  refine st_aload c258_0 rfl ?_
  refine st_iconst c258_1 ?_
  have e4 := fI_bd (q := 64) hT (tf hT rfl rfl) fd_8_86
  have e5 := fI_bd (q := 64) hT (tf hT rfl rfl) fd_8_87
  have e6 := fI_bd (q := 64) hT (tf hT rfl rfl) fd_8_88
  have e7 := fI_bd (q := 64) hT (tf hT rfl rfl) fd_8_90
  have e8 := fI_bd (q := 64) hT (tf hT rfl rfl) fd_8_77
  refine st_callt (as := [vI 41]) c258_3 cm_256 hT (tf hT rfl rfl) fd_8_0 rfl rfl rfl rfl (by omega) (K256 hT (Stb_mono hS (by decide +kernel)) 41 (by omega) (by omega) pre2 (d - 1) (by omega) _ (fun v h0 H => H)) (fun v1 h9 H => ?_)
  rcases H with ⟨rfl, pf12, pf13, pf14, pf15, pf16, pf17, hT10, hF11⟩ | ⟨rfl, pf18, pf19, pf20, pf21, pf22, pf23, pf24, hT10, hF11⟩
  have hF25 := Fr_cp hF hF11 (by decide +kernel : Wsub W256 W258 = true)
  have e26 := fI_bd (q := 64) hT10 (tf hT10 rfl rfl) fd_8_90
  have e27 := fI_bd (q := 64) hT10 (tf hT10 rfl rfl) fd_8_86
  have e28 := fI_bd (q := 64) hT10 (tf hT10 rfl rfl) fd_8_87
  have e29 := fI_bd (q := 64) hT10 (tf hT10 rfl rfl) fd_8_88
  refine st_if_ne c258_6 (by omega) (fun k30 => False.elim (by omega)) (fun k31 => ?_)
  refine st_iconst c258_9 ?_
  refine st_zreturn c258_10 (by omega) ?_
  have e32 := fI_bd (q := 64) hT10 (tf hT10 rfl rfl) fd_8_91
  have q33 : fI h9 64 91 = fI h 64 91 := Fr_fI hF11 (tf hT rfl rfl) (by decide +kernel)
  exact hQ _ _ (Or.inl ⟨rfl, by omega, by omega, by omega, by omega, by omega, by omega, by omega, hT10, hF25⟩)
  have hF34 := Fr_cp hF hF11 (by decide +kernel : Wsub W256 W258 = true)
  have e35 := fI_bd (q := 64) hT10 (tf hT10 rfl rfl) fd_8_90
  have e36 := fI_bd (q := 64) hT10 (tf hT10 rfl rfl) fd_8_86
  have e37 := fI_bd (q := 64) hT10 (tf hT10 rfl rfl) fd_8_87
  refine st_if_ne c258_6 (by omega) (fun k38 => ?_) (fun k39 => False.elim (by omega))
  refine st_aload c258_11 rfl ?_
  refine st_dup c258_12 rfl ?_
  refine st_getI c258_13 hT10 (tf hT10 rfl rfl) fd_8_91 (fun e40 e41 => ?_)
  have q42 : fI h9 64 91 = fI h 64 91 := Fr_fI hF11 (tf hT rfl rfl) (by decide +kernel)
  refine st_iconst c258_16 ?_
  refine st_isub c258_17 ?_
  refine st_putI c258_18 hT10 (tf hT10 rfl rfl) fd_8_91 (by omega) (by omega) (Ext_rf _) hS hF34 (by decide +kernel) (fun h43 hT44 hF45 hU46 => ?_)
  refine st_iconst c258_21 ?_
  refine st_zreturn c258_22 (by omega) ?_
  have e47 := fI_bd (q := 64) hT44 (tf hT44 rfl rfl) fd_8_90
  have q48 : fI h43 64 90 = fI h9 64 90 := FUp_fIne hU46 (fun z => absurd z.2 (by decide))
  have e49 := fI_bd (q := 64) hT44 (tf hT44 rfl rfl) fd_8_91
  have q50 : fI h43 64 91 = (fI h9 64 91) - 1 := FUp_fI hU46 (by omega) (by omega)
  have e51 := fI_bd (q := 64) hT44 (tf hT44 rfl rfl) fd_8_86
  have q52 : fI h43 64 86 = fI h9 64 86 := FUp_fIne hU46 (fun z => absurd z.2 (by decide))
  have e53 := fI_bd (q := 64) hT44 (tf hT44 rfl rfl) fd_8_87
  have q54 : fI h43 64 87 = fI h9 64 87 := FUp_fIne hU46 (fun z => absurd z.2 (by decide))
  have e55 := fI_bd (q := 64) hT44 (tf hT44 rfl rfl) fd_8_88
  have q56 : fI h43 64 88 = fI h9 64 88 := FUp_fIne hU46 (fun z => absurd z.2 (by decide))
  exact hQ _ _ (Or.inr ⟨rfl, by omega, by omega, by omega, by omega, by omega, by omega, by omega, (CU_fr pf24 hT10 (FUp_1 hU46 (tf hT10 rfl rfl)) (by decide +kernel)), hT44, hF45⟩)
