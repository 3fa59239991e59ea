def W248 : List (Nat × Nat) := [(8, 77), (102, 0)]
set_option maxHeartbeats 0 in
theorem K248 {Ln : Nat} {xs : Nat → Int32} {τ : List Nat} {h : List mE} {E : EP} (hT : TH E τ h) (hS : Stb E W248) (p1 : Int) (hp1 : (-2147483648) ≤ p1 ∧ p1 ≤ 2147483647) (pre0 : fI h 64 77≤196) (d : Nat) (hd : 0 ≤ d) (Q : Option Value → List mE → Prop) (hQ : ∀ v h', (v = none ∧ (fI h' 64 77=fI h 64 77+4) ∧ (PFe1 h h' p1) ∧ TH E τ h' ∧ Fr τ W248 h h') → Q v h') : MR (mex Ln xs) d 248 0 [some (.ref 64), some (vI p1), none] [] h Q := by
  have hF := Fr_rf τ W248 h
  have e1 := fI_bd (q := 64) hT (tf hT rfl rfl) fd_8_77
  refine st_iconst c248_0 ?_
  refine st_istore (L' := [some (.ref 64), some (vI p1), some (vI 3)]) c248_1 rfl rfl ?_
  have lp112 : ∀ (n113 : Nat) (z107 : Int) (h108 : List mE), (z107 : Int) - (-1) < (n113 : Int) → (-1) ≤ z107 ∧ z107 ≤ 3 → fI h108 64 77+z107 ≤ 199 → fI h108 64 77 + z107 = fI h 64 77 + 3 → RIn h h108 p1 → TH E τ h108 → Fr τ W248 h h108 → Fr τ [(8, 77), (102, 0)] h h108 → MR (mex Ln xs) d 248 2 [some (.ref 64), some (vI p1), some (vI z107)] [] h108 Q := by
    intro n113
    induction n113 with
    | zero =>
      intro z107 h108 hm115 b116 x117 x118 x119 hT109 hF110 hL111
      exfalso; omega
    | succ n113 ih114 =>
      intro z107 h108 hm115 b116 x117 x118 x119 hT109 hF110 hL111
      have e120 := fI_bd (q := 64) hT109 (tf hT109 rfl rfl) fd_8_77
      refine st_iload c248_2 rfl ?_
      refine st_if_lt c248_3 (by omega) (fun k121 => ?_) (fun k122 => ?_)
      refine st_return c248_38 ?_
      exact hQ _ _ ⟨rfl, by omega, PFe1_of x119 (by omega), hT109, hF110⟩
      refine st_aload c248_6 rfl ?_
      refine st_getX (u := 124) c248_7 hT109 (tf hT109 rfl rfl) fd_8_76 rfl ?_
      refine st_aload c248_10 rfl ?_
      refine st_getI c248_11 hT109 (tf hT109 rfl rfl) fd_8_77 (fun e123 e124 => ?_)
      refine st_iload c248_14 rfl ?_
      refine st_iconst c248_15 ?_
      refine st_iload c248_17 rfl ?_
      refine st_imul c248_18 ?_
      refine st_ishrx c248_19 ?_
      refine st_i2bx c248_20 ?_
      have e125 := I2B_bd (SHR p1 (8 * z107))
      refine st_bast c248_21 hT109 (tf hT109 rfl rfl) ay_102 (by omega) (by omega) (by omega) (Ext_rf _) hS hF110 (by decide +kernel) (fun h126 hT127 hF128 hU129 => ?_)
      refine st_aload c248_22 rfl ?_
      refine st_dup c248_23 rfl ?_
      refine st_getI c248_24 hT127 (tf hT127 rfl rfl) fd_8_77 (fun e130 e131 => ?_)
      have q132 : fI h126 64 77 = fI h108 64 77 := AUp_fI hU129
      refine st_iconst c248_27 ?_
      refine st_iadd c248_28 ?_
      refine st_putI c248_29 hT127 (tf hT127 rfl rfl) fd_8_77 (by omega) (by omega) (Ext_rf _) hS hF128 (by decide +kernel) (fun h133 hT134 hF135 hU136 => ?_)
      refine st_iinc (L' := [some (.ref 64), some (vI p1), some (vI (z107 + (-1)))]) c248_32 rfl rfl rfl ?_
      refine st_goto c248_35 ?_
      have e137 := fI_bd (q := 64) hT134 (tf hT134 rfl rfl) fd_8_77
      have q138 : fI h133 64 77 = (fI h126 64 77) + 1 := FUp_fI hU136 (by omega) (by omega)
      have bq139 := bt_2 (v := p1) (k := z107) (by omega) (by omega)
      rw [show z107 = 3 - (fI h108 64 77 - fI h 64 77) from by omega] at bq139
      have bq140 : z107 = 3 - (fI h108 64 77 - fI h 64 77) := by omega
      exact ih114 (z107 + (-1)) h133 (by omega) (by omega) (by omega) (by omega) (RIn_s x119 hU129 (by omega) hU136 (by omega) (by rw [bq140]; exact bq139) (by omega) (by omega)) hT134 hF135 (FUp_Fr (AUp_Fr hL111 hU129 (fun u hu => by rw [ty_1 hu (tf hT134 rfl rfl)]; decide)) hU136 (fun u hu => by rw [ty_1 hu (tf hT134 rfl rfl)]; decide))
  have e141 := fI_bd (q := 64) hT (tf hT rfl rfl) fd_8_77
  exact lp112 ((((3 : Int) - (-1) : Int) + 1).toNat) 3 h (by omega) (by omega) (by omega) (by omega) RIn_0 hT hF (Fr_rf _ _ _)
def W247 : List (Nat × Nat) := [(8, 77), (102, 0)]
set_option maxHeartbeats 0 in
theorem K247 {Ln : Nat} {xs : Nat → Int32} {τ : List Nat} {h : List mE} {E : EP} (hT : TH E τ h) (hS : Stb E W247) (p1 : Int) (hp1 : (-2147483648) ≤ p1 ∧ p1 ≤ 2147483647) (p2 : Int) (hp2 : (-2147483648) ≤ p2 ∧ p2 ≤ 2147483647) (p3 : Int) (hp3 : (-2147483648) ≤ p3 ∧ p3 ≤ 2147483647) (p4 : Int) (hp4 : (-2147483648) ≤ p4 ∧ p4 ≤ 2147483647) (p5 : Int) (hp5 : (-2147483648) ≤ p5 ∧ p5 ≤ 2147483647) (d : Nat) (hd : 1 ≤ d) (Q : Option Value → List mE → Prop) (hQ : ∀ v h', (∃ z : Int, v = some (vI z) ∧ ((-3) ≤ z ∧ z ≤ 200) ∧ (PFeR h h' p1 p2 p3 p4 p5 z) ∧ TH E τ h' ∧ Fr τ W247 h h') → Q v h') : MR (mex Ln xs) d 247 0 [some (.ref 64), some (vI p1), some (vI p2), some (vI p3), some (vI p4), some (vI p5)] [] h Q := by
  have hF := Fr_rf τ W247 h
  refine st_aload c247_0 rfl ?_
  refine st_getI c247_1 hT (tf hT rfl rfl) fd_8_77 (fun e1 e2 => ?_)
  refine st_iconst c247_4 ?_
  refine st_iadd c247_6 ?_
  refine st_iconst c247_7 ?_
  refine st_icmp_le c247_10 (by omega) (by omega) (fun k3 => ?_) (fun k4 => ?_)
  refine st_aload c247_16 rfl ?_
  refine st_iload c247_17 rfl ?_
  refine st_callt (as := [vI p1]) c247_18 cm_248 hT (tf hT rfl rfl) fd_8_0 rfl rfl rfl rfl (by omega) (K248 hT (Stb_mono hS (by decide +kernel)) p1 (by omega) (by omega) (d - 1) (by omega) _ (fun v h0 H => H)) (fun v1 h5 H => ?_)
  obtain ⟨rfl, pf8, pf9, hT6, hF7⟩ := H
  have hF10 := Fr_cp hF hF7 (by decide +kernel : Wsub W248 W247 = true)
  have e11 := fI_bd (q := 64) hT6 (tf hT6 rfl rfl) fd_8_77
  refine st_aload c247_21 rfl ?_
  refine st_iload c247_22 rfl ?_
  refine st_callt (as := [vI p2]) c247_23 cm_248 hT6 (tf hT6 rfl rfl) fd_8_0 rfl rfl rfl rfl (by omega) (K248 hT6 (Stb_mono hS (by decide +kernel)) p2 (by omega) (by omega) (d - 1) (by omega) _ (fun v h0 H => H)) (fun v1 h12 H => ?_)
  obtain ⟨rfl, pf15, pf16, hT13, hF14⟩ := H
  have hF17 := Fr_cp hF10 hF14 (by decide +kernel : Wsub W248 W247 = true)
  have e18 := fI_bd (q := 64) hT13 (tf hT13 rfl rfl) fd_8_77
  refine st_aload c247_26 rfl ?_
  refine st_iload c247_27 rfl ?_
  refine st_callt (as := [vI p3]) c247_28 cm_248 hT13 (tf hT13 rfl rfl) fd_8_0 rfl rfl rfl rfl (by omega) (K248 hT13 (Stb_mono hS (by decide +kernel)) p3 (by omega) (by omega) (d - 1) (by omega) _ (fun v h0 H => H)) (fun v1 h19 H => ?_)
  obtain ⟨rfl, pf22, pf23, hT20, hF21⟩ := H
  have hF24 := Fr_cp hF17 hF21 (by decide +kernel : Wsub W248 W247 = true)
  have e25 := fI_bd (q := 64) hT20 (tf hT20 rfl rfl) fd_8_77
  refine st_aload c247_31 rfl ?_
  refine st_iload c247_32 rfl ?_
  refine st_callt (as := [vI p4]) c247_34 cm_248 hT20 (tf hT20 rfl rfl) fd_8_0 rfl rfl rfl rfl (by omega) (K248 hT20 (Stb_mono hS (by decide +kernel)) p4 (by omega) (by omega) (d - 1) (by omega) _ (fun v h0 H => H)) (fun v1 h26 H => ?_)
  obtain ⟨rfl, pf29, pf30, hT27, hF28⟩ := H
  have hF31 := Fr_cp hF24 hF28 (by decide +kernel : Wsub W248 W247 = true)
  have e32 := fI_bd (q := 64) hT27 (tf hT27 rfl rfl) fd_8_77
  refine st_aload c247_37 rfl ?_
  refine st_iload c247_38 rfl ?_
  refine st_callt (as := [vI p5]) c247_40 cm_248 hT27 (tf hT27 rfl rfl) fd_8_0 rfl rfl rfl rfl (by omega) (K248 hT27 (Stb_mono hS (by decide +kernel)) p5 (by omega) (by omega) (d - 1) (by omega) _ (fun v h0 H => H)) (fun v1 h33 H => ?_)
  obtain ⟨rfl, pf36, pf37, hT34, hF35⟩ := H
  have hF38 := Fr_cp hF31 hF35 (by decide +kernel : Wsub W248 W247 = true)
  have e39 := fI_bd (q := 64) hT34 (tf hT34 rfl rfl) fd_8_77
  refine st_aload c247_43 rfl ?_
  refine st_getI c247_44 hT34 (tf hT34 rfl rfl) fd_8_77 (fun e40 e41 => ?_)
  refine st_ireturn c247_47 ?_
  exact hQ _ _ ⟨fI h33 64 77, rfl, by omega, PFeR_of (by omega) pf9 pf16 pf23 pf30 pf37 (by omega), hT34, hF38⟩
  refine st_iconst c247_13 ?_
  refine st_ireturn c247_15 ?_
  exact hQ _ _ ⟨(-3), rfl, by omega, Or.inl ⟨by omega, by omega, by omega, rfl⟩, hT, hF⟩
def W249 : List (Nat × Nat) := [(8, 77)]
set_option maxHeartbeats 0 in
theorem K249 {Ln : Nat} {xs : Nat → Int32} {τ : List Nat} {h : List mE} {E : EP} (hT : TH E τ h) (hS : Stb E W249) (p1 : Int) (hp1 : (-2147483648) ≤ p1 ∧ p1 ≤ 2147483647) (d : Nat) (hd : 1 ≤ d) (Q : Option Value → List mE → Prop) (hQ : ∀ v h', (∃ z : Int, v = some (vI z) ∧ ((-1) ≤ z ∧ z ≤ 200) ∧ ((0 ≤ p1 ∧ p1 ≤ fI h 64 77 ∧ z = p1 ∧ fI h' 64 77 = p1) ∨ ((p1 < 0 ∨ fI h 64 77 < p1) ∧ z = -1 ∧ fI h' 64 77 = fI h 64 77)) ∧ TH E τ h' ∧ Fr τ W249 h h') → Q v h') : MR (mex Ln xs) d 249 0 [some (.ref 64), some (vI p1)] [] h Q := by
  have hF := Fr_rf τ W249 h
  refine st_iload c249_0 rfl ?_
  refine st_iconst c249_1 ?_
  refine st_aload c249_2 rfl ?_
  refine st_getI c249_3 hT (tf hT rfl rfl) fd_8_77 (fun e1 e2 => ?_)
  refine st_calls (as := [vI p1, vI 0, vI (fI h 64 77)]) c249_6 cm_180 rfl rfl rfl rfl (by omega) (K180 hT p1 (by omega) 0 (by omega) (fI h 64 77) (by omega) (d - 1) (by omega) _ (fun v h0 H => H)) (fun v1 h1 H => ?_)
  rcases H with ⟨rfl, pf3, rfl⟩ | ⟨rfl, pf4, pf5, rfl⟩
  refine st_if_ne c249_9 (by omega) (fun k6 => False.elim (by omega)) (fun k7 => ?_)
  refine st_iconst c249_12 ?_
  refine st_ireturn c249_13 ?_
  exact hQ _ _ ⟨(-1), rfl, by omega, by omega, hT, hF⟩
  refine st_if_ne c249_9 (by omega) (fun k8 => ?_) (fun k9 => False.elim (by omega))
  refine st_aload c249_14 rfl ?_
  refine st_iload c249_15 rfl ?_
  refine st_putI c249_16 hT (tf hT rfl rfl) fd_8_77 (by omega) (by omega) (Ext_rf _) hS hF (by decide +kernel) (fun h10 hT11 hF12 hU13 => ?_)
  refine st_iload c249_19 rfl ?_
  refine st_ireturn c249_20 ?_
  have e14 := fI_bd (q := 64) hT11 (tf hT11 rfl rfl) fd_8_77
  have q15 : fI h10 64 77 = p1 := FUp_fI hU13 (by omega) (by omega)
  exact hQ _ _ ⟨p1, rfl, by omega, by omega, hT11, hF12⟩
set_option maxHeartbeats 0 in
theorem K250 {Ln : Nat} {xs : Nat → Int32} {τ : List Nat} {h : List mE} {E : EP} (hT : TH E τ h) (p0 : Int) (hp0 : (-2147483648) ≤ p0 ∧ p0 ≤ 2147483647) (d : Nat) (hd : 1 ≤ d) (Q : Option Value → List mE → Prop) (hQ : ∀ v h', ((v = some (vI 0) ∧ (p0 < 97 ∨ 122 < p0) ∧ h = h') ∨ (v = some (vI 1) ∧ (97≤p0) ∧ (p0≤122) ∧ h = h')) → Q v h') : MR (mex Ln xs) d 250 0 [some (vI p0)] [] h Q := by
  refine st_iload c250_0 rfl ?_
  refine st_iconst c250_1 ?_
  refine st_iconst c250_3 ?_
  refine st_calls (as := [vI p0, vI 97, vI 122]) c250_5 cm_180 rfl rfl rfl rfl (by omega) (K180 hT p0 (by omega) 97 (by omega) 122 (by omega) (d - 1) (by omega) _ (fun v h0 H => H)) (fun v1 h1 H => ?_)
  rcases H with ⟨rfl, pf1, rfl⟩ | ⟨rfl, pf2, pf3, rfl⟩
  refine st_zreturn c250_8 (by omega) ?_
  exact hQ _ _ (Or.inl ⟨rfl, by omega, rfl⟩)
  refine st_zreturn c250_8 (by omega) ?_
  exact hQ _ _ (Or.inr ⟨rfl, by omega, by omega, rfl⟩)
set_option maxHeartbeats 0 in
theorem K251 {Ln : Nat} {xs : Nat → Int32} {τ : List Nat} {h : List mE} {E : EP} (hT : TH E τ h) (p0 : Int) (hp0 : (-2147483648) ≤ p0 ∧ p0 ≤ 2147483647) (d : Nat) (hd : 1 ≤ d) (Q : Option Value → List mE → Prop) (hQ : ∀ v h', ((v = some (vI 0) ∧ (p0 < 48 ∨ 57 < p0) ∧ h = h') ∨ (v = some (vI 1) ∧ (48≤p0) ∧ (p0≤57) ∧ h = h')) → Q v h') : MR (mex Ln xs) d 251 0 [some (vI p0)] [] h Q := by
  refine st_iload c251_0 rfl ?_
  refine st_iconst c251_1 ?_
  refine st_iconst c251_3 ?_
  refine st_calls (as := [vI p0, vI 48, vI 57]) c251_5 cm_180 rfl rfl rfl rfl (by omega) (K180 hT p0 (by omega) 48 (by omega) 57 (by omega) (d - 1) (by omega) _ (fun v h0 H => H)) (fun v1 h1 H => ?_)
  rcases H with ⟨rfl, pf1, rfl⟩ | ⟨rfl, pf2, pf3, rfl⟩
  refine st_zreturn c251_8 (by omega) ?_
  exact hQ _ _ (Or.inl ⟨rfl, by omega, rfl⟩)
  refine st_zreturn c251_8 (by omega) ?_
  exact hQ _ _ (Or.inr ⟨rfl, by omega, by omega, rfl⟩)
def W252 : List (Nat × Nat) := [(8, 86), (8, 87), (8, 88), (8, 89)]
set_option maxHeartbeats 0 in
theorem K252 {S F P : Int → Int} {a : Int} {Ln : Nat} {xs : Nat → Int32} {τ : List Nat} {h : List mE} {E : EP} (hT : TH E τ h) (hS : Stb E W252) (pre0 : fI h 64 87≤fI h 64 77) (pre1 : NX S F P h a) (d : Nat) (hd : 2 ≤ d) (Q : Option Value → List mE → Prop) (hQ : ∀ v h', (v = none ∧ (fI h 64 87≤fI h' 64 86) ∧ (fI h' 64 86≤fI h' 64 87) ∧ (fI h' 64 87≤fI h 64 77) ∧ (fI h' 64 88 = 0 ∨ fI h' 64 86 + 1 ≤ fI h' 64 87) ∧ (CU S F P h' a) ∧ TH E τ h' ∧ Fr τ W252 h h') → Q v h') : MR (mex Ln xs) d 252 0 [some (.ref 64)] [] h Q := by
  have hF := Fr_rf τ W252 h
  have e1 := fI_bd (q := 64) hT (tf hT rfl rfl) fd_8_87
  have e2 := fI_bd (q := 64) hT (tf hT rfl rfl) fd_8_77
  refine st_aload c252_0 rfl ?_
  refine st_aload c252_1 rfl ?_
  refine st_getI c252_2 hT (tf hT rfl rfl) fd_8_87 (fun e3 e4 => ?_)
  refine st_putI c252_5 hT (tf hT rfl rfl) fd_8_86 (by omega) (by omega) (Ext_rf _) hS hF (by decide +kernel) (fun h5 hT6 hF7 hU8 => ?_)
  have lp37 : ∀ (n38 : Nat) (h33 : List mE), fI h33 64 77 - fI h33 64 86 < (n38 : Int) → fI h33 64 86 ≤ fI h33 64 77 → fI h33 64 87 ≤ fI h33 64 86 → fI h 64 87 ≤ fI h33 64 86 → BL h h33 (fI h 64 87) → TH E τ h33 → Fr τ W252 h h33 → Fr τ [(8, 86)] h5 h33 → MR (mex Ln xs) d 252 8 [some (.ref 64)] [] h33 Q := by
    intro n38
    induction n38 with
    | zero =>
      intro h33 hm40 x41 x42 x43 x44 hT34 hF35 hL36
      exfalso; omega
    | succ n38 ih39 =>
      intro h33 hm40 x41 x42 x43 x44 hT34 hF35 hL36
      have e45 := fI_bd (q := 64) hT34 (tf hT34 rfl rfl) fd_8_86
      have e46 := fI_bd (q := 64) hT34 (tf hT34 rfl rfl) fd_8_77
      have q47 : fI h33 64 77 = fI h 64 77 := (Fr_fI hL36 (tf hT6 rfl rfl) (by decide +kernel)).trans (FUp_fIne hU8 (fun z => absurd z.2 (by decide)))
      have e48 := fI_bd (q := 64) hT34 (tf hT34 rfl rfl) fd_8_87
      have q49 : fI h33 64 87 = fI h 64 87 := (Fr_fI hL36 (tf hT6 rfl rfl) (by decide +kernel)).trans (FUp_fIne hU8 (fun z => absurd z.2 (by decide)))
      refine st_aload c252_8 rfl ?_
      refine st_getI c252_9 hT34 (tf hT34 rfl rfl) fd_8_86 (fun e50 e51 => ?_)
      refine st_aload c252_12 rfl ?_
      refine st_getI c252_13 hT34 (tf hT34 rfl rfl) fd_8_77 (fun e52 e53 => ?_)
      have q54 : fI h33 64 77 = fI h 64 77 := (Fr_fI hL36 (tf hT6 rfl rfl) (by decide +kernel)).trans (FUp_fIne hU8 (fun z => absurd z.2 (by decide)))
      refine st_icmp_ge c252_16 (by omega) (by omega) (fun k55 => ?_) (fun k56 => ?_)
      refine st_aload c252_46 rfl ?_
      refine st_aload c252_47 rfl ?_
      refine st_getI c252_48 hT34 (tf hT34 rfl rfl) fd_8_86 (fun e57 e58 => ?_)
      refine st_putI c252_51 hT34 (tf hT34 rfl rfl) fd_8_87 (by omega) (by omega) (Ext_rf _) hS hF35 (by decide +kernel) (fun h59 hT60 hF61 hU62 => ?_)
      refine st_aload c252_54 rfl ?_
      refine st_getI c252_55 hT60 (tf hT60 rfl rfl) fd_8_86 (fun e63 e64 => ?_)
      have q65 : fI h59 64 86 = fI h33 64 86 := FUp_fIne hU62 (fun z => absurd z.2 (by decide))
      refine st_aload c252_58 rfl ?_
      refine st_getI c252_59 hT60 (tf hT60 rfl rfl) fd_8_77 (fun e66 e67 => ?_)
      have q68 : fI h59 64 77 = fI h33 64 77 := FUp_fIne hU62 (fun z => absurd z.2 (by decide))
      refine st_icmp_ne c252_62 (by omega) (by omega) (fun k69 => ?_) (fun k70 => ?_)
      refine st_aload c252_71 rfl ?_
      refine st_getX (u := 124) c252_72 hT60 (tf hT60 rfl rfl) fd_8_76 rfl ?_
      refine st_aload c252_75 rfl ?_
      refine st_getI c252_76 hT60 (tf hT60 rfl rfl) fd_8_86 (fun e71 e72 => ?_)
      have q73 : fI h59 64 86 = fI h33 64 86 := FUp_fIne hU62 (fun z => absurd z.2 (by decide))
      refine st_bald c252_79 hT60 (tf hT60 rfl rfl) ay_102 (Or.inr rfl) (by omega) (fun e74 e75 => ?_)
      have q76 : aI h59 124 (fI h59 64 86) = aI h 124 (fI h59 64 86) := (FUp_aI hU62 (fI h59 64 86)).trans ((Fr_aI hL36 (tf hT6 rfl rfl) (by decide +kernel) (fI h59 64 86)).trans (FUp_aI hU8 (fI h59 64 86)))
      refine st_calls (as := [vI (aI h59 124 (fI h59 64 86))]) c252_80 cm_250 rfl rfl rfl rfl (by omega) (K250 hT60 (aI h59 124 (fI h59 64 86)) (by omega) (d - 1) (by omega) _ (fun v h0 H => H)) (fun v1 h1 H => ?_)
      rcases H with ⟨rfl, pf77, rfl⟩ | ⟨rfl, pf78, pf79, rfl⟩
      refine st_if_eq c252_83 (by omega) (fun k80 => ?_) (fun k81 => False.elim (by omega))
      refine st_aload c252_131 rfl ?_
      refine st_getX (u := 124) c252_132 hT60 (tf hT60 rfl rfl) fd_8_76 rfl ?_
      refine st_aload c252_135 rfl ?_
      refine st_getI c252_136 hT60 (tf hT60 rfl rfl) fd_8_86 (fun e82 e83 => ?_)
      have q84 : fI h59 64 86 = fI h33 64 86 := FUp_fIne hU62 (fun z => absurd z.2 (by decide))
      refine st_bald c252_139 hT60 (tf hT60 rfl rfl) ay_102 (Or.inr rfl) (by omega) (fun e85 e86 => ?_)
      have q87 : aI h59 124 (fI h59 64 86) = aI h 124 (fI h59 64 86) := (FUp_aI hU62 (fI h59 64 86)).trans ((Fr_aI hL36 (tf hT6 rfl rfl) (by decide +kernel) (fI h59 64 86)).trans (FUp_aI hU8 (fI h59 64 86)))
      refine st_calls (as := [vI (aI h59 124 (fI h59 64 86))]) c252_140 cm_251 rfl rfl rfl rfl (by omega) (K251 hT60 (aI h59 124 (fI h59 64 86)) (by omega) (d - 1) (by omega) _ (fun v h0 H => H)) (fun v1 h1 H => ?_)
      rcases H with ⟨rfl, pf88, rfl⟩ | ⟨rfl, pf89, pf90, rfl⟩
      refine st_if_eq c252_143 (by omega) (fun k91 => ?_) (fun k92 => False.elim (by omega))
      refine st_aload c252_259 rfl ?_
      refine st_dup c252_260 rfl ?_
      refine st_getI c252_261 hT60 (tf hT60 rfl rfl) fd_8_87 (fun e93 e94 => ?_)
      have q95 : fI h59 64 87 = fI h33 64 86 := FUp_fI hU62 (by omega) (by omega)
      refine st_iconst c252_264 ?_
      refine st_iadd c252_265 ?_
      refine st_putI c252_266 hT60 (tf hT60 rfl rfl) fd_8_87 (by omega) (by omega) (Ext_rf _) hS hF61 (by decide +kernel) (fun h96 hT97 hF98 hU99 => ?_)
      refine st_aload c252_269 rfl ?_
      refine st_aload c252_270 rfl ?_
      refine st_getX (u := 124) c252_271 hT97 (tf hT97 rfl rfl) fd_8_76 rfl ?_
      refine st_aload c252_274 rfl ?_
      refine st_getI c252_275 hT97 (tf hT97 rfl rfl) fd_8_86 (fun e100 e101 => ?_)
      have q102 : fI h96 64 86 = fI h59 64 86 := FUp_fIne hU99 (fun z => absurd z.2 (by decide))
      refine st_bald c252_278 hT97 (tf hT97 rfl rfl) ay_102 (Or.inr rfl) (by omega) (fun e103 e104 => ?_)
      have q105 : aI h96 124 (fI h96 64 86) = aI h 124 (fI h96 64 86) := (FUp_aI hU99 (fI h96 64 86)).trans ((FUp_aI hU62 (fI h96 64 86)).trans ((Fr_aI hL36 (tf hT6 rfl rfl) (by decide +kernel) (fI h96 64 86)).trans (FUp_aI hU8 (fI h96 64 86))))
      refine st_iconst c252_279 ?_
      refine st_icmp_le c252_281 (by omega) (by omega) (fun k106 => ?_) (fun k107 => ?_)
      refine st_iconst c252_296 ?_
      refine st_putI c252_297 hT97 (tf hT97 rfl rfl) fd_8_88 (by omega) (by omega) (Ext_rf _) hS hF98 (by decide +kernel) (fun h108 hT109 hF110 hU111 => ?_)
      refine st_return c252_300 ?_
      have e112 := fI_bd (q := 64) hT109 (tf hT109 rfl rfl) fd_8_86
      have q113 : fI h108 64 86 = fI h96 64 86 := FUp_fIne hU111 (fun z => absurd z.2 (by decide))
      have e114 := fI_bd (q := 64) hT109 (tf hT109 rfl rfl) fd_8_87
      have q115 : fI h108 64 87 = (fI h59 64 87) + 1 := (FUp_fIne hU111 (fun z => absurd z.2 (by decide))).trans (FUp_fI hU99 (by omega) (by omega))
      have e116 := fI_bd (q := 64) hT109 (tf hT109 rfl rfl) fd_8_88
      have q117 : fI h108 64 88 = (-1) := FUp_fI hU111 (by omega) (by omega)
      have rq118 : fI h59 64 86 ≠ fI h108 64 86 ∨ aI h59 124 (fI h59 64 86) = aI h108 124 (fI h108 64 86) := by
        by_cases c : fI h59 64 86 = fI h108 64 86
        · refine Or.inr ?_
          rw [c]
          exact (Fr_aI hF61 (tf (q := 124) (t := 102) hT rfl rfl) (by decide +kernel) _).trans (Fr_aI hF110 (tf (q := 124) (t := 102) hT rfl rfl) (by decide +kernel) _).symm
        · exact Or.inl c
      have rq119 : fI h96 64 86 ≠ fI h108 64 86 ∨ aI h96 124 (fI h96 64 86) = aI h108 124 (fI h108 64 86) := by
        by_cases c : fI h96 64 86 = fI h108 64 86
        · refine Or.inr ?_
          rw [c]
          exact (Fr_aI hF98 (tf (q := 124) (t := 102) hT rfl rfl) (by decide +kernel) _).trans (Fr_aI hF110 (tf (q := 124) (t := 102) hT rfl rfl) (by decide +kernel) _).symm
        · exact Or.inl c
      have e120 := fI_bd (q := 64) hT109 (tf hT109 rfl rfl) fd_8_77
      have q121 : fI h108 64 77 = fI h59 64 77 := (FUp_fIne hU111 (fun z => absurd z.2 (by decide))).trans (FUp_fIne hU99 (fun z => absurd z.2 (by decide)))
      have e122 := fI_bd (q := 64) hT109 (tf hT109 rfl rfl) fd_8_90
      have q123 : fI h108 64 90 = fI h 64 90 := (FUp_fIne hU111 (fun z => absurd z.2 (by decide))).trans ((FUp_fIne hU99 (fun z => absurd z.2 (by decide))).trans ((FUp_fIne hU62 (fun z => absurd z.2 (by decide))).trans ((Fr_fI hL36 (tf hT6 rfl rfl) (by decide +kernel)).trans (FUp_fIne hU8 (fun z => absurd z.2 (by decide))))))
      have e124 := fI_bd (q := 64) hT (tf hT rfl rfl) fd_8_77
      have e125 := fI_bd (q := 64) hT (tf hT rfl rfl) fd_8_86
      have e126 := fI_bd (q := 64) hT (tf hT rfl rfl) fd_8_88
      have e127 := fI_bd (q := 64) hT (tf hT rfl rfl) fd_8_90
      have e128 := fI_bd (q := 64) hT34 (tf hT34 rfl rfl) fd_8_88
      have q129 : fI h33 64 88 = fI h 64 88 := (Fr_fI hL36 (tf hT6 rfl rfl) (by decide +kernel)).trans (FUp_fIne hU8 (fun z => absurd z.2 (by decide)))
      have e130 := fI_bd (q := 64) hT34 (tf hT34 rfl rfl) fd_8_90
      have q131 : fI h33 64 90 = fI h 64 90 := (Fr_fI hL36 (tf hT6 rfl rfl) (by decide +kernel)).trans (FUp_fIne hU8 (fun z => absurd z.2 (by decide)))
      have tg133 : TT h108 = TT h33 := (TT_fr hT hF110 (by decide +kernel)).trans (TT_fr hT hF35 (by decide +kernel)).symm
      have bl132 := BL_m x44 tg133 (by omega)
      have tt134 := TT_at hT109 (fI h108 64 86)
      have te135 : TT h108 = TT h := TT_fr hT hF110 (by decide +kernel)
      rw [te135] at tt134
      exact hQ _ _ ⟨rfl, by omega, by omega, by omega, by omega, NT_sig pre1 bl132 (by omega) (by omega) (by omega) (by intro k; have k : (97 : Int) ≤ TT h (fI h108 64 86) ∧ TT h (fI h108 64 86) ≤ 122 := k; omega) (by intro k; have k : (48 : Int) ≤ TT h (fI h108 64 86) ∧ TT h (fI h108 64 86) ≤ 57 := k; omega) (by omega) (by omega) (by omega), hT109, hF110⟩
      refine st_aload c252_284 rfl ?_
      refine st_getX (u := 124) c252_285 hT97 (tf hT97 rfl rfl) fd_8_76 rfl ?_
      refine st_aload c252_288 rfl ?_
      refine st_getI c252_289 hT97 (tf hT97 rfl rfl) fd_8_86 (fun e136 e137 => ?_)
      have q138 : fI h96 64 86 = fI h59 64 86 := FUp_fIne hU99 (fun z => absurd z.2 (by decide))
      refine st_bald c252_292 hT97 (tf hT97 rfl rfl) ay_102 (Or.inr rfl) (by omega) (fun e139 e140 => ?_)
      have q141 : aI h96 124 (fI h96 64 86) = aI h 124 (fI h96 64 86) := (FUp_aI hU99 (fI h96 64 86)).trans ((FUp_aI hU62 (fI h96 64 86)).trans ((Fr_aI hL36 (tf hT6 rfl rfl) (by decide +kernel) (fI h96 64 86)).trans (FUp_aI hU8 (fI h96 64 86))))
      refine st_goto c252_293 ?_
      refine st_putI c252_297 hT97 (tf hT97 rfl rfl) fd_8_88 (by omega) (by omega) (Ext_rf _) hS hF98 (by decide +kernel) (fun h142 hT143 hF144 hU145 => ?_)
      refine st_return c252_300 ?_
      have e146 := fI_bd (q := 64) hT143 (tf hT143 rfl rfl) fd_8_86
      have q147 : fI h142 64 86 = fI h96 64 86 := FUp_fIne hU145 (fun z => absurd z.2 (by decide))
      have e148 := fI_bd (q := 64) hT143 (tf hT143 rfl rfl) fd_8_87
      have q149 : fI h142 64 87 = (fI h59 64 87) + 1 := (FUp_fIne hU145 (fun z => absurd z.2 (by decide))).trans (FUp_fI hU99 (by omega) (by omega))
      have e150 := fI_bd (q := 64) hT143 (tf hT143 rfl rfl) fd_8_88
      have q151 : fI h142 64 88 = aI h96 124 (fI h96 64 86) := FUp_fI hU145 (by omega) (by omega)
      have rq152 : fI h59 64 86 ≠ fI h142 64 86 ∨ aI h59 124 (fI h59 64 86) = aI h142 124 (fI h142 64 86) := by
        by_cases c : fI h59 64 86 = fI h142 64 86
        · refine Or.inr ?_
          rw [c]
          exact (Fr_aI hF61 (tf (q := 124) (t := 102) hT rfl rfl) (by decide +kernel) _).trans (Fr_aI hF144 (tf (q := 124) (t := 102) hT rfl rfl) (by decide +kernel) _).symm
        · exact Or.inl c
      have rq153 : fI h96 64 86 ≠ fI h142 64 86 ∨ aI h96 124 (fI h96 64 86) = aI h142 124 (fI h142 64 86) := by
        by_cases c : fI h96 64 86 = fI h142 64 86
        · refine Or.inr ?_
          rw [c]
          exact (Fr_aI hF98 (tf (q := 124) (t := 102) hT rfl rfl) (by decide +kernel) _).trans (Fr_aI hF144 (tf (q := 124) (t := 102) hT rfl rfl) (by decide +kernel) _).symm
        · exact Or.inl c
      have e154 := fI_bd (q := 64) hT143 (tf hT143 rfl rfl) fd_8_77
      have q155 : fI h142 64 77 = fI h59 64 77 := (FUp_fIne hU145 (fun z => absurd z.2 (by decide))).trans (FUp_fIne hU99 (fun z => absurd z.2 (by decide)))
      have e156 := fI_bd (q := 64) hT143 (tf hT143 rfl rfl) fd_8_90
      have q157 : fI h142 64 90 = fI h 64 90 := (FUp_fIne hU145 (fun z => absurd z.2 (by decide))).trans ((FUp_fIne hU99 (fun z => absurd z.2 (by decide))).trans ((FUp_fIne hU62 (fun z => absurd z.2 (by decide))).trans ((Fr_fI hL36 (tf hT6 rfl rfl) (by decide +kernel)).trans (FUp_fIne hU8 (fun z => absurd z.2 (by decide))))))
      have e158 := fI_bd (q := 64) hT (tf hT rfl rfl) fd_8_77
      have e159 := fI_bd (q := 64) hT (tf hT rfl rfl) fd_8_86
      have e160 := fI_bd (q := 64) hT (tf hT rfl rfl) fd_8_88
      have e161 := fI_bd (q := 64) hT (tf hT rfl rfl) fd_8_90
      have e162 := fI_bd (q := 64) hT34 (tf hT34 rfl rfl) fd_8_88
      have q163 : fI h33 64 88 = fI h 64 88 := (Fr_fI hL36 (tf hT6 rfl rfl) (by decide +kernel)).trans (FUp_fIne hU8 (fun z => absurd z.2 (by decide)))
      have e164 := fI_bd (q := 64) hT34 (tf hT34 rfl rfl) fd_8_90
      have q165 : fI h33 64 90 = fI h 64 90 := (Fr_fI hL36 (tf hT6 rfl rfl) (by decide +kernel)).trans (FUp_fIne hU8 (fun z => absurd z.2 (by decide)))
      have tg167 : TT h142 = TT h33 := (TT_fr hT hF144 (by decide +kernel)).trans (TT_fr hT hF35 (by decide +kernel)).symm
      have bl166 := BL_m x44 tg167 (by omega)
      have tt168 := TT_at hT143 (fI h142 64 86)
      have te169 : TT h142 = TT h := TT_fr hT hF144 (by decide +kernel)
      rw [te169] at tt168
      exact hQ _ _ ⟨rfl, by omega, by omega, by omega, by omega, NT_sig pre1 bl166 (by omega) (by omega) (by omega) (by intro k; have k : (97 : Int) ≤ TT h (fI h142 64 86) ∧ TT h (fI h142 64 86) ≤ 122 := k; omega) (by intro k; have k : (48 : Int) ≤ TT h (fI h142 64 86) ∧ TT h (fI h142 64 86) ≤ 57 := k; omega) (by omega) (by omega) (by omega), hT143, hF144⟩
      refine st_if_eq c252_143 (by omega) (fun k170 => False.elim (by omega)) (fun k171 => ?_)
      refine st_aload c252_146 rfl ?_
      refine st_iconst c252_147 ?_
      refine st_putI c252_148 hT60 (tf hT60 rfl rfl) fd_8_89 (by omega) (by omega) (Ext_rf _) hS hF61 (by decide +kernel) (fun h172 hT173 hF174 hU175 => ?_)
      have lp253 : ∀ (n254 : Nat) (h249 : List mE), fI h249 64 77 - fI h249 64 87 < (n254 : Int) → fI h249 64 87 ≤ fI h249 64 77 → fI h249 64 86 ≤ fI h249 64 87 → fI h249 64 86+1 ≤ fI h249 64 77 → fI h249 64 86 + 1 ≤ fI h249 64 87 ∨ (48 ≤ aI h249 124 (fI h249 64 87) ∧ aI h249 124 (fI h249 64 87) ≤ 57) → fI h 64 87 ≤ fI h249 64 86 → fI h249 64 77 = fI h 64 77 → BL h h249 (fI h 64 87) → RU (fun i => isD (TT h i)) h249 → TH E τ h249 → Fr τ W252 h h249 → Fr τ [(8, 87), (8, 89)] h172 h249 → MR (mex Ln xs) d 252 151 [some (.ref 64)] [] h249 Q := by
        intro n254
        induction n254 with
        | zero =>
          intro h249 hm256 x257 x258 x259 x260 x261 x262 x263 x264 hT250 hF251 hL252
          exfalso; omega
        | succ n254 ih255 =>
          intro h249 hm256 x257 x258 x259 x260 x261 x262 x263 x264 hT250 hF251 hL252
          have e265 := fI_bd (q := 64) hT250 (tf hT250 rfl rfl) fd_8_87
          have e266 := fI_bd (q := 64) hT250 (tf hT250 rfl rfl) fd_8_77
          have q267 : fI h249 64 77 = fI h59 64 77 := (Fr_fI hL252 (tf hT173 rfl rfl) (by decide +kernel)).trans (FUp_fIne hU175 (fun z => absurd z.2 (by decide)))
          have e268 := fI_bd (q := 64) hT250 (tf hT250 rfl rfl) fd_8_86
          have q269 : fI h249 64 86 = fI h59 64 86 := (Fr_fI hL252 (tf hT173 rfl rfl) (by decide +kernel)).trans (FUp_fIne hU175 (fun z => absurd z.2 (by decide)))
          refine st_aload c252_151 rfl ?_
          refine st_getI c252_152 hT250 (tf hT250 rfl rfl) fd_8_87 (fun e270 e271 => ?_)
          refine st_aload c252_155 rfl ?_
          refine st_getI c252_156 hT250 (tf hT250 rfl rfl) fd_8_77 (fun e272 e273 => ?_)
          have q274 : fI h249 64 77 = fI h59 64 77 := (Fr_fI hL252 (tf hT173 rfl rfl) (by decide +kernel)).trans (FUp_fIne hU175 (fun z => absurd z.2 (by decide)))
          refine st_icmp_ge c252_159 (by omega) (by omega) (fun k275 => ?_) (fun k276 => ?_)
          refine st_aload c252_235 rfl ?_
          refine st_aload c252_236 rfl ?_
          refine st_getI c252_237 hT250 (tf hT250 rfl rfl) fd_8_87 (fun e277 e278 => ?_)
          refine st_aload c252_240 rfl ?_
          refine st_getI c252_241 hT250 (tf hT250 rfl rfl) fd_8_86 (fun e279 e280 => ?_)
          have q281 : fI h249 64 86 = fI h59 64 86 := (Fr_fI hL252 (tf hT173 rfl rfl) (by decide +kernel)).trans (FUp_fIne hU175 (fun z => absurd z.2 (by decide)))
          refine st_isub c252_244 ?_
          refine st_iconst c252_245 ?_
          refine st_icmp_le c252_247 (by omega) (by omega) (fun k282 => ?_) (fun k283 => ?_)
          refine st_iconst c252_254 ?_
          refine st_putI c252_255 hT250 (tf hT250 rfl rfl) fd_8_88 (by omega) (by omega) (Ext_rf _) hS hF251 (by decide +kernel) (fun h284 hT285 hF286 hU287 => ?_)
          refine st_return c252_258 ?_
          have e288 := fI_bd (q := 64) hT285 (tf hT285 rfl rfl) fd_8_86
          have q289 : fI h284 64 86 = fI h249 64 86 := FUp_fIne hU287 (fun z => absurd z.2 (by decide))
          have e290 := fI_bd (q := 64) hT285 (tf hT285 rfl rfl) fd_8_87
          have q291 : fI h284 64 87 = fI h249 64 87 := FUp_fIne hU287 (fun z => absurd z.2 (by decide))
          have e292 := fI_bd (q := 64) hT285 (tf hT285 rfl rfl) fd_8_88
          have q293 : fI h284 64 88 = 2 := FUp_fI hU287 (by omega) (by omega)
          have rq294 : fI h59 64 86 ≠ fI h284 64 86 ∨ aI h59 124 (fI h59 64 86) = aI h284 124 (fI h284 64 86) := by
            by_cases c : fI h59 64 86 = fI h284 64 86
            · refine Or.inr ?_
              rw [c]
              exact (Fr_aI hF61 (tf (q := 124) (t := 102) hT rfl rfl) (by decide +kernel) _).trans (Fr_aI hF286 (tf (q := 124) (t := 102) hT rfl rfl) (by decide +kernel) _).symm
            · exact Or.inl c
          have e295 := fI_bd (q := 64) hT285 (tf hT285 rfl rfl) fd_8_77
          have q296 : fI h284 64 77 = fI h249 64 77 := FUp_fIne hU287 (fun z => absurd z.2 (by decide))
          have e297 := fI_bd (q := 64) hT285 (tf hT285 rfl rfl) fd_8_90
          have q298 : fI h284 64 90 = fI h 64 90 := (FUp_fIne hU287 (fun z => absurd z.2 (by decide))).trans ((Fr_fI hL252 (tf hT173 rfl rfl) (by decide +kernel)).trans ((FUp_fIne hU175 (fun z => absurd z.2 (by decide))).trans ((FUp_fIne hU62 (fun z => absurd z.2 (by decide))).trans ((Fr_fI hL36 (tf hT6 rfl rfl) (by decide +kernel)).trans (FUp_fIne hU8 (fun z => absurd z.2 (by decide)))))))
          have e299 := fI_bd (q := 64) hT (tf hT rfl rfl) fd_8_77
          have e300 := fI_bd (q := 64) hT (tf hT rfl rfl) fd_8_86
          have e301 := fI_bd (q := 64) hT (tf hT rfl rfl) fd_8_88
          have e302 := fI_bd (q := 64) hT (tf hT rfl rfl) fd_8_90
          have e303 := fI_bd (q := 64) hT250 (tf hT250 rfl rfl) fd_8_88
          have q304 : fI h249 64 88 = fI h 64 88 := (Fr_fI hL252 (tf hT173 rfl rfl) (by decide +kernel)).trans ((FUp_fIne hU175 (fun z => absurd z.2 (by decide))).trans ((FUp_fIne hU62 (fun z => absurd z.2 (by decide))).trans ((Fr_fI hL36 (tf hT6 rfl rfl) (by decide +kernel)).trans (FUp_fIne hU8 (fun z => absurd z.2 (by decide))))))
          have e305 := fI_bd (q := 64) hT250 (tf hT250 rfl rfl) fd_8_90
          have q306 : fI h249 64 90 = fI h 64 90 := (Fr_fI hL252 (tf hT173 rfl rfl) (by decide +kernel)).trans ((FUp_fIne hU175 (fun z => absurd z.2 (by decide))).trans ((FUp_fIne hU62 (fun z => absurd z.2 (by decide))).trans ((Fr_fI hL36 (tf hT6 rfl rfl) (by decide +kernel)).trans (FUp_fIne hU8 (fun z => absurd z.2 (by decide))))))
          have tg308 : TT h284 = TT h249 := (TT_fr hT hF286 (by decide +kernel)).trans (TT_fr hT hF251 (by decide +kernel)).symm
          have bl307 := BL_m x263 tg308 (by omega)
          have tt309 := TT_at hT285 (fI h284 64 86)
          have te310 : TT h284 = TT h := TT_fr hT hF286 (by decide +kernel)
          rw [te310] at tt309
          have ru311 : RU (fun i => isD (TT h i)) h284 := fun j a b => x264 j (by omega) (by omega)
          have tt312 := TT_at hT285 (fI h284 64 87)
          have te313 : TT h284 = TT h := TT_fr hT hF286 (by decide +kernel)
          rw [te313] at tt312
          have sq314 : fI h284 64 87 = fI h 64 77 ∨ ¬ isD (TT h (fI h284 64 87)) := by
            by_cases c : fI h284 64 87 = fI h 64 77
            · exact Or.inl c
            · exact Or.inr (by intro k; have k : (48 : Int) ≤ TT h (fI h284 64 87) ∧ TT h (fI h284 64 87) ≤ 57 := k; omega)
          exact hQ _ _ ⟨rfl, by omega, by omega, by omega, by omega, NT_dig pre1 bl307 (by omega) (by omega) (by omega) (show 48 ≤ TT h (fI h284 64 86) ∧ TT h (fI h284 64 86) ≤ 57 by omega) ru311 (by omega) (by omega) sq314 (by omega), hT285, hF286⟩
          refine st_iconst c252_250 ?_
          refine st_goto c252_251 ?_
          refine st_putI c252_255 hT250 (tf hT250 rfl rfl) fd_8_88 (by omega) (by omega) (Ext_rf _) hS hF251 (by decide +kernel) (fun h315 hT316 hF317 hU318 => ?_)
          refine st_return c252_258 ?_
          have e319 := fI_bd (q := 64) hT316 (tf hT316 rfl rfl) fd_8_86
          have q320 : fI h315 64 86 = fI h249 64 86 := FUp_fIne hU318 (fun z => absurd z.2 (by decide))
          have e321 := fI_bd (q := 64) hT316 (tf hT316 rfl rfl) fd_8_87
          have q322 : fI h315 64 87 = fI h249 64 87 := FUp_fIne hU318 (fun z => absurd z.2 (by decide))
          have e323 := fI_bd (q := 64) hT316 (tf hT316 rfl rfl) fd_8_88
          have q324 : fI h315 64 88 = (-1) := FUp_fI hU318 (by omega) (by omega)
          have rq325 : fI h59 64 86 ≠ fI h315 64 86 ∨ aI h59 124 (fI h59 64 86) = aI h315 124 (fI h315 64 86) := by
            by_cases c : fI h59 64 86 = fI h315 64 86
            · refine Or.inr ?_
              rw [c]
              exact (Fr_aI hF61 (tf (q := 124) (t := 102) hT rfl rfl) (by decide +kernel) _).trans (Fr_aI hF317 (tf (q := 124) (t := 102) hT rfl rfl) (by decide +kernel) _).symm
            · exact Or.inl c
          have e326 := fI_bd (q := 64) hT316 (tf hT316 rfl rfl) fd_8_77
          have q327 : fI h315 64 77 = fI h249 64 77 := FUp_fIne hU318 (fun z => absurd z.2 (by decide))
          have e328 := fI_bd (q := 64) hT316 (tf hT316 rfl rfl) fd_8_90
          have q329 : fI h315 64 90 = fI h 64 90 := (FUp_fIne hU318 (fun z => absurd z.2 (by decide))).trans ((Fr_fI hL252 (tf hT173 rfl rfl) (by decide +kernel)).trans ((FUp_fIne hU175 (fun z => absurd z.2 (by decide))).trans ((FUp_fIne hU62 (fun z => absurd z.2 (by decide))).trans ((Fr_fI hL36 (tf hT6 rfl rfl) (by decide +kernel)).trans (FUp_fIne hU8 (fun z => absurd z.2 (by decide)))))))
          have e330 := fI_bd (q := 64) hT (tf hT rfl rfl) fd_8_77
          have e331 := fI_bd (q := 64) hT (tf hT rfl rfl) fd_8_86
          have e332 := fI_bd (q := 64) hT (tf hT rfl rfl) fd_8_88
          have e333 := fI_bd (q := 64) hT (tf hT rfl rfl) fd_8_90
          have e334 := fI_bd (q := 64) hT250 (tf hT250 rfl rfl) fd_8_88
          have q335 : fI h249 64 88 = fI h 64 88 := (Fr_fI hL252 (tf hT173 rfl rfl) (by decide +kernel)).trans ((FUp_fIne hU175 (fun z => absurd z.2 (by decide))).trans ((FUp_fIne hU62 (fun z => absurd z.2 (by decide))).trans ((Fr_fI hL36 (tf hT6 rfl rfl) (by decide +kernel)).trans (FUp_fIne hU8 (fun z => absurd z.2 (by decide))))))
          have e336 := fI_bd (q := 64) hT250 (tf hT250 rfl rfl) fd_8_90
          have q337 : fI h249 64 90 = fI h 64 90 := (Fr_fI hL252 (tf hT173 rfl rfl) (by decide +kernel)).trans ((FUp_fIne hU175 (fun z => absurd z.2 (by decide))).trans ((FUp_fIne hU62 (fun z => absurd z.2 (by decide))).trans ((Fr_fI hL36 (tf hT6 rfl rfl) (by decide +kernel)).trans (FUp_fIne hU8 (fun z => absurd z.2 (by decide))))))
          have tg339 : TT h315 = TT h249 := (TT_fr hT hF317 (by decide +kernel)).trans (TT_fr hT hF251 (by decide +kernel)).symm
          have bl338 := BL_m x263 tg339 (by omega)
          have tt340 := TT_at hT316 (fI h315 64 86)
          have te341 : TT h315 = TT h := TT_fr hT hF317 (by decide +kernel)
          rw [te341] at tt340
          have ru342 : RU (fun i => isD (TT h i)) h315 := fun j a b => x264 j (by omega) (by omega)
          have tt343 := TT_at hT316 (fI h315 64 87)
          have te344 : TT h315 = TT h := TT_fr hT hF317 (by decide +kernel)
          rw [te344] at tt343
          have sq345 : fI h315 64 87 = fI h 64 77 ∨ ¬ isD (TT h (fI h315 64 87)) := by
            by_cases c : fI h315 64 87 = fI h 64 77
            · exact Or.inl c
            · exact Or.inr (by intro k; have k : (48 : Int) ≤ TT h (fI h315 64 87) ∧ TT h (fI h315 64 87) ≤ 57 := k; omega)
          exact hQ _ _ ⟨rfl, by omega, by omega, by omega, by omega, NT_dig pre1 bl338 (by omega) (by omega) (by omega) (show 48 ≤ TT h (fI h315 64 86) ∧ TT h (fI h315 64 86) ≤ 57 by omega) ru342 (by omega) (by omega) sq345 (by omega), hT316, hF317⟩
          refine st_aload c252_162 rfl ?_
          refine st_getX (u := 124) c252_163 hT250 (tf hT250 rfl rfl) fd_8_76 rfl ?_
          refine st_aload c252_166 rfl ?_
          refine st_getI c252_167 hT250 (tf hT250 rfl rfl) fd_8_87 (fun e346 e347 => ?_)
          refine st_bald c252_170 hT250 (tf hT250 rfl rfl) ay_102 (Or.inr rfl) (by omega) (fun e348 e349 => ?_)
          have q350 : aI h249 124 (fI h249 64 87) = aI h 124 (fI h249 64 87) := (Fr_aI hL252 (tf hT173 rfl rfl) (by decide +kernel) (fI h249 64 87)).trans ((FUp_aI hU175 (fI h249 64 87)).trans ((FUp_aI hU62 (fI h249 64 87)).trans ((Fr_aI hL36 (tf hT6 rfl rfl) (by decide +kernel) (fI h249 64 87)).trans (FUp_aI hU8 (fI h249 64 87)))))
          refine st_calls (as := [vI (aI h249 124 (fI h249 64 87))]) c252_171 cm_251 rfl rfl rfl rfl (by omega) (K251 hT250 (aI h249 124 (fI h249 64 87)) (by omega) (d - 1) (by omega) _ (fun v h0 H => H)) (fun v1 h1 H => ?_)
          rcases H with ⟨rfl, pf351, rfl⟩ | ⟨rfl, pf352, pf353, rfl⟩
          refine st_if_eq c252_174 (by omega) (fun k354 => ?_) (fun k355 => False.elim (by omega))
          refine st_aload c252_235 rfl ?_
          refine st_aload c252_236 rfl ?_
          refine st_getI c252_237 hT250 (tf hT250 rfl rfl) fd_8_87 (fun e356 e357 => ?_)
          refine st_aload c252_240 rfl ?_
          refine st_getI c252_241 hT250 (tf hT250 rfl rfl) fd_8_86 (fun e358 e359 => ?_)
          have q360 : fI h249 64 86 = fI h59 64 86 := (Fr_fI hL252 (tf hT173 rfl rfl) (by decide +kernel)).trans (FUp_fIne hU175 (fun z => absurd z.2 (by decide)))
          refine st_isub c252_244 ?_
          refine st_iconst c252_245 ?_
          refine st_icmp_le c252_247 (by omega) (by omega) (fun k361 => ?_) (fun k362 => ?_)
          refine st_iconst c252_254 ?_
          refine st_putI c252_255 hT250 (tf hT250 rfl rfl) fd_8_88 (by omega) (by omega) (Ext_rf _) hS hF251 (by decide +kernel) (fun h363 hT364 hF365 hU366 => ?_)
          refine st_return c252_258 ?_
          have e367 := fI_bd (q := 64) hT364 (tf hT364 rfl rfl) fd_8_86
          have q368 : fI h363 64 86 = fI h249 64 86 := FUp_fIne hU366 (fun z => absurd z.2 (by decide))
          have e369 := fI_bd (q := 64) hT364 (tf hT364 rfl rfl) fd_8_87
          have q370 : fI h363 64 87 = fI h249 64 87 := FUp_fIne hU366 (fun z => absurd z.2 (by decide))
          have e371 := fI_bd (q := 64) hT364 (tf hT364 rfl rfl) fd_8_88
          have q372 : fI h363 64 88 = 2 := FUp_fI hU366 (by omega) (by omega)
          have rq373 : fI h59 64 86 ≠ fI h363 64 86 ∨ aI h59 124 (fI h59 64 86) = aI h363 124 (fI h363 64 86) := by
            by_cases c : fI h59 64 86 = fI h363 64 86
            · refine Or.inr ?_
              rw [c]
              exact (Fr_aI hF61 (tf (q := 124) (t := 102) hT rfl rfl) (by decide +kernel) _).trans (Fr_aI hF365 (tf (q := 124) (t := 102) hT rfl rfl) (by decide +kernel) _).symm
            · exact Or.inl c
          have rq374 : fI h249 64 87 ≠ fI h363 64 87 ∨ aI h249 124 (fI h249 64 87) = aI h363 124 (fI h363 64 87) := by
            by_cases c : fI h249 64 87 = fI h363 64 87
            · refine Or.inr ?_
              rw [c]
              exact (Fr_aI hF251 (tf (q := 124) (t := 102) hT rfl rfl) (by decide +kernel) _).trans (Fr_aI hF365 (tf (q := 124) (t := 102) hT rfl rfl) (by decide +kernel) _).symm
            · exact Or.inl c
          have e375 := fI_bd (q := 64) hT364 (tf hT364 rfl rfl) fd_8_77
          have q376 : fI h363 64 77 = fI h249 64 77 := FUp_fIne hU366 (fun z => absurd z.2 (by decide))
          have e377 := fI_bd (q := 64) hT364 (tf hT364 rfl rfl) fd_8_90
          have q378 : fI h363 64 90 = fI h 64 90 := (FUp_fIne hU366 (fun z => absurd z.2 (by decide))).trans ((Fr_fI hL252 (tf hT173 rfl rfl) (by decide +kernel)).trans ((FUp_fIne hU175 (fun z => absurd z.2 (by decide))).trans ((FUp_fIne hU62 (fun z => absurd z.2 (by decide))).trans ((Fr_fI hL36 (tf hT6 rfl rfl) (by decide +kernel)).trans (FUp_fIne hU8 (fun z => absurd z.2 (by decide)))))))
          have e379 := fI_bd (q := 64) hT (tf hT rfl rfl) fd_8_77
          have e380 := fI_bd (q := 64) hT (tf hT rfl rfl) fd_8_86
          have e381 := fI_bd (q := 64) hT (tf hT rfl rfl) fd_8_88
          have e382 := fI_bd (q := 64) hT (tf hT rfl rfl) fd_8_90
          have e383 := fI_bd (q := 64) hT250 (tf hT250 rfl rfl) fd_8_88
          have q384 : fI h249 64 88 = fI h 64 88 := (Fr_fI hL252 (tf hT173 rfl rfl) (by decide +kernel)).trans ((FUp_fIne hU175 (fun z => absurd z.2 (by decide))).trans ((FUp_fIne hU62 (fun z => absurd z.2 (by decide))).trans ((Fr_fI hL36 (tf hT6 rfl rfl) (by decide +kernel)).trans (FUp_fIne hU8 (fun z => absurd z.2 (by decide))))))
          have e385 := fI_bd (q := 64) hT250 (tf hT250 rfl rfl) fd_8_90
          have q386 : fI h249 64 90 = fI h 64 90 := (Fr_fI hL252 (tf hT173 rfl rfl) (by decide +kernel)).trans ((FUp_fIne hU175 (fun z => absurd z.2 (by decide))).trans ((FUp_fIne hU62 (fun z => absurd z.2 (by decide))).trans ((Fr_fI hL36 (tf hT6 rfl rfl) (by decide +kernel)).trans (FUp_fIne hU8 (fun z => absurd z.2 (by decide))))))
          have tg388 : TT h363 = TT h249 := (TT_fr hT hF365 (by decide +kernel)).trans (TT_fr hT hF251 (by decide +kernel)).symm
          have bl387 := BL_m x263 tg388 (by omega)
          have tt389 := TT_at hT364 (fI h363 64 86)
          have te390 : TT h363 = TT h := TT_fr hT hF365 (by decide +kernel)
          rw [te390] at tt389
          have ru391 : RU (fun i => isD (TT h i)) h363 := fun j a b => x264 j (by omega) (by omega)
          have tt392 := TT_at hT364 (fI h363 64 87)
          have te393 : TT h363 = TT h := TT_fr hT hF365 (by decide +kernel)
          rw [te393] at tt392
          have sq394 : fI h363 64 87 = fI h 64 77 ∨ ¬ isD (TT h (fI h363 64 87)) := by
            by_cases c : fI h363 64 87 = fI h 64 77
            · exact Or.inl c
            · exact Or.inr (by intro k; have k : (48 : Int) ≤ TT h (fI h363 64 87) ∧ TT h (fI h363 64 87) ≤ 57 := k; omega)
          exact hQ _ _ ⟨rfl, by omega, by omega, by omega, by omega, NT_dig pre1 bl387 (by omega) (by omega) (by omega) (show 48 ≤ TT h (fI h363 64 86) ∧ TT h (fI h363 64 86) ≤ 57 by omega) ru391 (by omega) (by omega) sq394 (by omega), hT364, hF365⟩
          refine st_iconst c252_250 ?_
          refine st_goto c252_251 ?_
          refine st_putI c252_255 hT250 (tf hT250 rfl rfl) fd_8_88 (by omega) (by omega) (Ext_rf _) hS hF251 (by decide +kernel) (fun h395 hT396 hF397 hU398 => ?_)
          refine st_return c252_258 ?_
          have e399 := fI_bd (q := 64) hT396 (tf hT396 rfl rfl) fd_8_86
          have q400 : fI h395 64 86 = fI h249 64 86 := FUp_fIne hU398 (fun z => absurd z.2 (by decide))
          have e401 := fI_bd (q := 64) hT396 (tf hT396 rfl rfl) fd_8_87
          have q402 : fI h395 64 87 = fI h249 64 87 := FUp_fIne hU398 (fun z => absurd z.2 (by decide))
          have e403 := fI_bd (q := 64) hT396 (tf hT396 rfl rfl) fd_8_88
          have q404 : fI h395 64 88 = (-1) := FUp_fI hU398 (by omega) (by omega)
          have rq405 : fI h59 64 86 ≠ fI h395 64 86 ∨ aI h59 124 (fI h59 64 86) = aI h395 124 (fI h395 64 86) := by
            by_cases c : fI h59 64 86 = fI h395 64 86
            · refine Or.inr ?_
              rw [c]
              exact (Fr_aI hF61 (tf (q := 124) (t := 102) hT rfl rfl) (by decide +kernel) _).trans (Fr_aI hF397 (tf (q := 124) (t := 102) hT rfl rfl) (by decide +kernel) _).symm
            · exact Or.inl c
          have rq406 : fI h249 64 87 ≠ fI h395 64 87 ∨ aI h249 124 (fI h249 64 87) = aI h395 124 (fI h395 64 87) := by
            by_cases c : fI h249 64 87 = fI h395 64 87
            · refine Or.inr ?_
              rw [c]
              exact (Fr_aI hF251 (tf (q := 124) (t := 102) hT rfl rfl) (by decide +kernel) _).trans (Fr_aI hF397 (tf (q := 124) (t := 102) hT rfl rfl) (by decide +kernel) _).symm
            · exact Or.inl c
          have e407 := fI_bd (q := 64) hT396 (tf hT396 rfl rfl) fd_8_77
          have q408 : fI h395 64 77 = fI h249 64 77 := FUp_fIne hU398 (fun z => absurd z.2 (by decide))
          have e409 := fI_bd (q := 64) hT396 (tf hT396 rfl rfl) fd_8_90
          have q410 : fI h395 64 90 = fI h 64 90 := (FUp_fIne hU398 (fun z => absurd z.2 (by decide))).trans ((Fr_fI hL252 (tf hT173 rfl rfl) (by decide +kernel)).trans ((FUp_fIne hU175 (fun z => absurd z.2 (by decide))).trans ((FUp_fIne hU62 (fun z => absurd z.2 (by decide))).trans ((Fr_fI hL36 (tf hT6 rfl rfl) (by decide +kernel)).trans (FUp_fIne hU8 (fun z => absurd z.2 (by decide)))))))
          have e411 := fI_bd (q := 64) hT (tf hT rfl rfl) fd_8_77
          have e412 := fI_bd (q := 64) hT (tf hT rfl rfl) fd_8_86
          have e413 := fI_bd (q := 64) hT (tf hT rfl rfl) fd_8_88
          have e414 := fI_bd (q := 64) hT (tf hT rfl rfl) fd_8_90
          have e415 := fI_bd (q := 64) hT250 (tf hT250 rfl rfl) fd_8_88
          have q416 : fI h249 64 88 = fI h 64 88 := (Fr_fI hL252 (tf hT173 rfl rfl) (by decide +kernel)).trans ((FUp_fIne hU175 (fun z => absurd z.2 (by decide))).trans ((FUp_fIne hU62 (fun z => absurd z.2 (by decide))).trans ((Fr_fI hL36 (tf hT6 rfl rfl) (by decide +kernel)).trans (FUp_fIne hU8 (fun z => absurd z.2 (by decide))))))
          have e417 := fI_bd (q := 64) hT250 (tf hT250 rfl rfl) fd_8_90
          have q418 : fI h249 64 90 = fI h 64 90 := (Fr_fI hL252 (tf hT173 rfl rfl) (by decide +kernel)).trans ((FUp_fIne hU175 (fun z => absurd z.2 (by decide))).trans ((FUp_fIne hU62 (fun z => absurd z.2 (by decide))).trans ((Fr_fI hL36 (tf hT6 rfl rfl) (by decide +kernel)).trans (FUp_fIne hU8 (fun z => absurd z.2 (by decide))))))
          have tg420 : TT h395 = TT h249 := (TT_fr hT hF397 (by decide +kernel)).trans (TT_fr hT hF251 (by decide +kernel)).symm
          have bl419 := BL_m x263 tg420 (by omega)
          have tt421 := TT_at hT396 (fI h395 64 86)
          have te422 : TT h395 = TT h := TT_fr hT hF397 (by decide +kernel)
          rw [te422] at tt421
          have ru423 : RU (fun i => isD (TT h i)) h395 := fun j a b => x264 j (by omega) (by omega)
          have tt424 := TT_at hT396 (fI h395 64 87)
          have te425 : TT h395 = TT h := TT_fr hT hF397 (by decide +kernel)
          rw [te425] at tt424
          have sq426 : fI h395 64 87 = fI h 64 77 ∨ ¬ isD (TT h (fI h395 64 87)) := by
            by_cases c : fI h395 64 87 = fI h 64 77
            · exact Or.inl c
            · exact Or.inr (by intro k; have k : (48 : Int) ≤ TT h (fI h395 64 87) ∧ TT h (fI h395 64 87) ≤ 57 := k; omega)
          exact hQ _ _ ⟨rfl, by omega, by omega, by omega, by omega, NT_dig pre1 bl419 (by omega) (by omega) (by omega) (show 48 ≤ TT h (fI h395 64 86) ∧ TT h (fI h395 64 86) ≤ 57 by omega) ru423 (by omega) (by omega) sq426 (by omega), hT396, hF397⟩
          refine st_if_eq c252_174 (by omega) (fun k427 => False.elim (by omega)) (fun k428 => ?_)
          refine st_aload c252_177 rfl ?_
          refine st_aload c252_178 rfl ?_
          refine st_getI c252_179 hT250 (tf hT250 rfl rfl) fd_8_87 (fun e429 e430 => ?_)
          refine st_aload c252_182 rfl ?_
          refine st_getI c252_183 hT250 (tf hT250 rfl rfl) fd_8_86 (fun e431 e432 => ?_)
          have q433 : fI h249 64 86 = fI h59 64 86 := (Fr_fI hL252 (tf hT173 rfl rfl) (by decide +kernel)).trans (FUp_fIne hU175 (fun z => absurd z.2 (by decide)))
          refine st_isub c252_186 ?_
          refine st_iconst c252_187 ?_
          refine st_icmp_ge c252_189 (by omega) (by omega) (fun k434 => ?_) (fun k435 => ?_)
          refine st_aload c252_215 rfl ?_
          refine st_getI c252_216 hT250 (tf hT250 rfl rfl) fd_8_89 (fun e436 e437 => ?_)
          refine st_putI c252_219 hT250 (tf hT250 rfl rfl) fd_8_89 (by omega) (by omega) (Ext_rf _) hS hF251 (by decide +kernel) (fun h438 hT439 hF440 hU441 => ?_)
          refine st_aload c252_222 rfl ?_
          refine st_dup c252_223 rfl ?_
          refine st_getI c252_224 hT439 (tf hT439 rfl rfl) fd_8_87 (fun e442 e443 => ?_)
          have q444 : fI h438 64 87 = fI h249 64 87 := FUp_fIne hU441 (fun z => absurd z.2 (by decide))
          refine st_iconst c252_227 ?_
          refine st_iadd c252_228 ?_
          refine st_putI c252_229 hT439 (tf hT439 rfl rfl) fd_8_87 (by omega) (by omega) (Ext_rf _) hS hF440 (by decide +kernel) (fun h445 hT446 hF447 hU448 => ?_)
          refine st_goto c252_232 ?_
          have e449 := fI_bd (q := 64) hT446 (tf hT446 rfl rfl) fd_8_87
          have q450 : fI h445 64 87 = (fI h438 64 87) + 1 := FUp_fI hU448 (by omega) (by omega)
          have e451 := fI_bd (q := 64) hT446 (tf hT446 rfl rfl) fd_8_77
          have q452 : fI h445 64 77 = fI h249 64 77 := (FUp_fIne hU448 (fun z => absurd z.2 (by decide))).trans (FUp_fIne hU441 (fun z => absurd z.2 (by decide)))
          have e453 := fI_bd (q := 64) hT446 (tf hT446 rfl rfl) fd_8_86
          have q454 : fI h445 64 86 = fI h249 64 86 := (FUp_fIne hU448 (fun z => absurd z.2 (by decide))).trans (FUp_fIne hU441 (fun z => absurd z.2 (by decide)))
          have e455 := fI_bd (q := 64) hT446 (tf hT446 rfl rfl) fd_8_88
          have q456 : fI h445 64 88 = fI h 64 88 := (FUp_fIne hU448 (fun z => absurd z.2 (by decide))).trans ((FUp_fIne hU441 (fun z => absurd z.2 (by decide))).trans ((Fr_fI hL252 (tf hT173 rfl rfl) (by decide +kernel)).trans ((FUp_fIne hU175 (fun z => absurd z.2 (by decide))).trans ((FUp_fIne hU62 (fun z => absurd z.2 (by decide))).trans ((Fr_fI hL36 (tf hT6 rfl rfl) (by decide +kernel)).trans (FUp_fIne hU8 (fun z => absurd z.2 (by decide))))))))
          have e457 := fI_bd (q := 64) hT446 (tf hT446 rfl rfl) fd_8_90
          have q458 : fI h445 64 90 = fI h 64 90 := (FUp_fIne hU448 (fun z => absurd z.2 (by decide))).trans ((FUp_fIne hU441 (fun z => absurd z.2 (by decide))).trans ((Fr_fI hL252 (tf hT173 rfl rfl) (by decide +kernel)).trans ((FUp_fIne hU175 (fun z => absurd z.2 (by decide))).trans ((FUp_fIne hU62 (fun z => absurd z.2 (by decide))).trans ((Fr_fI hL36 (tf hT6 rfl rfl) (by decide +kernel)).trans (FUp_fIne hU8 (fun z => absurd z.2 (by decide))))))))
          have e459 := fI_bd (q := 64) hT250 (tf hT250 rfl rfl) fd_8_88
          have q460 : fI h249 64 88 = fI h 64 88 := (Fr_fI hL252 (tf hT173 rfl rfl) (by decide +kernel)).trans ((FUp_fIne hU175 (fun z => absurd z.2 (by decide))).trans ((FUp_fIne hU62 (fun z => absurd z.2 (by decide))).trans ((Fr_fI hL36 (tf hT6 rfl rfl) (by decide +kernel)).trans (FUp_fIne hU8 (fun z => absurd z.2 (by decide))))))
          have e461 := fI_bd (q := 64) hT250 (tf hT250 rfl rfl) fd_8_90
          have q462 : fI h249 64 90 = fI h 64 90 := (Fr_fI hL252 (tf hT173 rfl rfl) (by decide +kernel)).trans ((FUp_fIne hU175 (fun z => absurd z.2 (by decide))).trans ((FUp_fIne hU62 (fun z => absurd z.2 (by decide))).trans ((Fr_fI hL36 (tf hT6 rfl rfl) (by decide +kernel)).trans (FUp_fIne hU8 (fun z => absurd z.2 (by decide))))))
          have tg463 : TT h445 = TT h249 := (TT_fr hT hF447 (by decide +kernel)).trans (TT_fr hT hF251 (by decide +kernel)).symm
          have e464 := fI_bd (q := 64) hT446 (tf hT446 rfl rfl) fd_8_88
          have q465 : fI h445 64 88 = fI h 64 88 := (FUp_fIne hU448 (fun z => absurd z.2 (by decide))).trans ((FUp_fIne hU441 (fun z => absurd z.2 (by decide))).trans ((Fr_fI hL252 (tf hT173 rfl rfl) (by decide +kernel)).trans ((FUp_fIne hU175 (fun z => absurd z.2 (by decide))).trans ((FUp_fIne hU62 (fun z => absurd z.2 (by decide))).trans ((Fr_fI hL36 (tf hT6 rfl rfl) (by decide +kernel)).trans (FUp_fIne hU8 (fun z => absurd z.2 (by decide))))))))
          have e466 := fI_bd (q := 64) hT446 (tf hT446 rfl rfl) fd_8_90
          have q467 : fI h445 64 90 = fI h 64 90 := (FUp_fIne hU448 (fun z => absurd z.2 (by decide))).trans ((FUp_fIne hU441 (fun z => absurd z.2 (by decide))).trans ((Fr_fI hL252 (tf hT173 rfl rfl) (by decide +kernel)).trans ((FUp_fIne hU175 (fun z => absurd z.2 (by decide))).trans ((FUp_fIne hU62 (fun z => absurd z.2 (by decide))).trans ((Fr_fI hL36 (tf hT6 rfl rfl) (by decide +kernel)).trans (FUp_fIne hU8 (fun z => absurd z.2 (by decide))))))))
          have e468 := fI_bd (q := 64) hT250 (tf hT250 rfl rfl) fd_8_88
          have q469 : fI h249 64 88 = fI h 64 88 := (Fr_fI hL252 (tf hT173 rfl rfl) (by decide +kernel)).trans ((FUp_fIne hU175 (fun z => absurd z.2 (by decide))).trans ((FUp_fIne hU62 (fun z => absurd z.2 (by decide))).trans ((Fr_fI hL36 (tf hT6 rfl rfl) (by decide +kernel)).trans (FUp_fIne hU8 (fun z => absurd z.2 (by decide))))))
          have e470 := fI_bd (q := 64) hT250 (tf hT250 rfl rfl) fd_8_90
          have q471 : fI h249 64 90 = fI h 64 90 := (Fr_fI hL252 (tf hT173 rfl rfl) (by decide +kernel)).trans ((FUp_fIne hU175 (fun z => absurd z.2 (by decide))).trans ((FUp_fIne hU62 (fun z => absurd z.2 (by decide))).trans ((Fr_fI hL36 (tf hT6 rfl rfl) (by decide +kernel)).trans (FUp_fIne hU8 (fun z => absurd z.2 (by decide))))))
          have tt472 := TT_at hT250 (fI h249 64 87)
          have te473 : TT h249 = TT h := TT_fr hT hF251 (by decide +kernel)
          rw [te473] at tt472
          exact ih255 h445 (by omega) (by omega) (by omega) (by omega) (Or.inl (by omega)) (by omega) (by omega) (BL_m x263 tg463 (by omega)) (RU_s (Q := fun i => isD (TT h i)) x264 (by omega) (by omega) (show 48 ≤ TT h (fI h249 64 87) ∧ TT h (fI h249 64 87) ≤ 57 by omega)) hT446 hF447 (FUp_Fr (FUp_Fr hL252 hU441 (fun u hu => by rw [ty_1 hu (tf hT446 rfl rfl)]; decide)) hU448 (fun u hu => by rw [ty_1 hu (tf hT446 rfl rfl)]; decide))
          refine st_iconst c252_192 ?_
          refine st_aload c252_194 rfl ?_
          refine st_getI c252_195 hT250 (tf hT250 rfl rfl) fd_8_89 (fun e474 e475 => ?_)
          refine st_imul c252_198 ?_
          refine MR_wrap (fun w476 e477 e478 e479 => ?_)
          refine st_aload c252_199 rfl ?_
          refine st_getX (u := 124) c252_200 hT250 (tf hT250 rfl rfl) fd_8_76 rfl ?_
          refine st_aload c252_203 rfl ?_
          refine st_getI c252_204 hT250 (tf hT250 rfl rfl) fd_8_87 (fun e480 e481 => ?_)
          refine st_bald c252_207 hT250 (tf hT250 rfl rfl) ay_102 (Or.inr rfl) (by omega) (fun e482 e483 => ?_)
          have q484 : aI h249 124 (fI h249 64 87) = aI h 124 (fI h249 64 87) := (Fr_aI hL252 (tf hT173 rfl rfl) (by decide +kernel) (fI h249 64 87)).trans ((FUp_aI hU175 (fI h249 64 87)).trans ((FUp_aI hU62 (fI h249 64 87)).trans ((Fr_aI hL36 (tf hT6 rfl rfl) (by decide +kernel) (fI h249 64 87)).trans (FUp_aI hU8 (fI h249 64 87)))))
          refine st_iadd c252_208 ?_
          refine MR_wrap (fun w485 e486 e487 e488 => ?_)
          refine st_iconst c252_209 ?_
          refine st_isub c252_211 ?_
          refine MR_wrap (fun w489 e490 e491 e492 => ?_)
          refine st_goto c252_212 ?_
          refine st_putI c252_219 hT250 (tf hT250 rfl rfl) fd_8_89 (by omega) (by omega) (Ext_rf _) hS hF251 (by decide +kernel) (fun h493 hT494 hF495 hU496 => ?_)
          refine st_aload c252_222 rfl ?_
          refine st_dup c252_223 rfl ?_
          refine st_getI c252_224 hT494 (tf hT494 rfl rfl) fd_8_87 (fun e497 e498 => ?_)
          have q499 : fI h493 64 87 = fI h249 64 87 := FUp_fIne hU496 (fun z => absurd z.2 (by decide))
          refine st_iconst c252_227 ?_
          refine st_iadd c252_228 ?_
          refine st_putI c252_229 hT494 (tf hT494 rfl rfl) fd_8_87 (by omega) (by omega) (Ext_rf _) hS hF495 (by decide +kernel) (fun h500 hT501 hF502 hU503 => ?_)
          refine st_goto c252_232 ?_
          have e504 := fI_bd (q := 64) hT501 (tf hT501 rfl rfl) fd_8_87
          have q505 : fI h500 64 87 = (fI h493 64 87) + 1 := FUp_fI hU503 (by omega) (by omega)
          have e506 := fI_bd (q := 64) hT501 (tf hT501 rfl rfl) fd_8_77
          have q507 : fI h500 64 77 = fI h249 64 77 := (FUp_fIne hU503 (fun z => absurd z.2 (by decide))).trans (FUp_fIne hU496 (fun z => absurd z.2 (by decide)))
          have e508 := fI_bd (q := 64) hT501 (tf hT501 rfl rfl) fd_8_86
          have q509 : fI h500 64 86 = fI h249 64 86 := (FUp_fIne hU503 (fun z => absurd z.2 (by decide))).trans (FUp_fIne hU496 (fun z => absurd z.2 (by decide)))
          have e510 := fI_bd (q := 64) hT501 (tf hT501 rfl rfl) fd_8_88
          have q511 : fI h500 64 88 = fI h 64 88 := (FUp_fIne hU503 (fun z => absurd z.2 (by decide))).trans ((FUp_fIne hU496 (fun z => absurd z.2 (by decide))).trans ((Fr_fI hL252 (tf hT173 rfl rfl) (by decide +kernel)).trans ((FUp_fIne hU175 (fun z => absurd z.2 (by decide))).trans ((FUp_fIne hU62 (fun z => absurd z.2 (by decide))).trans ((Fr_fI hL36 (tf hT6 rfl rfl) (by decide +kernel)).trans (FUp_fIne hU8 (fun z => absurd z.2 (by decide))))))))
          have e512 := fI_bd (q := 64) hT501 (tf hT501 rfl rfl) fd_8_90
          have q513 : fI h500 64 90 = fI h 64 90 := (FUp_fIne hU503 (fun z => absurd z.2 (by decide))).trans ((FUp_fIne hU496 (fun z => absurd z.2 (by decide))).trans ((Fr_fI hL252 (tf hT173 rfl rfl) (by decide +kernel)).trans ((FUp_fIne hU175 (fun z => absurd z.2 (by decide))).trans ((FUp_fIne hU62 (fun z => absurd z.2 (by decide))).trans ((Fr_fI hL36 (tf hT6 rfl rfl) (by decide +kernel)).trans (FUp_fIne hU8 (fun z => absurd z.2 (by decide))))))))
          have e514 := fI_bd (q := 64) hT250 (tf hT250 rfl rfl) fd_8_88
          have q515 : fI h249 64 88 = fI h 64 88 := (Fr_fI hL252 (tf hT173 rfl rfl) (by decide +kernel)).trans ((FUp_fIne hU175 (fun z => absurd z.2 (by decide))).trans ((FUp_fIne hU62 (fun z => absurd z.2 (by decide))).trans ((Fr_fI hL36 (tf hT6 rfl rfl) (by decide +kernel)).trans (FUp_fIne hU8 (fun z => absurd z.2 (by decide))))))
          have e516 := fI_bd (q := 64) hT250 (tf hT250 rfl rfl) fd_8_90
          have q517 : fI h249 64 90 = fI h 64 90 := (Fr_fI hL252 (tf hT173 rfl rfl) (by decide +kernel)).trans ((FUp_fIne hU175 (fun z => absurd z.2 (by decide))).trans ((FUp_fIne hU62 (fun z => absurd z.2 (by decide))).trans ((Fr_fI hL36 (tf hT6 rfl rfl) (by decide +kernel)).trans (FUp_fIne hU8 (fun z => absurd z.2 (by decide))))))
          have tg518 : TT h500 = TT h249 := (TT_fr hT hF502 (by decide +kernel)).trans (TT_fr hT hF251 (by decide +kernel)).symm
          have e519 := fI_bd (q := 64) hT501 (tf hT501 rfl rfl) fd_8_88
          have q520 : fI h500 64 88 = fI h 64 88 := (FUp_fIne hU503 (fun z => absurd z.2 (by decide))).trans ((FUp_fIne hU496 (fun z => absurd z.2 (by decide))).trans ((Fr_fI hL252 (tf hT173 rfl rfl) (by decide +kernel)).trans ((FUp_fIne hU175 (fun z => absurd z.2 (by decide))).trans ((FUp_fIne hU62 (fun z => absurd z.2 (by decide))).trans ((Fr_fI hL36 (tf hT6 rfl rfl) (by decide +kernel)).trans (FUp_fIne hU8 (fun z => absurd z.2 (by decide))))))))
          have e521 := fI_bd (q := 64) hT501 (tf hT501 rfl rfl) fd_8_90
          have q522 : fI h500 64 90 = fI h 64 90 := (FUp_fIne hU503 (fun z => absurd z.2 (by decide))).trans ((FUp_fIne hU496 (fun z => absurd z.2 (by decide))).trans ((Fr_fI hL252 (tf hT173 rfl rfl) (by decide +kernel)).trans ((FUp_fIne hU175 (fun z => absurd z.2 (by decide))).trans ((FUp_fIne hU62 (fun z => absurd z.2 (by decide))).trans ((Fr_fI hL36 (tf hT6 rfl rfl) (by decide +kernel)).trans (FUp_fIne hU8 (fun z => absurd z.2 (by decide))))))))
          have e523 := fI_bd (q := 64) hT250 (tf hT250 rfl rfl) fd_8_88
          have q524 : fI h249 64 88 = fI h 64 88 := (Fr_fI hL252 (tf hT173 rfl rfl) (by decide +kernel)).trans ((FUp_fIne hU175 (fun z => absurd z.2 (by decide))).trans ((FUp_fIne hU62 (fun z => absurd z.2 (by decide))).trans ((Fr_fI hL36 (tf hT6 rfl rfl) (by decide +kernel)).trans (FUp_fIne hU8 (fun z => absurd z.2 (by decide))))))
          have e525 := fI_bd (q := 64) hT250 (tf hT250 rfl rfl) fd_8_90
          have q526 : fI h249 64 90 = fI h 64 90 := (Fr_fI hL252 (tf hT173 rfl rfl) (by decide +kernel)).trans ((FUp_fIne hU175 (fun z => absurd z.2 (by decide))).trans ((FUp_fIne hU62 (fun z => absurd z.2 (by decide))).trans ((Fr_fI hL36 (tf hT6 rfl rfl) (by decide +kernel)).trans (FUp_fIne hU8 (fun z => absurd z.2 (by decide))))))
          have tt527 := TT_at hT250 (fI h249 64 87)
          have te528 : TT h249 = TT h := TT_fr hT hF251 (by decide +kernel)
          rw [te528] at tt527
          exact ih255 h500 (by omega) (by omega) (by omega) (by omega) (Or.inl (by omega)) (by omega) (by omega) (BL_m x263 tg518 (by omega)) (RU_s (Q := fun i => isD (TT h i)) x264 (by omega) (by omega) (show 48 ≤ TT h (fI h249 64 87) ∧ TT h (fI h249 64 87) ≤ 57 by omega)) hT501 hF502 (FUp_Fr (FUp_Fr hL252 hU496 (fun u hu => by rw [ty_1 hu (tf hT501 rfl rfl)]; decide)) hU503 (fun u hu => by rw [ty_1 hu (tf hT501 rfl rfl)]; decide))
      have e529 := fI_bd (q := 64) hT173 (tf hT173 rfl rfl) fd_8_87
      have q530 : fI h172 64 87 = fI h33 64 86 := (FUp_fIne hU175 (fun z => absurd z.2 (by decide))).trans (FUp_fI hU62 (by omega) (by omega))
      have e531 := fI_bd (q := 64) hT173 (tf hT173 rfl rfl) fd_8_77
      have q532 : fI h172 64 77 = fI h59 64 77 := FUp_fIne hU175 (fun z => absurd z.2 (by decide))
      have e533 := fI_bd (q := 64) hT173 (tf hT173 rfl rfl) fd_8_86
      have q534 : fI h172 64 86 = fI h59 64 86 := FUp_fIne hU175 (fun z => absurd z.2 (by decide))
      have q535 : aI h172 124 (fI h59 64 86) = aI h59 124 (fI h59 64 86) := FUp_aI hU175 (fI h59 64 86)
      have e536 := fI_bd (q := 64) hT173 (tf hT173 rfl rfl) fd_8_88
      have q537 : fI h172 64 88 = fI h 64 88 := (FUp_fIne hU175 (fun z => absurd z.2 (by decide))).trans ((FUp_fIne hU62 (fun z => absurd z.2 (by decide))).trans ((Fr_fI hL36 (tf hT6 rfl rfl) (by decide +kernel)).trans (FUp_fIne hU8 (fun z => absurd z.2 (by decide)))))
      have e538 := fI_bd (q := 64) hT173 (tf hT173 rfl rfl) fd_8_90
      have q539 : fI h172 64 90 = fI h 64 90 := (FUp_fIne hU175 (fun z => absurd z.2 (by decide))).trans ((FUp_fIne hU62 (fun z => absurd z.2 (by decide))).trans ((Fr_fI hL36 (tf hT6 rfl rfl) (by decide +kernel)).trans (FUp_fIne hU8 (fun z => absurd z.2 (by decide)))))
      have e540 := fI_bd (q := 64) hT34 (tf hT34 rfl rfl) fd_8_88
      have q541 : fI h33 64 88 = fI h 64 88 := (Fr_fI hL36 (tf hT6 rfl rfl) (by decide +kernel)).trans (FUp_fIne hU8 (fun z => absurd z.2 (by decide)))
      have e542 := fI_bd (q := 64) hT34 (tf hT34 rfl rfl) fd_8_90
      have q543 : fI h33 64 90 = fI h 64 90 := (Fr_fI hL36 (tf hT6 rfl rfl) (by decide +kernel)).trans (FUp_fIne hU8 (fun z => absurd z.2 (by decide)))
      have tg544 : TT h172 = TT h33 := (TT_fr hT hF174 (by decide +kernel)).trans (TT_fr hT hF35 (by decide +kernel)).symm
      have e545 := fI_bd (q := 64) hT173 (tf hT173 rfl rfl) fd_8_88
      have q546 : fI h172 64 88 = fI h 64 88 := (FUp_fIne hU175 (fun z => absurd z.2 (by decide))).trans ((FUp_fIne hU62 (fun z => absurd z.2 (by decide))).trans ((Fr_fI hL36 (tf hT6 rfl rfl) (by decide +kernel)).trans (FUp_fIne hU8 (fun z => absurd z.2 (by decide)))))
      have e547 := fI_bd (q := 64) hT173 (tf hT173 rfl rfl) fd_8_90
      have q548 : fI h172 64 90 = fI h 64 90 := (FUp_fIne hU175 (fun z => absurd z.2 (by decide))).trans ((FUp_fIne hU62 (fun z => absurd z.2 (by decide))).trans ((Fr_fI hL36 (tf hT6 rfl rfl) (by decide +kernel)).trans (FUp_fIne hU8 (fun z => absurd z.2 (by decide)))))
      exact lp253 (((fI h172 64 77 - fI h172 64 87 : Int) + 1).toNat) h172 (by omega) (by omega) (by omega) (by omega) (Or.inr (by rw [show fI h172 64 87 = fI h59 64 86 from by omega]; omega)) (by omega) (by omega) (BL_m x44 tg544 (by omega)) (RU_0 (by omega)) hT173 hF174 (Fr_rf _ _ _)
      refine st_if_eq c252_83 (by omega) (fun k549 => False.elim (by omega)) (fun k550 => ?_)
      have lp584 : ∀ (n585 : Nat) (h580 : List mE), fI h580 64 77 - fI h580 64 87 < (n585 : Int) → fI h580 64 87 ≤ fI h580 64 77 → fI h580 64 86 ≤ fI h580 64 87 → fI h580 64 86+1 ≤ fI h580 64 77 → fI h580 64 86 + 1 ≤ fI h580 64 87 ∨ (97 ≤ aI h580 124 (fI h580 64 87) ∧ aI h580 124 (fI h580 64 87) ≤ 122) → fI h 64 87 ≤ fI h580 64 86 → fI h580 64 77 = fI h 64 77 → BL h h580 (fI h 64 87) → RU (fun i => isL (TT h i)) h580 → TH E τ h580 → Fr τ W252 h h580 → Fr τ [(8, 87)] h59 h580 → MR (mex Ln xs) d 252 86 [some (.ref 64)] [] h580 Q := by
        intro n585
        induction n585 with
        | zero =>
          intro h580 hm587 x588 x589 x590 x591 x592 x593 x594 x595 hT581 hF582 hL583
          exfalso; omega
        | succ n585 ih586 =>
          intro h580 hm587 x588 x589 x590 x591 x592 x593 x594 x595 hT581 hF582 hL583
          have e596 := fI_bd (q := 64) hT581 (tf hT581 rfl rfl) fd_8_87
          have e597 := fI_bd (q := 64) hT581 (tf hT581 rfl rfl) fd_8_77
          have q598 : fI h580 64 77 = fI h59 64 77 := Fr_fI hL583 (tf hT60 rfl rfl) (by decide +kernel)
          have e599 := fI_bd (q := 64) hT581 (tf hT581 rfl rfl) fd_8_86
          have q600 : fI h580 64 86 = fI h59 64 86 := Fr_fI hL583 (tf hT60 rfl rfl) (by decide +kernel)
          refine st_aload c252_86 rfl ?_
          refine st_getI c252_87 hT581 (tf hT581 rfl rfl) fd_8_87 (fun e601 e602 => ?_)
          refine st_aload c252_90 rfl ?_
          refine st_getI c252_91 hT581 (tf hT581 rfl rfl) fd_8_77 (fun e603 e604 => ?_)
          have q605 : fI h580 64 77 = fI h59 64 77 := Fr_fI hL583 (tf hT60 rfl rfl) (by decide +kernel)
          refine st_icmp_ge c252_94 (by omega) (by omega) (fun k606 => ?_) (fun k607 => ?_)
          refine st_aload c252_125 rfl ?_
          refine st_iconst c252_126 ?_
          refine st_putI c252_127 hT581 (tf hT581 rfl rfl) fd_8_88 (by omega) (by omega) (Ext_rf _) hS hF582 (by decide +kernel) (fun h608 hT609 hF610 hU611 => ?_)
          refine st_return c252_130 ?_
          have e612 := fI_bd (q := 64) hT609 (tf hT609 rfl rfl) fd_8_86
          have q613 : fI h608 64 86 = fI h580 64 86 := FUp_fIne hU611 (fun z => absurd z.2 (by decide))
          have e614 := fI_bd (q := 64) hT609 (tf hT609 rfl rfl) fd_8_87
          have q615 : fI h608 64 87 = fI h580 64 87 := FUp_fIne hU611 (fun z => absurd z.2 (by decide))
          have e616 := fI_bd (q := 64) hT609 (tf hT609 rfl rfl) fd_8_88
          have q617 : fI h608 64 88 = 1 := FUp_fI hU611 (by omega) (by omega)
          have rq618 : fI h59 64 86 ≠ fI h608 64 86 ∨ aI h59 124 (fI h59 64 86) = aI h608 124 (fI h608 64 86) := by
            by_cases c : fI h59 64 86 = fI h608 64 86
            · refine Or.inr ?_
              rw [c]
              exact (Fr_aI hF61 (tf (q := 124) (t := 102) hT rfl rfl) (by decide +kernel) _).trans (Fr_aI hF610 (tf (q := 124) (t := 102) hT rfl rfl) (by decide +kernel) _).symm
            · exact Or.inl c
          have e619 := fI_bd (q := 64) hT609 (tf hT609 rfl rfl) fd_8_77
          have q620 : fI h608 64 77 = fI h580 64 77 := FUp_fIne hU611 (fun z => absurd z.2 (by decide))
          have e621 := fI_bd (q := 64) hT609 (tf hT609 rfl rfl) fd_8_90
          have q622 : fI h608 64 90 = fI h 64 90 := (FUp_fIne hU611 (fun z => absurd z.2 (by decide))).trans ((Fr_fI hL583 (tf hT60 rfl rfl) (by decide +kernel)).trans ((FUp_fIne hU62 (fun z => absurd z.2 (by decide))).trans ((Fr_fI hL36 (tf hT6 rfl rfl) (by decide +kernel)).trans (FUp_fIne hU8 (fun z => absurd z.2 (by decide))))))
          have e623 := fI_bd (q := 64) hT (tf hT rfl rfl) fd_8_77
          have e624 := fI_bd (q := 64) hT (tf hT rfl rfl) fd_8_86
          have e625 := fI_bd (q := 64) hT (tf hT rfl rfl) fd_8_88
          have e626 := fI_bd (q := 64) hT (tf hT rfl rfl) fd_8_90
          have e627 := fI_bd (q := 64) hT581 (tf hT581 rfl rfl) fd_8_88
          have q628 : fI h580 64 88 = fI h 64 88 := (Fr_fI hL583 (tf hT60 rfl rfl) (by decide +kernel)).trans ((FUp_fIne hU62 (fun z => absurd z.2 (by decide))).trans ((Fr_fI hL36 (tf hT6 rfl rfl) (by decide +kernel)).trans (FUp_fIne hU8 (fun z => absurd z.2 (by decide)))))
          have e629 := fI_bd (q := 64) hT581 (tf hT581 rfl rfl) fd_8_90
          have q630 : fI h580 64 90 = fI h 64 90 := (Fr_fI hL583 (tf hT60 rfl rfl) (by decide +kernel)).trans ((FUp_fIne hU62 (fun z => absurd z.2 (by decide))).trans ((Fr_fI hL36 (tf hT6 rfl rfl) (by decide +kernel)).trans (FUp_fIne hU8 (fun z => absurd z.2 (by decide)))))
          have tg632 : TT h608 = TT h580 := (TT_fr hT hF610 (by decide +kernel)).trans (TT_fr hT hF582 (by decide +kernel)).symm
          have bl631 := BL_m x594 tg632 (by omega)
          have tt633 := TT_at hT609 (fI h608 64 86)
          have te634 : TT h608 = TT h := TT_fr hT hF610 (by decide +kernel)
          rw [te634] at tt633
          have ru635 : RU (fun i => isL (TT h i)) h608 := fun j a b => x595 j (by omega) (by omega)
          have tt636 := TT_at hT609 (fI h608 64 87)
          have te637 : TT h608 = TT h := TT_fr hT hF610 (by decide +kernel)
          rw [te637] at tt636
          have sq638 : fI h608 64 87 = fI h 64 77 ∨ ¬ isL (TT h (fI h608 64 87)) := by
            by_cases c : fI h608 64 87 = fI h 64 77
            · exact Or.inl c
            · exact Or.inr (by intro k; have k : (97 : Int) ≤ TT h (fI h608 64 87) ∧ TT h (fI h608 64 87) ≤ 122 := k; omega)
          exact hQ _ _ ⟨rfl, by omega, by omega, by omega, by omega, NT_let pre1 bl631 (by omega) (by omega) (by omega) (show 97 ≤ TT h (fI h608 64 86) ∧ TT h (fI h608 64 86) ≤ 122 by omega) ru635 (by omega) (by omega) sq638 (by omega), hT609, hF610⟩
          refine st_aload c252_97 rfl ?_
          refine st_getX (u := 124) c252_98 hT581 (tf hT581 rfl rfl) fd_8_76 rfl ?_
          refine st_aload c252_101 rfl ?_
          refine st_getI c252_102 hT581 (tf hT581 rfl rfl) fd_8_87 (fun e639 e640 => ?_)
          refine st_bald c252_105 hT581 (tf hT581 rfl rfl) ay_102 (Or.inr rfl) (by omega) (fun e641 e642 => ?_)
          have q643 : aI h580 124 (fI h580 64 87) = aI h 124 (fI h580 64 87) := (Fr_aI hL583 (tf hT60 rfl rfl) (by decide +kernel) (fI h580 64 87)).trans ((FUp_aI hU62 (fI h580 64 87)).trans ((Fr_aI hL36 (tf hT6 rfl rfl) (by decide +kernel) (fI h580 64 87)).trans (FUp_aI hU8 (fI h580 64 87))))
          refine st_calls (as := [vI (aI h580 124 (fI h580 64 87))]) c252_106 cm_250 rfl rfl rfl rfl (by omega) (K250 hT581 (aI h580 124 (fI h580 64 87)) (by omega) (d - 1) (by omega) _ (fun v h0 H => H)) (fun v1 h1 H => ?_)
          rcases H with ⟨rfl, pf644, rfl⟩ | ⟨rfl, pf645, pf646, rfl⟩
          refine st_if_eq c252_109 (by omega) (fun k647 => ?_) (fun k648 => False.elim (by omega))
          refine st_aload c252_125 rfl ?_
          refine st_iconst c252_126 ?_
          refine st_putI c252_127 hT581 (tf hT581 rfl rfl) fd_8_88 (by omega) (by omega) (Ext_rf _) hS hF582 (by decide +kernel) (fun h649 hT650 hF651 hU652 => ?_)
          refine st_return c252_130 ?_
          have e653 := fI_bd (q := 64) hT650 (tf hT650 rfl rfl) fd_8_86
          have q654 : fI h649 64 86 = fI h580 64 86 := FUp_fIne hU652 (fun z => absurd z.2 (by decide))
          have e655 := fI_bd (q := 64) hT650 (tf hT650 rfl rfl) fd_8_87
          have q656 : fI h649 64 87 = fI h580 64 87 := FUp_fIne hU652 (fun z => absurd z.2 (by decide))
          have e657 := fI_bd (q := 64) hT650 (tf hT650 rfl rfl) fd_8_88
          have q658 : fI h649 64 88 = 1 := FUp_fI hU652 (by omega) (by omega)
          have rq659 : fI h59 64 86 ≠ fI h649 64 86 ∨ aI h59 124 (fI h59 64 86) = aI h649 124 (fI h649 64 86) := by
            by_cases c : fI h59 64 86 = fI h649 64 86
            · refine Or.inr ?_
              rw [c]
              exact (Fr_aI hF61 (tf (q := 124) (t := 102) hT rfl rfl) (by decide +kernel) _).trans (Fr_aI hF651 (tf (q := 124) (t := 102) hT rfl rfl) (by decide +kernel) _).symm
            · exact Or.inl c
          have rq660 : fI h580 64 87 ≠ fI h649 64 87 ∨ aI h580 124 (fI h580 64 87) = aI h649 124 (fI h649 64 87) := by
            by_cases c : fI h580 64 87 = fI h649 64 87
            · refine Or.inr ?_
              rw [c]
              exact (Fr_aI hF582 (tf (q := 124) (t := 102) hT rfl rfl) (by decide +kernel) _).trans (Fr_aI hF651 (tf (q := 124) (t := 102) hT rfl rfl) (by decide +kernel) _).symm
            · exact Or.inl c
          have e661 := fI_bd (q := 64) hT650 (tf hT650 rfl rfl) fd_8_77
          have q662 : fI h649 64 77 = fI h580 64 77 := FUp_fIne hU652 (fun z => absurd z.2 (by decide))
          have e663 := fI_bd (q := 64) hT650 (tf hT650 rfl rfl) fd_8_90
          have q664 : fI h649 64 90 = fI h 64 90 := (FUp_fIne hU652 (fun z => absurd z.2 (by decide))).trans ((Fr_fI hL583 (tf hT60 rfl rfl) (by decide +kernel)).trans ((FUp_fIne hU62 (fun z => absurd z.2 (by decide))).trans ((Fr_fI hL36 (tf hT6 rfl rfl) (by decide +kernel)).trans (FUp_fIne hU8 (fun z => absurd z.2 (by decide))))))
          have e665 := fI_bd (q := 64) hT (tf hT rfl rfl) fd_8_77
          have e666 := fI_bd (q := 64) hT (tf hT rfl rfl) fd_8_86
          have e667 := fI_bd (q := 64) hT (tf hT rfl rfl) fd_8_88
          have e668 := fI_bd (q := 64) hT (tf hT rfl rfl) fd_8_90
          have e669 := fI_bd (q := 64) hT581 (tf hT581 rfl rfl) fd_8_88
          have q670 : fI h580 64 88 = fI h 64 88 := (Fr_fI hL583 (tf hT60 rfl rfl) (by decide +kernel)).trans ((FUp_fIne hU62 (fun z => absurd z.2 (by decide))).trans ((Fr_fI hL36 (tf hT6 rfl rfl) (by decide +kernel)).trans (FUp_fIne hU8 (fun z => absurd z.2 (by decide)))))
          have e671 := fI_bd (q := 64) hT581 (tf hT581 rfl rfl) fd_8_90
          have q672 : fI h580 64 90 = fI h 64 90 := (Fr_fI hL583 (tf hT60 rfl rfl) (by decide +kernel)).trans ((FUp_fIne hU62 (fun z => absurd z.2 (by decide))).trans ((Fr_fI hL36 (tf hT6 rfl rfl) (by decide +kernel)).trans (FUp_fIne hU8 (fun z => absurd z.2 (by decide)))))
          have tg674 : TT h649 = TT h580 := (TT_fr hT hF651 (by decide +kernel)).trans (TT_fr hT hF582 (by decide +kernel)).symm
          have bl673 := BL_m x594 tg674 (by omega)
          have tt675 := TT_at hT650 (fI h649 64 86)
          have te676 : TT h649 = TT h := TT_fr hT hF651 (by decide +kernel)
          rw [te676] at tt675
          have ru677 : RU (fun i => isL (TT h i)) h649 := fun j a b => x595 j (by omega) (by omega)
          have tt678 := TT_at hT650 (fI h649 64 87)
          have te679 : TT h649 = TT h := TT_fr hT hF651 (by decide +kernel)
          rw [te679] at tt678
          have sq680 : fI h649 64 87 = fI h 64 77 ∨ ¬ isL (TT h (fI h649 64 87)) := by
            by_cases c : fI h649 64 87 = fI h 64 77
            · exact Or.inl c
            · exact Or.inr (by intro k; have k : (97 : Int) ≤ TT h (fI h649 64 87) ∧ TT h (fI h649 64 87) ≤ 122 := k; omega)
          exact hQ _ _ ⟨rfl, by omega, by omega, by omega, by omega, NT_let pre1 bl673 (by omega) (by omega) (by omega) (show 97 ≤ TT h (fI h649 64 86) ∧ TT h (fI h649 64 86) ≤ 122 by omega) ru677 (by omega) (by omega) sq680 (by omega), hT650, hF651⟩
          refine st_if_eq c252_109 (by omega) (fun k681 => False.elim (by omega)) (fun k682 => ?_)
          refine st_aload c252_112 rfl ?_
          refine st_dup c252_113 rfl ?_
          refine st_getI c252_114 hT581 (tf hT581 rfl rfl) fd_8_87 (fun e683 e684 => ?_)
          refine st_iconst c252_117 ?_
          refine st_iadd c252_118 ?_
          refine st_putI c252_119 hT581 (tf hT581 rfl rfl) fd_8_87 (by omega) (by omega) (Ext_rf _) hS hF582 (by decide +kernel) (fun h685 hT686 hF687 hU688 => ?_)
          refine st_goto c252_122 ?_
          have e689 := fI_bd (q := 64) hT686 (tf hT686 rfl rfl) fd_8_87
          have q690 : fI h685 64 87 = (fI h580 64 87) + 1 := FUp_fI hU688 (by omega) (by omega)
          have e691 := fI_bd (q := 64) hT686 (tf hT686 rfl rfl) fd_8_77
          have q692 : fI h685 64 77 = fI h580 64 77 := FUp_fIne hU688 (fun z => absurd z.2 (by decide))
          have e693 := fI_bd (q := 64) hT686 (tf hT686 rfl rfl) fd_8_86
          have q694 : fI h685 64 86 = fI h580 64 86 := FUp_fIne hU688 (fun z => absurd z.2 (by decide))
          have e695 := fI_bd (q := 64) hT686 (tf hT686 rfl rfl) fd_8_88
          have q696 : fI h685 64 88 = fI h 64 88 := (FUp_fIne hU688 (fun z => absurd z.2 (by decide))).trans ((Fr_fI hL583 (tf hT60 rfl rfl) (by decide +kernel)).trans ((FUp_fIne hU62 (fun z => absurd z.2 (by decide))).trans ((Fr_fI hL36 (tf hT6 rfl rfl) (by decide +kernel)).trans (FUp_fIne hU8 (fun z => absurd z.2 (by decide))))))
          have e697 := fI_bd (q := 64) hT686 (tf hT686 rfl rfl) fd_8_90
          have q698 : fI h685 64 90 = fI h 64 90 := (FUp_fIne hU688 (fun z => absurd z.2 (by decide))).trans ((Fr_fI hL583 (tf hT60 rfl rfl) (by decide +kernel)).trans ((FUp_fIne hU62 (fun z => absurd z.2 (by decide))).trans ((Fr_fI hL36 (tf hT6 rfl rfl) (by decide +kernel)).trans (FUp_fIne hU8 (fun z => absurd z.2 (by decide))))))
          have e699 := fI_bd (q := 64) hT581 (tf hT581 rfl rfl) fd_8_88
          have q700 : fI h580 64 88 = fI h 64 88 := (Fr_fI hL583 (tf hT60 rfl rfl) (by decide +kernel)).trans ((FUp_fIne hU62 (fun z => absurd z.2 (by decide))).trans ((Fr_fI hL36 (tf hT6 rfl rfl) (by decide +kernel)).trans (FUp_fIne hU8 (fun z => absurd z.2 (by decide)))))
          have e701 := fI_bd (q := 64) hT581 (tf hT581 rfl rfl) fd_8_90
          have q702 : fI h580 64 90 = fI h 64 90 := (Fr_fI hL583 (tf hT60 rfl rfl) (by decide +kernel)).trans ((FUp_fIne hU62 (fun z => absurd z.2 (by decide))).trans ((Fr_fI hL36 (tf hT6 rfl rfl) (by decide +kernel)).trans (FUp_fIne hU8 (fun z => absurd z.2 (by decide)))))
          have tg703 : TT h685 = TT h580 := (TT_fr hT hF687 (by decide +kernel)).trans (TT_fr hT hF582 (by decide +kernel)).symm
          have e704 := fI_bd (q := 64) hT686 (tf hT686 rfl rfl) fd_8_88
          have q705 : fI h685 64 88 = fI h 64 88 := (FUp_fIne hU688 (fun z => absurd z.2 (by decide))).trans ((Fr_fI hL583 (tf hT60 rfl rfl) (by decide +kernel)).trans ((FUp_fIne hU62 (fun z => absurd z.2 (by decide))).trans ((Fr_fI hL36 (tf hT6 rfl rfl) (by decide +kernel)).trans (FUp_fIne hU8 (fun z => absurd z.2 (by decide))))))
          have e706 := fI_bd (q := 64) hT686 (tf hT686 rfl rfl) fd_8_90
          have q707 : fI h685 64 90 = fI h 64 90 := (FUp_fIne hU688 (fun z => absurd z.2 (by decide))).trans ((Fr_fI hL583 (tf hT60 rfl rfl) (by decide +kernel)).trans ((FUp_fIne hU62 (fun z => absurd z.2 (by decide))).trans ((Fr_fI hL36 (tf hT6 rfl rfl) (by decide +kernel)).trans (FUp_fIne hU8 (fun z => absurd z.2 (by decide))))))
          have e708 := fI_bd (q := 64) hT581 (tf hT581 rfl rfl) fd_8_88
          have q709 : fI h580 64 88 = fI h 64 88 := (Fr_fI hL583 (tf hT60 rfl rfl) (by decide +kernel)).trans ((FUp_fIne hU62 (fun z => absurd z.2 (by decide))).trans ((Fr_fI hL36 (tf hT6 rfl rfl) (by decide +kernel)).trans (FUp_fIne hU8 (fun z => absurd z.2 (by decide)))))
          have e710 := fI_bd (q := 64) hT581 (tf hT581 rfl rfl) fd_8_90
          have q711 : fI h580 64 90 = fI h 64 90 := (Fr_fI hL583 (tf hT60 rfl rfl) (by decide +kernel)).trans ((FUp_fIne hU62 (fun z => absurd z.2 (by decide))).trans ((Fr_fI hL36 (tf hT6 rfl rfl) (by decide +kernel)).trans (FUp_fIne hU8 (fun z => absurd z.2 (by decide)))))
          have tt712 := TT_at hT581 (fI h580 64 87)
          have te713 : TT h580 = TT h := TT_fr hT hF582 (by decide +kernel)
          rw [te713] at tt712
          exact ih586 h685 (by omega) (by omega) (by omega) (by omega) (Or.inl (by omega)) (by omega) (by omega) (BL_m x594 tg703 (by omega)) (RU_s (Q := fun i => isL (TT h i)) x595 (by omega) (by omega) (show 97 ≤ TT h (fI h580 64 87) ∧ TT h (fI h580 64 87) ≤ 122 by omega)) hT686 hF687 (FUp_Fr hL583 hU688 (fun u hu => by rw [ty_1 hu (tf hT686 rfl rfl)]; decide))
      have e714 := fI_bd (q := 64) hT60 (tf hT60 rfl rfl) fd_8_87
      have q715 : fI h59 64 87 = fI h33 64 86 := FUp_fI hU62 (by omega) (by omega)
      have e716 := fI_bd (q := 64) hT60 (tf hT60 rfl rfl) fd_8_88
      have q717 : fI h59 64 88 = fI h 64 88 := (FUp_fIne hU62 (fun z => absurd z.2 (by decide))).trans ((Fr_fI hL36 (tf hT6 rfl rfl) (by decide +kernel)).trans (FUp_fIne hU8 (fun z => absurd z.2 (by decide))))
      have e718 := fI_bd (q := 64) hT60 (tf hT60 rfl rfl) fd_8_90
      have q719 : fI h59 64 90 = fI h 64 90 := (FUp_fIne hU62 (fun z => absurd z.2 (by decide))).trans ((Fr_fI hL36 (tf hT6 rfl rfl) (by decide +kernel)).trans (FUp_fIne hU8 (fun z => absurd z.2 (by decide))))
      have e720 := fI_bd (q := 64) hT34 (tf hT34 rfl rfl) fd_8_88
      have q721 : fI h33 64 88 = fI h 64 88 := (Fr_fI hL36 (tf hT6 rfl rfl) (by decide +kernel)).trans (FUp_fIne hU8 (fun z => absurd z.2 (by decide)))
      have e722 := fI_bd (q := 64) hT34 (tf hT34 rfl rfl) fd_8_90
      have q723 : fI h33 64 90 = fI h 64 90 := (Fr_fI hL36 (tf hT6 rfl rfl) (by decide +kernel)).trans (FUp_fIne hU8 (fun z => absurd z.2 (by decide)))
      have tg724 : TT h59 = TT h33 := (TT_fr hT hF61 (by decide +kernel)).trans (TT_fr hT hF35 (by decide +kernel)).symm
      have e725 := fI_bd (q := 64) hT60 (tf hT60 rfl rfl) fd_8_88
      have q726 : fI h59 64 88 = fI h 64 88 := (FUp_fIne hU62 (fun z => absurd z.2 (by decide))).trans ((Fr_fI hL36 (tf hT6 rfl rfl) (by decide +kernel)).trans (FUp_fIne hU8 (fun z => absurd z.2 (by decide))))
      have e727 := fI_bd (q := 64) hT60 (tf hT60 rfl rfl) fd_8_90
      have q728 : fI h59 64 90 = fI h 64 90 := (FUp_fIne hU62 (fun z => absurd z.2 (by decide))).trans ((Fr_fI hL36 (tf hT6 rfl rfl) (by decide +kernel)).trans (FUp_fIne hU8 (fun z => absurd z.2 (by decide))))
      exact lp584 (((fI h59 64 77 - fI h59 64 87 : Int) + 1).toNat) h59 (by omega) (by omega) (by omega) (by omega) (Or.inr (by rw [show fI h59 64 87 = fI h59 64 86 from by omega]; omega)) (by omega) (by omega) (BL_m x44 tg724 (by omega)) (RU_0 (by omega)) hT60 hF61 (Fr_rf _ _ _)
      refine st_aload c252_65 rfl ?_
      refine st_iconst c252_66 ?_
      refine st_putI c252_67 hT60 (tf hT60 rfl rfl) fd_8_88 (by omega) (by omega) (Ext_rf _) hS hF61 (by decide +kernel) (fun h729 hT730 hF731 hU732 => ?_)
      refine st_return c252_70 ?_
      have e733 := fI_bd (q := 64) hT730 (tf hT730 rfl rfl) fd_8_86
      have q734 : fI h729 64 86 = fI h59 64 86 := FUp_fIne hU732 (fun z => absurd z.2 (by decide))
      have e735 := fI_bd (q := 64) hT730 (tf hT730 rfl rfl) fd_8_87
      have q736 : fI h729 64 87 = fI h33 64 86 := (FUp_fIne hU732 (fun z => absurd z.2 (by decide))).trans (FUp_fI hU62 (by omega) (by omega))
      have e737 := fI_bd (q := 64) hT730 (tf hT730 rfl rfl) fd_8_88
      have q738 : fI h729 64 88 = 0 := FUp_fI hU732 (by omega) (by omega)
      have e739 := fI_bd (q := 64) hT730 (tf hT730 rfl rfl) fd_8_77
      have q740 : fI h729 64 77 = fI h59 64 77 := FUp_fIne hU732 (fun z => absurd z.2 (by decide))
      have e741 := fI_bd (q := 64) hT730 (tf hT730 rfl rfl) fd_8_90
      have q742 : fI h729 64 90 = fI h 64 90 := (FUp_fIne hU732 (fun z => absurd z.2 (by decide))).trans ((FUp_fIne hU62 (fun z => absurd z.2 (by decide))).trans ((Fr_fI hL36 (tf hT6 rfl rfl) (by decide +kernel)).trans (FUp_fIne hU8 (fun z => absurd z.2 (by decide)))))
      have e743 := fI_bd (q := 64) hT (tf hT rfl rfl) fd_8_77
      have e744 := fI_bd (q := 64) hT (tf hT rfl rfl) fd_8_86
      have e745 := fI_bd (q := 64) hT (tf hT rfl rfl) fd_8_88
      have e746 := fI_bd (q := 64) hT (tf hT rfl rfl) fd_8_90
      have e747 := fI_bd (q := 64) hT34 (tf hT34 rfl rfl) fd_8_88
      have q748 : fI h33 64 88 = fI h 64 88 := (Fr_fI hL36 (tf hT6 rfl rfl) (by decide +kernel)).trans (FUp_fIne hU8 (fun z => absurd z.2 (by decide)))
      have e749 := fI_bd (q := 64) hT34 (tf hT34 rfl rfl) fd_8_90
      have q750 : fI h33 64 90 = fI h 64 90 := (Fr_fI hL36 (tf hT6 rfl rfl) (by decide +kernel)).trans (FUp_fIne hU8 (fun z => absurd z.2 (by decide)))
      have tg752 : TT h729 = TT h33 := (TT_fr hT hF731 (by decide +kernel)).trans (TT_fr hT hF35 (by decide +kernel)).symm
      have bl751 := BL_m x44 tg752 (by omega)
      have tt753 := TT_at hT730 (fI h729 64 86)
      have te754 : TT h729 = TT h := TT_fr hT hF731 (by decide +kernel)
      rw [te754] at tt753
      exact hQ _ _ ⟨rfl, by omega, by omega, by omega, by omega, NT_end pre1 bl751 (by omega) (by omega) (by omega) (by omega) (by omega), hT730, hF731⟩
      refine st_aload c252_19 rfl ?_
      refine st_getX (u := 124) c252_20 hT34 (tf hT34 rfl rfl) fd_8_76 rfl ?_
      refine st_aload c252_23 rfl ?_
      refine st_getI c252_24 hT34 (tf hT34 rfl rfl) fd_8_86 (fun e755 e756 => ?_)
      refine st_bald c252_27 hT34 (tf hT34 rfl rfl) ay_102 (Or.inr rfl) (by omega) (fun e757 e758 => ?_)
      have q759 : aI h33 124 (fI h33 64 86) = aI h 124 (fI h33 64 86) := (Fr_aI hL36 (tf hT6 rfl rfl) (by decide +kernel) (fI h33 64 86)).trans (FUp_aI hU8 (fI h33 64 86))
      refine st_iconst c252_28 ?_
      refine st_icmp_ne c252_30 (by omega) (by omega) (fun k760 => ?_) (fun k761 => ?_)
      refine st_aload c252_46 rfl ?_
      refine st_aload c252_47 rfl ?_
      refine st_getI c252_48 hT34 (tf hT34 rfl rfl) fd_8_86 (fun e762 e763 => ?_)
      refine st_putI c252_51 hT34 (tf hT34 rfl rfl) fd_8_87 (by omega) (by omega) (Ext_rf _) hS hF35 (by decide +kernel) (fun h764 hT765 hF766 hU767 => ?_)
      refine st_aload c252_54 rfl ?_
      refine st_getI c252_55 hT765 (tf hT765 rfl rfl) fd_8_86 (fun e768 e769 => ?_)
      have q770 : fI h764 64 86 = fI h33 64 86 := FUp_fIne hU767 (fun z => absurd z.2 (by decide))
      refine st_aload c252_58 rfl ?_
      refine st_getI c252_59 hT765 (tf hT765 rfl rfl) fd_8_77 (fun e771 e772 => ?_)
      have q773 : fI h764 64 77 = fI h33 64 77 := FUp_fIne hU767 (fun z => absurd z.2 (by decide))
      refine st_icmp_ne c252_62 (by omega) (by omega) (fun k774 => ?_) (fun k775 => ?_)
      refine st_aload c252_71 rfl ?_
      refine st_getX (u := 124) c252_72 hT765 (tf hT765 rfl rfl) fd_8_76 rfl ?_
      refine st_aload c252_75 rfl ?_
      refine st_getI c252_76 hT765 (tf hT765 rfl rfl) fd_8_86 (fun e776 e777 => ?_)
      have q778 : fI h764 64 86 = fI h33 64 86 := FUp_fIne hU767 (fun z => absurd z.2 (by decide))
      refine st_bald c252_79 hT765 (tf hT765 rfl rfl) ay_102 (Or.inr rfl) (by omega) (fun e779 e780 => ?_)
      have q781 : aI h764 124 (fI h764 64 86) = aI h 124 (fI h764 64 86) := (FUp_aI hU767 (fI h764 64 86)).trans ((Fr_aI hL36 (tf hT6 rfl rfl) (by decide +kernel) (fI h764 64 86)).trans (FUp_aI hU8 (fI h764 64 86)))
      refine st_calls (as := [vI (aI h764 124 (fI h764 64 86))]) c252_80 cm_250 rfl rfl rfl rfl (by omega) (K250 hT765 (aI h764 124 (fI h764 64 86)) (by omega) (d - 1) (by omega) _ (fun v h0 H => H)) (fun v1 h1 H => ?_)
      rcases H with ⟨rfl, pf782, rfl⟩ | ⟨rfl, pf783, pf784, rfl⟩
      refine st_if_eq c252_83 (by omega) (fun k785 => ?_) (fun k786 => False.elim (by omega))
      refine st_aload c252_131 rfl ?_
      refine st_getX (u := 124) c252_132 hT765 (tf hT765 rfl rfl) fd_8_76 rfl ?_
      refine st_aload c252_135 rfl ?_
      refine st_getI c252_136 hT765 (tf hT765 rfl rfl) fd_8_86 (fun e787 e788 => ?_)
      have q789 : fI h764 64 86 = fI h33 64 86 := FUp_fIne hU767 (fun z => absurd z.2 (by decide))
      refine st_bald c252_139 hT765 (tf hT765 rfl rfl) ay_102 (Or.inr rfl) (by omega) (fun e790 e791 => ?_)
      have q792 : aI h764 124 (fI h764 64 86) = aI h 124 (fI h764 64 86) := (FUp_aI hU767 (fI h764 64 86)).trans ((Fr_aI hL36 (tf hT6 rfl rfl) (by decide +kernel) (fI h764 64 86)).trans (FUp_aI hU8 (fI h764 64 86)))
      refine st_calls (as := [vI (aI h764 124 (fI h764 64 86))]) c252_140 cm_251 rfl rfl rfl rfl (by omega) (K251 hT765 (aI h764 124 (fI h764 64 86)) (by omega) (d - 1) (by omega) _ (fun v h0 H => H)) (fun v1 h1 H => ?_)
      rcases H with ⟨rfl, pf793, rfl⟩ | ⟨rfl, pf794, pf795, rfl⟩
      refine st_if_eq c252_143 (by omega) (fun k796 => ?_) (fun k797 => False.elim (by omega))
      refine st_aload c252_259 rfl ?_
      refine st_dup c252_260 rfl ?_
      refine st_getI c252_261 hT765 (tf hT765 rfl rfl) fd_8_87 (fun e798 e799 => ?_)
      have q800 : fI h764 64 87 = fI h33 64 86 := FUp_fI hU767 (by omega) (by omega)
      refine st_iconst c252_264 ?_
      refine st_iadd c252_265 ?_
      refine st_putI c252_266 hT765 (tf hT765 rfl rfl) fd_8_87 (by omega) (by omega) (Ext_rf _) hS hF766 (by decide +kernel) (fun h801 hT802 hF803 hU804 => ?_)
      refine st_aload c252_269 rfl ?_
      refine st_aload c252_270 rfl ?_
      refine st_getX (u := 124) c252_271 hT802 (tf hT802 rfl rfl) fd_8_76 rfl ?_
      refine st_aload c252_274 rfl ?_
      refine st_getI c252_275 hT802 (tf hT802 rfl rfl) fd_8_86 (fun e805 e806 => ?_)
      have q807 : fI h801 64 86 = fI h764 64 86 := FUp_fIne hU804 (fun z => absurd z.2 (by decide))
      refine st_bald c252_278 hT802 (tf hT802 rfl rfl) ay_102 (Or.inr rfl) (by omega) (fun e808 e809 => ?_)
      have q810 : aI h801 124 (fI h801 64 86) = aI h 124 (fI h801 64 86) := (FUp_aI hU804 (fI h801 64 86)).trans ((FUp_aI hU767 (fI h801 64 86)).trans ((Fr_aI hL36 (tf hT6 rfl rfl) (by decide +kernel) (fI h801 64 86)).trans (FUp_aI hU8 (fI h801 64 86))))
      refine st_iconst c252_279 ?_
      refine st_icmp_le c252_281 (by omega) (by omega) (fun k811 => ?_) (fun k812 => ?_)
      refine st_iconst c252_296 ?_
      refine st_putI c252_297 hT802 (tf hT802 rfl rfl) fd_8_88 (by omega) (by omega) (Ext_rf _) hS hF803 (by decide +kernel) (fun h813 hT814 hF815 hU816 => ?_)
      refine st_return c252_300 ?_
      have e817 := fI_bd (q := 64) hT814 (tf hT814 rfl rfl) fd_8_86
      have q818 : fI h813 64 86 = fI h801 64 86 := FUp_fIne hU816 (fun z => absurd z.2 (by decide))
      have e819 := fI_bd (q := 64) hT814 (tf hT814 rfl rfl) fd_8_87
      have q820 : fI h813 64 87 = (fI h764 64 87) + 1 := (FUp_fIne hU816 (fun z => absurd z.2 (by decide))).trans (FUp_fI hU804 (by omega) (by omega))
      have e821 := fI_bd (q := 64) hT814 (tf hT814 rfl rfl) fd_8_88
      have q822 : fI h813 64 88 = (-1) := FUp_fI hU816 (by omega) (by omega)
      have rq823 : fI h33 64 86 ≠ fI h813 64 86 ∨ aI h33 124 (fI h33 64 86) = aI h813 124 (fI h813 64 86) := by
        by_cases c : fI h33 64 86 = fI h813 64 86
        · refine Or.inr ?_
          rw [c]
          exact (Fr_aI hF35 (tf (q := 124) (t := 102) hT rfl rfl) (by decide +kernel) _).trans (Fr_aI hF815 (tf (q := 124) (t := 102) hT rfl rfl) (by decide +kernel) _).symm
        · exact Or.inl c
      have rq824 : fI h764 64 86 ≠ fI h813 64 86 ∨ aI h764 124 (fI h764 64 86) = aI h813 124 (fI h813 64 86) := by
        by_cases c : fI h764 64 86 = fI h813 64 86
        · refine Or.inr ?_
          rw [c]
          exact (Fr_aI hF766 (tf (q := 124) (t := 102) hT rfl rfl) (by decide +kernel) _).trans (Fr_aI hF815 (tf (q := 124) (t := 102) hT rfl rfl) (by decide +kernel) _).symm
        · exact Or.inl c
      have rq825 : fI h801 64 86 ≠ fI h813 64 86 ∨ aI h801 124 (fI h801 64 86) = aI h813 124 (fI h813 64 86) := by
        by_cases c : fI h801 64 86 = fI h813 64 86
        · refine Or.inr ?_
          rw [c]
          exact (Fr_aI hF803 (tf (q := 124) (t := 102) hT rfl rfl) (by decide +kernel) _).trans (Fr_aI hF815 (tf (q := 124) (t := 102) hT rfl rfl) (by decide +kernel) _).symm
        · exact Or.inl c
      have e826 := fI_bd (q := 64) hT814 (tf hT814 rfl rfl) fd_8_77
      have q827 : fI h813 64 77 = fI h764 64 77 := (FUp_fIne hU816 (fun z => absurd z.2 (by decide))).trans (FUp_fIne hU804 (fun z => absurd z.2 (by decide)))
      have e828 := fI_bd (q := 64) hT814 (tf hT814 rfl rfl) fd_8_90
      have q829 : fI h813 64 90 = fI h 64 90 := (FUp_fIne hU816 (fun z => absurd z.2 (by decide))).trans ((FUp_fIne hU804 (fun z => absurd z.2 (by decide))).trans ((FUp_fIne hU767 (fun z => absurd z.2 (by decide))).trans ((Fr_fI hL36 (tf hT6 rfl rfl) (by decide +kernel)).trans (FUp_fIne hU8 (fun z => absurd z.2 (by decide))))))
      have e830 := fI_bd (q := 64) hT (tf hT rfl rfl) fd_8_77
      have e831 := fI_bd (q := 64) hT (tf hT rfl rfl) fd_8_86
      have e832 := fI_bd (q := 64) hT (tf hT rfl rfl) fd_8_88
      have e833 := fI_bd (q := 64) hT (tf hT rfl rfl) fd_8_90
      have e834 := fI_bd (q := 64) hT34 (tf hT34 rfl rfl) fd_8_88
      have q835 : fI h33 64 88 = fI h 64 88 := (Fr_fI hL36 (tf hT6 rfl rfl) (by decide +kernel)).trans (FUp_fIne hU8 (fun z => absurd z.2 (by decide)))
      have e836 := fI_bd (q := 64) hT34 (tf hT34 rfl rfl) fd_8_90
      have q837 : fI h33 64 90 = fI h 64 90 := (Fr_fI hL36 (tf hT6 rfl rfl) (by decide +kernel)).trans (FUp_fIne hU8 (fun z => absurd z.2 (by decide)))
      have tg839 : TT h813 = TT h33 := (TT_fr hT hF815 (by decide +kernel)).trans (TT_fr hT hF35 (by decide +kernel)).symm
      have bl838 := BL_m x44 tg839 (by omega)
      have tt840 := TT_at hT814 (fI h813 64 86)
      have te841 : TT h813 = TT h := TT_fr hT hF815 (by decide +kernel)
      rw [te841] at tt840
      exact hQ _ _ ⟨rfl, by omega, by omega, by omega, by omega, NT_sig pre1 bl838 (by omega) (by omega) (by omega) (by intro k; have k : (97 : Int) ≤ TT h (fI h813 64 86) ∧ TT h (fI h813 64 86) ≤ 122 := k; omega) (by intro k; have k : (48 : Int) ≤ TT h (fI h813 64 86) ∧ TT h (fI h813 64 86) ≤ 57 := k; omega) (by omega) (by omega) (by omega), hT814, hF815⟩
      refine st_aload c252_284 rfl ?_
      refine st_getX (u := 124) c252_285 hT802 (tf hT802 rfl rfl) fd_8_76 rfl ?_
      refine st_aload c252_288 rfl ?_
      refine st_getI c252_289 hT802 (tf hT802 rfl rfl) fd_8_86 (fun e842 e843 => ?_)
      have q844 : fI h801 64 86 = fI h764 64 86 := FUp_fIne hU804 (fun z => absurd z.2 (by decide))
      refine st_bald c252_292 hT802 (tf hT802 rfl rfl) ay_102 (Or.inr rfl) (by omega) (fun e845 e846 => ?_)
      have q847 : aI h801 124 (fI h801 64 86) = aI h 124 (fI h801 64 86) := (FUp_aI hU804 (fI h801 64 86)).trans ((FUp_aI hU767 (fI h801 64 86)).trans ((Fr_aI hL36 (tf hT6 rfl rfl) (by decide +kernel) (fI h801 64 86)).trans (FUp_aI hU8 (fI h801 64 86))))
      refine st_goto c252_293 ?_
      refine st_putI c252_297 hT802 (tf hT802 rfl rfl) fd_8_88 (by omega) (by omega) (Ext_rf _) hS hF803 (by decide +kernel) (fun h848 hT849 hF850 hU851 => ?_)
      refine st_return c252_300 ?_
      have e852 := fI_bd (q := 64) hT849 (tf hT849 rfl rfl) fd_8_86
      have q853 : fI h848 64 86 = fI h801 64 86 := FUp_fIne hU851 (fun z => absurd z.2 (by decide))
      have e854 := fI_bd (q := 64) hT849 (tf hT849 rfl rfl) fd_8_87
      have q855 : fI h848 64 87 = (fI h764 64 87) + 1 := (FUp_fIne hU851 (fun z => absurd z.2 (by decide))).trans (FUp_fI hU804 (by omega) (by omega))
      have e856 := fI_bd (q := 64) hT849 (tf hT849 rfl rfl) fd_8_88
      have q857 : fI h848 64 88 = aI h801 124 (fI h801 64 86) := FUp_fI hU851 (by omega) (by omega)
      have rq858 : fI h33 64 86 ≠ fI h848 64 86 ∨ aI h33 124 (fI h33 64 86) = aI h848 124 (fI h848 64 86) := by
        by_cases c : fI h33 64 86 = fI h848 64 86
        · refine Or.inr ?_
          rw [c]
          exact (Fr_aI hF35 (tf (q := 124) (t := 102) hT rfl rfl) (by decide +kernel) _).trans (Fr_aI hF850 (tf (q := 124) (t := 102) hT rfl rfl) (by decide +kernel) _).symm
        · exact Or.inl c
      have rq859 : fI h764 64 86 ≠ fI h848 64 86 ∨ aI h764 124 (fI h764 64 86) = aI h848 124 (fI h848 64 86) := by
        by_cases c : fI h764 64 86 = fI h848 64 86
        · refine Or.inr ?_
          rw [c]
          exact (Fr_aI hF766 (tf (q := 124) (t := 102) hT rfl rfl) (by decide +kernel) _).trans (Fr_aI hF850 (tf (q := 124) (t := 102) hT rfl rfl) (by decide +kernel) _).symm
        · exact Or.inl c
      have rq860 : fI h801 64 86 ≠ fI h848 64 86 ∨ aI h801 124 (fI h801 64 86) = aI h848 124 (fI h848 64 86) := by
        by_cases c : fI h801 64 86 = fI h848 64 86
        · refine Or.inr ?_
          rw [c]
          exact (Fr_aI hF803 (tf (q := 124) (t := 102) hT rfl rfl) (by decide +kernel) _).trans (Fr_aI hF850 (tf (q := 124) (t := 102) hT rfl rfl) (by decide +kernel) _).symm
        · exact Or.inl c
      have e861 := fI_bd (q := 64) hT849 (tf hT849 rfl rfl) fd_8_77
      have q862 : fI h848 64 77 = fI h764 64 77 := (FUp_fIne hU851 (fun z => absurd z.2 (by decide))).trans (FUp_fIne hU804 (fun z => absurd z.2 (by decide)))
      have e863 := fI_bd (q := 64) hT849 (tf hT849 rfl rfl) fd_8_90
      have q864 : fI h848 64 90 = fI h 64 90 := (FUp_fIne hU851 (fun z => absurd z.2 (by decide))).trans ((FUp_fIne hU804 (fun z => absurd z.2 (by decide))).trans ((FUp_fIne hU767 (fun z => absurd z.2 (by decide))).trans ((Fr_fI hL36 (tf hT6 rfl rfl) (by decide +kernel)).trans (FUp_fIne hU8 (fun z => absurd z.2 (by decide))))))
      have e865 := fI_bd (q := 64) hT (tf hT rfl rfl) fd_8_77
      have e866 := fI_bd (q := 64) hT (tf hT rfl rfl) fd_8_86
      have e867 := fI_bd (q := 64) hT (tf hT rfl rfl) fd_8_88
      have e868 := fI_bd (q := 64) hT (tf hT rfl rfl) fd_8_90
      have e869 := fI_bd (q := 64) hT34 (tf hT34 rfl rfl) fd_8_88
      have q870 : fI h33 64 88 = fI h 64 88 := (Fr_fI hL36 (tf hT6 rfl rfl) (by decide +kernel)).trans (FUp_fIne hU8 (fun z => absurd z.2 (by decide)))
      have e871 := fI_bd (q := 64) hT34 (tf hT34 rfl rfl) fd_8_90
      have q872 : fI h33 64 90 = fI h 64 90 := (Fr_fI hL36 (tf hT6 rfl rfl) (by decide +kernel)).trans (FUp_fIne hU8 (fun z => absurd z.2 (by decide)))
      have tg874 : TT h848 = TT h33 := (TT_fr hT hF850 (by decide +kernel)).trans (TT_fr hT hF35 (by decide +kernel)).symm
      have bl873 := BL_m x44 tg874 (by omega)
      have tt875 := TT_at hT849 (fI h848 64 86)
      have te876 : TT h848 = TT h := TT_fr hT hF850 (by decide +kernel)
      rw [te876] at tt875
      exact hQ _ _ ⟨rfl, by omega, by omega, by omega, by omega, NT_sig pre1 bl873 (by omega) (by omega) (by omega) (by intro k; have k : (97 : Int) ≤ TT h (fI h848 64 86) ∧ TT h (fI h848 64 86) ≤ 122 := k; omega) (by intro k; have k : (48 : Int) ≤ TT h (fI h848 64 86) ∧ TT h (fI h848 64 86) ≤ 57 := k; omega) (by omega) (by omega) (by omega), hT849, hF850⟩
      refine st_if_eq c252_143 (by omega) (fun k877 => False.elim (by omega)) (fun k878 => ?_)
      refine st_aload c252_146 rfl ?_
      refine st_iconst c252_147 ?_
      refine st_putI c252_148 hT765 (tf hT765 rfl rfl) fd_8_89 (by omega) (by omega) (Ext_rf _) hS hF766 (by decide +kernel) (fun h879 hT880 hF881 hU882 => ?_)
      have lp960 : ∀ (n961 : Nat) (h956 : List mE), fI h956 64 77 - fI h956 64 87 < (n961 : Int) → fI h956 64 87 ≤ fI h956 64 77 → fI h956 64 86 ≤ fI h956 64 87 → fI h956 64 86+1 ≤ fI h956 64 77 → fI h956 64 86 + 1 ≤ fI h956 64 87 ∨ (48 ≤ aI h956 124 (fI h956 64 87) ∧ aI h956 124 (fI h956 64 87) ≤ 57) → fI h 64 87 ≤ fI h956 64 86 → fI h956 64 77 = fI h 64 77 → BL h h956 (fI h 64 87) → RU (fun i => isD (TT h i)) h956 → TH E τ h956 → Fr τ W252 h h956 → Fr τ [(8, 87), (8, 89)] h879 h956 → MR (mex Ln xs) d 252 151 [some (.ref 64)] [] h956 Q := by
        intro n961
        induction n961 with
        | zero =>
          intro h956 hm963 x964 x965 x966 x967 x968 x969 x970 x971 hT957 hF958 hL959
          exfalso; omega
        | succ n961 ih962 =>
          intro h956 hm963 x964 x965 x966 x967 x968 x969 x970 x971 hT957 hF958 hL959
          have e972 := fI_bd (q := 64) hT957 (tf hT957 rfl rfl) fd_8_87
          have e973 := fI_bd (q := 64) hT957 (tf hT957 rfl rfl) fd_8_77
          have q974 : fI h956 64 77 = fI h764 64 77 := (Fr_fI hL959 (tf hT880 rfl rfl) (by decide +kernel)).trans (FUp_fIne hU882 (fun z => absurd z.2 (by decide)))
          have e975 := fI_bd (q := 64) hT957 (tf hT957 rfl rfl) fd_8_86
          have q976 : fI h956 64 86 = fI h764 64 86 := (Fr_fI hL959 (tf hT880 rfl rfl) (by decide +kernel)).trans (FUp_fIne hU882 (fun z => absurd z.2 (by decide)))
          refine st_aload c252_151 rfl ?_
          refine st_getI c252_152 hT957 (tf hT957 rfl rfl) fd_8_87 (fun e977 e978 => ?_)
          refine st_aload c252_155 rfl ?_
          refine st_getI c252_156 hT957 (tf hT957 rfl rfl) fd_8_77 (fun e979 e980 => ?_)
          have q981 : fI h956 64 77 = fI h764 64 77 := (Fr_fI hL959 (tf hT880 rfl rfl) (by decide +kernel)).trans (FUp_fIne hU882 (fun z => absurd z.2 (by decide)))
          refine st_icmp_ge c252_159 (by omega) (by omega) (fun k982 => ?_) (fun k983 => ?_)
          refine st_aload c252_235 rfl ?_
          refine st_aload c252_236 rfl ?_
          refine st_getI c252_237 hT957 (tf hT957 rfl rfl) fd_8_87 (fun e984 e985 => ?_)
          refine st_aload c252_240 rfl ?_
          refine st_getI c252_241 hT957 (tf hT957 rfl rfl) fd_8_86 (fun e986 e987 => ?_)
          have q988 : fI h956 64 86 = fI h764 64 86 := (Fr_fI hL959 (tf hT880 rfl rfl) (by decide +kernel)).trans (FUp_fIne hU882 (fun z => absurd z.2 (by decide)))
          refine st_isub c252_244 ?_
          refine st_iconst c252_245 ?_
          refine st_icmp_le c252_247 (by omega) (by omega) (fun k989 => ?_) (fun k990 => ?_)
          refine st_iconst c252_254 ?_
          refine st_putI c252_255 hT957 (tf hT957 rfl rfl) fd_8_88 (by omega) (by omega) (Ext_rf _) hS hF958 (by decide +kernel) (fun h991 hT992 hF993 hU994 => ?_)
          refine st_return c252_258 ?_
          have e995 := fI_bd (q := 64) hT992 (tf hT992 rfl rfl) fd_8_86
          have q996 : fI h991 64 86 = fI h956 64 86 := FUp_fIne hU994 (fun z => absurd z.2 (by decide))
          have e997 := fI_bd (q := 64) hT992 (tf hT992 rfl rfl) fd_8_87
          have q998 : fI h991 64 87 = fI h956 64 87 := FUp_fIne hU994 (fun z => absurd z.2 (by decide))
          have e999 := fI_bd (q := 64) hT992 (tf hT992 rfl rfl) fd_8_88
          have q1000 : fI h991 64 88 = 2 := FUp_fI hU994 (by omega) (by omega)
          have rq1001 : fI h33 64 86 ≠ fI h991 64 86 ∨ aI h33 124 (fI h33 64 86) = aI h991 124 (fI h991 64 86) := by
            by_cases c : fI h33 64 86 = fI h991 64 86
            · refine Or.inr ?_
              rw [c]
              exact (Fr_aI hF35 (tf (q := 124) (t := 102) hT rfl rfl) (by decide +kernel) _).trans (Fr_aI hF993 (tf (q := 124) (t := 102) hT rfl rfl) (by decide +kernel) _).symm
            · exact Or.inl c
          have rq1002 : fI h764 64 86 ≠ fI h991 64 86 ∨ aI h764 124 (fI h764 64 86) = aI h991 124 (fI h991 64 86) := by
            by_cases c : fI h764 64 86 = fI h991 64 86
            · refine Or.inr ?_
              rw [c]
              exact (Fr_aI hF766 (tf (q := 124) (t := 102) hT rfl rfl) (by decide +kernel) _).trans (Fr_aI hF993 (tf (q := 124) (t := 102) hT rfl rfl) (by decide +kernel) _).symm
            · exact Or.inl c
          have e1003 := fI_bd (q := 64) hT992 (tf hT992 rfl rfl) fd_8_77
          have q1004 : fI h991 64 77 = fI h956 64 77 := FUp_fIne hU994 (fun z => absurd z.2 (by decide))
          have e1005 := fI_bd (q := 64) hT992 (tf hT992 rfl rfl) fd_8_90
          have q1006 : fI h991 64 90 = fI h 64 90 := (FUp_fIne hU994 (fun z => absurd z.2 (by decide))).trans ((Fr_fI hL959 (tf hT880 rfl rfl) (by decide +kernel)).trans ((FUp_fIne hU882 (fun z => absurd z.2 (by decide))).trans ((FUp_fIne hU767 (fun z => absurd z.2 (by decide))).trans ((Fr_fI hL36 (tf hT6 rfl rfl) (by decide +kernel)).trans (FUp_fIne hU8 (fun z => absurd z.2 (by decide)))))))
          have e1007 := fI_bd (q := 64) hT (tf hT rfl rfl) fd_8_77
          have e1008 := fI_bd (q := 64) hT (tf hT rfl rfl) fd_8_86
          have e1009 := fI_bd (q := 64) hT (tf hT rfl rfl) fd_8_88
          have e1010 := fI_bd (q := 64) hT (tf hT rfl rfl) fd_8_90
          have e1011 := fI_bd (q := 64) hT957 (tf hT957 rfl rfl) fd_8_88
          have q1012 : fI h956 64 88 = fI h 64 88 := (Fr_fI hL959 (tf hT880 rfl rfl) (by decide +kernel)).trans ((FUp_fIne hU882 (fun z => absurd z.2 (by decide))).trans ((FUp_fIne hU767 (fun z => absurd z.2 (by decide))).trans ((Fr_fI hL36 (tf hT6 rfl rfl) (by decide +kernel)).trans (FUp_fIne hU8 (fun z => absurd z.2 (by decide))))))
          have e1013 := fI_bd (q := 64) hT957 (tf hT957 rfl rfl) fd_8_90
          have q1014 : fI h956 64 90 = fI h 64 90 := (Fr_fI hL959 (tf hT880 rfl rfl) (by decide +kernel)).trans ((FUp_fIne hU882 (fun z => absurd z.2 (by decide))).trans ((FUp_fIne hU767 (fun z => absurd z.2 (by decide))).trans ((Fr_fI hL36 (tf hT6 rfl rfl) (by decide +kernel)).trans (FUp_fIne hU8 (fun z => absurd z.2 (by decide))))))
          have tg1016 : TT h991 = TT h956 := (TT_fr hT hF993 (by decide +kernel)).trans (TT_fr hT hF958 (by decide +kernel)).symm
          have bl1015 := BL_m x970 tg1016 (by omega)
          have tt1017 := TT_at hT992 (fI h991 64 86)
          have te1018 : TT h991 = TT h := TT_fr hT hF993 (by decide +kernel)
          rw [te1018] at tt1017
          have ru1019 : RU (fun i => isD (TT h i)) h991 := fun j a b => x971 j (by omega) (by omega)
          have tt1020 := TT_at hT992 (fI h991 64 87)
          have te1021 : TT h991 = TT h := TT_fr hT hF993 (by decide +kernel)
          rw [te1021] at tt1020
          have sq1022 : fI h991 64 87 = fI h 64 77 ∨ ¬ isD (TT h (fI h991 64 87)) := by
            by_cases c : fI h991 64 87 = fI h 64 77
            · exact Or.inl c
            · exact Or.inr (by intro k; have k : (48 : Int) ≤ TT h (fI h991 64 87) ∧ TT h (fI h991 64 87) ≤ 57 := k; omega)
          exact hQ _ _ ⟨rfl, by omega, by omega, by omega, by omega, NT_dig pre1 bl1015 (by omega) (by omega) (by omega) (show 48 ≤ TT h (fI h991 64 86) ∧ TT h (fI h991 64 86) ≤ 57 by omega) ru1019 (by omega) (by omega) sq1022 (by omega), hT992, hF993⟩
          refine st_iconst c252_250 ?_
          refine st_goto c252_251 ?_
          refine st_putI c252_255 hT957 (tf hT957 rfl rfl) fd_8_88 (by omega) (by omega) (Ext_rf _) hS hF958 (by decide +kernel) (fun h1023 hT1024 hF1025 hU1026 => ?_)
          refine st_return c252_258 ?_
          have e1027 := fI_bd (q := 64) hT1024 (tf hT1024 rfl rfl) fd_8_86
          have q1028 : fI h1023 64 86 = fI h956 64 86 := FUp_fIne hU1026 (fun z => absurd z.2 (by decide))
          have e1029 := fI_bd (q := 64) hT1024 (tf hT1024 rfl rfl) fd_8_87
          have q1030 : fI h1023 64 87 = fI h956 64 87 := FUp_fIne hU1026 (fun z => absurd z.2 (by decide))
          have e1031 := fI_bd (q := 64) hT1024 (tf hT1024 rfl rfl) fd_8_88
          have q1032 : fI h1023 64 88 = (-1) := FUp_fI hU1026 (by omega) (by omega)
          have rq1033 : fI h33 64 86 ≠ fI h1023 64 86 ∨ aI h33 124 (fI h33 64 86) = aI h1023 124 (fI h1023 64 86) := by
            by_cases c : fI h33 64 86 = fI h1023 64 86
            · refine Or.inr ?_
              rw [c]
              exact (Fr_aI hF35 (tf (q := 124) (t := 102) hT rfl rfl) (by decide +kernel) _).trans (Fr_aI hF1025 (tf (q := 124) (t := 102) hT rfl rfl) (by decide +kernel) _).symm
            · exact Or.inl c
          have rq1034 : fI h764 64 86 ≠ fI h1023 64 86 ∨ aI h764 124 (fI h764 64 86) = aI h1023 124 (fI h1023 64 86) := by
            by_cases c : fI h764 64 86 = fI h1023 64 86
            · refine Or.inr ?_
              rw [c]
              exact (Fr_aI hF766 (tf (q := 124) (t := 102) hT rfl rfl) (by decide +kernel) _).trans (Fr_aI hF1025 (tf (q := 124) (t := 102) hT rfl rfl) (by decide +kernel) _).symm
            · exact Or.inl c
          have e1035 := fI_bd (q := 64) hT1024 (tf hT1024 rfl rfl) fd_8_77
          have q1036 : fI h1023 64 77 = fI h956 64 77 := FUp_fIne hU1026 (fun z => absurd z.2 (by decide))
          have e1037 := fI_bd (q := 64) hT1024 (tf hT1024 rfl rfl) fd_8_90
          have q1038 : fI h1023 64 90 = fI h 64 90 := (FUp_fIne hU1026 (fun z => absurd z.2 (by decide))).trans ((Fr_fI hL959 (tf hT880 rfl rfl) (by decide +kernel)).trans ((FUp_fIne hU882 (fun z => absurd z.2 (by decide))).trans ((FUp_fIne hU767 (fun z => absurd z.2 (by decide))).trans ((Fr_fI hL36 (tf hT6 rfl rfl) (by decide +kernel)).trans (FUp_fIne hU8 (fun z => absurd z.2 (by decide)))))))
          have e1039 := fI_bd (q := 64) hT (tf hT rfl rfl) fd_8_77
          have e1040 := fI_bd (q := 64) hT (tf hT rfl rfl) fd_8_86
          have e1041 := fI_bd (q := 64) hT (tf hT rfl rfl) fd_8_88
          have e1042 := fI_bd (q := 64) hT (tf hT rfl rfl) fd_8_90
          have e1043 := fI_bd (q := 64) hT957 (tf hT957 rfl rfl) fd_8_88
          have q1044 : fI h956 64 88 = fI h 64 88 := (Fr_fI hL959 (tf hT880 rfl rfl) (by decide +kernel)).trans ((FUp_fIne hU882 (fun z => absurd z.2 (by decide))).trans ((FUp_fIne hU767 (fun z => absurd z.2 (by decide))).trans ((Fr_fI hL36 (tf hT6 rfl rfl) (by decide +kernel)).trans (FUp_fIne hU8 (fun z => absurd z.2 (by decide))))))
          have e1045 := fI_bd (q := 64) hT957 (tf hT957 rfl rfl) fd_8_90
          have q1046 : fI h956 64 90 = fI h 64 90 := (Fr_fI hL959 (tf hT880 rfl rfl) (by decide +kernel)).trans ((FUp_fIne hU882 (fun z => absurd z.2 (by decide))).trans ((FUp_fIne hU767 (fun z => absurd z.2 (by decide))).trans ((Fr_fI hL36 (tf hT6 rfl rfl) (by decide +kernel)).trans (FUp_fIne hU8 (fun z => absurd z.2 (by decide))))))
          have tg1048 : TT h1023 = TT h956 := (TT_fr hT hF1025 (by decide +kernel)).trans (TT_fr hT hF958 (by decide +kernel)).symm
          have bl1047 := BL_m x970 tg1048 (by omega)
          have tt1049 := TT_at hT1024 (fI h1023 64 86)
          have te1050 : TT h1023 = TT h := TT_fr hT hF1025 (by decide +kernel)
          rw [te1050] at tt1049
          have ru1051 : RU (fun i => isD (TT h i)) h1023 := fun j a b => x971 j (by omega) (by omega)
          have tt1052 := TT_at hT1024 (fI h1023 64 87)
          have te1053 : TT h1023 = TT h := TT_fr hT hF1025 (by decide +kernel)
          rw [te1053] at tt1052
          have sq1054 : fI h1023 64 87 = fI h 64 77 ∨ ¬ isD (TT h (fI h1023 64 87)) := by
            by_cases c : fI h1023 64 87 = fI h 64 77
            · exact Or.inl c
            · exact Or.inr (by intro k; have k : (48 : Int) ≤ TT h (fI h1023 64 87) ∧ TT h (fI h1023 64 87) ≤ 57 := k; omega)
          exact hQ _ _ ⟨rfl, by omega, by omega, by omega, by omega, NT_dig pre1 bl1047 (by omega) (by omega) (by omega) (show 48 ≤ TT h (fI h1023 64 86) ∧ TT h (fI h1023 64 86) ≤ 57 by omega) ru1051 (by omega) (by omega) sq1054 (by omega), hT1024, hF1025⟩
          refine st_aload c252_162 rfl ?_
          refine st_getX (u := 124) c252_163 hT957 (tf hT957 rfl rfl) fd_8_76 rfl ?_
          refine st_aload c252_166 rfl ?_
          refine st_getI c252_167 hT957 (tf hT957 rfl rfl) fd_8_87 (fun e1055 e1056 => ?_)
          refine st_bald c252_170 hT957 (tf hT957 rfl rfl) ay_102 (Or.inr rfl) (by omega) (fun e1057 e1058 => ?_)
          have q1059 : aI h956 124 (fI h956 64 87) = aI h 124 (fI h956 64 87) := (Fr_aI hL959 (tf hT880 rfl rfl) (by decide +kernel) (fI h956 64 87)).trans ((FUp_aI hU882 (fI h956 64 87)).trans ((FUp_aI hU767 (fI h956 64 87)).trans ((Fr_aI hL36 (tf hT6 rfl rfl) (by decide +kernel) (fI h956 64 87)).trans (FUp_aI hU8 (fI h956 64 87)))))
          refine st_calls (as := [vI (aI h956 124 (fI h956 64 87))]) c252_171 cm_251 rfl rfl rfl rfl (by omega) (K251 hT957 (aI h956 124 (fI h956 64 87)) (by omega) (d - 1) (by omega) _ (fun v h0 H => H)) (fun v1 h1 H => ?_)
          rcases H with ⟨rfl, pf1060, rfl⟩ | ⟨rfl, pf1061, pf1062, rfl⟩
          refine st_if_eq c252_174 (by omega) (fun k1063 => ?_) (fun k1064 => False.elim (by omega))
          refine st_aload c252_235 rfl ?_
          refine st_aload c252_236 rfl ?_
          refine st_getI c252_237 hT957 (tf hT957 rfl rfl) fd_8_87 (fun e1065 e1066 => ?_)
          refine st_aload c252_240 rfl ?_
          refine st_getI c252_241 hT957 (tf hT957 rfl rfl) fd_8_86 (fun e1067 e1068 => ?_)
          have q1069 : fI h956 64 86 = fI h764 64 86 := (Fr_fI hL959 (tf hT880 rfl rfl) (by decide +kernel)).trans (FUp_fIne hU882 (fun z => absurd z.2 (by decide)))
          refine st_isub c252_244 ?_
          refine st_iconst c252_245 ?_
          refine st_icmp_le c252_247 (by omega) (by omega) (fun k1070 => ?_) (fun k1071 => ?_)
          refine st_iconst c252_254 ?_
          refine st_putI c252_255 hT957 (tf hT957 rfl rfl) fd_8_88 (by omega) (by omega) (Ext_rf _) hS hF958 (by decide +kernel) (fun h1072 hT1073 hF1074 hU1075 => ?_)
          refine st_return c252_258 ?_
          have e1076 := fI_bd (q := 64) hT1073 (tf hT1073 rfl rfl) fd_8_86
          have q1077 : fI h1072 64 86 = fI h956 64 86 := FUp_fIne hU1075 (fun z => absurd z.2 (by decide))
          have e1078 := fI_bd (q := 64) hT1073 (tf hT1073 rfl rfl) fd_8_87
          have q1079 : fI h1072 64 87 = fI h956 64 87 := FUp_fIne hU1075 (fun z => absurd z.2 (by decide))
          have e1080 := fI_bd (q := 64) hT1073 (tf hT1073 rfl rfl) fd_8_88
          have q1081 : fI h1072 64 88 = 2 := FUp_fI hU1075 (by omega) (by omega)
          have rq1082 : fI h33 64 86 ≠ fI h1072 64 86 ∨ aI h33 124 (fI h33 64 86) = aI h1072 124 (fI h1072 64 86) := by
            by_cases c : fI h33 64 86 = fI h1072 64 86
            · refine Or.inr ?_
              rw [c]
              exact (Fr_aI hF35 (tf (q := 124) (t := 102) hT rfl rfl) (by decide +kernel) _).trans (Fr_aI hF1074 (tf (q := 124) (t := 102) hT rfl rfl) (by decide +kernel) _).symm
            · exact Or.inl c
          have rq1083 : fI h764 64 86 ≠ fI h1072 64 86 ∨ aI h764 124 (fI h764 64 86) = aI h1072 124 (fI h1072 64 86) := by
            by_cases c : fI h764 64 86 = fI h1072 64 86
            · refine Or.inr ?_
              rw [c]
              exact (Fr_aI hF766 (tf (q := 124) (t := 102) hT rfl rfl) (by decide +kernel) _).trans (Fr_aI hF1074 (tf (q := 124) (t := 102) hT rfl rfl) (by decide +kernel) _).symm
            · exact Or.inl c
          have rq1084 : fI h956 64 87 ≠ fI h1072 64 87 ∨ aI h956 124 (fI h956 64 87) = aI h1072 124 (fI h1072 64 87) := by
            by_cases c : fI h956 64 87 = fI h1072 64 87
            · refine Or.inr ?_
              rw [c]
              exact (Fr_aI hF958 (tf (q := 124) (t := 102) hT rfl rfl) (by decide +kernel) _).trans (Fr_aI hF1074 (tf (q := 124) (t := 102) hT rfl rfl) (by decide +kernel) _).symm
            · exact Or.inl c
          have e1085 := fI_bd (q := 64) hT1073 (tf hT1073 rfl rfl) fd_8_77
          have q1086 : fI h1072 64 77 = fI h956 64 77 := FUp_fIne hU1075 (fun z => absurd z.2 (by decide))
          have e1087 := fI_bd (q := 64) hT1073 (tf hT1073 rfl rfl) fd_8_90
          have q1088 : fI h1072 64 90 = fI h 64 90 := (FUp_fIne hU1075 (fun z => absurd z.2 (by decide))).trans ((Fr_fI hL959 (tf hT880 rfl rfl) (by decide +kernel)).trans ((FUp_fIne hU882 (fun z => absurd z.2 (by decide))).trans ((FUp_fIne hU767 (fun z => absurd z.2 (by decide))).trans ((Fr_fI hL36 (tf hT6 rfl rfl) (by decide +kernel)).trans (FUp_fIne hU8 (fun z => absurd z.2 (by decide)))))))
          have e1089 := fI_bd (q := 64) hT (tf hT rfl rfl) fd_8_77
          have e1090 := fI_bd (q := 64) hT (tf hT rfl rfl) fd_8_86
          have e1091 := fI_bd (q := 64) hT (tf hT rfl rfl) fd_8_88
          have e1092 := fI_bd (q := 64) hT (tf hT rfl rfl) fd_8_90
          have e1093 := fI_bd (q := 64) hT957 (tf hT957 rfl rfl) fd_8_88
          have q1094 : fI h956 64 88 = fI h 64 88 := (Fr_fI hL959 (tf hT880 rfl rfl) (by decide +kernel)).trans ((FUp_fIne hU882 (fun z => absurd z.2 (by decide))).trans ((FUp_fIne hU767 (fun z => absurd z.2 (by decide))).trans ((Fr_fI hL36 (tf hT6 rfl rfl) (by decide +kernel)).trans (FUp_fIne hU8 (fun z => absurd z.2 (by decide))))))
          have e1095 := fI_bd (q := 64) hT957 (tf hT957 rfl rfl) fd_8_90
          have q1096 : fI h956 64 90 = fI h 64 90 := (Fr_fI hL959 (tf hT880 rfl rfl) (by decide +kernel)).trans ((FUp_fIne hU882 (fun z => absurd z.2 (by decide))).trans ((FUp_fIne hU767 (fun z => absurd z.2 (by decide))).trans ((Fr_fI hL36 (tf hT6 rfl rfl) (by decide +kernel)).trans (FUp_fIne hU8 (fun z => absurd z.2 (by decide))))))
          have tg1098 : TT h1072 = TT h956 := (TT_fr hT hF1074 (by decide +kernel)).trans (TT_fr hT hF958 (by decide +kernel)).symm
          have bl1097 := BL_m x970 tg1098 (by omega)
          have tt1099 := TT_at hT1073 (fI h1072 64 86)
          have te1100 : TT h1072 = TT h := TT_fr hT hF1074 (by decide +kernel)
          rw [te1100] at tt1099
          have ru1101 : RU (fun i => isD (TT h i)) h1072 := fun j a b => x971 j (by omega) (by omega)
          have tt1102 := TT_at hT1073 (fI h1072 64 87)
          have te1103 : TT h1072 = TT h := TT_fr hT hF1074 (by decide +kernel)
          rw [te1103] at tt1102
          have sq1104 : fI h1072 64 87 = fI h 64 77 ∨ ¬ isD (TT h (fI h1072 64 87)) := by
            by_cases c : fI h1072 64 87 = fI h 64 77
            · exact Or.inl c
            · exact Or.inr (by intro k; have k : (48 : Int) ≤ TT h (fI h1072 64 87) ∧ TT h (fI h1072 64 87) ≤ 57 := k; omega)
          exact hQ _ _ ⟨rfl, by omega, by omega, by omega, by omega, NT_dig pre1 bl1097 (by omega) (by omega) (by omega) (show 48 ≤ TT h (fI h1072 64 86) ∧ TT h (fI h1072 64 86) ≤ 57 by omega) ru1101 (by omega) (by omega) sq1104 (by omega), hT1073, hF1074⟩
          refine st_iconst c252_250 ?_
          refine st_goto c252_251 ?_
          refine st_putI c252_255 hT957 (tf hT957 rfl rfl) fd_8_88 (by omega) (by omega) (Ext_rf _) hS hF958 (by decide +kernel) (fun h1105 hT1106 hF1107 hU1108 => ?_)
          refine st_return c252_258 ?_
          have e1109 := fI_bd (q := 64) hT1106 (tf hT1106 rfl rfl) fd_8_86
          have q1110 : fI h1105 64 86 = fI h956 64 86 := FUp_fIne hU1108 (fun z => absurd z.2 (by decide))
          have e1111 := fI_bd (q := 64) hT1106 (tf hT1106 rfl rfl) fd_8_87
          have q1112 : fI h1105 64 87 = fI h956 64 87 := FUp_fIne hU1108 (fun z => absurd z.2 (by decide))
          have e1113 := fI_bd (q := 64) hT1106 (tf hT1106 rfl rfl) fd_8_88
          have q1114 : fI h1105 64 88 = (-1) := FUp_fI hU1108 (by omega) (by omega)
          have rq1115 : fI h33 64 86 ≠ fI h1105 64 86 ∨ aI h33 124 (fI h33 64 86) = aI h1105 124 (fI h1105 64 86) := by
            by_cases c : fI h33 64 86 = fI h1105 64 86
            · refine Or.inr ?_
              rw [c]
              exact (Fr_aI hF35 (tf (q := 124) (t := 102) hT rfl rfl) (by decide +kernel) _).trans (Fr_aI hF1107 (tf (q := 124) (t := 102) hT rfl rfl) (by decide +kernel) _).symm
            · exact Or.inl c
          have rq1116 : fI h764 64 86 ≠ fI h1105 64 86 ∨ aI h764 124 (fI h764 64 86) = aI h1105 124 (fI h1105 64 86) := by
            by_cases c : fI h764 64 86 = fI h1105 64 86
            · refine Or.inr ?_
              rw [c]
              exact (Fr_aI hF766 (tf (q := 124) (t := 102) hT rfl rfl) (by decide +kernel) _).trans (Fr_aI hF1107 (tf (q := 124) (t := 102) hT rfl rfl) (by decide +kernel) _).symm
            · exact Or.inl c
          have rq1117 : fI h956 64 87 ≠ fI h1105 64 87 ∨ aI h956 124 (fI h956 64 87) = aI h1105 124 (fI h1105 64 87) := by
            by_cases c : fI h956 64 87 = fI h1105 64 87
            · refine Or.inr ?_
              rw [c]
              exact (Fr_aI hF958 (tf (q := 124) (t := 102) hT rfl rfl) (by decide +kernel) _).trans (Fr_aI hF1107 (tf (q := 124) (t := 102) hT rfl rfl) (by decide +kernel) _).symm
            · exact Or.inl c
          have e1118 := fI_bd (q := 64) hT1106 (tf hT1106 rfl rfl) fd_8_77
          have q1119 : fI h1105 64 77 = fI h956 64 77 := FUp_fIne hU1108 (fun z => absurd z.2 (by decide))
          have e1120 := fI_bd (q := 64) hT1106 (tf hT1106 rfl rfl) fd_8_90
          have q1121 : fI h1105 64 90 = fI h 64 90 := (FUp_fIne hU1108 (fun z => absurd z.2 (by decide))).trans ((Fr_fI hL959 (tf hT880 rfl rfl) (by decide +kernel)).trans ((FUp_fIne hU882 (fun z => absurd z.2 (by decide))).trans ((FUp_fIne hU767 (fun z => absurd z.2 (by decide))).trans ((Fr_fI hL36 (tf hT6 rfl rfl) (by decide +kernel)).trans (FUp_fIne hU8 (fun z => absurd z.2 (by decide)))))))
          have e1122 := fI_bd (q := 64) hT (tf hT rfl rfl) fd_8_77
          have e1123 := fI_bd (q := 64) hT (tf hT rfl rfl) fd_8_86
          have e1124 := fI_bd (q := 64) hT (tf hT rfl rfl) fd_8_88
          have e1125 := fI_bd (q := 64) hT (tf hT rfl rfl) fd_8_90
          have e1126 := fI_bd (q := 64) hT957 (tf hT957 rfl rfl) fd_8_88
          have q1127 : fI h956 64 88 = fI h 64 88 := (Fr_fI hL959 (tf hT880 rfl rfl) (by decide +kernel)).trans ((FUp_fIne hU882 (fun z => absurd z.2 (by decide))).trans ((FUp_fIne hU767 (fun z => absurd z.2 (by decide))).trans ((Fr_fI hL36 (tf hT6 rfl rfl) (by decide +kernel)).trans (FUp_fIne hU8 (fun z => absurd z.2 (by decide))))))
          have e1128 := fI_bd (q := 64) hT957 (tf hT957 rfl rfl) fd_8_90
          have q1129 : fI h956 64 90 = fI h 64 90 := (Fr_fI hL959 (tf hT880 rfl rfl) (by decide +kernel)).trans ((FUp_fIne hU882 (fun z => absurd z.2 (by decide))).trans ((FUp_fIne hU767 (fun z => absurd z.2 (by decide))).trans ((Fr_fI hL36 (tf hT6 rfl rfl) (by decide +kernel)).trans (FUp_fIne hU8 (fun z => absurd z.2 (by decide))))))
          have tg1131 : TT h1105 = TT h956 := (TT_fr hT hF1107 (by decide +kernel)).trans (TT_fr hT hF958 (by decide +kernel)).symm
          have bl1130 := BL_m x970 tg1131 (by omega)
          have tt1132 := TT_at hT1106 (fI h1105 64 86)
          have te1133 : TT h1105 = TT h := TT_fr hT hF1107 (by decide +kernel)
          rw [te1133] at tt1132
          have ru1134 : RU (fun i => isD (TT h i)) h1105 := fun j a b => x971 j (by omega) (by omega)
          have tt1135 := TT_at hT1106 (fI h1105 64 87)
          have te1136 : TT h1105 = TT h := TT_fr hT hF1107 (by decide +kernel)
          rw [te1136] at tt1135
          have sq1137 : fI h1105 64 87 = fI h 64 77 ∨ ¬ isD (TT h (fI h1105 64 87)) := by
            by_cases c : fI h1105 64 87 = fI h 64 77
            · exact Or.inl c
            · exact Or.inr (by intro k; have k : (48 : Int) ≤ TT h (fI h1105 64 87) ∧ TT h (fI h1105 64 87) ≤ 57 := k; omega)
          exact hQ _ _ ⟨rfl, by omega, by omega, by omega, by omega, NT_dig pre1 bl1130 (by omega) (by omega) (by omega) (show 48 ≤ TT h (fI h1105 64 86) ∧ TT h (fI h1105 64 86) ≤ 57 by omega) ru1134 (by omega) (by omega) sq1137 (by omega), hT1106, hF1107⟩
          refine st_if_eq c252_174 (by omega) (fun k1138 => False.elim (by omega)) (fun k1139 => ?_)
          refine st_aload c252_177 rfl ?_
          refine st_aload c252_178 rfl ?_
          refine st_getI c252_179 hT957 (tf hT957 rfl rfl) fd_8_87 (fun e1140 e1141 => ?_)
          refine st_aload c252_182 rfl ?_
          refine st_getI c252_183 hT957 (tf hT957 rfl rfl) fd_8_86 (fun e1142 e1143 => ?_)
          have q1144 : fI h956 64 86 = fI h764 64 86 := (Fr_fI hL959 (tf hT880 rfl rfl) (by decide +kernel)).trans (FUp_fIne hU882 (fun z => absurd z.2 (by decide)))
          refine st_isub c252_186 ?_
          refine st_iconst c252_187 ?_
          refine st_icmp_ge c252_189 (by omega) (by omega) (fun k1145 => ?_) (fun k1146 => ?_)
          refine st_aload c252_215 rfl ?_
          refine st_getI c252_216 hT957 (tf hT957 rfl rfl) fd_8_89 (fun e1147 e1148 => ?_)
          refine st_putI c252_219 hT957 (tf hT957 rfl rfl) fd_8_89 (by omega) (by omega) (Ext_rf _) hS hF958 (by decide +kernel) (fun h1149 hT1150 hF1151 hU1152 => ?_)
          refine st_aload c252_222 rfl ?_
          refine st_dup c252_223 rfl ?_
          refine st_getI c252_224 hT1150 (tf hT1150 rfl rfl) fd_8_87 (fun e1153 e1154 => ?_)
          have q1155 : fI h1149 64 87 = fI h956 64 87 := FUp_fIne hU1152 (fun z => absurd z.2 (by decide))
          refine st_iconst c252_227 ?_
          refine st_iadd c252_228 ?_
          refine st_putI c252_229 hT1150 (tf hT1150 rfl rfl) fd_8_87 (by omega) (by omega) (Ext_rf _) hS hF1151 (by decide +kernel) (fun h1156 hT1157 hF1158 hU1159 => ?_)
          refine st_goto c252_232 ?_
          have e1160 := fI_bd (q := 64) hT1157 (tf hT1157 rfl rfl) fd_8_87
          have q1161 : fI h1156 64 87 = (fI h1149 64 87) + 1 := FUp_fI hU1159 (by omega) (by omega)
          have e1162 := fI_bd (q := 64) hT1157 (tf hT1157 rfl rfl) fd_8_77
          have q1163 : fI h1156 64 77 = fI h956 64 77 := (FUp_fIne hU1159 (fun z => absurd z.2 (by decide))).trans (FUp_fIne hU1152 (fun z => absurd z.2 (by decide)))
          have e1164 := fI_bd (q := 64) hT1157 (tf hT1157 rfl rfl) fd_8_86
          have q1165 : fI h1156 64 86 = fI h956 64 86 := (FUp_fIne hU1159 (fun z => absurd z.2 (by decide))).trans (FUp_fIne hU1152 (fun z => absurd z.2 (by decide)))
          have e1166 := fI_bd (q := 64) hT1157 (tf hT1157 rfl rfl) fd_8_88
          have q1167 : fI h1156 64 88 = fI h 64 88 := (FUp_fIne hU1159 (fun z => absurd z.2 (by decide))).trans ((FUp_fIne hU1152 (fun z => absurd z.2 (by decide))).trans ((Fr_fI hL959 (tf hT880 rfl rfl) (by decide +kernel)).trans ((FUp_fIne hU882 (fun z => absurd z.2 (by decide))).trans ((FUp_fIne hU767 (fun z => absurd z.2 (by decide))).trans ((Fr_fI hL36 (tf hT6 rfl rfl) (by decide +kernel)).trans (FUp_fIne hU8 (fun z => absurd z.2 (by decide))))))))
          have e1168 := fI_bd (q := 64) hT1157 (tf hT1157 rfl rfl) fd_8_90
          have q1169 : fI h1156 64 90 = fI h 64 90 := (FUp_fIne hU1159 (fun z => absurd z.2 (by decide))).trans ((FUp_fIne hU1152 (fun z => absurd z.2 (by decide))).trans ((Fr_fI hL959 (tf hT880 rfl rfl) (by decide +kernel)).trans ((FUp_fIne hU882 (fun z => absurd z.2 (by decide))).trans ((FUp_fIne hU767 (fun z => absurd z.2 (by decide))).trans ((Fr_fI hL36 (tf hT6 rfl rfl) (by decide +kernel)).trans (FUp_fIne hU8 (fun z => absurd z.2 (by decide))))))))
          have e1170 := fI_bd (q := 64) hT957 (tf hT957 rfl rfl) fd_8_88
          have q1171 : fI h956 64 88 = fI h 64 88 := (Fr_fI hL959 (tf hT880 rfl rfl) (by decide +kernel)).trans ((FUp_fIne hU882 (fun z => absurd z.2 (by decide))).trans ((FUp_fIne hU767 (fun z => absurd z.2 (by decide))).trans ((Fr_fI hL36 (tf hT6 rfl rfl) (by decide +kernel)).trans (FUp_fIne hU8 (fun z => absurd z.2 (by decide))))))
          have e1172 := fI_bd (q := 64) hT957 (tf hT957 rfl rfl) fd_8_90
          have q1173 : fI h956 64 90 = fI h 64 90 := (Fr_fI hL959 (tf hT880 rfl rfl) (by decide +kernel)).trans ((FUp_fIne hU882 (fun z => absurd z.2 (by decide))).trans ((FUp_fIne hU767 (fun z => absurd z.2 (by decide))).trans ((Fr_fI hL36 (tf hT6 rfl rfl) (by decide +kernel)).trans (FUp_fIne hU8 (fun z => absurd z.2 (by decide))))))
          have tg1174 : TT h1156 = TT h956 := (TT_fr hT hF1158 (by decide +kernel)).trans (TT_fr hT hF958 (by decide +kernel)).symm
          have e1175 := fI_bd (q := 64) hT1157 (tf hT1157 rfl rfl) fd_8_88
          have q1176 : fI h1156 64 88 = fI h 64 88 := (FUp_fIne hU1159 (fun z => absurd z.2 (by decide))).trans ((FUp_fIne hU1152 (fun z => absurd z.2 (by decide))).trans ((Fr_fI hL959 (tf hT880 rfl rfl) (by decide +kernel)).trans ((FUp_fIne hU882 (fun z => absurd z.2 (by decide))).trans ((FUp_fIne hU767 (fun z => absurd z.2 (by decide))).trans ((Fr_fI hL36 (tf hT6 rfl rfl) (by decide +kernel)).trans (FUp_fIne hU8 (fun z => absurd z.2 (by decide))))))))
          have e1177 := fI_bd (q := 64) hT1157 (tf hT1157 rfl rfl) fd_8_90
          have q1178 : fI h1156 64 90 = fI h 64 90 := (FUp_fIne hU1159 (fun z => absurd z.2 (by decide))).trans ((FUp_fIne hU1152 (fun z => absurd z.2 (by decide))).trans ((Fr_fI hL959 (tf hT880 rfl rfl) (by decide +kernel)).trans ((FUp_fIne hU882 (fun z => absurd z.2 (by decide))).trans ((FUp_fIne hU767 (fun z => absurd z.2 (by decide))).trans ((Fr_fI hL36 (tf hT6 rfl rfl) (by decide +kernel)).trans (FUp_fIne hU8 (fun z => absurd z.2 (by decide))))))))
          have e1179 := fI_bd (q := 64) hT957 (tf hT957 rfl rfl) fd_8_88
          have q1180 : fI h956 64 88 = fI h 64 88 := (Fr_fI hL959 (tf hT880 rfl rfl) (by decide +kernel)).trans ((FUp_fIne hU882 (fun z => absurd z.2 (by decide))).trans ((FUp_fIne hU767 (fun z => absurd z.2 (by decide))).trans ((Fr_fI hL36 (tf hT6 rfl rfl) (by decide +kernel)).trans (FUp_fIne hU8 (fun z => absurd z.2 (by decide))))))
          have e1181 := fI_bd (q := 64) hT957 (tf hT957 rfl rfl) fd_8_90
          have q1182 : fI h956 64 90 = fI h 64 90 := (Fr_fI hL959 (tf hT880 rfl rfl) (by decide +kernel)).trans ((FUp_fIne hU882 (fun z => absurd z.2 (by decide))).trans ((FUp_fIne hU767 (fun z => absurd z.2 (by decide))).trans ((Fr_fI hL36 (tf hT6 rfl rfl) (by decide +kernel)).trans (FUp_fIne hU8 (fun z => absurd z.2 (by decide))))))
          have tt1183 := TT_at hT957 (fI h956 64 87)
          have te1184 : TT h956 = TT h := TT_fr hT hF958 (by decide +kernel)
          rw [te1184] at tt1183
          exact ih962 h1156 (by omega) (by omega) (by omega) (by omega) (Or.inl (by omega)) (by omega) (by omega) (BL_m x970 tg1174 (by omega)) (RU_s (Q := fun i => isD (TT h i)) x971 (by omega) (by omega) (show 48 ≤ TT h (fI h956 64 87) ∧ TT h (fI h956 64 87) ≤ 57 by omega)) hT1157 hF1158 (FUp_Fr (FUp_Fr hL959 hU1152 (fun u hu => by rw [ty_1 hu (tf hT1157 rfl rfl)]; decide)) hU1159 (fun u hu => by rw [ty_1 hu (tf hT1157 rfl rfl)]; decide))
          refine st_iconst c252_192 ?_
          refine st_aload c252_194 rfl ?_
          refine st_getI c252_195 hT957 (tf hT957 rfl rfl) fd_8_89 (fun e1185 e1186 => ?_)
          refine st_imul c252_198 ?_
          refine MR_wrap (fun w1187 e1188 e1189 e1190 => ?_)
          refine st_aload c252_199 rfl ?_
          refine st_getX (u := 124) c252_200 hT957 (tf hT957 rfl rfl) fd_8_76 rfl ?_
          refine st_aload c252_203 rfl ?_
          refine st_getI c252_204 hT957 (tf hT957 rfl rfl) fd_8_87 (fun e1191 e1192 => ?_)
          refine st_bald c252_207 hT957 (tf hT957 rfl rfl) ay_102 (Or.inr rfl) (by omega) (fun e1193 e1194 => ?_)
          have q1195 : aI h956 124 (fI h956 64 87) = aI h 124 (fI h956 64 87) := (Fr_aI hL959 (tf hT880 rfl rfl) (by decide +kernel) (fI h956 64 87)).trans ((FUp_aI hU882 (fI h956 64 87)).trans ((FUp_aI hU767 (fI h956 64 87)).trans ((Fr_aI hL36 (tf hT6 rfl rfl) (by decide +kernel) (fI h956 64 87)).trans (FUp_aI hU8 (fI h956 64 87)))))
          refine st_iadd c252_208 ?_
          refine MR_wrap (fun w1196 e1197 e1198 e1199 => ?_)
          refine st_iconst c252_209 ?_
          refine st_isub c252_211 ?_
          refine MR_wrap (fun w1200 e1201 e1202 e1203 => ?_)
          refine st_goto c252_212 ?_
          refine st_putI c252_219 hT957 (tf hT957 rfl rfl) fd_8_89 (by omega) (by omega) (Ext_rf _) hS hF958 (by decide +kernel) (fun h1204 hT1205 hF1206 hU1207 => ?_)
          refine st_aload c252_222 rfl ?_
          refine st_dup c252_223 rfl ?_
          refine st_getI c252_224 hT1205 (tf hT1205 rfl rfl) fd_8_87 (fun e1208 e1209 => ?_)
          have q1210 : fI h1204 64 87 = fI h956 64 87 := FUp_fIne hU1207 (fun z => absurd z.2 (by decide))
          refine st_iconst c252_227 ?_
          refine st_iadd c252_228 ?_
          refine st_putI c252_229 hT1205 (tf hT1205 rfl rfl) fd_8_87 (by omega) (by omega) (Ext_rf _) hS hF1206 (by decide +kernel) (fun h1211 hT1212 hF1213 hU1214 => ?_)
          refine st_goto c252_232 ?_
          have e1215 := fI_bd (q := 64) hT1212 (tf hT1212 rfl rfl) fd_8_87
          have q1216 : fI h1211 64 87 = (fI h1204 64 87) + 1 := FUp_fI hU1214 (by omega) (by omega)
          have e1217 := fI_bd (q := 64) hT1212 (tf hT1212 rfl rfl) fd_8_77
          have q1218 : fI h1211 64 77 = fI h956 64 77 := (FUp_fIne hU1214 (fun z => absurd z.2 (by decide))).trans (FUp_fIne hU1207 (fun z => absurd z.2 (by decide)))
          have e1219 := fI_bd (q := 64) hT1212 (tf hT1212 rfl rfl) fd_8_86
          have q1220 : fI h1211 64 86 = fI h956 64 86 := (FUp_fIne hU1214 (fun z => absurd z.2 (by decide))).trans (FUp_fIne hU1207 (fun z => absurd z.2 (by decide)))
          have e1221 := fI_bd (q := 64) hT1212 (tf hT1212 rfl rfl) fd_8_88
          have q1222 : fI h1211 64 88 = fI h 64 88 := (FUp_fIne hU1214 (fun z => absurd z.2 (by decide))).trans ((FUp_fIne hU1207 (fun z => absurd z.2 (by decide))).trans ((Fr_fI hL959 (tf hT880 rfl rfl) (by decide +kernel)).trans ((FUp_fIne hU882 (fun z => absurd z.2 (by decide))).trans ((FUp_fIne hU767 (fun z => absurd z.2 (by decide))).trans ((Fr_fI hL36 (tf hT6 rfl rfl) (by decide +kernel)).trans (FUp_fIne hU8 (fun z => absurd z.2 (by decide))))))))
          have e1223 := fI_bd (q := 64) hT1212 (tf hT1212 rfl rfl) fd_8_90
          have q1224 : fI h1211 64 90 = fI h 64 90 := (FUp_fIne hU1214 (fun z => absurd z.2 (by decide))).trans ((FUp_fIne hU1207 (fun z => absurd z.2 (by decide))).trans ((Fr_fI hL959 (tf hT880 rfl rfl) (by decide +kernel)).trans ((FUp_fIne hU882 (fun z => absurd z.2 (by decide))).trans ((FUp_fIne hU767 (fun z => absurd z.2 (by decide))).trans ((Fr_fI hL36 (tf hT6 rfl rfl) (by decide +kernel)).trans (FUp_fIne hU8 (fun z => absurd z.2 (by decide))))))))
          have e1225 := fI_bd (q := 64) hT957 (tf hT957 rfl rfl) fd_8_88
          have q1226 : fI h956 64 88 = fI h 64 88 := (Fr_fI hL959 (tf hT880 rfl rfl) (by decide +kernel)).trans ((FUp_fIne hU882 (fun z => absurd z.2 (by decide))).trans ((FUp_fIne hU767 (fun z => absurd z.2 (by decide))).trans ((Fr_fI hL36 (tf hT6 rfl rfl) (by decide +kernel)).trans (FUp_fIne hU8 (fun z => absurd z.2 (by decide))))))
          have e1227 := fI_bd (q := 64) hT957 (tf hT957 rfl rfl) fd_8_90
          have q1228 : fI h956 64 90 = fI h 64 90 := (Fr_fI hL959 (tf hT880 rfl rfl) (by decide +kernel)).trans ((FUp_fIne hU882 (fun z => absurd z.2 (by decide))).trans ((FUp_fIne hU767 (fun z => absurd z.2 (by decide))).trans ((Fr_fI hL36 (tf hT6 rfl rfl) (by decide +kernel)).trans (FUp_fIne hU8 (fun z => absurd z.2 (by decide))))))
          have tg1229 : TT h1211 = TT h956 := (TT_fr hT hF1213 (by decide +kernel)).trans (TT_fr hT hF958 (by decide +kernel)).symm
          have e1230 := fI_bd (q := 64) hT1212 (tf hT1212 rfl rfl) fd_8_88
          have q1231 : fI h1211 64 88 = fI h 64 88 := (FUp_fIne hU1214 (fun z => absurd z.2 (by decide))).trans ((FUp_fIne hU1207 (fun z => absurd z.2 (by decide))).trans ((Fr_fI hL959 (tf hT880 rfl rfl) (by decide +kernel)).trans ((FUp_fIne hU882 (fun z => absurd z.2 (by decide))).trans ((FUp_fIne hU767 (fun z => absurd z.2 (by decide))).trans ((Fr_fI hL36 (tf hT6 rfl rfl) (by decide +kernel)).trans (FUp_fIne hU8 (fun z => absurd z.2 (by decide))))))))
          have e1232 := fI_bd (q := 64) hT1212 (tf hT1212 rfl rfl) fd_8_90
          have q1233 : fI h1211 64 90 = fI h 64 90 := (FUp_fIne hU1214 (fun z => absurd z.2 (by decide))).trans ((FUp_fIne hU1207 (fun z => absurd z.2 (by decide))).trans ((Fr_fI hL959 (tf hT880 rfl rfl) (by decide +kernel)).trans ((FUp_fIne hU882 (fun z => absurd z.2 (by decide))).trans ((FUp_fIne hU767 (fun z => absurd z.2 (by decide))).trans ((Fr_fI hL36 (tf hT6 rfl rfl) (by decide +kernel)).trans (FUp_fIne hU8 (fun z => absurd z.2 (by decide))))))))
          have e1234 := fI_bd (q := 64) hT957 (tf hT957 rfl rfl) fd_8_88
          have q1235 : fI h956 64 88 = fI h 64 88 := (Fr_fI hL959 (tf hT880 rfl rfl) (by decide +kernel)).trans ((FUp_fIne hU882 (fun z => absurd z.2 (by decide))).trans ((FUp_fIne hU767 (fun z => absurd z.2 (by decide))).trans ((Fr_fI hL36 (tf hT6 rfl rfl) (by decide +kernel)).trans (FUp_fIne hU8 (fun z => absurd z.2 (by decide))))))
          have e1236 := fI_bd (q := 64) hT957 (tf hT957 rfl rfl) fd_8_90
          have q1237 : fI h956 64 90 = fI h 64 90 := (Fr_fI hL959 (tf hT880 rfl rfl) (by decide +kernel)).trans ((FUp_fIne hU882 (fun z => absurd z.2 (by decide))).trans ((FUp_fIne hU767 (fun z => absurd z.2 (by decide))).trans ((Fr_fI hL36 (tf hT6 rfl rfl) (by decide +kernel)).trans (FUp_fIne hU8 (fun z => absurd z.2 (by decide))))))
          have tt1238 := TT_at hT957 (fI h956 64 87)
          have te1239 : TT h956 = TT h := TT_fr hT hF958 (by decide +kernel)
          rw [te1239] at tt1238
          exact ih962 h1211 (by omega) (by omega) (by omega) (by omega) (Or.inl (by omega)) (by omega) (by omega) (BL_m x970 tg1229 (by omega)) (RU_s (Q := fun i => isD (TT h i)) x971 (by omega) (by omega) (show 48 ≤ TT h (fI h956 64 87) ∧ TT h (fI h956 64 87) ≤ 57 by omega)) hT1212 hF1213 (FUp_Fr (FUp_Fr hL959 hU1207 (fun u hu => by rw [ty_1 hu (tf hT1212 rfl rfl)]; decide)) hU1214 (fun u hu => by rw [ty_1 hu (tf hT1212 rfl rfl)]; decide))
      have e1240 := fI_bd (q := 64) hT880 (tf hT880 rfl rfl) fd_8_87
      have q1241 : fI h879 64 87 = fI h33 64 86 := (FUp_fIne hU882 (fun z => absurd z.2 (by decide))).trans (FUp_fI hU767 (by omega) (by omega))
      have e1242 := fI_bd (q := 64) hT880 (tf hT880 rfl rfl) fd_8_77
      have q1243 : fI h879 64 77 = fI h764 64 77 := FUp_fIne hU882 (fun z => absurd z.2 (by decide))
      have e1244 := fI_bd (q := 64) hT880 (tf hT880 rfl rfl) fd_8_86
      have q1245 : fI h879 64 86 = fI h764 64 86 := FUp_fIne hU882 (fun z => absurd z.2 (by decide))
      have q1246 : aI h879 124 (fI h764 64 86) = aI h764 124 (fI h764 64 86) := FUp_aI hU882 (fI h764 64 86)
      have e1247 := fI_bd (q := 64) hT880 (tf hT880 rfl rfl) fd_8_88
      have q1248 : fI h879 64 88 = fI h 64 88 := (FUp_fIne hU882 (fun z => absurd z.2 (by decide))).trans ((FUp_fIne hU767 (fun z => absurd z.2 (by decide))).trans ((Fr_fI hL36 (tf hT6 rfl rfl) (by decide +kernel)).trans (FUp_fIne hU8 (fun z => absurd z.2 (by decide)))))
      have e1249 := fI_bd (q := 64) hT880 (tf hT880 rfl rfl) fd_8_90
      have q1250 : fI h879 64 90 = fI h 64 90 := (FUp_fIne hU882 (fun z => absurd z.2 (by decide))).trans ((FUp_fIne hU767 (fun z => absurd z.2 (by decide))).trans ((Fr_fI hL36 (tf hT6 rfl rfl) (by decide +kernel)).trans (FUp_fIne hU8 (fun z => absurd z.2 (by decide)))))
      have e1251 := fI_bd (q := 64) hT34 (tf hT34 rfl rfl) fd_8_88
      have q1252 : fI h33 64 88 = fI h 64 88 := (Fr_fI hL36 (tf hT6 rfl rfl) (by decide +kernel)).trans (FUp_fIne hU8 (fun z => absurd z.2 (by decide)))
      have e1253 := fI_bd (q := 64) hT34 (tf hT34 rfl rfl) fd_8_90
      have q1254 : fI h33 64 90 = fI h 64 90 := (Fr_fI hL36 (tf hT6 rfl rfl) (by decide +kernel)).trans (FUp_fIne hU8 (fun z => absurd z.2 (by decide)))
      have tg1255 : TT h879 = TT h33 := (TT_fr hT hF881 (by decide +kernel)).trans (TT_fr hT hF35 (by decide +kernel)).symm
      have e1256 := fI_bd (q := 64) hT880 (tf hT880 rfl rfl) fd_8_88
      have q1257 : fI h879 64 88 = fI h 64 88 := (FUp_fIne hU882 (fun z => absurd z.2 (by decide))).trans ((FUp_fIne hU767 (fun z => absurd z.2 (by decide))).trans ((Fr_fI hL36 (tf hT6 rfl rfl) (by decide +kernel)).trans (FUp_fIne hU8 (fun z => absurd z.2 (by decide)))))
      have e1258 := fI_bd (q := 64) hT880 (tf hT880 rfl rfl) fd_8_90
      have q1259 : fI h879 64 90 = fI h 64 90 := (FUp_fIne hU882 (fun z => absurd z.2 (by decide))).trans ((FUp_fIne hU767 (fun z => absurd z.2 (by decide))).trans ((Fr_fI hL36 (tf hT6 rfl rfl) (by decide +kernel)).trans (FUp_fIne hU8 (fun z => absurd z.2 (by decide)))))
      exact lp960 (((fI h879 64 77 - fI h879 64 87 : Int) + 1).toNat) h879 (by omega) (by omega) (by omega) (by omega) (Or.inr (by rw [show fI h879 64 87 = fI h764 64 86 from by omega]; omega)) (by omega) (by omega) (BL_m x44 tg1255 (by omega)) (RU_0 (by omega)) hT880 hF881 (Fr_rf _ _ _)
      refine st_if_eq c252_83 (by omega) (fun k1260 => False.elim (by omega)) (fun k1261 => ?_)
      have lp1295 : ∀ (n1296 : Nat) (h1291 : List mE), fI h1291 64 77 - fI h1291 64 87 < (n1296 : Int) → fI h1291 64 87 ≤ fI h1291 64 77 → fI h1291 64 86 ≤ fI h1291 64 87 → fI h1291 64 86+1 ≤ fI h1291 64 77 → fI h1291 64 86 + 1 ≤ fI h1291 64 87 ∨ (97 ≤ aI h1291 124 (fI h1291 64 87) ∧ aI h1291 124 (fI h1291 64 87) ≤ 122) → fI h 64 87 ≤ fI h1291 64 86 → fI h1291 64 77 = fI h 64 77 → BL h h1291 (fI h 64 87) → RU (fun i => isL (TT h i)) h1291 → TH E τ h1291 → Fr τ W252 h h1291 → Fr τ [(8, 87)] h764 h1291 → MR (mex Ln xs) d 252 86 [some (.ref 64)] [] h1291 Q := by
        intro n1296
        induction n1296 with
        | zero =>
          intro h1291 hm1298 x1299 x1300 x1301 x1302 x1303 x1304 x1305 x1306 hT1292 hF1293 hL1294
          exfalso; omega
        | succ n1296 ih1297 =>
          intro h1291 hm1298 x1299 x1300 x1301 x1302 x1303 x1304 x1305 x1306 hT1292 hF1293 hL1294
          have e1307 := fI_bd (q := 64) hT1292 (tf hT1292 rfl rfl) fd_8_87
          have e1308 := fI_bd (q := 64) hT1292 (tf hT1292 rfl rfl) fd_8_77
          have q1309 : fI h1291 64 77 = fI h764 64 77 := Fr_fI hL1294 (tf hT765 rfl rfl) (by decide +kernel)
          have e1310 := fI_bd (q := 64) hT1292 (tf hT1292 rfl rfl) fd_8_86
          have q1311 : fI h1291 64 86 = fI h764 64 86 := Fr_fI hL1294 (tf hT765 rfl rfl) (by decide +kernel)
          refine st_aload c252_86 rfl ?_
          refine st_getI c252_87 hT1292 (tf hT1292 rfl rfl) fd_8_87 (fun e1312 e1313 => ?_)
          refine st_aload c252_90 rfl ?_
          refine st_getI c252_91 hT1292 (tf hT1292 rfl rfl) fd_8_77 (fun e1314 e1315 => ?_)
          have q1316 : fI h1291 64 77 = fI h764 64 77 := Fr_fI hL1294 (tf hT765 rfl rfl) (by decide +kernel)
          refine st_icmp_ge c252_94 (by omega) (by omega) (fun k1317 => ?_) (fun k1318 => ?_)
          refine st_aload c252_125 rfl ?_
          refine st_iconst c252_126 ?_
          refine st_putI c252_127 hT1292 (tf hT1292 rfl rfl) fd_8_88 (by omega) (by omega) (Ext_rf _) hS hF1293 (by decide +kernel) (fun h1319 hT1320 hF1321 hU1322 => ?_)
          refine st_return c252_130 ?_
          have e1323 := fI_bd (q := 64) hT1320 (tf hT1320 rfl rfl) fd_8_86
          have q1324 : fI h1319 64 86 = fI h1291 64 86 := FUp_fIne hU1322 (fun z => absurd z.2 (by decide))
          have e1325 := fI_bd (q := 64) hT1320 (tf hT1320 rfl rfl) fd_8_87
          have q1326 : fI h1319 64 87 = fI h1291 64 87 := FUp_fIne hU1322 (fun z => absurd z.2 (by decide))
          have e1327 := fI_bd (q := 64) hT1320 (tf hT1320 rfl rfl) fd_8_88
          have q1328 : fI h1319 64 88 = 1 := FUp_fI hU1322 (by omega) (by omega)
          have rq1329 : fI h33 64 86 ≠ fI h1319 64 86 ∨ aI h33 124 (fI h33 64 86) = aI h1319 124 (fI h1319 64 86) := by
            by_cases c : fI h33 64 86 = fI h1319 64 86
            · refine Or.inr ?_
              rw [c]
              exact (Fr_aI hF35 (tf (q := 124) (t := 102) hT rfl rfl) (by decide +kernel) _).trans (Fr_aI hF1321 (tf (q := 124) (t := 102) hT rfl rfl) (by decide +kernel) _).symm
            · exact Or.inl c
          have rq1330 : fI h764 64 86 ≠ fI h1319 64 86 ∨ aI h764 124 (fI h764 64 86) = aI h1319 124 (fI h1319 64 86) := by
            by_cases c : fI h764 64 86 = fI h1319 64 86
            · refine Or.inr ?_
              rw [c]
              exact (Fr_aI hF766 (tf (q := 124) (t := 102) hT rfl rfl) (by decide +kernel) _).trans (Fr_aI hF1321 (tf (q := 124) (t := 102) hT rfl rfl) (by decide +kernel) _).symm
            · exact Or.inl c
          have e1331 := fI_bd (q := 64) hT1320 (tf hT1320 rfl rfl) fd_8_77
          have q1332 : fI h1319 64 77 = fI h1291 64 77 := FUp_fIne hU1322 (fun z => absurd z.2 (by decide))
          have e1333 := fI_bd (q := 64) hT1320 (tf hT1320 rfl rfl) fd_8_90
          have q1334 : fI h1319 64 90 = fI h 64 90 := (FUp_fIne hU1322 (fun z => absurd z.2 (by decide))).trans ((Fr_fI hL1294 (tf hT765 rfl rfl) (by decide +kernel)).trans ((FUp_fIne hU767 (fun z => absurd z.2 (by decide))).trans ((Fr_fI hL36 (tf hT6 rfl rfl) (by decide +kernel)).trans (FUp_fIne hU8 (fun z => absurd z.2 (by decide))))))
          have e1335 := fI_bd (q := 64) hT (tf hT rfl rfl) fd_8_77
          have e1336 := fI_bd (q := 64) hT (tf hT rfl rfl) fd_8_86
          have e1337 := fI_bd (q := 64) hT (tf hT rfl rfl) fd_8_88
          have e1338 := fI_bd (q := 64) hT (tf hT rfl rfl) fd_8_90
          have e1339 := fI_bd (q := 64) hT1292 (tf hT1292 rfl rfl) fd_8_88
          have q1340 : fI h1291 64 88 = fI h 64 88 := (Fr_fI hL1294 (tf hT765 rfl rfl) (by decide +kernel)).trans ((FUp_fIne hU767 (fun z => absurd z.2 (by decide))).trans ((Fr_fI hL36 (tf hT6 rfl rfl) (by decide +kernel)).trans (FUp_fIne hU8 (fun z => absurd z.2 (by decide)))))
          have e1341 := fI_bd (q := 64) hT1292 (tf hT1292 rfl rfl) fd_8_90
          have q1342 : fI h1291 64 90 = fI h 64 90 := (Fr_fI hL1294 (tf hT765 rfl rfl) (by decide +kernel)).trans ((FUp_fIne hU767 (fun z => absurd z.2 (by decide))).trans ((Fr_fI hL36 (tf hT6 rfl rfl) (by decide +kernel)).trans (FUp_fIne hU8 (fun z => absurd z.2 (by decide)))))
          have tg1344 : TT h1319 = TT h1291 := (TT_fr hT hF1321 (by decide +kernel)).trans (TT_fr hT hF1293 (by decide +kernel)).symm
          have bl1343 := BL_m x1305 tg1344 (by omega)
          have tt1345 := TT_at hT1320 (fI h1319 64 86)
          have te1346 : TT h1319 = TT h := TT_fr hT hF1321 (by decide +kernel)
          rw [te1346] at tt1345
          have ru1347 : RU (fun i => isL (TT h i)) h1319 := fun j a b => x1306 j (by omega) (by omega)
          have tt1348 := TT_at hT1320 (fI h1319 64 87)
          have te1349 : TT h1319 = TT h := TT_fr hT hF1321 (by decide +kernel)
          rw [te1349] at tt1348
          have sq1350 : fI h1319 64 87 = fI h 64 77 ∨ ¬ isL (TT h (fI h1319 64 87)) := by
            by_cases c : fI h1319 64 87 = fI h 64 77
            · exact Or.inl c
            · exact Or.inr (by intro k; have k : (97 : Int) ≤ TT h (fI h1319 64 87) ∧ TT h (fI h1319 64 87) ≤ 122 := k; omega)
          exact hQ _ _ ⟨rfl, by omega, by omega, by omega, by omega, NT_let pre1 bl1343 (by omega) (by omega) (by omega) (show 97 ≤ TT h (fI h1319 64 86) ∧ TT h (fI h1319 64 86) ≤ 122 by omega) ru1347 (by omega) (by omega) sq1350 (by omega), hT1320, hF1321⟩
          refine st_aload c252_97 rfl ?_
          refine st_getX (u := 124) c252_98 hT1292 (tf hT1292 rfl rfl) fd_8_76 rfl ?_
          refine st_aload c252_101 rfl ?_
          refine st_getI c252_102 hT1292 (tf hT1292 rfl rfl) fd_8_87 (fun e1351 e1352 => ?_)
          refine st_bald c252_105 hT1292 (tf hT1292 rfl rfl) ay_102 (Or.inr rfl) (by omega) (fun e1353 e1354 => ?_)
          have q1355 : aI h1291 124 (fI h1291 64 87) = aI h 124 (fI h1291 64 87) := (Fr_aI hL1294 (tf hT765 rfl rfl) (by decide +kernel) (fI h1291 64 87)).trans ((FUp_aI hU767 (fI h1291 64 87)).trans ((Fr_aI hL36 (tf hT6 rfl rfl) (by decide +kernel) (fI h1291 64 87)).trans (FUp_aI hU8 (fI h1291 64 87))))
          refine st_calls (as := [vI (aI h1291 124 (fI h1291 64 87))]) c252_106 cm_250 rfl rfl rfl rfl (by omega) (K250 hT1292 (aI h1291 124 (fI h1291 64 87)) (by omega) (d - 1) (by omega) _ (fun v h0 H => H)) (fun v1 h1 H => ?_)
          rcases H with ⟨rfl, pf1356, rfl⟩ | ⟨rfl, pf1357, pf1358, rfl⟩
          refine st_if_eq c252_109 (by omega) (fun k1359 => ?_) (fun k1360 => False.elim (by omega))
          refine st_aload c252_125 rfl ?_
          refine st_iconst c252_126 ?_
          refine st_putI c252_127 hT1292 (tf hT1292 rfl rfl) fd_8_88 (by omega) (by omega) (Ext_rf _) hS hF1293 (by decide +kernel) (fun h1361 hT1362 hF1363 hU1364 => ?_)
          refine st_return c252_130 ?_
          have e1365 := fI_bd (q := 64) hT1362 (tf hT1362 rfl rfl) fd_8_86
          have q1366 : fI h1361 64 86 = fI h1291 64 86 := FUp_fIne hU1364 (fun z => absurd z.2 (by decide))
          have e1367 := fI_bd (q := 64) hT1362 (tf hT1362 rfl rfl) fd_8_87
          have q1368 : fI h1361 64 87 = fI h1291 64 87 := FUp_fIne hU1364 (fun z => absurd z.2 (by decide))
          have e1369 := fI_bd (q := 64) hT1362 (tf hT1362 rfl rfl) fd_8_88
          have q1370 : fI h1361 64 88 = 1 := FUp_fI hU1364 (by omega) (by omega)
          have rq1371 : fI h33 64 86 ≠ fI h1361 64 86 ∨ aI h33 124 (fI h33 64 86) = aI h1361 124 (fI h1361 64 86) := by
            by_cases c : fI h33 64 86 = fI h1361 64 86
            · refine Or.inr ?_
              rw [c]
              exact (Fr_aI hF35 (tf (q := 124) (t := 102) hT rfl rfl) (by decide +kernel) _).trans (Fr_aI hF1363 (tf (q := 124) (t := 102) hT rfl rfl) (by decide +kernel) _).symm
            · exact Or.inl c
          have rq1372 : fI h764 64 86 ≠ fI h1361 64 86 ∨ aI h764 124 (fI h764 64 86) = aI h1361 124 (fI h1361 64 86) := by
            by_cases c : fI h764 64 86 = fI h1361 64 86
            · refine Or.inr ?_
              rw [c]
              exact (Fr_aI hF766 (tf (q := 124) (t := 102) hT rfl rfl) (by decide +kernel) _).trans (Fr_aI hF1363 (tf (q := 124) (t := 102) hT rfl rfl) (by decide +kernel) _).symm
            · exact Or.inl c
          have rq1373 : fI h1291 64 87 ≠ fI h1361 64 87 ∨ aI h1291 124 (fI h1291 64 87) = aI h1361 124 (fI h1361 64 87) := by
            by_cases c : fI h1291 64 87 = fI h1361 64 87
            · refine Or.inr ?_
              rw [c]
              exact (Fr_aI hF1293 (tf (q := 124) (t := 102) hT rfl rfl) (by decide +kernel) _).trans (Fr_aI hF1363 (tf (q := 124) (t := 102) hT rfl rfl) (by decide +kernel) _).symm
            · exact Or.inl c
          have e1374 := fI_bd (q := 64) hT1362 (tf hT1362 rfl rfl) fd_8_77
          have q1375 : fI h1361 64 77 = fI h1291 64 77 := FUp_fIne hU1364 (fun z => absurd z.2 (by decide))
          have e1376 := fI_bd (q := 64) hT1362 (tf hT1362 rfl rfl) fd_8_90
          have q1377 : fI h1361 64 90 = fI h 64 90 := (FUp_fIne hU1364 (fun z => absurd z.2 (by decide))).trans ((Fr_fI hL1294 (tf hT765 rfl rfl) (by decide +kernel)).trans ((FUp_fIne hU767 (fun z => absurd z.2 (by decide))).trans ((Fr_fI hL36 (tf hT6 rfl rfl) (by decide +kernel)).trans (FUp_fIne hU8 (fun z => absurd z.2 (by decide))))))
          have e1378 := fI_bd (q := 64) hT (tf hT rfl rfl) fd_8_77
          have e1379 := fI_bd (q := 64) hT (tf hT rfl rfl) fd_8_86
          have e1380 := fI_bd (q := 64) hT (tf hT rfl rfl) fd_8_88
          have e1381 := fI_bd (q := 64) hT (tf hT rfl rfl) fd_8_90
          have e1382 := fI_bd (q := 64) hT1292 (tf hT1292 rfl rfl) fd_8_88
          have q1383 : fI h1291 64 88 = fI h 64 88 := (Fr_fI hL1294 (tf hT765 rfl rfl) (by decide +kernel)).trans ((FUp_fIne hU767 (fun z => absurd z.2 (by decide))).trans ((Fr_fI hL36 (tf hT6 rfl rfl) (by decide +kernel)).trans (FUp_fIne hU8 (fun z => absurd z.2 (by decide)))))
          have e1384 := fI_bd (q := 64) hT1292 (tf hT1292 rfl rfl) fd_8_90
          have q1385 : fI h1291 64 90 = fI h 64 90 := (Fr_fI hL1294 (tf hT765 rfl rfl) (by decide +kernel)).trans ((FUp_fIne hU767 (fun z => absurd z.2 (by decide))).trans ((Fr_fI hL36 (tf hT6 rfl rfl) (by decide +kernel)).trans (FUp_fIne hU8 (fun z => absurd z.2 (by decide)))))
          have tg1387 : TT h1361 = TT h1291 := (TT_fr hT hF1363 (by decide +kernel)).trans (TT_fr hT hF1293 (by decide +kernel)).symm
          have bl1386 := BL_m x1305 tg1387 (by omega)
          have tt1388 := TT_at hT1362 (fI h1361 64 86)
          have te1389 : TT h1361 = TT h := TT_fr hT hF1363 (by decide +kernel)
          rw [te1389] at tt1388
          have ru1390 : RU (fun i => isL (TT h i)) h1361 := fun j a b => x1306 j (by omega) (by omega)
          have tt1391 := TT_at hT1362 (fI h1361 64 87)
          have te1392 : TT h1361 = TT h := TT_fr hT hF1363 (by decide +kernel)
          rw [te1392] at tt1391
          have sq1393 : fI h1361 64 87 = fI h 64 77 ∨ ¬ isL (TT h (fI h1361 64 87)) := by
            by_cases c : fI h1361 64 87 = fI h 64 77
            · exact Or.inl c
            · exact Or.inr (by intro k; have k : (97 : Int) ≤ TT h (fI h1361 64 87) ∧ TT h (fI h1361 64 87) ≤ 122 := k; omega)
          exact hQ _ _ ⟨rfl, by omega, by omega, by omega, by omega, NT_let pre1 bl1386 (by omega) (by omega) (by omega) (show 97 ≤ TT h (fI h1361 64 86) ∧ TT h (fI h1361 64 86) ≤ 122 by omega) ru1390 (by omega) (by omega) sq1393 (by omega), hT1362, hF1363⟩
          refine st_if_eq c252_109 (by omega) (fun k1394 => False.elim (by omega)) (fun k1395 => ?_)
          refine st_aload c252_112 rfl ?_
          refine st_dup c252_113 rfl ?_
          refine st_getI c252_114 hT1292 (tf hT1292 rfl rfl) fd_8_87 (fun e1396 e1397 => ?_)
          refine st_iconst c252_117 ?_
          refine st_iadd c252_118 ?_
          refine st_putI c252_119 hT1292 (tf hT1292 rfl rfl) fd_8_87 (by omega) (by omega) (Ext_rf _) hS hF1293 (by decide +kernel) (fun h1398 hT1399 hF1400 hU1401 => ?_)
          refine st_goto c252_122 ?_
          have e1402 := fI_bd (q := 64) hT1399 (tf hT1399 rfl rfl) fd_8_87
          have q1403 : fI h1398 64 87 = (fI h1291 64 87) + 1 := FUp_fI hU1401 (by omega) (by omega)
          have e1404 := fI_bd (q := 64) hT1399 (tf hT1399 rfl rfl) fd_8_77
          have q1405 : fI h1398 64 77 = fI h1291 64 77 := FUp_fIne hU1401 (fun z => absurd z.2 (by decide))
          have e1406 := fI_bd (q := 64) hT1399 (tf hT1399 rfl rfl) fd_8_86
          have q1407 : fI h1398 64 86 = fI h1291 64 86 := FUp_fIne hU1401 (fun z => absurd z.2 (by decide))
          have e1408 := fI_bd (q := 64) hT1399 (tf hT1399 rfl rfl) fd_8_88
          have q1409 : fI h1398 64 88 = fI h 64 88 := (FUp_fIne hU1401 (fun z => absurd z.2 (by decide))).trans ((Fr_fI hL1294 (tf hT765 rfl rfl) (by decide +kernel)).trans ((FUp_fIne hU767 (fun z => absurd z.2 (by decide))).trans ((Fr_fI hL36 (tf hT6 rfl rfl) (by decide +kernel)).trans (FUp_fIne hU8 (fun z => absurd z.2 (by decide))))))
          have e1410 := fI_bd (q := 64) hT1399 (tf hT1399 rfl rfl) fd_8_90
          have q1411 : fI h1398 64 90 = fI h 64 90 := (FUp_fIne hU1401 (fun z => absurd z.2 (by decide))).trans ((Fr_fI hL1294 (tf hT765 rfl rfl) (by decide +kernel)).trans ((FUp_fIne hU767 (fun z => absurd z.2 (by decide))).trans ((Fr_fI hL36 (tf hT6 rfl rfl) (by decide +kernel)).trans (FUp_fIne hU8 (fun z => absurd z.2 (by decide))))))
          have e1412 := fI_bd (q := 64) hT1292 (tf hT1292 rfl rfl) fd_8_88
          have q1413 : fI h1291 64 88 = fI h 64 88 := (Fr_fI hL1294 (tf hT765 rfl rfl) (by decide +kernel)).trans ((FUp_fIne hU767 (fun z => absurd z.2 (by decide))).trans ((Fr_fI hL36 (tf hT6 rfl rfl) (by decide +kernel)).trans (FUp_fIne hU8 (fun z => absurd z.2 (by decide)))))
          have e1414 := fI_bd (q := 64) hT1292 (tf hT1292 rfl rfl) fd_8_90
          have q1415 : fI h1291 64 90 = fI h 64 90 := (Fr_fI hL1294 (tf hT765 rfl rfl) (by decide +kernel)).trans ((FUp_fIne hU767 (fun z => absurd z.2 (by decide))).trans ((Fr_fI hL36 (tf hT6 rfl rfl) (by decide +kernel)).trans (FUp_fIne hU8 (fun z => absurd z.2 (by decide)))))
          have tg1416 : TT h1398 = TT h1291 := (TT_fr hT hF1400 (by decide +kernel)).trans (TT_fr hT hF1293 (by decide +kernel)).symm
          have e1417 := fI_bd (q := 64) hT1399 (tf hT1399 rfl rfl) fd_8_88
          have q1418 : fI h1398 64 88 = fI h 64 88 := (FUp_fIne hU1401 (fun z => absurd z.2 (by decide))).trans ((Fr_fI hL1294 (tf hT765 rfl rfl) (by decide +kernel)).trans ((FUp_fIne hU767 (fun z => absurd z.2 (by decide))).trans ((Fr_fI hL36 (tf hT6 rfl rfl) (by decide +kernel)).trans (FUp_fIne hU8 (fun z => absurd z.2 (by decide))))))
          have e1419 := fI_bd (q := 64) hT1399 (tf hT1399 rfl rfl) fd_8_90
          have q1420 : fI h1398 64 90 = fI h 64 90 := (FUp_fIne hU1401 (fun z => absurd z.2 (by decide))).trans ((Fr_fI hL1294 (tf hT765 rfl rfl) (by decide +kernel)).trans ((FUp_fIne hU767 (fun z => absurd z.2 (by decide))).trans ((Fr_fI hL36 (tf hT6 rfl rfl) (by decide +kernel)).trans (FUp_fIne hU8 (fun z => absurd z.2 (by decide))))))
          have e1421 := fI_bd (q := 64) hT1292 (tf hT1292 rfl rfl) fd_8_88
          have q1422 : fI h1291 64 88 = fI h 64 88 := (Fr_fI hL1294 (tf hT765 rfl rfl) (by decide +kernel)).trans ((FUp_fIne hU767 (fun z => absurd z.2 (by decide))).trans ((Fr_fI hL36 (tf hT6 rfl rfl) (by decide +kernel)).trans (FUp_fIne hU8 (fun z => absurd z.2 (by decide)))))
          have e1423 := fI_bd (q := 64) hT1292 (tf hT1292 rfl rfl) fd_8_90
          have q1424 : fI h1291 64 90 = fI h 64 90 := (Fr_fI hL1294 (tf hT765 rfl rfl) (by decide +kernel)).trans ((FUp_fIne hU767 (fun z => absurd z.2 (by decide))).trans ((Fr_fI hL36 (tf hT6 rfl rfl) (by decide +kernel)).trans (FUp_fIne hU8 (fun z => absurd z.2 (by decide)))))
          have tt1425 := TT_at hT1292 (fI h1291 64 87)
          have te1426 : TT h1291 = TT h := TT_fr hT hF1293 (by decide +kernel)
          rw [te1426] at tt1425
          exact ih1297 h1398 (by omega) (by omega) (by omega) (by omega) (Or.inl (by omega)) (by omega) (by omega) (BL_m x1305 tg1416 (by omega)) (RU_s (Q := fun i => isL (TT h i)) x1306 (by omega) (by omega) (show 97 ≤ TT h (fI h1291 64 87) ∧ TT h (fI h1291 64 87) ≤ 122 by omega)) hT1399 hF1400 (FUp_Fr hL1294 hU1401 (fun u hu => by rw [ty_1 hu (tf hT1399 rfl rfl)]; decide))
      have e1427 := fI_bd (q := 64) hT765 (tf hT765 rfl rfl) fd_8_87
      have q1428 : fI h764 64 87 = fI h33 64 86 := FUp_fI hU767 (by omega) (by omega)
      have e1429 := fI_bd (q := 64) hT765 (tf hT765 rfl rfl) fd_8_88
      have q1430 : fI h764 64 88 = fI h 64 88 := (FUp_fIne hU767 (fun z => absurd z.2 (by decide))).trans ((Fr_fI hL36 (tf hT6 rfl rfl) (by decide +kernel)).trans (FUp_fIne hU8 (fun z => absurd z.2 (by decide))))
      have e1431 := fI_bd (q := 64) hT765 (tf hT765 rfl rfl) fd_8_90
      have q1432 : fI h764 64 90 = fI h 64 90 := (FUp_fIne hU767 (fun z => absurd z.2 (by decide))).trans ((Fr_fI hL36 (tf hT6 rfl rfl) (by decide +kernel)).trans (FUp_fIne hU8 (fun z => absurd z.2 (by decide))))
      have e1433 := fI_bd (q := 64) hT34 (tf hT34 rfl rfl) fd_8_88
      have q1434 : fI h33 64 88 = fI h 64 88 := (Fr_fI hL36 (tf hT6 rfl rfl) (by decide +kernel)).trans (FUp_fIne hU8 (fun z => absurd z.2 (by decide)))
      have e1435 := fI_bd (q := 64) hT34 (tf hT34 rfl rfl) fd_8_90
      have q1436 : fI h33 64 90 = fI h 64 90 := (Fr_fI hL36 (tf hT6 rfl rfl) (by decide +kernel)).trans (FUp_fIne hU8 (fun z => absurd z.2 (by decide)))
      have tg1437 : TT h764 = TT h33 := (TT_fr hT hF766 (by decide +kernel)).trans (TT_fr hT hF35 (by decide +kernel)).symm
      have e1438 := fI_bd (q := 64) hT765 (tf hT765 rfl rfl) fd_8_88
      have q1439 : fI h764 64 88 = fI h 64 88 := (FUp_fIne hU767 (fun z => absurd z.2 (by decide))).trans ((Fr_fI hL36 (tf hT6 rfl rfl) (by decide +kernel)).trans (FUp_fIne hU8 (fun z => absurd z.2 (by decide))))
      have e1440 := fI_bd (q := 64) hT765 (tf hT765 rfl rfl) fd_8_90
      have q1441 : fI h764 64 90 = fI h 64 90 := (FUp_fIne hU767 (fun z => absurd z.2 (by decide))).trans ((Fr_fI hL36 (tf hT6 rfl rfl) (by decide +kernel)).trans (FUp_fIne hU8 (fun z => absurd z.2 (by decide))))
      exact lp1295 (((fI h764 64 77 - fI h764 64 87 : Int) + 1).toNat) h764 (by omega) (by omega) (by omega) (by omega) (Or.inr (by rw [show fI h764 64 87 = fI h764 64 86 from by omega]; omega)) (by omega) (by omega) (BL_m x44 tg1437 (by omega)) (RU_0 (by omega)) hT765 hF766 (Fr_rf _ _ _)
      refine st_aload c252_65 rfl ?_
      refine st_iconst c252_66 ?_
      refine st_putI c252_67 hT765 (tf hT765 rfl rfl) fd_8_88 (by omega) (by omega) (Ext_rf _) hS hF766 (by decide +kernel) (fun h1442 hT1443 hF1444 hU1445 => ?_)
      refine st_return c252_70 ?_
      have e1446 := fI_bd (q := 64) hT1443 (tf hT1443 rfl rfl) fd_8_86
      have q1447 : fI h1442 64 86 = fI h764 64 86 := FUp_fIne hU1445 (fun z => absurd z.2 (by decide))
      have e1448 := fI_bd (q := 64) hT1443 (tf hT1443 rfl rfl) fd_8_87
      have q1449 : fI h1442 64 87 = fI h33 64 86 := (FUp_fIne hU1445 (fun z => absurd z.2 (by decide))).trans (FUp_fI hU767 (by omega) (by omega))
      have e1450 := fI_bd (q := 64) hT1443 (tf hT1443 rfl rfl) fd_8_88
      have q1451 : fI h1442 64 88 = 0 := FUp_fI hU1445 (by omega) (by omega)
      have rq1452 : fI h33 64 86 ≠ fI h1442 64 86 ∨ aI h33 124 (fI h33 64 86) = aI h1442 124 (fI h1442 64 86) := by
        by_cases c : fI h33 64 86 = fI h1442 64 86
        · refine Or.inr ?_
          rw [c]
          exact (Fr_aI hF35 (tf (q := 124) (t := 102) hT rfl rfl) (by decide +kernel) _).trans (Fr_aI hF1444 (tf (q := 124) (t := 102) hT rfl rfl) (by decide +kernel) _).symm
        · exact Or.inl c
      have e1453 := fI_bd (q := 64) hT1443 (tf hT1443 rfl rfl) fd_8_77
      have q1454 : fI h1442 64 77 = fI h764 64 77 := FUp_fIne hU1445 (fun z => absurd z.2 (by decide))
      have e1455 := fI_bd (q := 64) hT1443 (tf hT1443 rfl rfl) fd_8_90
      have q1456 : fI h1442 64 90 = fI h 64 90 := (FUp_fIne hU1445 (fun z => absurd z.2 (by decide))).trans ((FUp_fIne hU767 (fun z => absurd z.2 (by decide))).trans ((Fr_fI hL36 (tf hT6 rfl rfl) (by decide +kernel)).trans (FUp_fIne hU8 (fun z => absurd z.2 (by decide)))))
      have e1457 := fI_bd (q := 64) hT (tf hT rfl rfl) fd_8_77
      have e1458 := fI_bd (q := 64) hT (tf hT rfl rfl) fd_8_86
      have e1459 := fI_bd (q := 64) hT (tf hT rfl rfl) fd_8_88
      have e1460 := fI_bd (q := 64) hT (tf hT rfl rfl) fd_8_90
      have e1461 := fI_bd (q := 64) hT34 (tf hT34 rfl rfl) fd_8_88
      have q1462 : fI h33 64 88 = fI h 64 88 := (Fr_fI hL36 (tf hT6 rfl rfl) (by decide +kernel)).trans (FUp_fIne hU8 (fun z => absurd z.2 (by decide)))
      have e1463 := fI_bd (q := 64) hT34 (tf hT34 rfl rfl) fd_8_90
      have q1464 : fI h33 64 90 = fI h 64 90 := (Fr_fI hL36 (tf hT6 rfl rfl) (by decide +kernel)).trans (FUp_fIne hU8 (fun z => absurd z.2 (by decide)))
      have tg1466 : TT h1442 = TT h33 := (TT_fr hT hF1444 (by decide +kernel)).trans (TT_fr hT hF35 (by decide +kernel)).symm
      have bl1465 := BL_m x44 tg1466 (by omega)
      have tt1467 := TT_at hT1443 (fI h1442 64 86)
      have te1468 : TT h1442 = TT h := TT_fr hT hF1444 (by decide +kernel)
      rw [te1468] at tt1467
      exact hQ _ _ ⟨rfl, by omega, by omega, by omega, by omega, NT_end pre1 bl1465 (by omega) (by omega) (by omega) (by omega) (by omega), hT1443, hF1444⟩
      refine st_aload c252_33 rfl ?_
      refine st_dup c252_34 rfl ?_
      refine st_getI c252_35 hT34 (tf hT34 rfl rfl) fd_8_86 (fun e1469 e1470 => ?_)
      refine st_iconst c252_38 ?_
      refine st_iadd c252_39 ?_
      refine st_putI c252_40 hT34 (tf hT34 rfl rfl) fd_8_86 (by omega) (by omega) (Ext_rf _) hS hF35 (by decide +kernel) (fun h1471 hT1472 hF1473 hU1474 => ?_)
      refine st_goto c252_43 ?_
      have e1475 := fI_bd (q := 64) hT1472 (tf hT1472 rfl rfl) fd_8_86
      have q1476 : fI h1471 64 86 = (fI h33 64 86) + 1 := FUp_fI hU1474 (by omega) (by omega)
      have e1477 := fI_bd (q := 64) hT1472 (tf hT1472 rfl rfl) fd_8_77
      have q1478 : fI h1471 64 77 = fI h33 64 77 := FUp_fIne hU1474 (fun z => absurd z.2 (by decide))
      have e1479 := fI_bd (q := 64) hT1472 (tf hT1472 rfl rfl) fd_8_87
      have q1480 : fI h1471 64 87 = fI h33 64 87 := FUp_fIne hU1474 (fun z => absurd z.2 (by decide))
      have e1481 := fI_bd (q := 64) hT1472 (tf hT1472 rfl rfl) fd_8_88
      have q1482 : fI h1471 64 88 = fI h 64 88 := (FUp_fIne hU1474 (fun z => absurd z.2 (by decide))).trans ((Fr_fI hL36 (tf hT6 rfl rfl) (by decide +kernel)).trans (FUp_fIne hU8 (fun z => absurd z.2 (by decide))))
      have e1483 := fI_bd (q := 64) hT1472 (tf hT1472 rfl rfl) fd_8_90
      have q1484 : fI h1471 64 90 = fI h 64 90 := (FUp_fIne hU1474 (fun z => absurd z.2 (by decide))).trans ((Fr_fI hL36 (tf hT6 rfl rfl) (by decide +kernel)).trans (FUp_fIne hU8 (fun z => absurd z.2 (by decide))))
      have e1485 := fI_bd (q := 64) hT34 (tf hT34 rfl rfl) fd_8_88
      have q1486 : fI h33 64 88 = fI h 64 88 := (Fr_fI hL36 (tf hT6 rfl rfl) (by decide +kernel)).trans (FUp_fIne hU8 (fun z => absurd z.2 (by decide)))
      have e1487 := fI_bd (q := 64) hT34 (tf hT34 rfl rfl) fd_8_90
      have q1488 : fI h33 64 90 = fI h 64 90 := (Fr_fI hL36 (tf hT6 rfl rfl) (by decide +kernel)).trans (FUp_fIne hU8 (fun z => absurd z.2 (by decide)))
      have tt1489 := TT_at hT34 (fI h33 64 86)
      have te1490 : TT h33 = TT h := TT_fr hT hF35 (by decide +kernel)
      rw [te1490] at tt1489
      have tg1491 : TT h1471 = TT h33 := (TT_fr hT hF1473 (by decide +kernel)).trans (TT_fr hT hF35 (by decide +kernel)).symm
      exact ih39 h1471 (by omega) (by omega) (by omega) (by omega) (BL_s x44 tg1491 (by omega) (by omega)) hT1472 hF1473 (FUp_Fr hL36 hU1474 (fun u hu => by rw [ty_1 hu (tf hT1472 rfl rfl)]; decide))
  have e1492 := fI_bd (q := 64) hT6 (tf hT6 rfl rfl) fd_8_86
  have q1493 : fI h5 64 86 = fI h 64 87 := FUp_fI hU8 (by omega) (by omega)
  have e1494 := fI_bd (q := 64) hT6 (tf hT6 rfl rfl) fd_8_77
  have q1495 : fI h5 64 77 = fI h 64 77 := FUp_fIne hU8 (fun z => absurd z.2 (by decide))
  have e1496 := fI_bd (q := 64) hT6 (tf hT6 rfl rfl) fd_8_87
  have q1497 : fI h5 64 87 = fI h 64 87 := FUp_fIne hU8 (fun z => absurd z.2 (by decide))
  have e1498 := fI_bd (q := 64) hT6 (tf hT6 rfl rfl) fd_8_88
  have q1499 : fI h5 64 88 = fI h 64 88 := FUp_fIne hU8 (fun z => absurd z.2 (by decide))
  have e1500 := fI_bd (q := 64) hT6 (tf hT6 rfl rfl) fd_8_90
  have q1501 : fI h5 64 90 = fI h 64 90 := FUp_fIne hU8 (fun z => absurd z.2 (by decide))
  exact lp37 (((fI h5 64 77 - fI h5 64 86 : Int) + 1).toNat) h5 (by omega) (by omega) (by omega) (by omega) (BL_0 (TT_fr hT hF7 (by decide +kernel)) (by omega)) hT6 hF7 (Fr_rf _ _ _)
set_option maxHeartbeats 0 in
theorem K253 {Ln : Nat} {xs : Nat → Int32} {τ : List Nat} {h : List mE} {E : EP} (hT : TH E τ h) (p1 : Int64) (pre0 : fI h 64 86≤fI h 64 87) (d : Nat) (hd : 0 ≤ d) (Q : Option Value → List mE → Prop) (hQ : ∀ v h', ((v = some (vI 0) ∧ (¬ WH h p1) ∧ h = h') ∨ (v = some (vI 1) ∧ (fI h 64 88=1) ∧ (WH h p1) ∧ h = h')) → Q v h') : MR (mex Ln xs) d 253 0 [some (.ref 64), some (.long p1), none, none, none, none] [] h Q := by
  have e1 := fI_bd (q := 64) hT (tf hT rfl rfl) fd_8_86
  have e2 := fI_bd (q := 64) hT (tf hT rfl rfl) fd_8_87
  refine st_aload c253_0 rfl ?_
  refine st_getI c253_1 hT (tf hT rfl rfl) fd_8_88 (fun e3 e4 => ?_)
  refine st_iconst c253_4 ?_
  refine st_icmp_ne c253_5 (by omega) (by omega) (fun k5 => ?_) (fun k6 => ?_)
  refine st_iconst c253_22 ?_
  refine st_zreturn c253_23 (by omega) ?_
  exact hQ _ _ (Or.inl ⟨rfl, WH_n0 (by omega), rfl⟩)
  refine st_aload c253_8 rfl ?_
  refine st_getI c253_9 hT (tf hT rfl rfl) fd_8_87 (fun e7 e8 => ?_)
  refine st_aload c253_12 rfl ?_
  refine st_getI c253_13 hT (tf hT rfl rfl) fd_8_86 (fun e9 e10 => ?_)
  refine st_isub c253_16 ?_
  refine st_iconst c253_17 ?_
  refine st_icmp_le c253_19 (by omega) (by omega) (fun k11 => ?_) (fun k12 => ?_)
  refine st_lconst c253_24 ?_
  refine st_lstore (L' := [some (.ref 64), some (.long p1), none, some (.long (Int64.ofInt 0)), none, none]) c253_25 rfl rfl ?_
  refine st_aload c253_26 rfl ?_
  refine st_getI c253_27 hT (tf hT rfl rfl) fd_8_86 (fun e13 e14 => ?_)
  refine st_istore (L' := [some (.ref 64), some (.long p1), none, some (.long (Int64.ofInt 0)), none, some (vI (fI h 64 86))]) c253_30 rfl rfl ?_
  have lp25 : ∀ (n26 : Nat) (w23 : Int64) (z24 : Int), (200 : Int) - z24 < (n26 : Int) → 0 ≤ z24 ∧ z24 ≤ 200 → w23 = HJ (aI h 124) (fI h 64 86) (z24 - fI h 64 86).toNat → z24 ≤ fI h 64 87 → fI h 64 86 ≤ z24 → MR (mex Ln xs) d 253 32 [some (.ref 64), some (.long p1), none, some (.long w23), none, some (vI z24)] [] h Q := by
    intro n26
    induction n26 with
    | zero =>
      intro w23 z24 hm28 b29 x30 x31 x32
      exfalso; omega
    | succ n26 ih27 =>
      intro w23 z24 hm28 b29 x30 x31 x32
      refine st_iload c253_32 rfl ?_
      refine st_aload c253_34 rfl ?_
      refine st_getI c253_35 hT (tf hT rfl rfl) fd_8_87 (fun e33 e34 => ?_)
      refine st_icmp_ge c253_38 (by omega) (by omega) (fun k35 => ?_) (fun k36 => ?_)
      refine st_lload c253_66 rfl ?_
      refine st_lload c253_67 rfl ?_
      refine st_lcmpx c253_68 (fun w37 e38 e39 e40 => ?_)
      refine st_if_ne c253_69 (by omega) (fun k41 => ?_) (fun k42 => ?_)
      refine st_iconst c253_76 ?_
      refine st_zreturn c253_77 (by omega) ?_
      exact hQ _ _ (Or.inl ⟨rfl, WH_no x30 (by omega) (fun c => absurd (e40.mpr c) (by omega)), rfl⟩)
      refine st_iconst c253_72 ?_
      refine st_goto c253_73 ?_
      refine st_zreturn c253_77 (by omega) ?_
      exact hQ _ _ (Or.inr ⟨rfl, by omega, WH_mk (by omega) (by omega) x30 (by omega) (e40.mp (by omega)), rfl⟩)
      refine st_lconst c253_41 ?_
      refine st_lload c253_44 rfl ?_
      refine st_lmulx c253_45 ?_
      refine st_aload c253_46 rfl ?_
      refine st_getX (u := 124) c253_47 hT (tf hT rfl rfl) fd_8_76 rfl ?_
      refine st_iload c253_50 rfl ?_
      refine st_bald c253_52 hT (tf hT rfl rfl) ay_102 (Or.inr rfl) (by omega) (fun e43 e44 => ?_)
      refine st_i2lx c253_53 (by omega) ?_
      refine st_laddx c253_54 ?_
      refine st_lconst c253_55 ?_
      refine st_lsubx c253_58 ?_
      refine st_lstore (L' := [some (.ref 64), some (.long p1), none, some (.long ((((Int64.ofInt 27) * w23) + (Int64.ofInt (aI h 124 z24))) - (Int64.ofInt 96))), none, some (vI z24)]) c253_59 rfl rfl ?_
      refine st_iinc (L' := [some (.ref 64), some (.long p1), none, some (.long ((((Int64.ofInt 27) * w23) + (Int64.ofInt (aI h 124 z24))) - (Int64.ofInt 96))), none, some (vI (z24 + 1))]) c253_60 rfl rfl rfl ?_
      refine st_goto c253_63 ?_
      exact ih27 ((((Int64.ofInt 27) * w23) + (Int64.ofInt (aI h 124 z24))) - (Int64.ofInt 96)) (z24 + 1) (by omega) (by omega) (HJ_s x30 (by omega)) (by omega) (by omega)
  exact lp25 ((((200 : Int) - (fI h 64 86) : Int) + 1).toNat) (Int64.ofInt 0) (fI h 64 86) (by omega) (by omega) HJ_0 (by omega) (by omega)
  refine st_iconst c253_22 ?_
  refine st_zreturn c253_23 (by omega) ?_
  exact hQ _ _ (Or.inl ⟨rfl, WH_n0 (by omega), rfl⟩)
def W254 : List (Nat × Nat) := [(8, 90)]
set_option maxHeartbeats 0 in
theorem K254 {Ln : Nat} {xs : Nat → Int32} {τ : List Nat} {h : List mE} {E : EP} (hT : TH E τ h) (hS : Stb E W254) (d : Nat) (hd : 0 ≤ d) (Q : Option Value → List mE → Prop) (hQ : ∀ v h', (v = none ∧ (0≤fI h' 64 90) ∧ (fI h 64 90 < 0 ∨ fI h' 64 90 = fI h 64 90) ∧ (0 ≤ fI h 64 90 ∨ fI h' 64 90 = fI h 64 86) ∧ TH E τ h' ∧ Fr τ W254 h h') → Q v h') : MR (mex Ln xs) d 254 0 [some (.ref 64)] [] h Q := by
  have hF := Fr_rf τ W254 h
  refine st_aload c254_0 rfl ?_
  refine st_getI c254_1 hT (tf hT rfl rfl) fd_8_90 (fun e1 e2 => ?_)
  refine st_if_ge c254_4 (by omega) (fun k3 => ?_) (fun k4 => ?_)
  refine st_return c254_15 ?_
  exact hQ _ _ ⟨rfl, by omega, by omega, by omega, hT, hF⟩
  refine st_aload c254_7 rfl ?_
  refine st_aload c254_8 rfl ?_
  refine st_getI c254_9 hT (tf hT rfl rfl) fd_8_86 (fun e5 e6 => ?_)
  refine st_putI c254_12 hT (tf hT rfl rfl) fd_8_90 (by omega) (by omega) (Ext_rf _) hS hF (by decide +kernel) (fun h7 hT8 hF9 hU10 => ?_)
  refine st_return c254_15 ?_
  have e11 := fI_bd (q := 64) hT8 (tf hT8 rfl rfl) fd_8_90
  have q12 : fI h7 64 90 = fI h 64 86 := FUp_fI hU10 (by omega) (by omega)
  exact hQ _ _ ⟨rfl, by omega, by omega, by omega, hT8, hF9⟩
set_option maxHeartbeats 0 in
theorem K259 {S F P : Int → Int} {a : Int} {Ln : Nat} {xs : Nat → Int32} {τ : List Nat} {h : List mE} {E : EP} (hT : TH E τ h) (pre0 : fI h 64 86≤fI h 64 87) (pre1 : CU S F P h a) (d : Nat) (hd : 1 ≤ d) (Q : Option Value → List mE → Prop) (hQ : ∀ v h', (∃ z : Int, v = some (vI z) ∧ ((-1) ≤ z ∧ z ≤ 13) ∧ (z = -1 ∨ fI h 64 88 = 1) ∧ ((0 ≤ z ∧ z < 14 ∧ S a = z) ∨ (z = -1 ∧ (S a < 0 ∨ 14 ≤ S a))) ∧ h = h') → Q v h') : MR (mex Ln xs) d 259 0 [some (.ref 64), none] [] h Q := by
  have e1 := fI_bd (q := 64) hT (tf hT rfl rfl) fd_8_86
  have e2 := fI_bd (q := 64) hT (tf hT rfl rfl) fd_8_87
  refine st_iconst c259_0 ?_
  refine st_istore (L' := [some (.ref 64), some (vI 0)]) c259_1 rfl rfl ?_
  have lp68 : ∀ (n69 : Nat) (z67 : Int), (14 : Int) - z67 < (n69 : Int) → 0 ≤ z67 ∧ z67 ≤ 14 → S a < 0 ∨ z67 ≤ S a → MR (mex Ln xs) d 259 2 [some (.ref 64), some (vI z67)] [] h Q := by
    intro n69
    induction n69 with
    | zero =>
      intro z67 hm71 b72 x73
      exfalso; omega
    | succ n69 ih70 =>
      intro z67 hm71 b72 x73
      refine st_iload c259_2 rfl ?_
      refine st_iconst c259_3 ?_
      refine st_icmp_ge c259_5 (by omega) (by omega) (fun k74 => ?_) (fun k75 => ?_)
      refine st_iconst c259_28 ?_
      refine st_ireturn c259_29 ?_
      exact hQ _ _ ⟨(-1), rfl, by omega, by omega, by omega, rfl⟩
      refine st_aload c259_8 rfl ?_
      refine st_getstatic c259_9 rfl ?_
      refine st_iload c259_12 rfl ?_
      refine st_nms c259_13 (by omega) ?_
      have e77 := fI_bd (q := 64) hT (tf hT rfl rfl) fd_8_88
      have e78 := fI_bd (q := 64) hT (tf hT rfl rfl) fd_8_86
      have e79 := fI_bd (q := 64) hT (tf hT rfl rfl) fd_8_87
      refine st_callt (as := [.long (mNm.getD z67.toNat 0)]) c259_14 cm_253 hT (tf hT rfl rfl) fd_8_0 rfl rfl rfl rfl (by omega) (K253 hT (mNm.getD z67.toNat 0) (by omega) (d - 1) (by omega) _ (fun v h0 H => H)) (fun v1 h1 H => ?_)
      rcases H with ⟨rfl, pf80, rfl⟩ | ⟨rfl, pf81, pf82, rfl⟩
      have wq83 := mt (WH_nm hT pre1 (x := z67) (by omega) (by omega)).mpr pf80
      refine st_if_eq c259_17 (by omega) (fun k84 => ?_) (fun k85 => False.elim (by omega))
      refine st_iinc (L' := [some (.ref 64), some (vI (z67 + 1))]) c259_22 rfl rfl rfl ?_
      refine st_goto c259_25 ?_
      exact ih70 (z67 + 1) (by omega) (by omega) (by omega)
      have wq86 := (WH_nm hT pre1 (x := z67) (by omega) (by omega)).mp pf82
      refine st_if_eq c259_17 (by omega) (fun k87 => False.elim (by omega)) (fun k88 => ?_)
      refine st_iload c259_20 rfl ?_
      refine st_ireturn c259_21 ?_
      exact hQ _ _ ⟨z67, rfl, by omega, by omega, by omega, rfl⟩
  exact lp68 ((((14 : Int) - 0 : Int) + 1).toNat) 0 (by omega) (by omega) (by omega)
def W256 : List (Nat × Nat) := [(8, 86), (8, 87), (8, 88), (8, 89), (8, 90)]
set_option maxHeartbeats 0 in
theorem K256 {S F P : Int → Int} {a : Int} {Ln : Nat} {xs : Nat → Int32} {τ : List Nat} {h : List mE} {E : EP} (hT : TH E τ h) (hS : Stb E W256) (p1 : Int) (hp1 : (-2147483648) ≤ p1 ∧ p1 ≤ 2147483647) (pre0 : fI h 64 87≤fI h 64 77) (pre1 : CU S F P h a) (d : Nat) (hd : 3 ≤ d) (Q : Option Value → List mE → Prop) (hQ : ∀ v h', ((v = some (vI 0) ∧ (0≤fI h' 64 90) ∧ (fI h' 64 86=fI h 64 86) ∧ (fI h' 64 87=fI h 64 87) ∧ (fI h' 64 88=fI h 64 88) ∧ (fI h 64 88 ≠ p1) ∧ ((0 ≤ fI h 64 90 ∧ fI h' 64 90 = fI h 64 90) ∨ (fI h 64 90 < 0 ∧ fI h' 64 90 = F a)) ∧ TH E τ h' ∧ Fr τ W256 h h') ∨ (v = some (vI 1) ∧ (fI h 64 88=p1) ∧ (fI h' 64 90=fI h 64 90) ∧ (fI h 64 87≤fI h' 64 86) ∧ (fI h' 64 86≤fI h' 64 87) ∧ (fI h' 64 87≤fI h 64 77) ∧ (fI h' 64 88 = 0 ∨ fI h' 64 86 + 1 ≤ fI h' 64 87) ∧ (CU S F P h' (a + 1)) ∧ TH E τ h' ∧ Fr τ W256 h h')) → Q v h') : MR (mex Ln xs) d 256 0 [some (.ref 64), some (vI p1)] [] h Q := by
  have hF := Fr_rf τ W256 h
  have e1 := fI_bd (q := 64) hT (tf hT rfl rfl) fd_8_87
  have e2 := fI_bd (q := 64) hT (tf hT rfl rfl) fd_8_77
  have cf := CU_F pre1
  refine st_aload c256_0 rfl ?_
  refine st_getI c256_1 hT (tf hT rfl rfl) fd_8_88 (fun e3 e4 => ?_)
  refine st_iload c256_4 rfl ?_
  refine st_icmp_eq c256_5 (by omega) (by omega) (fun k5 => ?_) (fun k6 => ?_)
  refine st_aload c256_14 rfl ?_
  have e7 := fI_bd (q := 64) hT (tf hT rfl rfl) fd_8_87
  have e8 := fI_bd (q := 64) hT (tf hT rfl rfl) fd_8_77
  refine st_callt (as := []) c256_15 cm_252 hT (tf hT rfl rfl) fd_8_0 rfl rfl rfl rfl (by omega) (K252 hT (Stb_mono hS (by decide +kernel)) (by omega) (CU_nx pre1) (d - 1) (by omega) _ (fun v h0 H => H)) (fun v1 h9 H => ?_)
  obtain ⟨rfl, pf12, pf13, pf14, pf15, pf16, hT10, hF11⟩ := H
  have hF17 := Fr_cp hF hF11 (by decide +kernel : Wsub W252 W256 = true)
  have e18 := fI_bd (q := 64) hT10 (tf hT10 rfl rfl) fd_8_86
  have e19 := fI_bd (q := 64) hT10 (tf hT10 rfl rfl) fd_8_87
  have e20 := fI_bd (q := 64) hT10 (tf hT10 rfl rfl) fd_8_88
  refine st_iconst c256_18 ?_
  refine st_zreturn c256_19 (by omega) ?_
  have e21 := fI_bd (q := 64) hT10 (tf hT10 rfl rfl) fd_8_90
  have q22 : fI h9 64 90 = fI h 64 90 := Fr_fI hF11 (tf hT rfl rfl) (by decide +kernel)
  exact hQ _ _ (Or.inr ⟨rfl, by omega, by omega, by omega, by omega, by omega, by omega, pf16, hT10, hF17⟩)
  refine st_aload c256_8 rfl ?_
  have e23 := fI_bd (q := 64) hT (tf hT rfl rfl) fd_8_90
  have e24 := fI_bd (q := 64) hT (tf hT rfl rfl) fd_8_86
  refine st_callt (as := []) c256_9 cm_254 hT (tf hT rfl rfl) fd_8_0 rfl rfl rfl rfl (by omega) (K254 hT (Stb_mono hS (by decide +kernel)) (d - 1) (by omega) _ (fun v h0 H => H)) (fun v1 h25 H => ?_)
  obtain ⟨rfl, pf28, pf29, pf30, hT26, hF27⟩ := H
  have hF31 := Fr_cp hF hF27 (by decide +kernel : Wsub W254 W256 = true)
  have e32 := fI_bd (q := 64) hT26 (tf hT26 rfl rfl) fd_8_90
  refine st_iconst c256_12 ?_
  refine st_zreturn c256_13 (by omega) ?_
  have e33 := fI_bd (q := 64) hT26 (tf hT26 rfl rfl) fd_8_86
  have q34 : fI h25 64 86 = fI h 64 86 := Fr_fI hF27 (tf hT rfl rfl) (by decide +kernel)
  have e35 := fI_bd (q := 64) hT26 (tf hT26 rfl rfl) fd_8_87
  have q36 : fI h25 64 87 = fI h 64 87 := Fr_fI hF27 (tf hT rfl rfl) (by decide +kernel)
  have e37 := fI_bd (q := 64) hT26 (tf hT26 rfl rfl) fd_8_88
  have q38 : fI h25 64 88 = fI h 64 88 := Fr_fI hF27 (tf hT rfl rfl) (by decide +kernel)
  exact hQ _ _ (Or.inl ⟨rfl, by omega, by omega, by omega, by omega, by omega, by omega, hT26, hF31⟩)
def W257 : List (Nat × Nat) := [(8, 86), (8, 87), (8, 88), (8, 89), (8, 90), (8, 91)]
set_option maxHeartbeats 0 in
theorem K257 {S F P : Int → Int} {a : Int} {Ln : Nat} {xs : Nat → Int32} {τ : List Nat} {h : List mE} {E : EP} (hT : TH E τ h) (hS : Stb E W257) (pre0 : fI h 64 87≤fI h 64 77) (pre1 : CU S F P h a) (d : Nat) (hd : 3 ≤ d) (Q : Option Value → List mE → Prop) (hQ : ∀ v h', ((v = some (vI 0) ∧ (0≤fI h' 64 90) ∧ (fI h' 64 91=fI h 64 91) ∧ (fI h' 64 86=fI h 64 86) ∧ (fI h' 64 87=fI h 64 87) ∧ (fI h' 64 88=fI h 64 88) ∧ (fI h 64 88 ≠ 40 ∨ 8 ≤ fI h 64 91) ∧ ((0 ≤ fI h 64 90 ∧ fI h' 64 90 = fI h 64 90) ∨ (fI h 64 90 < 0 ∧ fI h' 64 90 = F a)) ∧ TH E τ h' ∧ Fr τ W257 h h') ∨ (v = some (vI 1) ∧ (fI h 64 88=40) ∧ (fI h' 64 90=fI h 64 90) ∧ (fI h 64 91≤7) ∧ (fI h' 64 91=fI h 64 91+1) ∧ (fI h 64 87≤fI h' 64 86) ∧ (fI h' 64 86≤fI h' 64 87) ∧ (fI h' 64 87≤fI h 64 77) ∧ (fI h' 64 88 = 0 ∨ fI h' 64 86 + 1 ≤ fI h' 64 87) ∧ (CU S F P h' (a + 1)) ∧ TH E τ h' ∧ Fr τ W257 h h')) → Q v h') : MR (mex Ln xs) d 257 0 [some (.ref 64)] [] h Q := by
  have hF := Fr_rf τ W257 h
  have e1 := fI_bd (q := 64) hT (tf hT rfl rfl) fd_8_87
  have e2 := fI_bd (q := 64) hT (tf hT rfl rfl) fd_8_77
  have cf := CU_F pre1
  refine st_aload c257_0 rfl ?_
  refine st_getI c257_1 hT (tf hT rfl rfl) fd_8_88 (fun e3 e4 => ?_)
  refine st_iconst c257_4 ?_
  refine st_icmp_ne c257_6 (by omega) (by omega) (fun k5 => ?_) (fun k6 => ?_)
  refine st_aload c257_18 rfl ?_
  have e7 := fI_bd (q := 64) hT (tf hT rfl rfl) fd_8_90
  have e8 := fI_bd (q := 64) hT (tf hT rfl rfl) fd_8_86
  refine st_callt (as := []) c257_19 cm_254 hT (tf hT rfl rfl) fd_8_0 rfl rfl rfl rfl (by omega) (K254 hT (Stb_mono hS (by decide +kernel)) (d - 1) (by omega) _ (fun v h0 H => H)) (fun v1 h9 H => ?_)
  obtain ⟨rfl, pf12, pf13, pf14, hT10, hF11⟩ := H
  have hF15 := Fr_cp hF hF11 (by decide +kernel : Wsub W254 W257 = true)
  have e16 := fI_bd (q := 64) hT10 (tf hT10 rfl rfl) fd_8_90
  refine st_iconst c257_22 ?_
  refine st_zreturn c257_23 (by omega) ?_
  have e17 := fI_bd (q := 64) hT10 (tf hT10 rfl rfl) fd_8_91
  have q18 : fI h9 64 91 = fI h 64 91 := Fr_fI hF11 (tf hT rfl rfl) (by decide +kernel)
  have e19 := fI_bd (q := 64) hT10 (tf hT10 rfl rfl) fd_8_86
  have q20 : fI h9 64 86 = fI h 64 86 := Fr_fI hF11 (tf hT rfl rfl) (by decide +kernel)
  have e21 := fI_bd (q := 64) hT10 (tf hT10 rfl rfl) fd_8_87
  have q22 : fI h9 64 87 = fI h 64 87 := Fr_fI hF11 (tf hT rfl rfl) (by decide +kernel)
  have e23 := fI_bd (q := 64) hT10 (tf hT10 rfl rfl) fd_8_88
  have q24 : fI h9 64 88 = fI h 64 88 := Fr_fI hF11 (tf hT rfl rfl) (by decide +kernel)
  exact hQ _ _ (Or.inl ⟨rfl, by omega, by omega, by omega, by omega, by omega, by omega, by omega, hT10, hF15⟩)
  refine st_aload c257_9 rfl ?_
  refine st_getI c257_10 hT (tf hT rfl rfl) fd_8_91 (fun e25 e26 => ?_)
  refine st_iconst c257_13 ?_
  refine st_icmp_ne c257_15 (by omega) (by omega) (fun k27 => ?_) (fun k28 => ?_)
  refine st_aload c257_24 rfl ?_
  refine st_dup c257_25 rfl ?_
  refine st_getI c257_26 hT (tf hT rfl rfl) fd_8_91 (fun e29 e30 => ?_)
  refine st_iconst c257_29 ?_
  refine st_iadd c257_30 ?_
  refine st_putI c257_31 hT (tf hT rfl rfl) fd_8_91 (by omega) (by omega) (Ext_rf _) hS hF (by decide +kernel) (fun h31 hT32 hF33 hU34 => ?_)
  refine st_aload c257_34 rfl ?_
  have e35 := fI_bd (q := 64) hT32 (tf hT32 rfl rfl) fd_8_87
  have q36 : fI h31 64 87 = fI h 64 87 := FUp_fIne hU34 (fun z => absurd z.2 (by decide))
  have e37 := fI_bd (q := 64) hT32 (tf hT32 rfl rfl) fd_8_77
  have q38 : fI h31 64 77 = fI h 64 77 := FUp_fIne hU34 (fun z => absurd z.2 (by decide))
  refine st_callt (as := []) c257_35 cm_252 hT32 (tf hT32 rfl rfl) fd_8_0 rfl rfl rfl rfl (by omega) (K252 hT32 (Stb_mono hS (by decide +kernel)) (by omega) (CU_nx (CU_fr pre1 hT (FUp_1 hU34 (tf hT rfl rfl)) (by decide +kernel))) (d - 1) (by omega) _ (fun v h0 H => H)) (fun v1 h39 H => ?_)
  obtain ⟨rfl, pf42, pf43, pf44, pf45, pf46, hT40, hF41⟩ := H
  have hF47 := Fr_cp hF33 hF41 (by decide +kernel : Wsub W252 W257 = true)
  have e48 := fI_bd (q := 64) hT40 (tf hT40 rfl rfl) fd_8_86
  have e49 := fI_bd (q := 64) hT40 (tf hT40 rfl rfl) fd_8_87
  have e50 := fI_bd (q := 64) hT40 (tf hT40 rfl rfl) fd_8_88
  refine st_iconst c257_38 ?_
  refine st_zreturn c257_39 (by omega) ?_
  have e51 := fI_bd (q := 64) hT40 (tf hT40 rfl rfl) fd_8_90
  have q52 : fI h39 64 90 = fI h 64 90 := (Fr_fI hF41 (tf hT32 rfl rfl) (by decide +kernel)).trans (FUp_fIne hU34 (fun z => absurd z.2 (by decide)))
  have e53 := fI_bd (q := 64) hT40 (tf hT40 rfl rfl) fd_8_91
  have q54 : fI h39 64 91 = (fI h 64 91) + 1 := (Fr_fI hF41 (tf hT32 rfl rfl) (by decide +kernel)).trans (FUp_fI hU34 (by omega) (by omega))
  exact hQ _ _ (Or.inr ⟨rfl, by omega, by omega, by omega, by omega, by omega, by omega, by omega, by omega, pf46, hT40, hF47⟩)
  refine st_aload c257_18 rfl ?_
  have e55 := fI_bd (q := 64) hT (tf hT rfl rfl) fd_8_90
  have e56 := fI_bd (q := 64) hT (tf hT rfl rfl) fd_8_86
  refine st_callt (as := []) c257_19 cm_254 hT (tf hT rfl rfl) fd_8_0 rfl rfl rfl rfl (by omega) (K254 hT (Stb_mono hS (by decide +kernel)) (d - 1) (by omega) _ (fun v h0 H => H)) (fun v1 h57 H => ?_)
  obtain ⟨rfl, pf60, pf61, pf62, hT58, hF59⟩ := H
  have hF63 := Fr_cp hF hF59 (by decide +kernel : Wsub W254 W257 = true)
  have e64 := fI_bd (q := 64) hT58 (tf hT58 rfl rfl) fd_8_90
  refine st_iconst c257_22 ?_
  refine st_zreturn c257_23 (by omega) ?_
  have e65 := fI_bd (q := 64) hT58 (tf hT58 rfl rfl) fd_8_91
  have q66 : fI h57 64 91 = fI h 64 91 := Fr_fI hF59 (tf hT rfl rfl) (by decide +kernel)
  have e67 := fI_bd (q := 64) hT58 (tf hT58 rfl rfl) fd_8_86
  have q68 : fI h57 64 86 = fI h 64 86 := Fr_fI hF59 (tf hT rfl rfl) (by decide +kernel)
  have e69 := fI_bd (q := 64) hT58 (tf hT58 rfl rfl) fd_8_87
  have q70 : fI h57 64 87 = fI h 64 87 := Fr_fI hF59 (tf hT rfl rfl) (by decide +kernel)
  have e71 := fI_bd (q := 64) hT58 (tf hT58 rfl rfl) fd_8_88
  have q72 : fI h57 64 88 = fI h 64 88 := Fr_fI hF59 (tf hT rfl rfl) (by decide +kernel)
  exact hQ _ _ (Or.inl ⟨rfl, by omega, by omega, by omega, by omega, by omega, by omega, by omega, hT58, hF63⟩)
def W258 : List (Nat × Nat) := [(8, 86), (8, 87), (8, 88), (8, 89), (8, 90), (8, 91)]
set_option maxHeartbeats 0 in
theorem K258 {S F P : Int → Int} {a : Int} {Ln : Nat} {xs : Nat → Int32} {τ : List Nat} {h : List mE} {E : EP} (hT : TH E τ h) (hS : Stb E W258) (pre0 : fI h 64 87≤fI h 64 77) (pre1 : 1≤fI h 64 91) (pre2 : CU S F P h a) (d : Nat) (hd : 4 ≤ d) (Q : Option Value → List mE → Prop) (hQ : ∀ v h', ((v = some (vI 0) ∧ (0≤fI h' 64 90) ∧ (fI h' 64 91=fI h 64 91) ∧ (fI h' 64 86=fI h 64 86) ∧ (fI h' 64 87=fI h 64 87) ∧ (fI h' 64 88=fI h 64 88) ∧ (fI h 64 88 ≠ 41) ∧ ((0 ≤ fI h 64 90 ∧ fI h' 64 90 = fI h 64 90) ∨ (fI h 64 90 < 0 ∧ fI h' 64 90 = F a)) ∧ TH E τ h' ∧ Fr τ W258 h h') ∨ (v = some (vI 1) ∧ (fI h 64 88=41) ∧ (fI h' 64 90=fI h 64 90) ∧ (fI h' 64 91=fI h 64 91-1) ∧ (fI h 64 87≤fI h' 64 86) ∧ (fI h' 64 86≤fI h' 64 87) ∧ (fI h' 64 87≤fI h 64 77) ∧ (fI h' 64 88 = 0 ∨ fI h' 64 86 + 1 ≤ fI h' 64 87) ∧ (CU S F P h' (a + 1)) ∧ TH E τ h' ∧ Fr τ W258 h h')) → Q v h') : MR (mex Ln xs) d 258 0 [some (.ref 64)] [] h Q := by
  have hF := Fr_rf τ W258 h
  have e1 := fI_bd (q := 64) hT (tf hT rfl rfl) fd_8_87
  have e2 := fI_bd (q := 64) hT (tf hT rfl rfl) fd_8_77
  have e3 := fI_bd (q := 64) hT (tf hT rfl rfl) fd_8_91
  refine st_aload c258_0 rfl ?_
  refine st_iconst c258_1 ?_
  have e4 := fI_bd (q := 64) hT (tf hT rfl rfl) fd_8_86
  have e5 := fI_bd (q := 64) hT (tf hT rfl rfl) fd_8_87
  have e6 := fI_bd (q := 64) hT (tf hT rfl rfl) fd_8_88
  have e7 := fI_bd (q := 64) hT (tf hT rfl rfl) fd_8_90
  have e8 := fI_bd (q := 64) hT (tf hT rfl rfl) fd_8_77
  refine st_callt (as := [vI 41]) c258_3 cm_256 hT (tf hT rfl rfl) fd_8_0 rfl rfl rfl rfl (by omega) (K256 hT (Stb_mono hS (by decide +kernel)) 41 (by omega) (by omega) pre2 (d - 1) (by omega) _ (fun v h0 H => H)) (fun v1 h9 H => ?_)
  rcases H with ⟨rfl, pf12, pf13, pf14, pf15, pf16, pf17, hT10, hF11⟩ | ⟨rfl, pf18, pf19, pf20, pf21, pf22, pf23, pf24, hT10, hF11⟩
  have hF25 := Fr_cp hF hF11 (by decide +kernel : Wsub W256 W258 = true)
  have e26 := fI_bd (q := 64) hT10 (tf hT10 rfl rfl) fd_8_90
  have e27 := fI_bd (q := 64) hT10 (tf hT10 rfl rfl) fd_8_86
  have e28 := fI_bd (q := 64) hT10 (tf hT10 rfl rfl) fd_8_87
  have e29 := fI_bd (q := 64) hT10 (tf hT10 rfl rfl) fd_8_88
  refine st_if_ne c258_6 (by omega) (fun k30 => False.elim (by omega)) (fun k31 => ?_)
  refine st_iconst c258_9 ?_
  refine st_zreturn c258_10 (by omega) ?_
  have e32 := fI_bd (q := 64) hT10 (tf hT10 rfl rfl) fd_8_91
  have q33 : fI h9 64 91 = fI h 64 91 := Fr_fI hF11 (tf hT rfl rfl) (by decide +kernel)
  exact hQ _ _ (Or.inl ⟨rfl, by omega, by omega, by omega, by omega, by omega, by omega, by omega, hT10, hF25⟩)
  have hF34 := Fr_cp hF hF11 (by decide +kernel : Wsub W256 W258 = true)
  have e35 := fI_bd (q := 64) hT10 (tf hT10 rfl rfl) fd_8_90
  have e36 := fI_bd (q := 64) hT10 (tf hT10 rfl rfl) fd_8_86
  have e37 := fI_bd (q := 64) hT10 (tf hT10 rfl rfl) fd_8_87
  refine st_if_ne c258_6 (by omega) (fun k38 => ?_) (fun k39 => False.elim (by omega))
  refine st_aload c258_11 rfl ?_
  refine st_dup c258_12 rfl ?_
  refine st_getI c258_13 hT10 (tf hT10 rfl rfl) fd_8_91 (fun e40 e41 => ?_)
  have q42 : fI h9 64 91 = fI h 64 91 := Fr_fI hF11 (tf hT rfl rfl) (by decide +kernel)
  refine st_iconst c258_16 ?_
  refine st_isub c258_17 ?_
  refine st_putI c258_18 hT10 (tf hT10 rfl rfl) fd_8_91 (by omega) (by omega) (Ext_rf _) hS hF34 (by decide +kernel) (fun h43 hT44 hF45 hU46 => ?_)
  refine st_iconst c258_21 ?_
  refine st_zreturn c258_22 (by omega) ?_
  have e47 := fI_bd (q := 64) hT44 (tf hT44 rfl rfl) fd_8_90
  have q48 : fI h43 64 90 = fI h9 64 90 := FUp_fIne hU46 (fun z => absurd z.2 (by decide))
  have e49 := fI_bd (q := 64) hT44 (tf hT44 rfl rfl) fd_8_91
  have q50 : fI h43 64 91 = (fI h9 64 91) - 1 := FUp_fI hU46 (by omega) (by omega)
  have e51 := fI_bd (q := 64) hT44 (tf hT44 rfl rfl) fd_8_86
  have q52 : fI h43 64 86 = fI h9 64 86 := FUp_fIne hU46 (fun z => absurd z.2 (by decide))
  have e53 := fI_bd (q := 64) hT44 (tf hT44 rfl rfl) fd_8_87
  have q54 : fI h43 64 87 = fI h9 64 87 := FUp_fIne hU46 (fun z => absurd z.2 (by decide))
  have e55 := fI_bd (q := 64) hT44 (tf hT44 rfl rfl) fd_8_88
  have q56 : fI h43 64 88 = fI h9 64 88 := FUp_fIne hU46 (fun z => absurd z.2 (by decide))
  exact hQ _ _ (Or.inr ⟨rfl, by omega, by omega, by omega, by omega, by omega, by omega, by omega, (CU_fr pf24 hT10 (FUp_1 hU46 (tf hT10 rfl rfl)) (by decide +kernel)), hT44, hF45⟩)
