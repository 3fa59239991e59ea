def W248 : List (Nat × Nat) := [(8, 77), (102, 0)]
set_option maxHeartbeats 0 in
theorem K248 {Ln : Nat} {xs : Nat → Int32} {τ : List Nat} {h : List mE} {E : EP} (hT : TH E τ h) (hS : Stb E W248) (p1 : Int) (hp1 : (-2147483648) ≤ p1 ∧ p1 ≤ 2147483647) (pre0 : fI h 64 77≤196) (d : Nat) (hd : 0 ≤ d) (Q : Option Value → List mE → Prop) (hQ : ∀ v h', (v = none ∧ (fI h' 64 77=fI h 64 77+4) ∧ TH E τ h' ∧ Fr τ W248 h h') → Q v h') : MR (mex Ln xs) d 248 0 [some (.ref 64), some (vI p1), none] [] h Q := by
  have hF := Fr_rf τ W248 h
  have e1 := fI_bd (q := 64) hT (tf hT rfl rfl) fd_8_77
  refine st_iconst c248_0 ?_
  refine st_istore (L' := [some (.ref 64), some (vI p1), some (vI 3)]) c248_1 rfl rfl ?_
  have lp137 : ∀ (n138 : Nat) (z132 : Int) (h133 : List mE), (z132 : Int) - (-1) < (n138 : Int) → (-1) ≤ z132 ∧ z132 ≤ 3 → fI h133 64 77+z132 ≤ 199 → fI h133 64 77 + z132 = fI h 64 77 + 3 → TH E τ h133 → Fr τ W248 h h133 → Fr τ [(8, 77), (102, 0)] h h133 → MR (mex Ln xs) d 248 2 [some (.ref 64), some (vI p1), some (vI z132)] [] h133 Q := by
    intro n138
    induction n138 with
    | zero =>
      intro z132 h133 hm140 b141 x142 x143 hT134 hF135 hL136
      exfalso; omega
    | succ n138 ih139 =>
      intro z132 h133 hm140 b141 x142 x143 hT134 hF135 hL136
      have e144 := fI_bd (q := 64) hT134 (tf hT134 rfl rfl) fd_8_77
      refine st_iload c248_2 rfl ?_
      refine st_if_lt c248_3 (by omega) (fun k145 => ?_) (fun k146 => ?_)
      refine st_return c248_38 ?_
      exact hQ _ _ ⟨rfl, by omega, hT134, hF135⟩
      refine st_aload c248_6 rfl ?_
      refine st_getX (u := 124) c248_7 hT134 (tf hT134 rfl rfl) fd_8_76 rfl ?_
      refine st_aload c248_10 rfl ?_
      refine st_getI c248_11 hT134 (tf hT134 rfl rfl) fd_8_77 (fun e147 e148 => ?_)
      refine st_iload c248_14 rfl ?_
      refine st_iconst c248_15 ?_
      refine st_iload c248_17 rfl ?_
      refine st_imul c248_18 ?_
      refine st_ishrw c248_19 (fun w149 e150 e151 => ?_)
      refine st_i2b c248_20 (fun w152 e153 e154 => ?_)
      refine st_bast c248_21 hT134 (tf hT134 rfl rfl) ay_102 (by omega) (by omega) (by omega) (Ext_rf _) hS hF135 (by decide +kernel) (fun h155 hT156 hF157 hU158 => ?_)
      refine st_aload c248_22 rfl ?_
      refine st_dup c248_23 rfl ?_
      refine st_getI c248_24 hT156 (tf hT156 rfl rfl) fd_8_77 (fun e159 e160 => ?_)
      have q161 : fI h155 64 77 = fI h133 64 77 := AUp_fI hU158
      refine st_iconst c248_27 ?_
      refine st_iadd c248_28 ?_
      refine st_putI c248_29 hT156 (tf hT156 rfl rfl) fd_8_77 (by omega) (by omega) (Ext_rf _) hS hF157 (by decide +kernel) (fun h162 hT163 hF164 hU165 => ?_)
      refine st_iinc (L' := [some (.ref 64), some (vI p1), some (vI (z132 + (-1)))]) c248_32 rfl rfl rfl ?_
      refine st_goto c248_35 ?_
      have e166 := fI_bd (q := 64) hT163 (tf hT163 rfl rfl) fd_8_77
      have q167 : fI h162 64 77 = (fI h155 64 77) + 1 := FUp_fI hU165 (by omega) (by omega)
      exact ih139 (z132 + (-1)) h162 (by omega) (by omega) (by omega) (by omega) hT163 hF164 (FUp_Fr (AUp_Fr hL136 hU158 (fun u hu => by rw [ty_1 hu (tf hT163 rfl rfl)]; decide)) hU165 (fun u hu => by rw [ty_1 hu (tf hT163 rfl rfl)]; decide))
  have e168 := fI_bd (q := 64) hT (tf hT rfl rfl) fd_8_77
  exact lp137 ((((3 : Int) - (-1) : Int) + 1).toNat) 3 h (by omega) (by omega) (by omega) (by omega) hT hF (Fr_rf _ _ _)
def W247 : List (Nat × Nat) := [(8, 77), (102, 0)]
set_option maxHeartbeats 0 in
theorem K247 {Ln : Nat} {xs : Nat → Int32} {τ : List Nat} {h : List mE} {E : EP} (hT : TH E τ h) (hS : Stb E W247) (p1 : Int) (hp1 : (-2147483648) ≤ p1 ∧ p1 ≤ 2147483647) (p2 : Int) (hp2 : (-2147483648) ≤ p2 ∧ p2 ≤ 2147483647) (p3 : Int) (hp3 : (-2147483648) ≤ p3 ∧ p3 ≤ 2147483647) (p4 : Int) (hp4 : (-2147483648) ≤ p4 ∧ p4 ≤ 2147483647) (p5 : Int) (hp5 : (-2147483648) ≤ p5 ∧ p5 ≤ 2147483647) (d : Nat) (hd : 1 ≤ d) (Q : Option Value → List mE → Prop) (hQ : ∀ v h', (∃ z : Int, v = some (vI z) ∧ ((-3) ≤ z ∧ z ≤ 200) ∧ TH E τ h' ∧ Fr τ W247 h h') → Q v h') : MR (mex Ln xs) d 247 0 [some (.ref 64), some (vI p1), some (vI p2), some (vI p3), some (vI p4), some (vI p5)] [] h Q := by
  have hF := Fr_rf τ W247 h
  refine st_aload c247_0 rfl ?_
  refine st_getI c247_1 hT (tf hT rfl rfl) fd_8_77 (fun e1 e2 => ?_)
  refine st_iconst c247_4 ?_
  refine st_iadd c247_6 ?_
  refine st_iconst c247_7 ?_
  refine st_icmp_le c247_10 (by omega) (by omega) (fun k3 => ?_) (fun k4 => ?_)
  refine st_aload c247_16 rfl ?_
  refine st_iload c247_17 rfl ?_
  refine st_callt (as := [vI p1]) c247_18 cm_248 hT (tf hT rfl rfl) fd_8_0 rfl rfl rfl rfl (by omega) (K248 hT (Stb_mono hS (by decide +kernel)) p1 (by omega) (by omega) (d - 1) (by omega) _ (fun v h0 H => H)) (fun v1 h5 H => ?_)
  obtain ⟨rfl, pf8, hT6, hF7⟩ := H
  have hF9 := Fr_cp hF hF7 (by decide +kernel : Wsub W248 W247 = true)
  have e10 := fI_bd (q := 64) hT6 (tf hT6 rfl rfl) fd_8_77
  refine st_aload c247_21 rfl ?_
  refine st_iload c247_22 rfl ?_
  refine st_callt (as := [vI p2]) c247_23 cm_248 hT6 (tf hT6 rfl rfl) fd_8_0 rfl rfl rfl rfl (by omega) (K248 hT6 (Stb_mono hS (by decide +kernel)) p2 (by omega) (by omega) (d - 1) (by omega) _ (fun v h0 H => H)) (fun v1 h11 H => ?_)
  obtain ⟨rfl, pf14, hT12, hF13⟩ := H
  have hF15 := Fr_cp hF9 hF13 (by decide +kernel : Wsub W248 W247 = true)
  have e16 := fI_bd (q := 64) hT12 (tf hT12 rfl rfl) fd_8_77
  refine st_aload c247_26 rfl ?_
  refine st_iload c247_27 rfl ?_
  refine st_callt (as := [vI p3]) c247_28 cm_248 hT12 (tf hT12 rfl rfl) fd_8_0 rfl rfl rfl rfl (by omega) (K248 hT12 (Stb_mono hS (by decide +kernel)) p3 (by omega) (by omega) (d - 1) (by omega) _ (fun v h0 H => H)) (fun v1 h17 H => ?_)
  obtain ⟨rfl, pf20, hT18, hF19⟩ := H
  have hF21 := Fr_cp hF15 hF19 (by decide +kernel : Wsub W248 W247 = true)
  have e22 := fI_bd (q := 64) hT18 (tf hT18 rfl rfl) fd_8_77
  refine st_aload c247_31 rfl ?_
  refine st_iload c247_32 rfl ?_
  refine st_callt (as := [vI p4]) c247_34 cm_248 hT18 (tf hT18 rfl rfl) fd_8_0 rfl rfl rfl rfl (by omega) (K248 hT18 (Stb_mono hS (by decide +kernel)) p4 (by omega) (by omega) (d - 1) (by omega) _ (fun v h0 H => H)) (fun v1 h23 H => ?_)
  obtain ⟨rfl, pf26, hT24, hF25⟩ := H
  have hF27 := Fr_cp hF21 hF25 (by decide +kernel : Wsub W248 W247 = true)
  have e28 := fI_bd (q := 64) hT24 (tf hT24 rfl rfl) fd_8_77
  refine st_aload c247_37 rfl ?_
  refine st_iload c247_38 rfl ?_
  refine st_callt (as := [vI p5]) c247_40 cm_248 hT24 (tf hT24 rfl rfl) fd_8_0 rfl rfl rfl rfl (by omega) (K248 hT24 (Stb_mono hS (by decide +kernel)) p5 (by omega) (by omega) (d - 1) (by omega) _ (fun v h0 H => H)) (fun v1 h29 H => ?_)
  obtain ⟨rfl, pf32, hT30, hF31⟩ := H
  have hF33 := Fr_cp hF27 hF31 (by decide +kernel : Wsub W248 W247 = true)
  have e34 := fI_bd (q := 64) hT30 (tf hT30 rfl rfl) fd_8_77
  refine st_aload c247_43 rfl ?_
  refine st_getI c247_44 hT30 (tf hT30 rfl rfl) fd_8_77 (fun e35 e36 => ?_)
  refine st_ireturn c247_47 ?_
  exact hQ _ _ ⟨fI h29 64 77, rfl, by omega, hT30, hF33⟩
  refine st_iconst c247_13 ?_
  refine st_ireturn c247_15 ?_
  exact hQ _ _ ⟨(-3), rfl, by omega, hT, hF⟩
def W249 : List (Nat × Nat) := [(8, 77)]
set_option maxHeartbeats 0 in
theorem K249 {Ln : Nat} {xs : Nat → Int32} {τ : List Nat} {h : List mE} {E : EP} (hT : TH E τ h) (hS : Stb E W249) (p1 : Int) (hp1 : (-2147483648) ≤ p1 ∧ p1 ≤ 2147483647) (d : Nat) (hd : 1 ≤ d) (Q : Option Value → List mE → Prop) (hQ : ∀ v h', (∃ z : Int, v = some (vI z) ∧ ((-1) ≤ z ∧ z ≤ 200) ∧ TH E τ h' ∧ Fr τ W249 h h') → Q v h') : MR (mex Ln xs) d 249 0 [some (.ref 64), some (vI p1)] [] h Q := by
  have hF := Fr_rf τ W249 h
  refine st_iload c249_0 rfl ?_
  refine st_iconst c249_1 ?_
  refine st_aload c249_2 rfl ?_
  refine st_getI c249_3 hT (tf hT rfl rfl) fd_8_77 (fun e1 e2 => ?_)
  refine st_calls (as := [vI p1, vI 0, vI (fI h 64 77)]) c249_6 cm_180 rfl rfl rfl rfl (by omega) (K180 hT p1 (by omega) 0 (by omega) (fI h 64 77) (by omega) (d - 1) (by omega) _ (fun v h0 H => H)) (fun v1 h1 H => ?_)
  rcases H with ⟨rfl, pf3, rfl⟩ | ⟨rfl, pf4, pf5, rfl⟩
  refine st_if_ne c249_9 (by omega) (fun k6 => False.elim (by omega)) (fun k7 => ?_)
  refine st_iconst c249_12 ?_
  refine st_ireturn c249_13 ?_
  exact hQ _ _ ⟨(-1), rfl, by omega, hT, hF⟩
  refine st_if_ne c249_9 (by omega) (fun k8 => ?_) (fun k9 => False.elim (by omega))
  refine st_aload c249_14 rfl ?_
  refine st_iload c249_15 rfl ?_
  refine st_putI c249_16 hT (tf hT rfl rfl) fd_8_77 (by omega) (by omega) (Ext_rf _) hS hF (by decide +kernel) (fun h10 hT11 hF12 hU13 => ?_)
  refine st_iload c249_19 rfl ?_
  refine st_ireturn c249_20 ?_
  exact hQ _ _ ⟨p1, rfl, by omega, hT11, hF12⟩
set_option maxHeartbeats 0 in
theorem K250 {Ln : Nat} {xs : Nat → Int32} {τ : List Nat} {h : List mE} {E : EP} (hT : TH E τ h) (p0 : Int) (hp0 : (-2147483648) ≤ p0 ∧ p0 ≤ 2147483647) (d : Nat) (hd : 1 ≤ d) (Q : Option Value → List mE → Prop) (hQ : ∀ v h', ((v = some (vI 0) ∧ (p0 < 97 ∨ 122 < p0) ∧ h = h') ∨ (v = some (vI 1) ∧ (97≤p0) ∧ (p0≤122) ∧ h = h')) → Q v h') : MR (mex Ln xs) d 250 0 [some (vI p0)] [] h Q := by
  refine st_iload c250_0 rfl ?_
  refine st_iconst c250_1 ?_
  refine st_iconst c250_3 ?_
  refine st_calls (as := [vI p0, vI 97, vI 122]) c250_5 cm_180 rfl rfl rfl rfl (by omega) (K180 hT p0 (by omega) 97 (by omega) 122 (by omega) (d - 1) (by omega) _ (fun v h0 H => H)) (fun v1 h1 H => ?_)
  rcases H with ⟨rfl, pf1, rfl⟩ | ⟨rfl, pf2, pf3, rfl⟩
  refine st_zreturn c250_8 (by omega) ?_
  exact hQ _ _ (Or.inl ⟨rfl, by omega, rfl⟩)
  refine st_zreturn c250_8 (by omega) ?_
  exact hQ _ _ (Or.inr ⟨rfl, by omega, by omega, rfl⟩)
set_option maxHeartbeats 0 in
theorem K251 {Ln : Nat} {xs : Nat → Int32} {τ : List Nat} {h : List mE} {E : EP} (hT : TH E τ h) (p0 : Int) (hp0 : (-2147483648) ≤ p0 ∧ p0 ≤ 2147483647) (d : Nat) (hd : 1 ≤ d) (Q : Option Value → List mE → Prop) (hQ : ∀ v h', ((v = some (vI 0) ∧ (p0 < 48 ∨ 57 < p0) ∧ h = h') ∨ (v = some (vI 1) ∧ (48≤p0) ∧ (p0≤57) ∧ h = h')) → Q v h') : MR (mex Ln xs) d 251 0 [some (vI p0)] [] h Q := by
  refine st_iload c251_0 rfl ?_
  refine st_iconst c251_1 ?_
  refine st_iconst c251_3 ?_
  refine st_calls (as := [vI p0, vI 48, vI 57]) c251_5 cm_180 rfl rfl rfl rfl (by omega) (K180 hT p0 (by omega) 48 (by omega) 57 (by omega) (d - 1) (by omega) _ (fun v h0 H => H)) (fun v1 h1 H => ?_)
  rcases H with ⟨rfl, pf1, rfl⟩ | ⟨rfl, pf2, pf3, rfl⟩
  refine st_zreturn c251_8 (by omega) ?_
  exact hQ _ _ (Or.inl ⟨rfl, by omega, rfl⟩)
  refine st_zreturn c251_8 (by omega) ?_
  exact hQ _ _ (Or.inr ⟨rfl, by omega, by omega, rfl⟩)
def W252 : List (Nat × Nat) := [(8, 86), (8, 87), (8, 88), (8, 89)]
set_option maxHeartbeats 0 in
theorem K252 {Ln : Nat} {xs : Nat → Int32} {τ : List Nat} {h : List mE} {E : EP} (hT : TH E τ h) (hS : Stb E W252) (pre0 : fI h 64 87≤fI h 64 77) (d : Nat) (hd : 2 ≤ d) (Q : Option Value → List mE → Prop) (hQ : ∀ v h', (v = none ∧ (fI h 64 87≤fI h' 64 86) ∧ (fI h' 64 86≤fI h' 64 87) ∧ (fI h' 64 87≤fI h 64 77) ∧ (fI h' 64 88 = 0 ∨ fI h' 64 86 + 1 ≤ fI h' 64 87) ∧ TH E τ h' ∧ Fr τ W252 h h') → Q v h') : MR (mex Ln xs) d 252 0 [some (.ref 64)] [] h Q := by
  have hF := Fr_rf τ W252 h
  have e1 := fI_bd (q := 64) hT (tf hT rfl rfl) fd_8_87
  have e2 := fI_bd (q := 64) hT (tf hT rfl rfl) fd_8_77
  refine st_aload c252_0 rfl ?_
  refine st_aload c252_1 rfl ?_
  refine st_getI c252_2 hT (tf hT rfl rfl) fd_8_87 (fun e3 e4 => ?_)
  refine st_putI c252_5 hT (tf hT rfl rfl) fd_8_86 (by omega) (by omega) (Ext_rf _) hS hF (by decide +kernel) (fun h5 hT6 hF7 hU8 => ?_)
  have lp37 : ∀ (n38 : Nat) (h33 : List mE), fI h33 64 77 - fI h33 64 86 < (n38 : Int) → fI h33 64 86 ≤ fI h33 64 77 → fI h33 64 87 ≤ fI h33 64 86 → fI h 64 87 ≤ fI h33 64 86 → TH E τ h33 → Fr τ W252 h h33 → Fr τ [(8, 86)] h5 h33 → MR (mex Ln xs) d 252 8 [some (.ref 64)] [] h33 Q := by
    intro n38
    induction n38 with
    | zero =>
      intro h33 hm40 x41 x42 x43 hT34 hF35 hL36
      exfalso; omega
    | succ n38 ih39 =>
      intro h33 hm40 x41 x42 x43 hT34 hF35 hL36
      have e44 := fI_bd (q := 64) hT34 (tf hT34 rfl rfl) fd_8_86
      have e45 := fI_bd (q := 64) hT34 (tf hT34 rfl rfl) fd_8_77
      have q46 : fI h33 64 77 = fI h 64 77 := (Fr_fI hL36 (tf hT6 rfl rfl) (by decide +kernel)).trans (FUp_fIne hU8 (fun z => absurd z.2 (by decide)))
      have e47 := fI_bd (q := 64) hT34 (tf hT34 rfl rfl) fd_8_87
      have q48 : fI h33 64 87 = fI h 64 87 := (Fr_fI hL36 (tf hT6 rfl rfl) (by decide +kernel)).trans (FUp_fIne hU8 (fun z => absurd z.2 (by decide)))
      refine st_aload c252_8 rfl ?_
      refine st_getI c252_9 hT34 (tf hT34 rfl rfl) fd_8_86 (fun e49 e50 => ?_)
      refine st_aload c252_12 rfl ?_
      refine st_getI c252_13 hT34 (tf hT34 rfl rfl) fd_8_77 (fun e51 e52 => ?_)
      have q53 : fI h33 64 77 = fI h 64 77 := (Fr_fI hL36 (tf hT6 rfl rfl) (by decide +kernel)).trans (FUp_fIne hU8 (fun z => absurd z.2 (by decide)))
      refine st_icmp_ge c252_16 (by omega) (by omega) (fun k54 => ?_) (fun k55 => ?_)
      refine st_aload c252_46 rfl ?_
      refine st_aload c252_47 rfl ?_
      refine st_getI c252_48 hT34 (tf hT34 rfl rfl) fd_8_86 (fun e56 e57 => ?_)
      refine st_putI c252_51 hT34 (tf hT34 rfl rfl) fd_8_87 (by omega) (by omega) (Ext_rf _) hS hF35 (by decide +kernel) (fun h58 hT59 hF60 hU61 => ?_)
      refine st_aload c252_54 rfl ?_
      refine st_getI c252_55 hT59 (tf hT59 rfl rfl) fd_8_86 (fun e62 e63 => ?_)
      have q64 : fI h58 64 86 = fI h33 64 86 := FUp_fIne hU61 (fun z => absurd z.2 (by decide))
      refine st_aload c252_58 rfl ?_
      refine st_getI c252_59 hT59 (tf hT59 rfl rfl) fd_8_77 (fun e65 e66 => ?_)
      have q67 : fI h58 64 77 = fI h33 64 77 := FUp_fIne hU61 (fun z => absurd z.2 (by decide))
      refine st_icmp_ne c252_62 (by omega) (by omega) (fun k68 => ?_) (fun k69 => ?_)
      refine st_aload c252_71 rfl ?_
      refine st_getX (u := 124) c252_72 hT59 (tf hT59 rfl rfl) fd_8_76 rfl ?_
      refine st_aload c252_75 rfl ?_
      refine st_getI c252_76 hT59 (tf hT59 rfl rfl) fd_8_86 (fun e70 e71 => ?_)
      have q72 : fI h58 64 86 = fI h33 64 86 := FUp_fIne hU61 (fun z => absurd z.2 (by decide))
      refine st_bald c252_79 hT59 (tf hT59 rfl rfl) ay_102 (Or.inr rfl) (by omega) (fun e73 e74 => ?_)
      have q75 : aI h58 124 (fI h58 64 86) = aI h 124 (fI h58 64 86) := (FUp_aI hU61 (fI h58 64 86)).trans ((Fr_aI hL36 (tf hT6 rfl rfl) (by decide +kernel) (fI h58 64 86)).trans (FUp_aI hU8 (fI h58 64 86)))
      refine st_calls (as := [vI (aI h58 124 (fI h58 64 86))]) c252_80 cm_250 rfl rfl rfl rfl (by omega) (K250 hT59 (aI h58 124 (fI h58 64 86)) (by omega) (d - 1) (by omega) _ (fun v h0 H => H)) (fun v1 h1 H => ?_)
      rcases H with ⟨rfl, pf76, rfl⟩ | ⟨rfl, pf77, pf78, rfl⟩
      refine st_if_eq c252_83 (by omega) (fun k79 => ?_) (fun k80 => False.elim (by omega))
      refine st_aload c252_131 rfl ?_
      refine st_getX (u := 124) c252_132 hT59 (tf hT59 rfl rfl) fd_8_76 rfl ?_
      refine st_aload c252_135 rfl ?_
      refine st_getI c252_136 hT59 (tf hT59 rfl rfl) fd_8_86 (fun e81 e82 => ?_)
      have q83 : fI h58 64 86 = fI h33 64 86 := FUp_fIne hU61 (fun z => absurd z.2 (by decide))
      refine st_bald c252_139 hT59 (tf hT59 rfl rfl) ay_102 (Or.inr rfl) (by omega) (fun e84 e85 => ?_)
      have q86 : aI h58 124 (fI h58 64 86) = aI h 124 (fI h58 64 86) := (FUp_aI hU61 (fI h58 64 86)).trans ((Fr_aI hL36 (tf hT6 rfl rfl) (by decide +kernel) (fI h58 64 86)).trans (FUp_aI hU8 (fI h58 64 86)))
      refine st_calls (as := [vI (aI h58 124 (fI h58 64 86))]) c252_140 cm_251 rfl rfl rfl rfl (by omega) (K251 hT59 (aI h58 124 (fI h58 64 86)) (by omega) (d - 1) (by omega) _ (fun v h0 H => H)) (fun v1 h1 H => ?_)
      rcases H with ⟨rfl, pf87, rfl⟩ | ⟨rfl, pf88, pf89, rfl⟩
      refine st_if_eq c252_143 (by omega) (fun k90 => ?_) (fun k91 => False.elim (by omega))
      refine st_aload c252_259 rfl ?_
      refine st_dup c252_260 rfl ?_
      refine st_getI c252_261 hT59 (tf hT59 rfl rfl) fd_8_87 (fun e92 e93 => ?_)
      have q94 : fI h58 64 87 = fI h33 64 86 := FUp_fI hU61 (by omega) (by omega)
      refine st_iconst c252_264 ?_
      refine st_iadd c252_265 ?_
      refine st_putI c252_266 hT59 (tf hT59 rfl rfl) fd_8_87 (by omega) (by omega) (Ext_rf _) hS hF60 (by decide +kernel) (fun h95 hT96 hF97 hU98 => ?_)
      refine st_aload c252_269 rfl ?_
      refine st_aload c252_270 rfl ?_
      refine st_getX (u := 124) c252_271 hT96 (tf hT96 rfl rfl) fd_8_76 rfl ?_
      refine st_aload c252_274 rfl ?_
      refine st_getI c252_275 hT96 (tf hT96 rfl rfl) fd_8_86 (fun e99 e100 => ?_)
      have q101 : fI h95 64 86 = fI h58 64 86 := FUp_fIne hU98 (fun z => absurd z.2 (by decide))
      refine st_bald c252_278 hT96 (tf hT96 rfl rfl) ay_102 (Or.inr rfl) (by omega) (fun e102 e103 => ?_)
      have q104 : aI h95 124 (fI h95 64 86) = aI h 124 (fI h95 64 86) := (FUp_aI hU98 (fI h95 64 86)).trans ((FUp_aI hU61 (fI h95 64 86)).trans ((Fr_aI hL36 (tf hT6 rfl rfl) (by decide +kernel) (fI h95 64 86)).trans (FUp_aI hU8 (fI h95 64 86))))
      refine st_iconst c252_279 ?_
      refine st_icmp_le c252_281 (by omega) (by omega) (fun k105 => ?_) (fun k106 => ?_)
      refine st_iconst c252_296 ?_
      refine st_putI c252_297 hT96 (tf hT96 rfl rfl) fd_8_88 (by omega) (by omega) (Ext_rf _) hS hF97 (by decide +kernel) (fun h107 hT108 hF109 hU110 => ?_)
      refine st_return c252_300 ?_
      have e111 := fI_bd (q := 64) hT108 (tf hT108 rfl rfl) fd_8_86
      have q112 : fI h107 64 86 = fI h95 64 86 := FUp_fIne hU110 (fun z => absurd z.2 (by decide))
      have e113 := fI_bd (q := 64) hT108 (tf hT108 rfl rfl) fd_8_87
      have q114 : fI h107 64 87 = (fI h58 64 87) + 1 := (FUp_fIne hU110 (fun z => absurd z.2 (by decide))).trans (FUp_fI hU98 (by omega) (by omega))
      have e115 := fI_bd (q := 64) hT108 (tf hT108 rfl rfl) fd_8_88
      have q116 : fI h107 64 88 = (-1) := FUp_fI hU110 (by omega) (by omega)
      exact hQ _ _ ⟨rfl, by omega, by omega, by omega, by omega, hT108, hF109⟩
      refine st_aload c252_284 rfl ?_
      refine st_getX (u := 124) c252_285 hT96 (tf hT96 rfl rfl) fd_8_76 rfl ?_
      refine st_aload c252_288 rfl ?_
      refine st_getI c252_289 hT96 (tf hT96 rfl rfl) fd_8_86 (fun e117 e118 => ?_)
      have q119 : fI h95 64 86 = fI h58 64 86 := FUp_fIne hU98 (fun z => absurd z.2 (by decide))
      refine st_bald c252_292 hT96 (tf hT96 rfl rfl) ay_102 (Or.inr rfl) (by omega) (fun e120 e121 => ?_)
      have q122 : aI h95 124 (fI h95 64 86) = aI h 124 (fI h95 64 86) := (FUp_aI hU98 (fI h95 64 86)).trans ((FUp_aI hU61 (fI h95 64 86)).trans ((Fr_aI hL36 (tf hT6 rfl rfl) (by decide +kernel) (fI h95 64 86)).trans (FUp_aI hU8 (fI h95 64 86))))
      refine st_goto c252_293 ?_
      refine st_putI c252_297 hT96 (tf hT96 rfl rfl) fd_8_88 (by omega) (by omega) (Ext_rf _) hS hF97 (by decide +kernel) (fun h123 hT124 hF125 hU126 => ?_)
      refine st_return c252_300 ?_
      have e127 := fI_bd (q := 64) hT124 (tf hT124 rfl rfl) fd_8_86
      have q128 : fI h123 64 86 = fI h95 64 86 := FUp_fIne hU126 (fun z => absurd z.2 (by decide))
      have e129 := fI_bd (q := 64) hT124 (tf hT124 rfl rfl) fd_8_87
      have q130 : fI h123 64 87 = (fI h58 64 87) + 1 := (FUp_fIne hU126 (fun z => absurd z.2 (by decide))).trans (FUp_fI hU98 (by omega) (by omega))
      have e131 := fI_bd (q := 64) hT124 (tf hT124 rfl rfl) fd_8_88
      have q132 : fI h123 64 88 = aI h95 124 (fI h95 64 86) := FUp_fI hU126 (by omega) (by omega)
      exact hQ _ _ ⟨rfl, by omega, by omega, by omega, by omega, hT124, hF125⟩
      refine st_if_eq c252_143 (by omega) (fun k133 => False.elim (by omega)) (fun k134 => ?_)
      refine st_aload c252_146 rfl ?_
      refine st_iconst c252_147 ?_
      refine st_putI c252_148 hT59 (tf hT59 rfl rfl) fd_8_89 (by omega) (by omega) (Ext_rf _) hS hF60 (by decide +kernel) (fun h135 hT136 hF137 hU138 => ?_)
      have lp216 : ∀ (n217 : Nat) (h212 : List mE), fI h212 64 77 - fI h212 64 87 < (n217 : Int) → fI h212 64 87 ≤ fI h212 64 77 → fI h212 64 86 ≤ fI h212 64 87 → fI h212 64 86+1 ≤ fI h212 64 77 → fI h212 64 86 + 1 ≤ fI h212 64 87 ∨ (48 ≤ aI h212 124 (fI h212 64 87) ∧ aI h212 124 (fI h212 64 87) ≤ 57) → fI h 64 87 ≤ fI h212 64 86 → fI h212 64 77 = fI h 64 77 → TH E τ h212 → Fr τ W252 h h212 → Fr τ [(8, 87), (8, 89)] h135 h212 → MR (mex Ln xs) d 252 151 [some (.ref 64)] [] h212 Q := by
        intro n217
        induction n217 with
        | zero =>
          intro h212 hm219 x220 x221 x222 x223 x224 x225 hT213 hF214 hL215
          exfalso; omega
        | succ n217 ih218 =>
          intro h212 hm219 x220 x221 x222 x223 x224 x225 hT213 hF214 hL215
          have e226 := fI_bd (q := 64) hT213 (tf hT213 rfl rfl) fd_8_87
          have e227 := fI_bd (q := 64) hT213 (tf hT213 rfl rfl) fd_8_77
          have q228 : fI h212 64 77 = fI h58 64 77 := (Fr_fI hL215 (tf hT136 rfl rfl) (by decide +kernel)).trans (FUp_fIne hU138 (fun z => absurd z.2 (by decide)))
          have e229 := fI_bd (q := 64) hT213 (tf hT213 rfl rfl) fd_8_86
          have q230 : fI h212 64 86 = fI h58 64 86 := (Fr_fI hL215 (tf hT136 rfl rfl) (by decide +kernel)).trans (FUp_fIne hU138 (fun z => absurd z.2 (by decide)))
          refine st_aload c252_151 rfl ?_
          refine st_getI c252_152 hT213 (tf hT213 rfl rfl) fd_8_87 (fun e231 e232 => ?_)
          refine st_aload c252_155 rfl ?_
          refine st_getI c252_156 hT213 (tf hT213 rfl rfl) fd_8_77 (fun e233 e234 => ?_)
          have q235 : fI h212 64 77 = fI h58 64 77 := (Fr_fI hL215 (tf hT136 rfl rfl) (by decide +kernel)).trans (FUp_fIne hU138 (fun z => absurd z.2 (by decide)))
          refine st_icmp_ge c252_159 (by omega) (by omega) (fun k236 => ?_) (fun k237 => ?_)
          refine st_aload c252_235 rfl ?_
          refine st_aload c252_236 rfl ?_
          refine st_getI c252_237 hT213 (tf hT213 rfl rfl) fd_8_87 (fun e238 e239 => ?_)
          refine st_aload c252_240 rfl ?_
          refine st_getI c252_241 hT213 (tf hT213 rfl rfl) fd_8_86 (fun e240 e241 => ?_)
          have q242 : fI h212 64 86 = fI h58 64 86 := (Fr_fI hL215 (tf hT136 rfl rfl) (by decide +kernel)).trans (FUp_fIne hU138 (fun z => absurd z.2 (by decide)))
          refine st_isub c252_244 ?_
          refine st_iconst c252_245 ?_
          refine st_icmp_le c252_247 (by omega) (by omega) (fun k243 => ?_) (fun k244 => ?_)
          refine st_iconst c252_254 ?_
          refine st_putI c252_255 hT213 (tf hT213 rfl rfl) fd_8_88 (by omega) (by omega) (Ext_rf _) hS hF214 (by decide +kernel) (fun h245 hT246 hF247 hU248 => ?_)
          refine st_return c252_258 ?_
          have e249 := fI_bd (q := 64) hT246 (tf hT246 rfl rfl) fd_8_86
          have q250 : fI h245 64 86 = fI h212 64 86 := FUp_fIne hU248 (fun z => absurd z.2 (by decide))
          have e251 := fI_bd (q := 64) hT246 (tf hT246 rfl rfl) fd_8_87
          have q252 : fI h245 64 87 = fI h212 64 87 := FUp_fIne hU248 (fun z => absurd z.2 (by decide))
          have e253 := fI_bd (q := 64) hT246 (tf hT246 rfl rfl) fd_8_88
          have q254 : fI h245 64 88 = 2 := FUp_fI hU248 (by omega) (by omega)
          exact hQ _ _ ⟨rfl, by omega, by omega, by omega, by omega, hT246, hF247⟩
          refine st_iconst c252_250 ?_
          refine st_goto c252_251 ?_
          refine st_putI c252_255 hT213 (tf hT213 rfl rfl) fd_8_88 (by omega) (by omega) (Ext_rf _) hS hF214 (by decide +kernel) (fun h255 hT256 hF257 hU258 => ?_)
          refine st_return c252_258 ?_
          have e259 := fI_bd (q := 64) hT256 (tf hT256 rfl rfl) fd_8_86
          have q260 : fI h255 64 86 = fI h212 64 86 := FUp_fIne hU258 (fun z => absurd z.2 (by decide))
          have e261 := fI_bd (q := 64) hT256 (tf hT256 rfl rfl) fd_8_87
          have q262 : fI h255 64 87 = fI h212 64 87 := FUp_fIne hU258 (fun z => absurd z.2 (by decide))
          have e263 := fI_bd (q := 64) hT256 (tf hT256 rfl rfl) fd_8_88
          have q264 : fI h255 64 88 = (-1) := FUp_fI hU258 (by omega) (by omega)
          exact hQ _ _ ⟨rfl, by omega, by omega, by omega, by omega, hT256, hF257⟩
          refine st_aload c252_162 rfl ?_
          refine st_getX (u := 124) c252_163 hT213 (tf hT213 rfl rfl) fd_8_76 rfl ?_
          refine st_aload c252_166 rfl ?_
          refine st_getI c252_167 hT213 (tf hT213 rfl rfl) fd_8_87 (fun e265 e266 => ?_)
          refine st_bald c252_170 hT213 (tf hT213 rfl rfl) ay_102 (Or.inr rfl) (by omega) (fun e267 e268 => ?_)
          have q269 : aI h212 124 (fI h212 64 87) = aI h 124 (fI h212 64 87) := (Fr_aI hL215 (tf hT136 rfl rfl) (by decide +kernel) (fI h212 64 87)).trans ((FUp_aI hU138 (fI h212 64 87)).trans ((FUp_aI hU61 (fI h212 64 87)).trans ((Fr_aI hL36 (tf hT6 rfl rfl) (by decide +kernel) (fI h212 64 87)).trans (FUp_aI hU8 (fI h212 64 87)))))
          refine st_calls (as := [vI (aI h212 124 (fI h212 64 87))]) c252_171 cm_251 rfl rfl rfl rfl (by omega) (K251 hT213 (aI h212 124 (fI h212 64 87)) (by omega) (d - 1) (by omega) _ (fun v h0 H => H)) (fun v1 h1 H => ?_)
          rcases H with ⟨rfl, pf270, rfl⟩ | ⟨rfl, pf271, pf272, rfl⟩
          refine st_if_eq c252_174 (by omega) (fun k273 => ?_) (fun k274 => False.elim (by omega))
          refine st_aload c252_235 rfl ?_
          refine st_aload c252_236 rfl ?_
          refine st_getI c252_237 hT213 (tf hT213 rfl rfl) fd_8_87 (fun e275 e276 => ?_)
          refine st_aload c252_240 rfl ?_
          refine st_getI c252_241 hT213 (tf hT213 rfl rfl) fd_8_86 (fun e277 e278 => ?_)
          have q279 : fI h212 64 86 = fI h58 64 86 := (Fr_fI hL215 (tf hT136 rfl rfl) (by decide +kernel)).trans (FUp_fIne hU138 (fun z => absurd z.2 (by decide)))
          refine st_isub c252_244 ?_
          refine st_iconst c252_245 ?_
          refine st_icmp_le c252_247 (by omega) (by omega) (fun k280 => ?_) (fun k281 => ?_)
          refine st_iconst c252_254 ?_
          refine st_putI c252_255 hT213 (tf hT213 rfl rfl) fd_8_88 (by omega) (by omega) (Ext_rf _) hS hF214 (by decide +kernel) (fun h282 hT283 hF284 hU285 => ?_)
          refine st_return c252_258 ?_
          have e286 := fI_bd (q := 64) hT283 (tf hT283 rfl rfl) fd_8_86
          have q287 : fI h282 64 86 = fI h212 64 86 := FUp_fIne hU285 (fun z => absurd z.2 (by decide))
          have e288 := fI_bd (q := 64) hT283 (tf hT283 rfl rfl) fd_8_87
          have q289 : fI h282 64 87 = fI h212 64 87 := FUp_fIne hU285 (fun z => absurd z.2 (by decide))
          have e290 := fI_bd (q := 64) hT283 (tf hT283 rfl rfl) fd_8_88
          have q291 : fI h282 64 88 = 2 := FUp_fI hU285 (by omega) (by omega)
          exact hQ _ _ ⟨rfl, by omega, by omega, by omega, by omega, hT283, hF284⟩
          refine st_iconst c252_250 ?_
          refine st_goto c252_251 ?_
          refine st_putI c252_255 hT213 (tf hT213 rfl rfl) fd_8_88 (by omega) (by omega) (Ext_rf _) hS hF214 (by decide +kernel) (fun h292 hT293 hF294 hU295 => ?_)
          refine st_return c252_258 ?_
          have e296 := fI_bd (q := 64) hT293 (tf hT293 rfl rfl) fd_8_86
          have q297 : fI h292 64 86 = fI h212 64 86 := FUp_fIne hU295 (fun z => absurd z.2 (by decide))
          have e298 := fI_bd (q := 64) hT293 (tf hT293 rfl rfl) fd_8_87
          have q299 : fI h292 64 87 = fI h212 64 87 := FUp_fIne hU295 (fun z => absurd z.2 (by decide))
          have e300 := fI_bd (q := 64) hT293 (tf hT293 rfl rfl) fd_8_88
          have q301 : fI h292 64 88 = (-1) := FUp_fI hU295 (by omega) (by omega)
          exact hQ _ _ ⟨rfl, by omega, by omega, by omega, by omega, hT293, hF294⟩
          refine st_if_eq c252_174 (by omega) (fun k302 => False.elim (by omega)) (fun k303 => ?_)
          refine st_aload c252_177 rfl ?_
          refine st_aload c252_178 rfl ?_
          refine st_getI c252_179 hT213 (tf hT213 rfl rfl) fd_8_87 (fun e304 e305 => ?_)
          refine st_aload c252_182 rfl ?_
          refine st_getI c252_183 hT213 (tf hT213 rfl rfl) fd_8_86 (fun e306 e307 => ?_)
          have q308 : fI h212 64 86 = fI h58 64 86 := (Fr_fI hL215 (tf hT136 rfl rfl) (by decide +kernel)).trans (FUp_fIne hU138 (fun z => absurd z.2 (by decide)))
          refine st_isub c252_186 ?_
          refine st_iconst c252_187 ?_
          refine st_icmp_ge c252_189 (by omega) (by omega) (fun k309 => ?_) (fun k310 => ?_)
          refine st_aload c252_215 rfl ?_
          refine st_getI c252_216 hT213 (tf hT213 rfl rfl) fd_8_89 (fun e311 e312 => ?_)
          refine st_putI c252_219 hT213 (tf hT213 rfl rfl) fd_8_89 (by omega) (by omega) (Ext_rf _) hS hF214 (by decide +kernel) (fun h313 hT314 hF315 hU316 => ?_)
          refine st_aload c252_222 rfl ?_
          refine st_dup c252_223 rfl ?_
          refine st_getI c252_224 hT314 (tf hT314 rfl rfl) fd_8_87 (fun e317 e318 => ?_)
          have q319 : fI h313 64 87 = fI h212 64 87 := FUp_fIne hU316 (fun z => absurd z.2 (by decide))
          refine st_iconst c252_227 ?_
          refine st_iadd c252_228 ?_
          refine st_putI c252_229 hT314 (tf hT314 rfl rfl) fd_8_87 (by omega) (by omega) (Ext_rf _) hS hF315 (by decide +kernel) (fun h320 hT321 hF322 hU323 => ?_)
          refine st_goto c252_232 ?_
          have e324 := fI_bd (q := 64) hT321 (tf hT321 rfl rfl) fd_8_87
          have q325 : fI h320 64 87 = (fI h313 64 87) + 1 := FUp_fI hU323 (by omega) (by omega)
          have e326 := fI_bd (q := 64) hT321 (tf hT321 rfl rfl) fd_8_77
          have q327 : fI h320 64 77 = fI h212 64 77 := (FUp_fIne hU323 (fun z => absurd z.2 (by decide))).trans (FUp_fIne hU316 (fun z => absurd z.2 (by decide)))
          have e328 := fI_bd (q := 64) hT321 (tf hT321 rfl rfl) fd_8_86
          have q329 : fI h320 64 86 = fI h212 64 86 := (FUp_fIne hU323 (fun z => absurd z.2 (by decide))).trans (FUp_fIne hU316 (fun z => absurd z.2 (by decide)))
          exact ih218 h320 (by omega) (by omega) (by omega) (by omega) (Or.inl (by omega)) (by omega) (by omega) hT321 hF322 (FUp_Fr (FUp_Fr hL215 hU316 (fun u hu => by rw [ty_1 hu (tf hT321 rfl rfl)]; decide)) hU323 (fun u hu => by rw [ty_1 hu (tf hT321 rfl rfl)]; decide))
          refine st_iconst c252_192 ?_
          refine st_aload c252_194 rfl ?_
          refine st_getI c252_195 hT213 (tf hT213 rfl rfl) fd_8_89 (fun e330 e331 => ?_)
          refine st_imul c252_198 ?_
          refine MR_wrap (fun w332 e333 e334 e335 => ?_)
          refine st_aload c252_199 rfl ?_
          refine st_getX (u := 124) c252_200 hT213 (tf hT213 rfl rfl) fd_8_76 rfl ?_
          refine st_aload c252_203 rfl ?_
          refine st_getI c252_204 hT213 (tf hT213 rfl rfl) fd_8_87 (fun e336 e337 => ?_)
          refine st_bald c252_207 hT213 (tf hT213 rfl rfl) ay_102 (Or.inr rfl) (by omega) (fun e338 e339 => ?_)
          have q340 : aI h212 124 (fI h212 64 87) = aI h 124 (fI h212 64 87) := (Fr_aI hL215 (tf hT136 rfl rfl) (by decide +kernel) (fI h212 64 87)).trans ((FUp_aI hU138 (fI h212 64 87)).trans ((FUp_aI hU61 (fI h212 64 87)).trans ((Fr_aI hL36 (tf hT6 rfl rfl) (by decide +kernel) (fI h212 64 87)).trans (FUp_aI hU8 (fI h212 64 87)))))
          refine st_iadd c252_208 ?_
          refine MR_wrap (fun w341 e342 e343 e344 => ?_)
          refine st_iconst c252_209 ?_
          refine st_isub c252_211 ?_
          refine MR_wrap (fun w345 e346 e347 e348 => ?_)
          refine st_goto c252_212 ?_
          refine st_putI c252_219 hT213 (tf hT213 rfl rfl) fd_8_89 (by omega) (by omega) (Ext_rf _) hS hF214 (by decide +kernel) (fun h349 hT350 hF351 hU352 => ?_)
          refine st_aload c252_222 rfl ?_
          refine st_dup c252_223 rfl ?_
          refine st_getI c252_224 hT350 (tf hT350 rfl rfl) fd_8_87 (fun e353 e354 => ?_)
          have q355 : fI h349 64 87 = fI h212 64 87 := FUp_fIne hU352 (fun z => absurd z.2 (by decide))
          refine st_iconst c252_227 ?_
          refine st_iadd c252_228 ?_
          refine st_putI c252_229 hT350 (tf hT350 rfl rfl) fd_8_87 (by omega) (by omega) (Ext_rf _) hS hF351 (by decide +kernel) (fun h356 hT357 hF358 hU359 => ?_)
          refine st_goto c252_232 ?_
          have e360 := fI_bd (q := 64) hT357 (tf hT357 rfl rfl) fd_8_87
          have q361 : fI h356 64 87 = (fI h349 64 87) + 1 := FUp_fI hU359 (by omega) (by omega)
          have e362 := fI_bd (q := 64) hT357 (tf hT357 rfl rfl) fd_8_77
          have q363 : fI h356 64 77 = fI h212 64 77 := (FUp_fIne hU359 (fun z => absurd z.2 (by decide))).trans (FUp_fIne hU352 (fun z => absurd z.2 (by decide)))
          have e364 := fI_bd (q := 64) hT357 (tf hT357 rfl rfl) fd_8_86
          have q365 : fI h356 64 86 = fI h212 64 86 := (FUp_fIne hU359 (fun z => absurd z.2 (by decide))).trans (FUp_fIne hU352 (fun z => absurd z.2 (by decide)))
          exact ih218 h356 (by omega) (by omega) (by omega) (by omega) (Or.inl (by omega)) (by omega) (by omega) hT357 hF358 (FUp_Fr (FUp_Fr hL215 hU352 (fun u hu => by rw [ty_1 hu (tf hT357 rfl rfl)]; decide)) hU359 (fun u hu => by rw [ty_1 hu (tf hT357 rfl rfl)]; decide))
      have e366 := fI_bd (q := 64) hT136 (tf hT136 rfl rfl) fd_8_87
      have q367 : fI h135 64 87 = fI h33 64 86 := (FUp_fIne hU138 (fun z => absurd z.2 (by decide))).trans (FUp_fI hU61 (by omega) (by omega))
      have e368 := fI_bd (q := 64) hT136 (tf hT136 rfl rfl) fd_8_77
      have q369 : fI h135 64 77 = fI h58 64 77 := FUp_fIne hU138 (fun z => absurd z.2 (by decide))
      have e370 := fI_bd (q := 64) hT136 (tf hT136 rfl rfl) fd_8_86
      have q371 : fI h135 64 86 = fI h58 64 86 := FUp_fIne hU138 (fun z => absurd z.2 (by decide))
      have q372 : aI h135 124 (fI h58 64 86) = aI h58 124 (fI h58 64 86) := FUp_aI hU138 (fI h58 64 86)
      exact lp216 (((fI h135 64 77 - fI h135 64 87 : Int) + 1).toNat) h135 (by omega) (by omega) (by omega) (by omega) (Or.inr (by rw [show fI h135 64 87 = fI h58 64 86 from by omega]; omega)) (by omega) (by omega) hT136 hF137 (Fr_rf _ _ _)
      refine st_if_eq c252_83 (by omega) (fun k373 => False.elim (by omega)) (fun k374 => ?_)
      have lp408 : ∀ (n409 : Nat) (h404 : List mE), fI h404 64 77 - fI h404 64 87 < (n409 : Int) → fI h404 64 87 ≤ fI h404 64 77 → fI h404 64 86 ≤ fI h404 64 87 → fI h404 64 86+1 ≤ fI h404 64 77 → fI h404 64 86 + 1 ≤ fI h404 64 87 ∨ (97 ≤ aI h404 124 (fI h404 64 87) ∧ aI h404 124 (fI h404 64 87) ≤ 122) → fI h 64 87 ≤ fI h404 64 86 → fI h404 64 77 = fI h 64 77 → TH E τ h404 → Fr τ W252 h h404 → Fr τ [(8, 87)] h58 h404 → MR (mex Ln xs) d 252 86 [some (.ref 64)] [] h404 Q := by
        intro n409
        induction n409 with
        | zero =>
          intro h404 hm411 x412 x413 x414 x415 x416 x417 hT405 hF406 hL407
          exfalso; omega
        | succ n409 ih410 =>
          intro h404 hm411 x412 x413 x414 x415 x416 x417 hT405 hF406 hL407
          have e418 := fI_bd (q := 64) hT405 (tf hT405 rfl rfl) fd_8_87
          have e419 := fI_bd (q := 64) hT405 (tf hT405 rfl rfl) fd_8_77
          have q420 : fI h404 64 77 = fI h58 64 77 := Fr_fI hL407 (tf hT59 rfl rfl) (by decide +kernel)
          have e421 := fI_bd (q := 64) hT405 (tf hT405 rfl rfl) fd_8_86
          have q422 : fI h404 64 86 = fI h58 64 86 := Fr_fI hL407 (tf hT59 rfl rfl) (by decide +kernel)
          refine st_aload c252_86 rfl ?_
          refine st_getI c252_87 hT405 (tf hT405 rfl rfl) fd_8_87 (fun e423 e424 => ?_)
          refine st_aload c252_90 rfl ?_
          refine st_getI c252_91 hT405 (tf hT405 rfl rfl) fd_8_77 (fun e425 e426 => ?_)
          have q427 : fI h404 64 77 = fI h58 64 77 := Fr_fI hL407 (tf hT59 rfl rfl) (by decide +kernel)
          refine st_icmp_ge c252_94 (by omega) (by omega) (fun k428 => ?_) (fun k429 => ?_)
          refine st_aload c252_125 rfl ?_
          refine st_iconst c252_126 ?_
          refine st_putI c252_127 hT405 (tf hT405 rfl rfl) fd_8_88 (by omega) (by omega) (Ext_rf _) hS hF406 (by decide +kernel) (fun h430 hT431 hF432 hU433 => ?_)
          refine st_return c252_130 ?_
          have e434 := fI_bd (q := 64) hT431 (tf hT431 rfl rfl) fd_8_86
          have q435 : fI h430 64 86 = fI h404 64 86 := FUp_fIne hU433 (fun z => absurd z.2 (by decide))
          have e436 := fI_bd (q := 64) hT431 (tf hT431 rfl rfl) fd_8_87
          have q437 : fI h430 64 87 = fI h404 64 87 := FUp_fIne hU433 (fun z => absurd z.2 (by decide))
          have e438 := fI_bd (q := 64) hT431 (tf hT431 rfl rfl) fd_8_88
          have q439 : fI h430 64 88 = 1 := FUp_fI hU433 (by omega) (by omega)
          exact hQ _ _ ⟨rfl, by omega, by omega, by omega, by omega, hT431, hF432⟩
          refine st_aload c252_97 rfl ?_
          refine st_getX (u := 124) c252_98 hT405 (tf hT405 rfl rfl) fd_8_76 rfl ?_
          refine st_aload c252_101 rfl ?_
          refine st_getI c252_102 hT405 (tf hT405 rfl rfl) fd_8_87 (fun e440 e441 => ?_)
          refine st_bald c252_105 hT405 (tf hT405 rfl rfl) ay_102 (Or.inr rfl) (by omega) (fun e442 e443 => ?_)
          have q444 : aI h404 124 (fI h404 64 87) = aI h 124 (fI h404 64 87) := (Fr_aI hL407 (tf hT59 rfl rfl) (by decide +kernel) (fI h404 64 87)).trans ((FUp_aI hU61 (fI h404 64 87)).trans ((Fr_aI hL36 (tf hT6 rfl rfl) (by decide +kernel) (fI h404 64 87)).trans (FUp_aI hU8 (fI h404 64 87))))
          refine st_calls (as := [vI (aI h404 124 (fI h404 64 87))]) c252_106 cm_250 rfl rfl rfl rfl (by omega) (K250 hT405 (aI h404 124 (fI h404 64 87)) (by omega) (d - 1) (by omega) _ (fun v h0 H => H)) (fun v1 h1 H => ?_)
          rcases H with ⟨rfl, pf445, rfl⟩ | ⟨rfl, pf446, pf447, rfl⟩
          refine st_if_eq c252_109 (by omega) (fun k448 => ?_) (fun k449 => False.elim (by omega))
          refine st_aload c252_125 rfl ?_
          refine st_iconst c252_126 ?_
          refine st_putI c252_127 hT405 (tf hT405 rfl rfl) fd_8_88 (by omega) (by omega) (Ext_rf _) hS hF406 (by decide +kernel) (fun h450 hT451 hF452 hU453 => ?_)
          refine st_return c252_130 ?_
          have e454 := fI_bd (q := 64) hT451 (tf hT451 rfl rfl) fd_8_86
          have q455 : fI h450 64 86 = fI h404 64 86 := FUp_fIne hU453 (fun z => absurd z.2 (by decide))
          have e456 := fI_bd (q := 64) hT451 (tf hT451 rfl rfl) fd_8_87
          have q457 : fI h450 64 87 = fI h404 64 87 := FUp_fIne hU453 (fun z => absurd z.2 (by decide))
          have e458 := fI_bd (q := 64) hT451 (tf hT451 rfl rfl) fd_8_88
          have q459 : fI h450 64 88 = 1 := FUp_fI hU453 (by omega) (by omega)
          exact hQ _ _ ⟨rfl, by omega, by omega, by omega, by omega, hT451, hF452⟩
          refine st_if_eq c252_109 (by omega) (fun k460 => False.elim (by omega)) (fun k461 => ?_)
          refine st_aload c252_112 rfl ?_
          refine st_dup c252_113 rfl ?_
          refine st_getI c252_114 hT405 (tf hT405 rfl rfl) fd_8_87 (fun e462 e463 => ?_)
          refine st_iconst c252_117 ?_
          refine st_iadd c252_118 ?_
          refine st_putI c252_119 hT405 (tf hT405 rfl rfl) fd_8_87 (by omega) (by omega) (Ext_rf _) hS hF406 (by decide +kernel) (fun h464 hT465 hF466 hU467 => ?_)
          refine st_goto c252_122 ?_
          have e468 := fI_bd (q := 64) hT465 (tf hT465 rfl rfl) fd_8_87
          have q469 : fI h464 64 87 = (fI h404 64 87) + 1 := FUp_fI hU467 (by omega) (by omega)
          have e470 := fI_bd (q := 64) hT465 (tf hT465 rfl rfl) fd_8_77
          have q471 : fI h464 64 77 = fI h404 64 77 := FUp_fIne hU467 (fun z => absurd z.2 (by decide))
          have e472 := fI_bd (q := 64) hT465 (tf hT465 rfl rfl) fd_8_86
          have q473 : fI h464 64 86 = fI h404 64 86 := FUp_fIne hU467 (fun z => absurd z.2 (by decide))
          exact ih410 h464 (by omega) (by omega) (by omega) (by omega) (Or.inl (by omega)) (by omega) (by omega) hT465 hF466 (FUp_Fr hL407 hU467 (fun u hu => by rw [ty_1 hu (tf hT465 rfl rfl)]; decide))
      have e474 := fI_bd (q := 64) hT59 (tf hT59 rfl rfl) fd_8_87
      have q475 : fI h58 64 87 = fI h33 64 86 := FUp_fI hU61 (by omega) (by omega)
      exact lp408 (((fI h58 64 77 - fI h58 64 87 : Int) + 1).toNat) h58 (by omega) (by omega) (by omega) (by omega) (Or.inr (by rw [show fI h58 64 87 = fI h58 64 86 from by omega]; omega)) (by omega) (by omega) hT59 hF60 (Fr_rf _ _ _)
      refine st_aload c252_65 rfl ?_
      refine st_iconst c252_66 ?_
      refine st_putI c252_67 hT59 (tf hT59 rfl rfl) fd_8_88 (by omega) (by omega) (Ext_rf _) hS hF60 (by decide +kernel) (fun h476 hT477 hF478 hU479 => ?_)
      refine st_return c252_70 ?_
      have e480 := fI_bd (q := 64) hT477 (tf hT477 rfl rfl) fd_8_86
      have q481 : fI h476 64 86 = fI h58 64 86 := FUp_fIne hU479 (fun z => absurd z.2 (by decide))
      have e482 := fI_bd (q := 64) hT477 (tf hT477 rfl rfl) fd_8_87
      have q483 : fI h476 64 87 = fI h33 64 86 := (FUp_fIne hU479 (fun z => absurd z.2 (by decide))).trans (FUp_fI hU61 (by omega) (by omega))
      have e484 := fI_bd (q := 64) hT477 (tf hT477 rfl rfl) fd_8_88
      have q485 : fI h476 64 88 = 0 := FUp_fI hU479 (by omega) (by omega)
      exact hQ _ _ ⟨rfl, by omega, by omega, by omega, by omega, hT477, hF478⟩
      refine st_aload c252_19 rfl ?_
      refine st_getX (u := 124) c252_20 hT34 (tf hT34 rfl rfl) fd_8_76 rfl ?_
      refine st_aload c252_23 rfl ?_
      refine st_getI c252_24 hT34 (tf hT34 rfl rfl) fd_8_86 (fun e486 e487 => ?_)
      refine st_bald c252_27 hT34 (tf hT34 rfl rfl) ay_102 (Or.inr rfl) (by omega) (fun e488 e489 => ?_)
      have q490 : aI h33 124 (fI h33 64 86) = aI h 124 (fI h33 64 86) := (Fr_aI hL36 (tf hT6 rfl rfl) (by decide +kernel) (fI h33 64 86)).trans (FUp_aI hU8 (fI h33 64 86))
      refine st_iconst c252_28 ?_
      refine st_icmp_ne c252_30 (by omega) (by omega) (fun k491 => ?_) (fun k492 => ?_)
      refine st_aload c252_46 rfl ?_
      refine st_aload c252_47 rfl ?_
      refine st_getI c252_48 hT34 (tf hT34 rfl rfl) fd_8_86 (fun e493 e494 => ?_)
      refine st_putI c252_51 hT34 (tf hT34 rfl rfl) fd_8_87 (by omega) (by omega) (Ext_rf _) hS hF35 (by decide +kernel) (fun h495 hT496 hF497 hU498 => ?_)
      refine st_aload c252_54 rfl ?_
      refine st_getI c252_55 hT496 (tf hT496 rfl rfl) fd_8_86 (fun e499 e500 => ?_)
      have q501 : fI h495 64 86 = fI h33 64 86 := FUp_fIne hU498 (fun z => absurd z.2 (by decide))
      refine st_aload c252_58 rfl ?_
      refine st_getI c252_59 hT496 (tf hT496 rfl rfl) fd_8_77 (fun e502 e503 => ?_)
      have q504 : fI h495 64 77 = fI h33 64 77 := FUp_fIne hU498 (fun z => absurd z.2 (by decide))
      refine st_icmp_ne c252_62 (by omega) (by omega) (fun k505 => ?_) (fun k506 => ?_)
      refine st_aload c252_71 rfl ?_
      refine st_getX (u := 124) c252_72 hT496 (tf hT496 rfl rfl) fd_8_76 rfl ?_
      refine st_aload c252_75 rfl ?_
      refine st_getI c252_76 hT496 (tf hT496 rfl rfl) fd_8_86 (fun e507 e508 => ?_)
      have q509 : fI h495 64 86 = fI h33 64 86 := FUp_fIne hU498 (fun z => absurd z.2 (by decide))
      refine st_bald c252_79 hT496 (tf hT496 rfl rfl) ay_102 (Or.inr rfl) (by omega) (fun e510 e511 => ?_)
      have q512 : aI h495 124 (fI h495 64 86) = aI h 124 (fI h495 64 86) := (FUp_aI hU498 (fI h495 64 86)).trans ((Fr_aI hL36 (tf hT6 rfl rfl) (by decide +kernel) (fI h495 64 86)).trans (FUp_aI hU8 (fI h495 64 86)))
      refine st_calls (as := [vI (aI h495 124 (fI h495 64 86))]) c252_80 cm_250 rfl rfl rfl rfl (by omega) (K250 hT496 (aI h495 124 (fI h495 64 86)) (by omega) (d - 1) (by omega) _ (fun v h0 H => H)) (fun v1 h1 H => ?_)
      rcases H with ⟨rfl, pf513, rfl⟩ | ⟨rfl, pf514, pf515, rfl⟩
      refine st_if_eq c252_83 (by omega) (fun k516 => ?_) (fun k517 => False.elim (by omega))
      refine st_aload c252_131 rfl ?_
      refine st_getX (u := 124) c252_132 hT496 (tf hT496 rfl rfl) fd_8_76 rfl ?_
      refine st_aload c252_135 rfl ?_
      refine st_getI c252_136 hT496 (tf hT496 rfl rfl) fd_8_86 (fun e518 e519 => ?_)
      have q520 : fI h495 64 86 = fI h33 64 86 := FUp_fIne hU498 (fun z => absurd z.2 (by decide))
      refine st_bald c252_139 hT496 (tf hT496 rfl rfl) ay_102 (Or.inr rfl) (by omega) (fun e521 e522 => ?_)
      have q523 : aI h495 124 (fI h495 64 86) = aI h 124 (fI h495 64 86) := (FUp_aI hU498 (fI h495 64 86)).trans ((Fr_aI hL36 (tf hT6 rfl rfl) (by decide +kernel) (fI h495 64 86)).trans (FUp_aI hU8 (fI h495 64 86)))
      refine st_calls (as := [vI (aI h495 124 (fI h495 64 86))]) c252_140 cm_251 rfl rfl rfl rfl (by omega) (K251 hT496 (aI h495 124 (fI h495 64 86)) (by omega) (d - 1) (by omega) _ (fun v h0 H => H)) (fun v1 h1 H => ?_)
      rcases H with ⟨rfl, pf524, rfl⟩ | ⟨rfl, pf525, pf526, rfl⟩
      refine st_if_eq c252_143 (by omega) (fun k527 => ?_) (fun k528 => False.elim (by omega))
      refine st_aload c252_259 rfl ?_
      refine st_dup c252_260 rfl ?_
      refine st_getI c252_261 hT496 (tf hT496 rfl rfl) fd_8_87 (fun e529 e530 => ?_)
      have q531 : fI h495 64 87 = fI h33 64 86 := FUp_fI hU498 (by omega) (by omega)
      refine st_iconst c252_264 ?_
      refine st_iadd c252_265 ?_
      refine st_putI c252_266 hT496 (tf hT496 rfl rfl) fd_8_87 (by omega) (by omega) (Ext_rf _) hS hF497 (by decide +kernel) (fun h532 hT533 hF534 hU535 => ?_)
      refine st_aload c252_269 rfl ?_
      refine st_aload c252_270 rfl ?_
      refine st_getX (u := 124) c252_271 hT533 (tf hT533 rfl rfl) fd_8_76 rfl ?_
      refine st_aload c252_274 rfl ?_
      refine st_getI c252_275 hT533 (tf hT533 rfl rfl) fd_8_86 (fun e536 e537 => ?_)
      have q538 : fI h532 64 86 = fI h495 64 86 := FUp_fIne hU535 (fun z => absurd z.2 (by decide))
      refine st_bald c252_278 hT533 (tf hT533 rfl rfl) ay_102 (Or.inr rfl) (by omega) (fun e539 e540 => ?_)
      have q541 : aI h532 124 (fI h532 64 86) = aI h 124 (fI h532 64 86) := (FUp_aI hU535 (fI h532 64 86)).trans ((FUp_aI hU498 (fI h532 64 86)).trans ((Fr_aI hL36 (tf hT6 rfl rfl) (by decide +kernel) (fI h532 64 86)).trans (FUp_aI hU8 (fI h532 64 86))))
      refine st_iconst c252_279 ?_
      refine st_icmp_le c252_281 (by omega) (by omega) (fun k542 => ?_) (fun k543 => ?_)
      refine st_iconst c252_296 ?_
      refine st_putI c252_297 hT533 (tf hT533 rfl rfl) fd_8_88 (by omega) (by omega) (Ext_rf _) hS hF534 (by decide +kernel) (fun h544 hT545 hF546 hU547 => ?_)
      refine st_return c252_300 ?_
      have e548 := fI_bd (q := 64) hT545 (tf hT545 rfl rfl) fd_8_86
      have q549 : fI h544 64 86 = fI h532 64 86 := FUp_fIne hU547 (fun z => absurd z.2 (by decide))
      have e550 := fI_bd (q := 64) hT545 (tf hT545 rfl rfl) fd_8_87
      have q551 : fI h544 64 87 = (fI h495 64 87) + 1 := (FUp_fIne hU547 (fun z => absurd z.2 (by decide))).trans (FUp_fI hU535 (by omega) (by omega))
      have e552 := fI_bd (q := 64) hT545 (tf hT545 rfl rfl) fd_8_88
      have q553 : fI h544 64 88 = (-1) := FUp_fI hU547 (by omega) (by omega)
      exact hQ _ _ ⟨rfl, by omega, by omega, by omega, by omega, hT545, hF546⟩
      refine st_aload c252_284 rfl ?_
      refine st_getX (u := 124) c252_285 hT533 (tf hT533 rfl rfl) fd_8_76 rfl ?_
      refine st_aload c252_288 rfl ?_
      refine st_getI c252_289 hT533 (tf hT533 rfl rfl) fd_8_86 (fun e554 e555 => ?_)
      have q556 : fI h532 64 86 = fI h495 64 86 := FUp_fIne hU535 (fun z => absurd z.2 (by decide))
      refine st_bald c252_292 hT533 (tf hT533 rfl rfl) ay_102 (Or.inr rfl) (by omega) (fun e557 e558 => ?_)
      have q559 : aI h532 124 (fI h532 64 86) = aI h 124 (fI h532 64 86) := (FUp_aI hU535 (fI h532 64 86)).trans ((FUp_aI hU498 (fI h532 64 86)).trans ((Fr_aI hL36 (tf hT6 rfl rfl) (by decide +kernel) (fI h532 64 86)).trans (FUp_aI hU8 (fI h532 64 86))))
      refine st_goto c252_293 ?_
      refine st_putI c252_297 hT533 (tf hT533 rfl rfl) fd_8_88 (by omega) (by omega) (Ext_rf _) hS hF534 (by decide +kernel) (fun h560 hT561 hF562 hU563 => ?_)
      refine st_return c252_300 ?_
      have e564 := fI_bd (q := 64) hT561 (tf hT561 rfl rfl) fd_8_86
      have q565 : fI h560 64 86 = fI h532 64 86 := FUp_fIne hU563 (fun z => absurd z.2 (by decide))
      have e566 := fI_bd (q := 64) hT561 (tf hT561 rfl rfl) fd_8_87
      have q567 : fI h560 64 87 = (fI h495 64 87) + 1 := (FUp_fIne hU563 (fun z => absurd z.2 (by decide))).trans (FUp_fI hU535 (by omega) (by omega))
      have e568 := fI_bd (q := 64) hT561 (tf hT561 rfl rfl) fd_8_88
      have q569 : fI h560 64 88 = aI h532 124 (fI h532 64 86) := FUp_fI hU563 (by omega) (by omega)
      exact hQ _ _ ⟨rfl, by omega, by omega, by omega, by omega, hT561, hF562⟩
      refine st_if_eq c252_143 (by omega) (fun k570 => False.elim (by omega)) (fun k571 => ?_)
      refine st_aload c252_146 rfl ?_
      refine st_iconst c252_147 ?_
      refine st_putI c252_148 hT496 (tf hT496 rfl rfl) fd_8_89 (by omega) (by omega) (Ext_rf _) hS hF497 (by decide +kernel) (fun h572 hT573 hF574 hU575 => ?_)
      have lp653 : ∀ (n654 : Nat) (h649 : List mE), fI h649 64 77 - fI h649 64 87 < (n654 : Int) → fI h649 64 87 ≤ fI h649 64 77 → fI h649 64 86 ≤ fI h649 64 87 → fI h649 64 86+1 ≤ fI h649 64 77 → fI h649 64 86 + 1 ≤ fI h649 64 87 ∨ (48 ≤ aI h649 124 (fI h649 64 87) ∧ aI h649 124 (fI h649 64 87) ≤ 57) → fI h 64 87 ≤ fI h649 64 86 → fI h649 64 77 = fI h 64 77 → TH E τ h649 → Fr τ W252 h h649 → Fr τ [(8, 87), (8, 89)] h572 h649 → MR (mex Ln xs) d 252 151 [some (.ref 64)] [] h649 Q := by
        intro n654
        induction n654 with
        | zero =>
          intro h649 hm656 x657 x658 x659 x660 x661 x662 hT650 hF651 hL652
          exfalso; omega
        | succ n654 ih655 =>
          intro h649 hm656 x657 x658 x659 x660 x661 x662 hT650 hF651 hL652
          have e663 := fI_bd (q := 64) hT650 (tf hT650 rfl rfl) fd_8_87
          have e664 := fI_bd (q := 64) hT650 (tf hT650 rfl rfl) fd_8_77
          have q665 : fI h649 64 77 = fI h495 64 77 := (Fr_fI hL652 (tf hT573 rfl rfl) (by decide +kernel)).trans (FUp_fIne hU575 (fun z => absurd z.2 (by decide)))
          have e666 := fI_bd (q := 64) hT650 (tf hT650 rfl rfl) fd_8_86
          have q667 : fI h649 64 86 = fI h495 64 86 := (Fr_fI hL652 (tf hT573 rfl rfl) (by decide +kernel)).trans (FUp_fIne hU575 (fun z => absurd z.2 (by decide)))
          refine st_aload c252_151 rfl ?_
          refine st_getI c252_152 hT650 (tf hT650 rfl rfl) fd_8_87 (fun e668 e669 => ?_)
          refine st_aload c252_155 rfl ?_
          refine st_getI c252_156 hT650 (tf hT650 rfl rfl) fd_8_77 (fun e670 e671 => ?_)
          have q672 : fI h649 64 77 = fI h495 64 77 := (Fr_fI hL652 (tf hT573 rfl rfl) (by decide +kernel)).trans (FUp_fIne hU575 (fun z => absurd z.2 (by decide)))
          refine st_icmp_ge c252_159 (by omega) (by omega) (fun k673 => ?_) (fun k674 => ?_)
          refine st_aload c252_235 rfl ?_
          refine st_aload c252_236 rfl ?_
          refine st_getI c252_237 hT650 (tf hT650 rfl rfl) fd_8_87 (fun e675 e676 => ?_)
          refine st_aload c252_240 rfl ?_
          refine st_getI c252_241 hT650 (tf hT650 rfl rfl) fd_8_86 (fun e677 e678 => ?_)
          have q679 : fI h649 64 86 = fI h495 64 86 := (Fr_fI hL652 (tf hT573 rfl rfl) (by decide +kernel)).trans (FUp_fIne hU575 (fun z => absurd z.2 (by decide)))
          refine st_isub c252_244 ?_
          refine st_iconst c252_245 ?_
          refine st_icmp_le c252_247 (by omega) (by omega) (fun k680 => ?_) (fun k681 => ?_)
          refine st_iconst c252_254 ?_
          refine st_putI c252_255 hT650 (tf hT650 rfl rfl) fd_8_88 (by omega) (by omega) (Ext_rf _) hS hF651 (by decide +kernel) (fun h682 hT683 hF684 hU685 => ?_)
          refine st_return c252_258 ?_
          have e686 := fI_bd (q := 64) hT683 (tf hT683 rfl rfl) fd_8_86
          have q687 : fI h682 64 86 = fI h649 64 86 := FUp_fIne hU685 (fun z => absurd z.2 (by decide))
          have e688 := fI_bd (q := 64) hT683 (tf hT683 rfl rfl) fd_8_87
          have q689 : fI h682 64 87 = fI h649 64 87 := FUp_fIne hU685 (fun z => absurd z.2 (by decide))
          have e690 := fI_bd (q := 64) hT683 (tf hT683 rfl rfl) fd_8_88
          have q691 : fI h682 64 88 = 2 := FUp_fI hU685 (by omega) (by omega)
          exact hQ _ _ ⟨rfl, by omega, by omega, by omega, by omega, hT683, hF684⟩
          refine st_iconst c252_250 ?_
          refine st_goto c252_251 ?_
          refine st_putI c252_255 hT650 (tf hT650 rfl rfl) fd_8_88 (by omega) (by omega) (Ext_rf _) hS hF651 (by decide +kernel) (fun h692 hT693 hF694 hU695 => ?_)
          refine st_return c252_258 ?_
          have e696 := fI_bd (q := 64) hT693 (tf hT693 rfl rfl) fd_8_86
          have q697 : fI h692 64 86 = fI h649 64 86 := FUp_fIne hU695 (fun z => absurd z.2 (by decide))
          have e698 := fI_bd (q := 64) hT693 (tf hT693 rfl rfl) fd_8_87
          have q699 : fI h692 64 87 = fI h649 64 87 := FUp_fIne hU695 (fun z => absurd z.2 (by decide))
          have e700 := fI_bd (q := 64) hT693 (tf hT693 rfl rfl) fd_8_88
          have q701 : fI h692 64 88 = (-1) := FUp_fI hU695 (by omega) (by omega)
          exact hQ _ _ ⟨rfl, by omega, by omega, by omega, by omega, hT693, hF694⟩
          refine st_aload c252_162 rfl ?_
          refine st_getX (u := 124) c252_163 hT650 (tf hT650 rfl rfl) fd_8_76 rfl ?_
          refine st_aload c252_166 rfl ?_
          refine st_getI c252_167 hT650 (tf hT650 rfl rfl) fd_8_87 (fun e702 e703 => ?_)
          refine st_bald c252_170 hT650 (tf hT650 rfl rfl) ay_102 (Or.inr rfl) (by omega) (fun e704 e705 => ?_)
          have q706 : aI h649 124 (fI h649 64 87) = aI h 124 (fI h649 64 87) := (Fr_aI hL652 (tf hT573 rfl rfl) (by decide +kernel) (fI h649 64 87)).trans ((FUp_aI hU575 (fI h649 64 87)).trans ((FUp_aI hU498 (fI h649 64 87)).trans ((Fr_aI hL36 (tf hT6 rfl rfl) (by decide +kernel) (fI h649 64 87)).trans (FUp_aI hU8 (fI h649 64 87)))))
          refine st_calls (as := [vI (aI h649 124 (fI h649 64 87))]) c252_171 cm_251 rfl rfl rfl rfl (by omega) (K251 hT650 (aI h649 124 (fI h649 64 87)) (by omega) (d - 1) (by omega) _ (fun v h0 H => H)) (fun v1 h1 H => ?_)
          rcases H with ⟨rfl, pf707, rfl⟩ | ⟨rfl, pf708, pf709, rfl⟩
          refine st_if_eq c252_174 (by omega) (fun k710 => ?_) (fun k711 => False.elim (by omega))
          refine st_aload c252_235 rfl ?_
          refine st_aload c252_236 rfl ?_
          refine st_getI c252_237 hT650 (tf hT650 rfl rfl) fd_8_87 (fun e712 e713 => ?_)
          refine st_aload c252_240 rfl ?_
          refine st_getI c252_241 hT650 (tf hT650 rfl rfl) fd_8_86 (fun e714 e715 => ?_)
          have q716 : fI h649 64 86 = fI h495 64 86 := (Fr_fI hL652 (tf hT573 rfl rfl) (by decide +kernel)).trans (FUp_fIne hU575 (fun z => absurd z.2 (by decide)))
          refine st_isub c252_244 ?_
          refine st_iconst c252_245 ?_
          refine st_icmp_le c252_247 (by omega) (by omega) (fun k717 => ?_) (fun k718 => ?_)
          refine st_iconst c252_254 ?_
          refine st_putI c252_255 hT650 (tf hT650 rfl rfl) fd_8_88 (by omega) (by omega) (Ext_rf _) hS hF651 (by decide +kernel) (fun h719 hT720 hF721 hU722 => ?_)
          refine st_return c252_258 ?_
          have e723 := fI_bd (q := 64) hT720 (tf hT720 rfl rfl) fd_8_86
          have q724 : fI h719 64 86 = fI h649 64 86 := FUp_fIne hU722 (fun z => absurd z.2 (by decide))
          have e725 := fI_bd (q := 64) hT720 (tf hT720 rfl rfl) fd_8_87
          have q726 : fI h719 64 87 = fI h649 64 87 := FUp_fIne hU722 (fun z => absurd z.2 (by decide))
          have e727 := fI_bd (q := 64) hT720 (tf hT720 rfl rfl) fd_8_88
          have q728 : fI h719 64 88 = 2 := FUp_fI hU722 (by omega) (by omega)
          exact hQ _ _ ⟨rfl, by omega, by omega, by omega, by omega, hT720, hF721⟩
          refine st_iconst c252_250 ?_
          refine st_goto c252_251 ?_
          refine st_putI c252_255 hT650 (tf hT650 rfl rfl) fd_8_88 (by omega) (by omega) (Ext_rf _) hS hF651 (by decide +kernel) (fun h729 hT730 hF731 hU732 => ?_)
          refine st_return c252_258 ?_
          have e733 := fI_bd (q := 64) hT730 (tf hT730 rfl rfl) fd_8_86
          have q734 : fI h729 64 86 = fI h649 64 86 := FUp_fIne hU732 (fun z => absurd z.2 (by decide))
          have e735 := fI_bd (q := 64) hT730 (tf hT730 rfl rfl) fd_8_87
          have q736 : fI h729 64 87 = fI h649 64 87 := FUp_fIne hU732 (fun z => absurd z.2 (by decide))
          have e737 := fI_bd (q := 64) hT730 (tf hT730 rfl rfl) fd_8_88
          have q738 : fI h729 64 88 = (-1) := FUp_fI hU732 (by omega) (by omega)
          exact hQ _ _ ⟨rfl, by omega, by omega, by omega, by omega, hT730, hF731⟩
          refine st_if_eq c252_174 (by omega) (fun k739 => False.elim (by omega)) (fun k740 => ?_)
          refine st_aload c252_177 rfl ?_
          refine st_aload c252_178 rfl ?_
          refine st_getI c252_179 hT650 (tf hT650 rfl rfl) fd_8_87 (fun e741 e742 => ?_)
          refine st_aload c252_182 rfl ?_
          refine st_getI c252_183 hT650 (tf hT650 rfl rfl) fd_8_86 (fun e743 e744 => ?_)
          have q745 : fI h649 64 86 = fI h495 64 86 := (Fr_fI hL652 (tf hT573 rfl rfl) (by decide +kernel)).trans (FUp_fIne hU575 (fun z => absurd z.2 (by decide)))
          refine st_isub c252_186 ?_
          refine st_iconst c252_187 ?_
          refine st_icmp_ge c252_189 (by omega) (by omega) (fun k746 => ?_) (fun k747 => ?_)
          refine st_aload c252_215 rfl ?_
          refine st_getI c252_216 hT650 (tf hT650 rfl rfl) fd_8_89 (fun e748 e749 => ?_)
          refine st_putI c252_219 hT650 (tf hT650 rfl rfl) fd_8_89 (by omega) (by omega) (Ext_rf _) hS hF651 (by decide +kernel) (fun h750 hT751 hF752 hU753 => ?_)
          refine st_aload c252_222 rfl ?_
          refine st_dup c252_223 rfl ?_
          refine st_getI c252_224 hT751 (tf hT751 rfl rfl) fd_8_87 (fun e754 e755 => ?_)
          have q756 : fI h750 64 87 = fI h649 64 87 := FUp_fIne hU753 (fun z => absurd z.2 (by decide))
          refine st_iconst c252_227 ?_
          refine st_iadd c252_228 ?_
          refine st_putI c252_229 hT751 (tf hT751 rfl rfl) fd_8_87 (by omega) (by omega) (Ext_rf _) hS hF752 (by decide +kernel) (fun h757 hT758 hF759 hU760 => ?_)
          refine st_goto c252_232 ?_
          have e761 := fI_bd (q := 64) hT758 (tf hT758 rfl rfl) fd_8_87
          have q762 : fI h757 64 87 = (fI h750 64 87) + 1 := FUp_fI hU760 (by omega) (by omega)
          have e763 := fI_bd (q := 64) hT758 (tf hT758 rfl rfl) fd_8_77
          have q764 : fI h757 64 77 = fI h649 64 77 := (FUp_fIne hU760 (fun z => absurd z.2 (by decide))).trans (FUp_fIne hU753 (fun z => absurd z.2 (by decide)))
          have e765 := fI_bd (q := 64) hT758 (tf hT758 rfl rfl) fd_8_86
          have q766 : fI h757 64 86 = fI h649 64 86 := (FUp_fIne hU760 (fun z => absurd z.2 (by decide))).trans (FUp_fIne hU753 (fun z => absurd z.2 (by decide)))
          exact ih655 h757 (by omega) (by omega) (by omega) (by omega) (Or.inl (by omega)) (by omega) (by omega) hT758 hF759 (FUp_Fr (FUp_Fr hL652 hU753 (fun u hu => by rw [ty_1 hu (tf hT758 rfl rfl)]; decide)) hU760 (fun u hu => by rw [ty_1 hu (tf hT758 rfl rfl)]; decide))
          refine st_iconst c252_192 ?_
          refine st_aload c252_194 rfl ?_
          refine st_getI c252_195 hT650 (tf hT650 rfl rfl) fd_8_89 (fun e767 e768 => ?_)
          refine st_imul c252_198 ?_
          refine MR_wrap (fun w769 e770 e771 e772 => ?_)
          refine st_aload c252_199 rfl ?_
          refine st_getX (u := 124) c252_200 hT650 (tf hT650 rfl rfl) fd_8_76 rfl ?_
          refine st_aload c252_203 rfl ?_
          refine st_getI c252_204 hT650 (tf hT650 rfl rfl) fd_8_87 (fun e773 e774 => ?_)
          refine st_bald c252_207 hT650 (tf hT650 rfl rfl) ay_102 (Or.inr rfl) (by omega) (fun e775 e776 => ?_)
          have q777 : aI h649 124 (fI h649 64 87) = aI h 124 (fI h649 64 87) := (Fr_aI hL652 (tf hT573 rfl rfl) (by decide +kernel) (fI h649 64 87)).trans ((FUp_aI hU575 (fI h649 64 87)).trans ((FUp_aI hU498 (fI h649 64 87)).trans ((Fr_aI hL36 (tf hT6 rfl rfl) (by decide +kernel) (fI h649 64 87)).trans (FUp_aI hU8 (fI h649 64 87)))))
          refine st_iadd c252_208 ?_
          refine MR_wrap (fun w778 e779 e780 e781 => ?_)
          refine st_iconst c252_209 ?_
          refine st_isub c252_211 ?_
          refine MR_wrap (fun w782 e783 e784 e785 => ?_)
          refine st_goto c252_212 ?_
          refine st_putI c252_219 hT650 (tf hT650 rfl rfl) fd_8_89 (by omega) (by omega) (Ext_rf _) hS hF651 (by decide +kernel) (fun h786 hT787 hF788 hU789 => ?_)
          refine st_aload c252_222 rfl ?_
          refine st_dup c252_223 rfl ?_
          refine st_getI c252_224 hT787 (tf hT787 rfl rfl) fd_8_87 (fun e790 e791 => ?_)
          have q792 : fI h786 64 87 = fI h649 64 87 := FUp_fIne hU789 (fun z => absurd z.2 (by decide))
          refine st_iconst c252_227 ?_
          refine st_iadd c252_228 ?_
          refine st_putI c252_229 hT787 (tf hT787 rfl rfl) fd_8_87 (by omega) (by omega) (Ext_rf _) hS hF788 (by decide +kernel) (fun h793 hT794 hF795 hU796 => ?_)
          refine st_goto c252_232 ?_
          have e797 := fI_bd (q := 64) hT794 (tf hT794 rfl rfl) fd_8_87
          have q798 : fI h793 64 87 = (fI h786 64 87) + 1 := FUp_fI hU796 (by omega) (by omega)
          have e799 := fI_bd (q := 64) hT794 (tf hT794 rfl rfl) fd_8_77
          have q800 : fI h793 64 77 = fI h649 64 77 := (FUp_fIne hU796 (fun z => absurd z.2 (by decide))).trans (FUp_fIne hU789 (fun z => absurd z.2 (by decide)))
          have e801 := fI_bd (q := 64) hT794 (tf hT794 rfl rfl) fd_8_86
          have q802 : fI h793 64 86 = fI h649 64 86 := (FUp_fIne hU796 (fun z => absurd z.2 (by decide))).trans (FUp_fIne hU789 (fun z => absurd z.2 (by decide)))
          exact ih655 h793 (by omega) (by omega) (by omega) (by omega) (Or.inl (by omega)) (by omega) (by omega) hT794 hF795 (FUp_Fr (FUp_Fr hL652 hU789 (fun u hu => by rw [ty_1 hu (tf hT794 rfl rfl)]; decide)) hU796 (fun u hu => by rw [ty_1 hu (tf hT794 rfl rfl)]; decide))
      have e803 := fI_bd (q := 64) hT573 (tf hT573 rfl rfl) fd_8_87
      have q804 : fI h572 64 87 = fI h33 64 86 := (FUp_fIne hU575 (fun z => absurd z.2 (by decide))).trans (FUp_fI hU498 (by omega) (by omega))
      have e805 := fI_bd (q := 64) hT573 (tf hT573 rfl rfl) fd_8_77
      have q806 : fI h572 64 77 = fI h495 64 77 := FUp_fIne hU575 (fun z => absurd z.2 (by decide))
      have e807 := fI_bd (q := 64) hT573 (tf hT573 rfl rfl) fd_8_86
      have q808 : fI h572 64 86 = fI h495 64 86 := FUp_fIne hU575 (fun z => absurd z.2 (by decide))
      have q809 : aI h572 124 (fI h495 64 86) = aI h495 124 (fI h495 64 86) := FUp_aI hU575 (fI h495 64 86)
      exact lp653 (((fI h572 64 77 - fI h572 64 87 : Int) + 1).toNat) h572 (by omega) (by omega) (by omega) (by omega) (Or.inr (by rw [show fI h572 64 87 = fI h495 64 86 from by omega]; omega)) (by omega) (by omega) hT573 hF574 (Fr_rf _ _ _)
      refine st_if_eq c252_83 (by omega) (fun k810 => False.elim (by omega)) (fun k811 => ?_)
      have lp845 : ∀ (n846 : Nat) (h841 : List mE), fI h841 64 77 - fI h841 64 87 < (n846 : Int) → fI h841 64 87 ≤ fI h841 64 77 → fI h841 64 86 ≤ fI h841 64 87 → fI h841 64 86+1 ≤ fI h841 64 77 → fI h841 64 86 + 1 ≤ fI h841 64 87 ∨ (97 ≤ aI h841 124 (fI h841 64 87) ∧ aI h841 124 (fI h841 64 87) ≤ 122) → fI h 64 87 ≤ fI h841 64 86 → fI h841 64 77 = fI h 64 77 → TH E τ h841 → Fr τ W252 h h841 → Fr τ [(8, 87)] h495 h841 → MR (mex Ln xs) d 252 86 [some (.ref 64)] [] h841 Q := by
        intro n846
        induction n846 with
        | zero =>
          intro h841 hm848 x849 x850 x851 x852 x853 x854 hT842 hF843 hL844
          exfalso; omega
        | succ n846 ih847 =>
          intro h841 hm848 x849 x850 x851 x852 x853 x854 hT842 hF843 hL844
          have e855 := fI_bd (q := 64) hT842 (tf hT842 rfl rfl) fd_8_87
          have e856 := fI_bd (q := 64) hT842 (tf hT842 rfl rfl) fd_8_77
          have q857 : fI h841 64 77 = fI h495 64 77 := Fr_fI hL844 (tf hT496 rfl rfl) (by decide +kernel)
          have e858 := fI_bd (q := 64) hT842 (tf hT842 rfl rfl) fd_8_86
          have q859 : fI h841 64 86 = fI h495 64 86 := Fr_fI hL844 (tf hT496 rfl rfl) (by decide +kernel)
          refine st_aload c252_86 rfl ?_
          refine st_getI c252_87 hT842 (tf hT842 rfl rfl) fd_8_87 (fun e860 e861 => ?_)
          refine st_aload c252_90 rfl ?_
          refine st_getI c252_91 hT842 (tf hT842 rfl rfl) fd_8_77 (fun e862 e863 => ?_)
          have q864 : fI h841 64 77 = fI h495 64 77 := Fr_fI hL844 (tf hT496 rfl rfl) (by decide +kernel)
          refine st_icmp_ge c252_94 (by omega) (by omega) (fun k865 => ?_) (fun k866 => ?_)
          refine st_aload c252_125 rfl ?_
          refine st_iconst c252_126 ?_
          refine st_putI c252_127 hT842 (tf hT842 rfl rfl) fd_8_88 (by omega) (by omega) (Ext_rf _) hS hF843 (by decide +kernel) (fun h867 hT868 hF869 hU870 => ?_)
          refine st_return c252_130 ?_
          have e871 := fI_bd (q := 64) hT868 (tf hT868 rfl rfl) fd_8_86
          have q872 : fI h867 64 86 = fI h841 64 86 := FUp_fIne hU870 (fun z => absurd z.2 (by decide))
          have e873 := fI_bd (q := 64) hT868 (tf hT868 rfl rfl) fd_8_87
          have q874 : fI h867 64 87 = fI h841 64 87 := FUp_fIne hU870 (fun z => absurd z.2 (by decide))
          have e875 := fI_bd (q := 64) hT868 (tf hT868 rfl rfl) fd_8_88
          have q876 : fI h867 64 88 = 1 := FUp_fI hU870 (by omega) (by omega)
          exact hQ _ _ ⟨rfl, by omega, by omega, by omega, by omega, hT868, hF869⟩
          refine st_aload c252_97 rfl ?_
          refine st_getX (u := 124) c252_98 hT842 (tf hT842 rfl rfl) fd_8_76 rfl ?_
          refine st_aload c252_101 rfl ?_
          refine st_getI c252_102 hT842 (tf hT842 rfl rfl) fd_8_87 (fun e877 e878 => ?_)
          refine st_bald c252_105 hT842 (tf hT842 rfl rfl) ay_102 (Or.inr rfl) (by omega) (fun e879 e880 => ?_)
          have q881 : aI h841 124 (fI h841 64 87) = aI h 124 (fI h841 64 87) := (Fr_aI hL844 (tf hT496 rfl rfl) (by decide +kernel) (fI h841 64 87)).trans ((FUp_aI hU498 (fI h841 64 87)).trans ((Fr_aI hL36 (tf hT6 rfl rfl) (by decide +kernel) (fI h841 64 87)).trans (FUp_aI hU8 (fI h841 64 87))))
          refine st_calls (as := [vI (aI h841 124 (fI h841 64 87))]) c252_106 cm_250 rfl rfl rfl rfl (by omega) (K250 hT842 (aI h841 124 (fI h841 64 87)) (by omega) (d - 1) (by omega) _ (fun v h0 H => H)) (fun v1 h1 H => ?_)
          rcases H with ⟨rfl, pf882, rfl⟩ | ⟨rfl, pf883, pf884, rfl⟩
          refine st_if_eq c252_109 (by omega) (fun k885 => ?_) (fun k886 => False.elim (by omega))
          refine st_aload c252_125 rfl ?_
          refine st_iconst c252_126 ?_
          refine st_putI c252_127 hT842 (tf hT842 rfl rfl) fd_8_88 (by omega) (by omega) (Ext_rf _) hS hF843 (by decide +kernel) (fun h887 hT888 hF889 hU890 => ?_)
          refine st_return c252_130 ?_
          have e891 := fI_bd (q := 64) hT888 (tf hT888 rfl rfl) fd_8_86
          have q892 : fI h887 64 86 = fI h841 64 86 := FUp_fIne hU890 (fun z => absurd z.2 (by decide))
          have e893 := fI_bd (q := 64) hT888 (tf hT888 rfl rfl) fd_8_87
          have q894 : fI h887 64 87 = fI h841 64 87 := FUp_fIne hU890 (fun z => absurd z.2 (by decide))
          have e895 := fI_bd (q := 64) hT888 (tf hT888 rfl rfl) fd_8_88
          have q896 : fI h887 64 88 = 1 := FUp_fI hU890 (by omega) (by omega)
          exact hQ _ _ ⟨rfl, by omega, by omega, by omega, by omega, hT888, hF889⟩
          refine st_if_eq c252_109 (by omega) (fun k897 => False.elim (by omega)) (fun k898 => ?_)
          refine st_aload c252_112 rfl ?_
          refine st_dup c252_113 rfl ?_
          refine st_getI c252_114 hT842 (tf hT842 rfl rfl) fd_8_87 (fun e899 e900 => ?_)
          refine st_iconst c252_117 ?_
          refine st_iadd c252_118 ?_
          refine st_putI c252_119 hT842 (tf hT842 rfl rfl) fd_8_87 (by omega) (by omega) (Ext_rf _) hS hF843 (by decide +kernel) (fun h901 hT902 hF903 hU904 => ?_)
          refine st_goto c252_122 ?_
          have e905 := fI_bd (q := 64) hT902 (tf hT902 rfl rfl) fd_8_87
          have q906 : fI h901 64 87 = (fI h841 64 87) + 1 := FUp_fI hU904 (by omega) (by omega)
          have e907 := fI_bd (q := 64) hT902 (tf hT902 rfl rfl) fd_8_77
          have q908 : fI h901 64 77 = fI h841 64 77 := FUp_fIne hU904 (fun z => absurd z.2 (by decide))
          have e909 := fI_bd (q := 64) hT902 (tf hT902 rfl rfl) fd_8_86
          have q910 : fI h901 64 86 = fI h841 64 86 := FUp_fIne hU904 (fun z => absurd z.2 (by decide))
          exact ih847 h901 (by omega) (by omega) (by omega) (by omega) (Or.inl (by omega)) (by omega) (by omega) hT902 hF903 (FUp_Fr hL844 hU904 (fun u hu => by rw [ty_1 hu (tf hT902 rfl rfl)]; decide))
      have e911 := fI_bd (q := 64) hT496 (tf hT496 rfl rfl) fd_8_87
      have q912 : fI h495 64 87 = fI h33 64 86 := FUp_fI hU498 (by omega) (by omega)
      exact lp845 (((fI h495 64 77 - fI h495 64 87 : Int) + 1).toNat) h495 (by omega) (by omega) (by omega) (by omega) (Or.inr (by rw [show fI h495 64 87 = fI h495 64 86 from by omega]; omega)) (by omega) (by omega) hT496 hF497 (Fr_rf _ _ _)
      refine st_aload c252_65 rfl ?_
      refine st_iconst c252_66 ?_
      refine st_putI c252_67 hT496 (tf hT496 rfl rfl) fd_8_88 (by omega) (by omega) (Ext_rf _) hS hF497 (by decide +kernel) (fun h913 hT914 hF915 hU916 => ?_)
      refine st_return c252_70 ?_
      have e917 := fI_bd (q := 64) hT914 (tf hT914 rfl rfl) fd_8_86
      have q918 : fI h913 64 86 = fI h495 64 86 := FUp_fIne hU916 (fun z => absurd z.2 (by decide))
      have e919 := fI_bd (q := 64) hT914 (tf hT914 rfl rfl) fd_8_87
      have q920 : fI h913 64 87 = fI h33 64 86 := (FUp_fIne hU916 (fun z => absurd z.2 (by decide))).trans (FUp_fI hU498 (by omega) (by omega))
      have e921 := fI_bd (q := 64) hT914 (tf hT914 rfl rfl) fd_8_88
      have q922 : fI h913 64 88 = 0 := FUp_fI hU916 (by omega) (by omega)
      exact hQ _ _ ⟨rfl, by omega, by omega, by omega, by omega, hT914, hF915⟩
      refine st_aload c252_33 rfl ?_
      refine st_dup c252_34 rfl ?_
      refine st_getI c252_35 hT34 (tf hT34 rfl rfl) fd_8_86 (fun e923 e924 => ?_)
      refine st_iconst c252_38 ?_
      refine st_iadd c252_39 ?_
      refine st_putI c252_40 hT34 (tf hT34 rfl rfl) fd_8_86 (by omega) (by omega) (Ext_rf _) hS hF35 (by decide +kernel) (fun h925 hT926 hF927 hU928 => ?_)
      refine st_goto c252_43 ?_
      have e929 := fI_bd (q := 64) hT926 (tf hT926 rfl rfl) fd_8_86
      have q930 : fI h925 64 86 = (fI h33 64 86) + 1 := FUp_fI hU928 (by omega) (by omega)
      have e931 := fI_bd (q := 64) hT926 (tf hT926 rfl rfl) fd_8_77
      have q932 : fI h925 64 77 = fI h33 64 77 := FUp_fIne hU928 (fun z => absurd z.2 (by decide))
      have e933 := fI_bd (q := 64) hT926 (tf hT926 rfl rfl) fd_8_87
      have q934 : fI h925 64 87 = fI h33 64 87 := FUp_fIne hU928 (fun z => absurd z.2 (by decide))
      exact ih39 h925 (by omega) (by omega) (by omega) (by omega) hT926 hF927 (FUp_Fr hL36 hU928 (fun u hu => by rw [ty_1 hu (tf hT926 rfl rfl)]; decide))
  have e935 := fI_bd (q := 64) hT6 (tf hT6 rfl rfl) fd_8_86
  have q936 : fI h5 64 86 = fI h 64 87 := FUp_fI hU8 (by omega) (by omega)
  have e937 := fI_bd (q := 64) hT6 (tf hT6 rfl rfl) fd_8_77
  have q938 : fI h5 64 77 = fI h 64 77 := FUp_fIne hU8 (fun z => absurd z.2 (by decide))
  have e939 := fI_bd (q := 64) hT6 (tf hT6 rfl rfl) fd_8_87
  have q940 : fI h5 64 87 = fI h 64 87 := FUp_fIne hU8 (fun z => absurd z.2 (by decide))
  exact lp37 (((fI h5 64 77 - fI h5 64 86 : Int) + 1).toNat) h5 (by omega) (by omega) (by omega) (by omega) hT6 hF7 (Fr_rf _ _ _)
set_option maxHeartbeats 0 in
theorem K253 {Ln : Nat} {xs : Nat → Int32} {τ : List Nat} {h : List mE} {E : EP} (hT : TH E τ h) (p1 : Int64) (d : Nat) (hd : 0 ≤ d) (Q : Option Value → List mE → Prop) (hQ : ∀ v h', ((v = some (vI 0) ∧ h = h') ∨ (v = some (vI 1) ∧ (fI h 64 88=1) ∧ h = h')) → Q v h') : MR (mex Ln xs) d 253 0 [some (.ref 64), some (.long p1), none, none, none, none] [] h Q := by
  refine st_aload c253_0 rfl ?_
  refine st_getI c253_1 hT (tf hT rfl rfl) fd_8_88 (fun e1 e2 => ?_)
  refine st_iconst c253_4 ?_
  refine st_icmp_ne c253_5 (by omega) (by omega) (fun k3 => ?_) (fun k4 => ?_)
  refine st_iconst c253_22 ?_
  refine st_zreturn c253_23 (by omega) ?_
  exact hQ _ _ (Or.inl ⟨rfl, rfl⟩)
  refine st_aload c253_8 rfl ?_
  refine st_getI c253_9 hT (tf hT rfl rfl) fd_8_87 (fun e5 e6 => ?_)
  refine st_aload c253_12 rfl ?_
  refine st_getI c253_13 hT (tf hT rfl rfl) fd_8_86 (fun e7 e8 => ?_)
  refine st_isub c253_16 ?_
  refine st_iconst c253_17 ?_
  refine st_icmp_le c253_19 (by omega) (by omega) (fun k9 => ?_) (fun k10 => ?_)
  refine st_lconst c253_24 ?_
  refine st_lstore (L' := [some (.ref 64), some (.long p1), none, some (.long (Int64.ofInt 0)), none, none]) c253_25 rfl rfl ?_
  refine st_aload c253_26 rfl ?_
  refine st_getI c253_27 hT (tf hT rfl rfl) fd_8_86 (fun e11 e12 => ?_)
  refine st_istore (L' := [some (.ref 64), some (.long p1), none, some (.long (Int64.ofInt 0)), none, some (vI (fI h 64 86))]) c253_30 rfl rfl ?_
  have lp27 : ∀ (n28 : Nat) (w25 : Int64) (z26 : Int), (200 : Int) - z26 < (n28 : Int) → 0 ≤ z26 ∧ z26 ≤ 200 → MR (mex Ln xs) d 253 32 [some (.ref 64), some (.long p1), none, some (.long w25), none, some (vI z26)] [] h Q := by
    intro n28
    induction n28 with
    | zero =>
      intro w25 z26 hm30 b31
      exfalso; omega
    | succ n28 ih29 =>
      intro w25 z26 hm30 b31
      refine st_iload c253_32 rfl ?_
      refine st_aload c253_34 rfl ?_
      refine st_getI c253_35 hT (tf hT rfl rfl) fd_8_87 (fun e32 e33 => ?_)
      refine st_icmp_ge c253_38 (by omega) (by omega) (fun k34 => ?_) (fun k35 => ?_)
      refine st_lload c253_66 rfl ?_
      refine st_lload c253_67 rfl ?_
      refine st_lcmp c253_68 (fun w36 e37 e38 => ?_)
      refine st_if_ne c253_69 (by omega) (fun k39 => ?_) (fun k40 => ?_)
      refine st_iconst c253_76 ?_
      refine st_zreturn c253_77 (by omega) ?_
      exact hQ _ _ (Or.inl ⟨rfl, rfl⟩)
      refine st_iconst c253_72 ?_
      refine st_goto c253_73 ?_
      refine st_zreturn c253_77 (by omega) ?_
      exact hQ _ _ (Or.inr ⟨rfl, by omega, rfl⟩)
      refine st_lconst c253_41 ?_
      refine st_lload c253_44 rfl ?_
      refine st_lmul c253_45 (fun w41 => ?_)
      refine st_aload c253_46 rfl ?_
      refine st_getX (u := 124) c253_47 hT (tf hT rfl rfl) fd_8_76 rfl ?_
      refine st_iload c253_50 rfl ?_
      refine st_bald c253_52 hT (tf hT rfl rfl) ay_102 (Or.inr rfl) (by omega) (fun e42 e43 => ?_)
      refine st_i2l c253_53 (fun w44 => ?_)
      refine st_ladd c253_54 (fun w45 => ?_)
      refine st_lconst c253_55 ?_
      refine st_lsub c253_58 (fun w46 => ?_)
      refine st_lstore (L' := [some (.ref 64), some (.long p1), none, some (.long w46), none, some (vI z26)]) c253_59 rfl rfl ?_
      refine st_iinc (L' := [some (.ref 64), some (.long p1), none, some (.long w46), none, some (vI (z26 + 1))]) c253_60 rfl rfl rfl ?_
      refine st_goto c253_63 ?_
      exact ih29 w46 (z26 + 1) (by omega) (by omega)
  exact lp27 ((((200 : Int) - (fI h 64 86) : Int) + 1).toNat) (Int64.ofInt 0) (fI h 64 86) (by omega) (by omega)
  refine st_iconst c253_22 ?_
  refine st_zreturn c253_23 (by omega) ?_
  exact hQ _ _ (Or.inl ⟨rfl, rfl⟩)
def W254 : List (Nat × Nat) := [(8, 90)]
set_option maxHeartbeats 0 in
theorem K254 {Ln : Nat} {xs : Nat → Int32} {τ : List Nat} {h : List mE} {E : EP} (hT : TH E τ h) (hS : Stb E W254) (d : Nat) (hd : 0 ≤ d) (Q : Option Value → List mE → Prop) (hQ : ∀ v h', (v = none ∧ (0≤fI h' 64 90) ∧ (fI h 64 90 < 0 ∨ fI h' 64 90 = fI h 64 90) ∧ TH E τ h' ∧ Fr τ W254 h h') → Q v h') : MR (mex Ln xs) d 254 0 [some (.ref 64)] [] h Q := by
  have hF := Fr_rf τ W254 h
  refine st_aload c254_0 rfl ?_
  refine st_getI c254_1 hT (tf hT rfl rfl) fd_8_90 (fun e1 e2 => ?_)
  refine st_if_ge c254_4 (by omega) (fun k3 => ?_) (fun k4 => ?_)
  refine st_return c254_15 ?_
  exact hQ _ _ ⟨rfl, by omega, by omega, hT, hF⟩
  refine st_aload c254_7 rfl ?_
  refine st_aload c254_8 rfl ?_
  refine st_getI c254_9 hT (tf hT rfl rfl) fd_8_86 (fun e5 e6 => ?_)
  refine st_putI c254_12 hT (tf hT rfl rfl) fd_8_90 (by omega) (by omega) (Ext_rf _) hS hF (by decide +kernel) (fun h7 hT8 hF9 hU10 => ?_)
  refine st_return c254_15 ?_
  have e11 := fI_bd (q := 64) hT8 (tf hT8 rfl rfl) fd_8_90
  have q12 : fI h7 64 90 = fI h 64 86 := FUp_fI hU10 (by omega) (by omega)
  exact hQ _ _ ⟨rfl, by omega, by omega, hT8, hF9⟩
set_option maxHeartbeats 0 in
theorem K259 {Ln : Nat} {xs : Nat → Int32} {τ : List Nat} {h : List mE} {E : EP} (hT : TH E τ h) (d : Nat) (hd : 1 ≤ d) (Q : Option Value → List mE → Prop) (hQ : ∀ v h', (∃ z : Int, v = some (vI z) ∧ ((-1) ≤ z ∧ z ≤ 13) ∧ (z = -1 ∨ fI h 64 88 = 1) ∧ h = h') → Q v h') : MR (mex Ln xs) d 259 0 [some (.ref 64), none] [] h Q := by
  refine st_iconst c259_0 ?_
  refine st_istore (L' := [some (.ref 64), some (vI 0)]) c259_1 rfl rfl ?_
  have lp42 : ∀ (n43 : Nat) (z41 : Int), (14 : Int) - z41 < (n43 : Int) → 0 ≤ z41 ∧ z41 ≤ 14 → MR (mex Ln xs) d 259 2 [some (.ref 64), some (vI z41)] [] h Q := by
    intro n43
    induction n43 with
    | zero =>
      intro z41 hm45 b46
      exfalso; omega
    | succ n43 ih44 =>
      intro z41 hm45 b46
      refine st_iload c259_2 rfl ?_
      refine st_iconst c259_3 ?_
      refine st_icmp_ge c259_5 (by omega) (by omega) (fun k47 => ?_) (fun k48 => ?_)
      refine st_iconst c259_28 ?_
      refine st_ireturn c259_29 ?_
      exact hQ _ _ ⟨(-1), rfl, by omega, by omega, rfl⟩
      refine st_aload c259_8 rfl ?_
      refine st_getstatic c259_9 rfl ?_
      refine st_iload c259_12 rfl ?_
      refine st_nms c259_13 (by omega) ?_
      have e50 := fI_bd (q := 64) hT (tf hT rfl rfl) fd_8_88
      refine st_callt (as := [.long (mNm.getD z41.toNat 0)]) c259_14 cm_253 hT (tf hT rfl rfl) fd_8_0 rfl rfl rfl rfl (by omega) (K253 hT (mNm.getD z41.toNat 0) (d - 1) (by omega) _ (fun v h0 H => H)) (fun v1 h1 H => ?_)
      rcases H with ⟨rfl, rfl⟩ | ⟨rfl, pf51, rfl⟩
      refine st_if_eq c259_17 (by omega) (fun k52 => ?_) (fun k53 => False.elim (by omega))
      refine st_iinc (L' := [some (.ref 64), some (vI (z41 + 1))]) c259_22 rfl rfl rfl ?_
      refine st_goto c259_25 ?_
      exact ih44 (z41 + 1) (by omega) (by omega)
      refine st_if_eq c259_17 (by omega) (fun k54 => False.elim (by omega)) (fun k55 => ?_)
      refine st_iload c259_20 rfl ?_
      refine st_ireturn c259_21 ?_
      exact hQ _ _ ⟨z41, rfl, by omega, by omega, rfl⟩
  exact lp42 ((((14 : Int) - 0 : Int) + 1).toNat) 0 (by omega) (by omega)
def W256 : List (Nat × Nat) := [(8, 86), (8, 87), (8, 88), (8, 89), (8, 90)]
set_option maxHeartbeats 0 in
theorem K256 {Ln : Nat} {xs : Nat → Int32} {τ : List Nat} {h : List mE} {E : EP} (hT : TH E τ h) (hS : Stb E W256) (p1 : Int) (hp1 : (-2147483648) ≤ p1 ∧ p1 ≤ 2147483647) (pre0 : fI h 64 87≤fI h 64 77) (d : Nat) (hd : 3 ≤ d) (Q : Option Value → List mE → Prop) (hQ : ∀ v h', ((v = some (vI 0) ∧ (0≤fI h' 64 90) ∧ (fI h' 64 86=fI h 64 86) ∧ (fI h' 64 87=fI h 64 87) ∧ (fI h' 64 88=fI h 64 88) ∧ TH E τ h' ∧ Fr τ W256 h h') ∨ (v = some (vI 1) ∧ (fI h 64 88=p1) ∧ (fI h' 64 90=fI h 64 90) ∧ (fI h 64 87≤fI h' 64 86) ∧ (fI h' 64 86≤fI h' 64 87) ∧ (fI h' 64 87≤fI h 64 77) ∧ (fI h' 64 88 = 0 ∨ fI h' 64 86 + 1 ≤ fI h' 64 87) ∧ TH E τ h' ∧ Fr τ W256 h h')) → Q v h') : MR (mex Ln xs) d 256 0 [some (.ref 64), some (vI p1)] [] h Q := by
  have hF := Fr_rf τ W256 h
  have e1 := fI_bd (q := 64) hT (tf hT rfl rfl) fd_8_87
  have e2 := fI_bd (q := 64) hT (tf hT rfl rfl) fd_8_77
  refine st_aload c256_0 rfl ?_
  refine st_getI c256_1 hT (tf hT rfl rfl) fd_8_88 (fun e3 e4 => ?_)
  refine st_iload c256_4 rfl ?_
  refine st_icmp_eq c256_5 (by omega) (by omega) (fun k5 => ?_) (fun k6 => ?_)
  refine st_aload c256_14 rfl ?_
  have e7 := fI_bd (q := 64) hT (tf hT rfl rfl) fd_8_87
  have e8 := fI_bd (q := 64) hT (tf hT rfl rfl) fd_8_77
  refine st_callt (as := []) c256_15 cm_252 hT (tf hT rfl rfl) fd_8_0 rfl rfl rfl rfl (by omega) (K252 hT (Stb_mono hS (by decide +kernel)) (by omega) (d - 1) (by omega) _ (fun v h0 H => H)) (fun v1 h9 H => ?_)
  obtain ⟨rfl, pf12, pf13, pf14, pf15, hT10, hF11⟩ := H
  have hF16 := Fr_cp hF hF11 (by decide +kernel : Wsub W252 W256 = true)
  have e17 := fI_bd (q := 64) hT10 (tf hT10 rfl rfl) fd_8_86
  have e18 := fI_bd (q := 64) hT10 (tf hT10 rfl rfl) fd_8_87
  have e19 := fI_bd (q := 64) hT10 (tf hT10 rfl rfl) fd_8_88
  refine st_iconst c256_18 ?_
  refine st_zreturn c256_19 (by omega) ?_
  have e20 := fI_bd (q := 64) hT10 (tf hT10 rfl rfl) fd_8_90
  have q21 : fI h9 64 90 = fI h 64 90 := Fr_fI hF11 (tf hT rfl rfl) (by decide +kernel)
  exact hQ _ _ (Or.inr ⟨rfl, by omega, by omega, by omega, by omega, by omega, by omega, hT10, hF16⟩)
  refine st_aload c256_8 rfl ?_
  have e22 := fI_bd (q := 64) hT (tf hT rfl rfl) fd_8_90
  refine st_callt (as := []) c256_9 cm_254 hT (tf hT rfl rfl) fd_8_0 rfl rfl rfl rfl (by omega) (K254 hT (Stb_mono hS (by decide +kernel)) (d - 1) (by omega) _ (fun v h0 H => H)) (fun v1 h23 H => ?_)
  obtain ⟨rfl, pf26, pf27, hT24, hF25⟩ := H
  have hF28 := Fr_cp hF hF25 (by decide +kernel : Wsub W254 W256 = true)
  have e29 := fI_bd (q := 64) hT24 (tf hT24 rfl rfl) fd_8_90
  refine st_iconst c256_12 ?_
  refine st_zreturn c256_13 (by omega) ?_
  have e30 := fI_bd (q := 64) hT24 (tf hT24 rfl rfl) fd_8_86
  have q31 : fI h23 64 86 = fI h 64 86 := Fr_fI hF25 (tf hT rfl rfl) (by decide +kernel)
  have e32 := fI_bd (q := 64) hT24 (tf hT24 rfl rfl) fd_8_87
  have q33 : fI h23 64 87 = fI h 64 87 := Fr_fI hF25 (tf hT rfl rfl) (by decide +kernel)
  have e34 := fI_bd (q := 64) hT24 (tf hT24 rfl rfl) fd_8_88
  have q35 : fI h23 64 88 = fI h 64 88 := Fr_fI hF25 (tf hT rfl rfl) (by decide +kernel)
  exact hQ _ _ (Or.inl ⟨rfl, by omega, by omega, by omega, by omega, hT24, hF28⟩)
def W257 : List (Nat × Nat) := [(8, 86), (8, 87), (8, 88), (8, 89), (8, 90), (8, 91)]
set_option maxHeartbeats 0 in
theorem K257 {Ln : Nat} {xs : Nat → Int32} {τ : List Nat} {h : List mE} {E : EP} (hT : TH E τ h) (hS : Stb E W257) (pre0 : fI h 64 87≤fI h 64 77) (d : Nat) (hd : 3 ≤ d) (Q : Option Value → List mE → Prop) (hQ : ∀ v h', ((v = some (vI 0) ∧ (0≤fI h' 64 90) ∧ (fI h' 64 91=fI h 64 91) ∧ (fI h' 64 86=fI h 64 86) ∧ (fI h' 64 87=fI h 64 87) ∧ (fI h' 64 88=fI h 64 88) ∧ TH E τ h' ∧ Fr τ W257 h h') ∨ (v = some (vI 1) ∧ (fI h 64 88=40) ∧ (fI h' 64 90=fI h 64 90) ∧ (fI h 64 91≤7) ∧ (fI h' 64 91=fI h 64 91+1) ∧ (fI h 64 87≤fI h' 64 86) ∧ (fI h' 64 86≤fI h' 64 87) ∧ (fI h' 64 87≤fI h 64 77) ∧ (fI h' 64 88 = 0 ∨ fI h' 64 86 + 1 ≤ fI h' 64 87) ∧ TH E τ h' ∧ Fr τ W257 h h')) → Q v h') : MR (mex Ln xs) d 257 0 [some (.ref 64)] [] h Q := by
  have hF := Fr_rf τ W257 h
  have e1 := fI_bd (q := 64) hT (tf hT rfl rfl) fd_8_87
  have e2 := fI_bd (q := 64) hT (tf hT rfl rfl) fd_8_77
  refine st_aload c257_0 rfl ?_
  refine st_getI c257_1 hT (tf hT rfl rfl) fd_8_88 (fun e3 e4 => ?_)
  refine st_iconst c257_4 ?_
  refine st_icmp_ne c257_6 (by omega) (by omega) (fun k5 => ?_) (fun k6 => ?_)
  refine st_aload c257_18 rfl ?_
  have e7 := fI_bd (q := 64) hT (tf hT rfl rfl) fd_8_90
  refine st_callt (as := []) c257_19 cm_254 hT (tf hT rfl rfl) fd_8_0 rfl rfl rfl rfl (by omega) (K254 hT (Stb_mono hS (by decide +kernel)) (d - 1) (by omega) _ (fun v h0 H => H)) (fun v1 h8 H => ?_)
  obtain ⟨rfl, pf11, pf12, hT9, hF10⟩ := H
  have hF13 := Fr_cp hF hF10 (by decide +kernel : Wsub W254 W257 = true)
  have e14 := fI_bd (q := 64) hT9 (tf hT9 rfl rfl) fd_8_90
  refine st_iconst c257_22 ?_
  refine st_zreturn c257_23 (by omega) ?_
  have e15 := fI_bd (q := 64) hT9 (tf hT9 rfl rfl) fd_8_91
  have q16 : fI h8 64 91 = fI h 64 91 := Fr_fI hF10 (tf hT rfl rfl) (by decide +kernel)
  have e17 := fI_bd (q := 64) hT9 (tf hT9 rfl rfl) fd_8_86
  have q18 : fI h8 64 86 = fI h 64 86 := Fr_fI hF10 (tf hT rfl rfl) (by decide +kernel)
  have e19 := fI_bd (q := 64) hT9 (tf hT9 rfl rfl) fd_8_87
  have q20 : fI h8 64 87 = fI h 64 87 := Fr_fI hF10 (tf hT rfl rfl) (by decide +kernel)
  have e21 := fI_bd (q := 64) hT9 (tf hT9 rfl rfl) fd_8_88
  have q22 : fI h8 64 88 = fI h 64 88 := Fr_fI hF10 (tf hT rfl rfl) (by decide +kernel)
  exact hQ _ _ (Or.inl ⟨rfl, by omega, by omega, by omega, by omega, by omega, hT9, hF13⟩)
  refine st_aload c257_9 rfl ?_
  refine st_getI c257_10 hT (tf hT rfl rfl) fd_8_91 (fun e23 e24 => ?_)
  refine st_iconst c257_13 ?_
  refine st_icmp_ne c257_15 (by omega) (by omega) (fun k25 => ?_) (fun k26 => ?_)
  refine st_aload c257_24 rfl ?_
  refine st_dup c257_25 rfl ?_
  refine st_getI c257_26 hT (tf hT rfl rfl) fd_8_91 (fun e27 e28 => ?_)
  refine st_iconst c257_29 ?_
  refine st_iadd c257_30 ?_
  refine st_putI c257_31 hT (tf hT rfl rfl) fd_8_91 (by omega) (by omega) (Ext_rf _) hS hF (by decide +kernel) (fun h29 hT30 hF31 hU32 => ?_)
  refine st_aload c257_34 rfl ?_
  have e33 := fI_bd (q := 64) hT30 (tf hT30 rfl rfl) fd_8_87
  have q34 : fI h29 64 87 = fI h 64 87 := FUp_fIne hU32 (fun z => absurd z.2 (by decide))
  have e35 := fI_bd (q := 64) hT30 (tf hT30 rfl rfl) fd_8_77
  have q36 : fI h29 64 77 = fI h 64 77 := FUp_fIne hU32 (fun z => absurd z.2 (by decide))
  refine st_callt (as := []) c257_35 cm_252 hT30 (tf hT30 rfl rfl) fd_8_0 rfl rfl rfl rfl (by omega) (K252 hT30 (Stb_mono hS (by decide +kernel)) (by omega) (d - 1) (by omega) _ (fun v h0 H => H)) (fun v1 h37 H => ?_)
  obtain ⟨rfl, pf40, pf41, pf42, pf43, hT38, hF39⟩ := H
  have hF44 := Fr_cp hF31 hF39 (by decide +kernel : Wsub W252 W257 = true)
  have e45 := fI_bd (q := 64) hT38 (tf hT38 rfl rfl) fd_8_86
  have e46 := fI_bd (q := 64) hT38 (tf hT38 rfl rfl) fd_8_87
  have e47 := fI_bd (q := 64) hT38 (tf hT38 rfl rfl) fd_8_88
  refine st_iconst c257_38 ?_
  refine st_zreturn c257_39 (by omega) ?_
  have e48 := fI_bd (q := 64) hT38 (tf hT38 rfl rfl) fd_8_90
  have q49 : fI h37 64 90 = fI h 64 90 := (Fr_fI hF39 (tf hT30 rfl rfl) (by decide +kernel)).trans (FUp_fIne hU32 (fun z => absurd z.2 (by decide)))
  have e50 := fI_bd (q := 64) hT38 (tf hT38 rfl rfl) fd_8_91
  have q51 : fI h37 64 91 = (fI h 64 91) + 1 := (Fr_fI hF39 (tf hT30 rfl rfl) (by decide +kernel)).trans (FUp_fI hU32 (by omega) (by omega))
  exact hQ _ _ (Or.inr ⟨rfl, by omega, by omega, by omega, by omega, by omega, by omega, by omega, by omega, hT38, hF44⟩)
  refine st_aload c257_18 rfl ?_
  have e52 := fI_bd (q := 64) hT (tf hT rfl rfl) fd_8_90
  refine st_callt (as := []) c257_19 cm_254 hT (tf hT rfl rfl) fd_8_0 rfl rfl rfl rfl (by omega) (K254 hT (Stb_mono hS (by decide +kernel)) (d - 1) (by omega) _ (fun v h0 H => H)) (fun v1 h53 H => ?_)
  obtain ⟨rfl, pf56, pf57, hT54, hF55⟩ := H
  have hF58 := Fr_cp hF hF55 (by decide +kernel : Wsub W254 W257 = true)
  have e59 := fI_bd (q := 64) hT54 (tf hT54 rfl rfl) fd_8_90
  refine st_iconst c257_22 ?_
  refine st_zreturn c257_23 (by omega) ?_
  have e60 := fI_bd (q := 64) hT54 (tf hT54 rfl rfl) fd_8_91
  have q61 : fI h53 64 91 = fI h 64 91 := Fr_fI hF55 (tf hT rfl rfl) (by decide +kernel)
  have e62 := fI_bd (q := 64) hT54 (tf hT54 rfl rfl) fd_8_86
  have q63 : fI h53 64 86 = fI h 64 86 := Fr_fI hF55 (tf hT rfl rfl) (by decide +kernel)
  have e64 := fI_bd (q := 64) hT54 (tf hT54 rfl rfl) fd_8_87
  have q65 : fI h53 64 87 = fI h 64 87 := Fr_fI hF55 (tf hT rfl rfl) (by decide +kernel)
  have e66 := fI_bd (q := 64) hT54 (tf hT54 rfl rfl) fd_8_88
  have q67 : fI h53 64 88 = fI h 64 88 := Fr_fI hF55 (tf hT rfl rfl) (by decide +kernel)
  exact hQ _ _ (Or.inl ⟨rfl, by omega, by omega, by omega, by omega, by omega, hT54, hF58⟩)
def W258 : List (Nat × Nat) := [(8, 86), (8, 87), (8, 88), (8, 89), (8, 90), (8, 91)]
set_option maxHeartbeats 0 in
theorem K258 {Ln : Nat} {xs : Nat → Int32} {τ : List Nat} {h : List mE} {E : EP} (hT : TH E τ h) (hS : Stb E W258) (pre0 : fI h 64 87≤fI h 64 77) (pre1 : 1≤fI h 64 91) (d : Nat) (hd : 4 ≤ d) (Q : Option Value → List mE → Prop) (hQ : ∀ v h', ((v = some (vI 0) ∧ (0≤fI h' 64 90) ∧ (fI h' 64 91=fI h 64 91) ∧ (fI h' 64 86=fI h 64 86) ∧ (fI h' 64 87=fI h 64 87) ∧ (fI h' 64 88=fI h 64 88) ∧ TH E τ h' ∧ Fr τ W258 h h') ∨ (v = some (vI 1) ∧ (fI h 64 88=41) ∧ (fI h' 64 90=fI h 64 90) ∧ (fI h' 64 91=fI h 64 91-1) ∧ (fI h 64 87≤fI h' 64 86) ∧ (fI h' 64 86≤fI h' 64 87) ∧ (fI h' 64 87≤fI h 64 77) ∧ (fI h' 64 88 = 0 ∨ fI h' 64 86 + 1 ≤ fI h' 64 87) ∧ TH E τ h' ∧ Fr τ W258 h h')) → Q v h') : MR (mex Ln xs) d 258 0 [some (.ref 64)] [] h Q := by
  have hF := Fr_rf τ W258 h
  have e1 := fI_bd (q := 64) hT (tf hT rfl rfl) fd_8_87
  have e2 := fI_bd (q := 64) hT (tf hT rfl rfl) fd_8_77
  have e3 := fI_bd (q := 64) hT (tf hT rfl rfl) fd_8_91
  refine st_aload c258_0 rfl ?_
  refine st_iconst c258_1 ?_
  have e4 := fI_bd (q := 64) hT (tf hT rfl rfl) fd_8_86
  have e5 := fI_bd (q := 64) hT (tf hT rfl rfl) fd_8_87
  have e6 := fI_bd (q := 64) hT (tf hT rfl rfl) fd_8_88
  have e7 := fI_bd (q := 64) hT (tf hT rfl rfl) fd_8_90
  have e8 := fI_bd (q := 64) hT (tf hT rfl rfl) fd_8_77
  refine st_callt (as := [vI 41]) c258_3 cm_256 hT (tf hT rfl rfl) fd_8_0 rfl rfl rfl rfl (by omega) (K256 hT (Stb_mono hS (by decide +kernel)) 41 (by omega) (by omega) (d - 1) (by omega) _ (fun v h0 H => H)) (fun v1 h9 H => ?_)
  rcases H with ⟨rfl, pf12, pf13, pf14, pf15, hT10, hF11⟩ | ⟨rfl, pf16, pf17, pf18, pf19, pf20, pf21, hT10, hF11⟩
  have hF22 := Fr_cp hF hF11 (by decide +kernel : Wsub W256 W258 = true)
  have e23 := fI_bd (q := 64) hT10 (tf hT10 rfl rfl) fd_8_90
  have e24 := fI_bd (q := 64) hT10 (tf hT10 rfl rfl) fd_8_86
  have e25 := fI_bd (q := 64) hT10 (tf hT10 rfl rfl) fd_8_87
  have e26 := fI_bd (q := 64) hT10 (tf hT10 rfl rfl) fd_8_88
  refine st_if_ne c258_6 (by omega) (fun k27 => False.elim (by omega)) (fun k28 => ?_)
  refine st_iconst c258_9 ?_
  refine st_zreturn c258_10 (by omega) ?_
  have e29 := fI_bd (q := 64) hT10 (tf hT10 rfl rfl) fd_8_91
  have q30 : fI h9 64 91 = fI h 64 91 := Fr_fI hF11 (tf hT rfl rfl) (by decide +kernel)
  exact hQ _ _ (Or.inl ⟨rfl, by omega, by omega, by omega, by omega, by omega, hT10, hF22⟩)
  have hF31 := Fr_cp hF hF11 (by decide +kernel : Wsub W256 W258 = true)
  have e32 := fI_bd (q := 64) hT10 (tf hT10 rfl rfl) fd_8_90
  have e33 := fI_bd (q := 64) hT10 (tf hT10 rfl rfl) fd_8_86
  have e34 := fI_bd (q := 64) hT10 (tf hT10 rfl rfl) fd_8_87
  refine st_if_ne c258_6 (by omega) (fun k35 => ?_) (fun k36 => False.elim (by omega))
  refine st_aload c258_11 rfl ?_
  refine st_dup c258_12 rfl ?_
  refine st_getI c258_13 hT10 (tf hT10 rfl rfl) fd_8_91 (fun e37 e38 => ?_)
  have q39 : fI h9 64 91 = fI h 64 91 := Fr_fI hF11 (tf hT rfl rfl) (by decide +kernel)
  refine st_iconst c258_16 ?_
  refine st_isub c258_17 ?_
  refine st_putI c258_18 hT10 (tf hT10 rfl rfl) fd_8_91 (by omega) (by omega) (Ext_rf _) hS hF31 (by decide +kernel) (fun h40 hT41 hF42 hU43 => ?_)
  refine st_iconst c258_21 ?_
  refine st_zreturn c258_22 (by omega) ?_
  have e44 := fI_bd (q := 64) hT41 (tf hT41 rfl rfl) fd_8_90
  have q45 : fI h40 64 90 = fI h9 64 90 := FUp_fIne hU43 (fun z => absurd z.2 (by decide))
  have e46 := fI_bd (q := 64) hT41 (tf hT41 rfl rfl) fd_8_91
  have q47 : fI h40 64 91 = (fI h9 64 91) - 1 := FUp_fI hU43 (by omega) (by omega)
  have e48 := fI_bd (q := 64) hT41 (tf hT41 rfl rfl) fd_8_86
  have q49 : fI h40 64 86 = fI h9 64 86 := FUp_fIne hU43 (fun z => absurd z.2 (by decide))
  have e50 := fI_bd (q := 64) hT41 (tf hT41 rfl rfl) fd_8_87
  have q51 : fI h40 64 87 = fI h9 64 87 := FUp_fIne hU43 (fun z => absurd z.2 (by decide))
  have e52 := fI_bd (q := 64) hT41 (tf hT41 rfl rfl) fd_8_88
  have q53 : fI h40 64 88 = fI h9 64 88 := FUp_fIne hU43 (fun z => absurd z.2 (by decide))
  exact hQ _ _ (Or.inr ⟨rfl, by omega, by omega, by omega, by omega, by omega, by omega, by omega, hT41, hF42⟩)
