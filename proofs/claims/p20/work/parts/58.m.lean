def W255 : List (Nat × Nat) := [(8, 93), (107, 0), (108, 0), (109, 0)]
set_option maxHeartbeats 0 in
theorem K255 {Ln : Nat} {xs : Nat → Int32} {τ : List Nat} {h : List mE} {E : EP} (hT : TH E τ h) (hS : Stb E W255) (p1 : Int) (hp1 : (-2147483648) ≤ p1 ∧ p1 ≤ 2147483647) (p2 : Int) (hp2 : (-2147483648) ≤ p2 ∧ p2 ≤ 2147483647) (p3 : Int) (hp3 : (-2147483648) ≤ p3 ∧ p3 ≤ 2147483647) (pre0 : fI h 64 93≤219) (d : Nat) (hd : 0 ≤ d) (Q : Option Value → List mE → Prop) (hQ : ∀ v h', (v = none ∧ (fI h' 64 93=fI h 64 93+1) ∧ (aI h' 129 (220 * fI h 64 92 + fI h 64 93) = p1) ∧ (aI h' 130 (220 * fI h 64 92 + fI h 64 93) = p2) ∧ (∀ i : Int, 0 ≤ i → i < 220 * fI h 64 92 + fI h 64 93 → aI h' 129 i = aI h 129 i) ∧ (∀ i : Int, 0 ≤ i → i < 220 * fI h 64 92 + fI h 64 93 → aI h' 130 i = aI h 130 i) ∧ TH E τ h' ∧ Fr τ W255 h h') → Q v h') : MR (mex Ln xs) d 255 0 [some (.ref 64), some (vI p1), some (vI p2), some (vI p3)] [] h Q := by
  have hF := Fr_rf τ W255 h
  have e1 := fI_bd (q := 64) hT (tf hT rfl rfl) fd_8_93
  refine st_aload c255_0 rfl ?_
  refine st_getX (u := 129) c255_1 hT (tf hT rfl rfl) fd_8_83 rfl ?_
  refine st_iconst c255_4 ?_
  refine st_aload c255_7 rfl ?_
  refine st_getI c255_8 hT (tf hT rfl rfl) fd_8_92 (fun e2 e3 => ?_)
  refine st_imul c255_11 ?_
  refine st_aload c255_12 rfl ?_
  refine st_getI c255_13 hT (tf hT rfl rfl) fd_8_93 (fun e4 e5 => ?_)
  refine st_iadd c255_16 ?_
  refine st_iload c255_17 rfl ?_
  refine st_iast c255_18 hT (tf hT rfl rfl) ay_107 (by omega) (by omega) (by omega) (Ext_rf _) hS hF (by decide +kernel) (fun h6 hT7 hF8 hU9 => ?_)
  refine st_aload c255_19 rfl ?_
  refine st_getX (u := 130) c255_20 hT7 (tf hT7 rfl rfl) fd_8_84 rfl ?_
  refine st_iconst c255_23 ?_
  refine st_aload c255_26 rfl ?_
  refine st_getI c255_27 hT7 (tf hT7 rfl rfl) fd_8_92 (fun e10 e11 => ?_)
  have q12 : fI h6 64 92 = fI h 64 92 := AUp_fI hU9
  refine st_imul c255_30 ?_
  refine st_aload c255_31 rfl ?_
  refine st_getI c255_32 hT7 (tf hT7 rfl rfl) fd_8_93 (fun e13 e14 => ?_)
  have q15 : fI h6 64 93 = fI h 64 93 := AUp_fI hU9
  refine st_iadd c255_35 ?_
  refine st_iload c255_36 rfl ?_
  refine st_iast c255_37 hT7 (tf hT7 rfl rfl) ay_108 (by omega) (by omega) (by omega) (Ext_rf _) hS hF8 (by decide +kernel) (fun h16 hT17 hF18 hU19 => ?_)
  refine st_aload c255_38 rfl ?_
  refine st_getX (u := 131) c255_39 hT17 (tf hT17 rfl rfl) fd_8_85 rfl ?_
  refine st_iconst c255_42 ?_
  refine st_aload c255_45 rfl ?_
  refine st_getI c255_46 hT17 (tf hT17 rfl rfl) fd_8_92 (fun e20 e21 => ?_)
  have q22 : fI h16 64 92 = fI h6 64 92 := AUp_fI hU19
  refine st_imul c255_49 ?_
  refine st_aload c255_50 rfl ?_
  refine st_getI c255_51 hT17 (tf hT17 rfl rfl) fd_8_93 (fun e23 e24 => ?_)
  have q25 : fI h16 64 93 = fI h6 64 93 := AUp_fI hU19
  refine st_iadd c255_54 ?_
  refine st_iload c255_55 rfl ?_
  refine st_iast c255_56 hT17 (tf hT17 rfl rfl) ay_109 (by omega) (by omega) (by omega) (Ext_rf _) hS hF18 (by decide +kernel) (fun h26 hT27 hF28 hU29 => ?_)
  refine st_aload c255_57 rfl ?_
  refine st_dup c255_58 rfl ?_
  refine st_getI c255_59 hT27 (tf hT27 rfl rfl) fd_8_93 (fun e30 e31 => ?_)
  have q32 : fI h26 64 93 = fI h16 64 93 := AUp_fI hU29
  refine st_iconst c255_62 ?_
  refine st_iadd c255_63 ?_
  refine st_putI c255_64 hT27 (tf hT27 rfl rfl) fd_8_93 (by omega) (by omega) (Ext_rf _) hS hF28 (by decide +kernel) (fun h33 hT34 hF35 hU36 => ?_)
  refine st_return c255_67 ?_
  have e37 := fI_bd (q := 64) hT34 (tf hT34 rfl rfl) fd_8_93
  have q38 : fI h33 64 93 = (fI h26 64 93) + 1 := FUp_fI hU36 (by omega) (by omega)
  have fr39 : ∀ i : Int, 0 ≤ i → i < 220 * fI h 64 92 + fI h 64 93 → aI h33 129 i = aI h 129 i := fun i a b => ((FUp_aI hU36 i)).trans (((AUp_aIne hU29 (by decide) i)).trans (((AUp_aIne hU19 (by decide) i)).trans (((AUp_aI hU9 (by omega) (by omega) (by omega) a).trans (if_neg (by omega))))))
  have fr40 : ∀ i : Int, 0 ≤ i → i < 220 * fI h 64 92 + fI h 64 93 → aI h33 130 i = aI h 130 i := fun i a b => ((FUp_aI hU36 i)).trans (((AUp_aIne hU29 (by decide) i)).trans ((((AUp_aI hU19 (by omega) (by omega) (by omega) a).trans (if_neg (by omega)))).trans ((AUp_aIne hU9 (by decide) i))))
  exact hQ _ _ ⟨rfl, by omega, ((FUp_aI hU36 (220 * fI h 64 92 + fI h 64 93)).trans ((AUp_aIne hU29 (by decide) (220 * fI h 64 92 + fI h 64 93)).trans (AUp_aIne hU19 (by decide) (220 * fI h 64 92 + fI h 64 93)))).trans ((AUp_aI hU9 (by omega) (by omega) (by omega) (by omega)).trans (if_pos (by omega))), ((FUp_aI hU36 (220 * fI h 64 92 + fI h 64 93)).trans (AUp_aIne hU29 (by decide) (220 * fI h 64 92 + fI h 64 93))).trans ((AUp_aI hU19 (by omega) (by omega) (by omega) (by omega)).trans (if_pos (by omega))), fr39, fr40, hT34, hF35⟩
def Wp12 : List (Nat × Nat) := [(8, 86), (8, 87), (8, 88), (8, 89), (8, 90), (8, 91), (8, 93), (107, 0), (108, 0), (109, 0)]
abbrev C262 (k : Int) : Prop := ∀ {Ln : Nat} {xs : Nat → Int32} {τ : List Nat} {h : List mE} {E : EP} (hT : TH E τ h) (hS : Stb E Wp12) (pre0 : fI h 64 86≤fI h 64 87) (pre1 : fI h 64 87≤fI h 64 77) (pre2 : fI h 64 88 = 0 ∨ fI h 64 86 + 1 ≤ fI h 64 87) (pre3 : fI h 64 93≤fI h 64 86+1) (pre4 : fI h 64 91 = k ∧ 0 ≤ k ∧ k ≤ 8) (d : Nat) (hd : 84 - 7 * k ≤ (d : Int)) (Q : Option Value → List mE → Prop) (hQ : ∀ v h', (v = none ∧ (fI h 64 86≤fI h' 64 86) ∧ (fI h' 64 86≤fI h' 64 87) ∧ (fI h' 64 87≤fI h 64 77) ∧ (fI h' 64 88 = 0 ∨ fI h' 64 86 + 1 ≤ fI h' 64 87) ∧ (fI h 64 90 < 0 ∨ 0 ≤ fI h' 64 90) ∧ (fI h' 64 93 - fI h' 64 86 ≤ fI h 64 93 - fI h 64 86) ∧ (fI h 64 93≤fI h' 64 93) ∧ (0 ≤ fI h' 64 90 ∨ fI h' 64 91 = fI h 64 91) ∧ (∀ i : Int, 0 ≤ i → i < 220 * fI h 64 92 + fI h 64 93 → aI h' 129 i = aI h 129 i) ∧ (∀ i : Int, 0 ≤ i → i < 220 * fI h 64 92 + fI h 64 93 → aI h' 130 i = aI h 130 i) ∧ (0 ≤ fI h' 64 90 ∨ Sg h' (220 * fI h 64 92 + fI h 64 93) (fI h' 64 93 - fI h 64 93)) ∧ TH E τ h' ∧ Fr τ Wp12 h h') → Q v h'), MR (mex Ln xs) d 262 0 [some (.ref 64), none] [] h Q
set_option maxHeartbeats 0 in
theorem K260 {k : Int} {Ln : Nat} {xs : Nat → Int32} {τ : List Nat} {h : List mE} {E : EP} (hT : TH E τ h) (hS : Stb E Wp12) (pre0 : fI h 64 86≤fI h 64 87) (pre1 : fI h 64 87≤fI h 64 77) (pre2 : fI h 64 88 = 0 ∨ fI h 64 86 + 1 ≤ fI h 64 87) (pre3 : fI h 64 93≤fI h 64 86+1) (pre4 : fI h 64 91 = k ∧ 0 ≤ k ∧ k ≤ 8) (pre5 : k < 8 → C262 (k + 1)) (d : Nat) (hd : 82 - 7 * k ≤ (d : Int)) (Q : Option Value → List mE → Prop) (hQ : ∀ v h', (v = none ∧ (fI h 64 86≤fI h' 64 86) ∧ (fI h' 64 86≤fI h' 64 87) ∧ (fI h' 64 87≤fI h 64 77) ∧ (fI h' 64 88 = 0 ∨ fI h' 64 86 + 1 ≤ fI h' 64 87) ∧ (fI h 64 90 < 0 ∨ 0 ≤ fI h' 64 90) ∧ (fI h' 64 93 - fI h' 64 86 ≤ fI h 64 93 - fI h 64 86) ∧ (fI h 64 93≤fI h' 64 93) ∧ (0 ≤ fI h' 64 90 ∨ fI h' 64 91 = fI h 64 91) ∧ (∀ i : Int, 0 ≤ i → i < 220 * fI h 64 92 + fI h 64 93 → aI h' 129 i = aI h 129 i) ∧ (∀ i : Int, 0 ≤ i → i < 220 * fI h 64 92 + fI h 64 93 → aI h' 130 i = aI h 130 i) ∧ (0 ≤ fI h' 64 90 ∨ Sg h' (220 * fI h 64 92 + fI h 64 93) (fI h' 64 93 - fI h 64 93)) ∧ TH E τ h' ∧ Fr τ Wp12 h h') → Q v h') : MR (mex Ln xs) d 260 0 [some (.ref 64), none] [] h Q := by
  have hF := Fr_rf τ Wp12 h
  have e1 := fI_bd (q := 64) hT (tf hT rfl rfl) fd_8_86
  have e2 := fI_bd (q := 64) hT (tf hT rfl rfl) fd_8_87
  have e3 := fI_bd (q := 64) hT (tf hT rfl rfl) fd_8_77
  have e4 := fI_bd (q := 64) hT (tf hT rfl rfl) fd_8_93
  refine st_aload c260_0 rfl ?_
  refine st_getI c260_1 hT (tf hT rfl rfl) fd_8_88 (fun e5 e6 => ?_)
  refine st_iconst c260_4 ?_
  refine st_icmp_ne c260_5 (by omega) (by omega) (fun k7 => ?_) (fun k8 => ?_)
  refine st_aload c260_23 rfl ?_
  refine st_callt (as := []) c260_24 cm_259 hT (tf hT rfl rfl) fd_8_0 rfl rfl rfl rfl (by omega) (MR_det (K259 hT (d - 1) (by omega) _ (fun v h0 H => H))) (fun v1 h1 H => ?_)
  obtain ⟨H, rb1⟩ := H
  obtain ⟨z10, rfl, b11, pf9, rfl⟩ := H
  refine st_if_lt c260_27 (by omega) (fun k12 => ?_) (fun k13 => ?_)
  refine st_aload c260_45 rfl ?_
  refine st_lconst c260_46 ?_
  refine st_callt (as := [.long (Int64.ofInt 6476969)]) c260_49 cm_253 hT (tf hT rfl rfl) fd_8_0 rfl rfl rfl rfl (by omega) (K253 hT (Int64.ofInt 6476969) (d - 1) (by omega) _ (fun v h0 H => H)) (fun v1 h1 H => ?_)
  rcases H with ⟨rfl, rfl⟩ | ⟨rfl, pf14, rfl⟩
  refine st_if_ne c260_52 (by omega) (fun k15 => False.elim (by omega)) (fun k16 => ?_)
  refine st_aload c260_55 rfl ?_
  refine st_lconst c260_56 ?_
  refine st_callt (as := [.long (Int64.ofInt 267347)]) c260_59 cm_253 hT (tf hT rfl rfl) fd_8_0 rfl rfl rfl rfl (by omega) (K253 hT (Int64.ofInt 267347) (d - 1) (by omega) _ (fun v h0 H => H)) (fun v1 h1 H => ?_)
  rcases H with ⟨rfl, rfl⟩ | ⟨rfl, pf17, rfl⟩
  refine st_if_eq c260_62 (by omega) (fun k18 => ?_) (fun k19 => False.elim (by omega))
  refine st_aload c260_142 rfl ?_
  have e20 := fI_bd (q := 64) hT (tf hT rfl rfl) fd_8_91
  have e21 := fI_bd (q := 64) hT (tf hT rfl rfl) fd_8_86
  have e22 := fI_bd (q := 64) hT (tf hT rfl rfl) fd_8_87
  have e23 := fI_bd (q := 64) hT (tf hT rfl rfl) fd_8_90
  have e24 := fI_bd (q := 64) hT (tf hT rfl rfl) fd_8_77
  refine st_callt (as := []) c260_143 cm_257 hT (tf hT rfl rfl) fd_8_0 rfl rfl rfl rfl (by omega) (K257 hT (Stb_mono hS (by decide +kernel)) (by omega) (d - 1) (by omega) _ (fun v h0 H => H)) (fun v1 h25 H => ?_)
  rcases H with ⟨rfl, pf28, pf29, pf30, pf31, pf32, hT26, hF27⟩ | ⟨rfl, pf33, pf34, pf35, pf36, pf37, pf38, pf39, pf40, hT26, hF27⟩
  have hF41 := Fr_cp hF hF27 (by decide +kernel : Wsub W257 Wp12 = true)
  have e42 := fI_bd (q := 64) hT26 (tf hT26 rfl rfl) fd_8_90
  have e43 := fI_bd (q := 64) hT26 (tf hT26 rfl rfl) fd_8_91
  have e44 := fI_bd (q := 64) hT26 (tf hT26 rfl rfl) fd_8_86
  have e45 := fI_bd (q := 64) hT26 (tf hT26 rfl rfl) fd_8_87
  have e46 := fI_bd (q := 64) hT26 (tf hT26 rfl rfl) fd_8_88
  refine st_if_ne c260_146 (by omega) (fun k47 => False.elim (by omega)) (fun k48 => ?_)
  refine st_return c260_149 ?_
  have e49 := fI_bd (q := 64) hT26 (tf hT26 rfl rfl) fd_8_93
  have q50 : fI h25 64 93 = fI h 64 93 := Fr_fI hF27 (tf hT rfl rfl) (by decide +kernel)
  have fr51 : ∀ i : Int, 0 ≤ i → i < 220 * fI h 64 92 + fI h 64 93 → aI h25 129 i = aI h 129 i := fun i a b => (Fr_aI hF27 (tf hT rfl rfl) (by decide +kernel) i)
  have fr52 : ∀ i : Int, 0 ≤ i → i < 220 * fI h 64 92 + fI h 64 93 → aI h25 130 i = aI h 130 i := fun i a b => (Fr_aI hF27 (tf hT rfl rfl) (by decide +kernel) i)
  have e53 := fI_bd (q := 64) hT26 (tf hT26 rfl rfl) fd_8_92
  have q54 : fI h25 64 92 = fI h 64 92 := Fr_fI hF27 (tf hT rfl rfl) (by decide +kernel)
  exact hQ _ _ ⟨rfl, by omega, by omega, by omega, by omega, by omega, by omega, by omega, by omega, fr51, fr52, (Or.inl (by omega)), hT26, hF41⟩
  have hF56 := Fr_cp hF hF27 (by decide +kernel : Wsub W257 Wp12 = true)
  have e57 := fI_bd (q := 64) hT26 (tf hT26 rfl rfl) fd_8_90
  have e58 := fI_bd (q := 64) hT26 (tf hT26 rfl rfl) fd_8_91
  have e59 := fI_bd (q := 64) hT26 (tf hT26 rfl rfl) fd_8_86
  have e60 := fI_bd (q := 64) hT26 (tf hT26 rfl rfl) fd_8_87
  refine st_if_ne c260_146 (by omega) (fun k61 => ?_) (fun k62 => False.elim (by omega))
  refine st_aload c260_150 rfl ?_
  have e63 := fI_bd (q := 64) hT26 (tf hT26 rfl rfl) fd_8_77
  have q64 : fI h25 64 77 = fI h 64 77 := Fr_fI hF27 (tf hT rfl rfl) (by decide +kernel)
  have e65 := fI_bd (q := 64) hT26 (tf hT26 rfl rfl) fd_8_93
  have q66 : fI h25 64 93 = fI h 64 93 := Fr_fI hF27 (tf hT rfl rfl) (by decide +kernel)
  have e67 := fI_bd (q := 64) hT26 (tf hT26 rfl rfl) fd_8_92
  have q68 : fI h25 64 92 = fI h 64 92 := Fr_fI hF27 (tf hT rfl rfl) (by decide +kernel)
  have e69 := fI_bd (q := 64) hT26 (tf hT26 rfl rfl) fd_8_88
  refine st_callt (as := []) c260_151 cm_262 hT26 (tf hT26 rfl rfl) fd_8_0 rfl rfl rfl rfl (by omega) ((pre5 (by omega)) hT26 (Stb_mono hS (by decide +kernel)) (by omega) (by omega) (by omega) (by omega) (by omega) (d - 1) (by omega) _ (fun v h0 H => H)) (fun v1 h70 H => ?_)
  obtain ⟨rfl, pf73, pf74, pf75, pf76, pf77, pf78, pf79, pf80, pf81, pf82, pf83, hT71, hF72⟩ := H
  have hF84 := Fr_cp hF56 hF72 (by decide +kernel : Wsub Wp12 Wp12 = true)
  have e85 := fI_bd (q := 64) hT71 (tf hT71 rfl rfl) fd_8_86
  have e86 := fI_bd (q := 64) hT71 (tf hT71 rfl rfl) fd_8_87
  have e87 := fI_bd (q := 64) hT71 (tf hT71 rfl rfl) fd_8_88
  have e88 := fI_bd (q := 64) hT71 (tf hT71 rfl rfl) fd_8_90
  have e89 := fI_bd (q := 64) hT71 (tf hT71 rfl rfl) fd_8_93
  have e90 := fI_bd (q := 64) hT71 (tf hT71 rfl rfl) fd_8_91
  refine st_aload c260_154 rfl ?_
  refine st_getI c260_155 hT71 (tf hT71 rfl rfl) fd_8_90 (fun e91 e92 => ?_)
  refine st_if_lt c260_158 (by omega) (fun k93 => ?_) (fun k94 => ?_)
  refine st_aload c260_162 rfl ?_
  have e95 := fI_bd (q := 64) hT71 (tf hT71 rfl rfl) fd_8_77
  have q96 : fI h70 64 77 = fI h25 64 77 := Fr_fI hF72 (tf hT26 rfl rfl) (by decide +kernel)
  refine st_callt (as := []) c260_163 cm_258 hT71 (tf hT71 rfl rfl) fd_8_0 rfl rfl rfl rfl (by omega) (K258 hT71 (Stb_mono hS (by decide +kernel)) (by omega) (by omega) (d - 1) (by omega) _ (fun v h0 H => H)) (fun v1 h97 H => ?_)
  rcases H with ⟨rfl, pf100, pf101, pf102, pf103, pf104, hT98, hF99⟩ | ⟨rfl, pf105, pf106, pf107, pf108, pf109, pf110, pf111, hT98, hF99⟩
  have hF112 := Fr_cp hF84 hF99 (by decide +kernel : Wsub W258 Wp12 = true)
  have e113 := fI_bd (q := 64) hT98 (tf hT98 rfl rfl) fd_8_90
  have e114 := fI_bd (q := 64) hT98 (tf hT98 rfl rfl) fd_8_91
  have e115 := fI_bd (q := 64) hT98 (tf hT98 rfl rfl) fd_8_86
  have e116 := fI_bd (q := 64) hT98 (tf hT98 rfl rfl) fd_8_87
  have e117 := fI_bd (q := 64) hT98 (tf hT98 rfl rfl) fd_8_88
  refine st_if_eq c260_166 (by omega) (fun k118 => ?_) (fun k119 => False.elim (by omega))
  refine st_return c260_170 ?_
  have e120 := fI_bd (q := 64) hT98 (tf hT98 rfl rfl) fd_8_93
  have q121 : fI h97 64 93 = fI h70 64 93 := Fr_fI hF99 (tf hT71 rfl rfl) (by decide +kernel)
  have fr122 : ∀ i : Int, 0 ≤ i → i < 220 * fI h 64 92 + fI h 64 93 → aI h97 129 i = aI h 129 i := fun i a b => ((Fr_aI hF99 (tf hT71 rfl rfl) (by decide +kernel) i)).trans (((pf81 i a (by omega))).trans ((Fr_aI hF27 (tf hT rfl rfl) (by decide +kernel) i)))
  have fr123 : ∀ i : Int, 0 ≤ i → i < 220 * fI h 64 92 + fI h 64 93 → aI h97 130 i = aI h 130 i := fun i a b => ((Fr_aI hF99 (tf hT71 rfl rfl) (by decide +kernel) i)).trans (((pf82 i a (by omega))).trans ((Fr_aI hF27 (tf hT rfl rfl) (by decide +kernel) i)))
  have e124 := fI_bd (q := 64) hT98 (tf hT98 rfl rfl) fd_8_92
  have q125 : fI h97 64 92 = fI h25 64 92 := (Fr_fI hF99 (tf hT71 rfl rfl) (by decide +kernel)).trans (Fr_fI hF72 (tf hT26 rfl rfl) (by decide +kernel))
  have g127 := (pf83).resolve_left (by omega)
  have fr128 : ∀ i : Int, 0 ≤ i → i < 220 * fI h25 64 92 + fI h25 64 93 + (fI h70 64 93 - fI h25 64 93) → aI h97 129 i = aI h70 129 i := fun i a b => (Fr_aI hF99 (tf hT71 rfl rfl) (by decide +kernel) i)
  have fr129 : ∀ i : Int, 0 ≤ i → i < 220 * fI h25 64 92 + fI h25 64 93 + (fI h70 64 93 - fI h25 64 93) → aI h97 130 i = aI h70 130 i := fun i a b => (Fr_aI hF99 (tf hT71 rfl rfl) (by decide +kernel) i)
  have g130 : Sg h97 (220 * fI h25 64 92 + fI h25 64 93) (fI h70 64 93 - fI h25 64 93) := Sg_mv g127 (fun i a b => ⟨fr128 i (by omega) (by omega), fr129 i (by omega) (by omega)⟩)
  have sg126 : 0 ≤ fI h97 64 90 ∨ Sg h97 (220 * fI h 64 92 + fI h 64 93) (fI h97 64 93 - fI h 64 93) := Or.inr (by
    rw [show 220 * fI h 64 92 + fI h 64 93 = 220 * fI h25 64 92 + fI h25 64 93 by omega, show fI h97 64 93 - fI h 64 93 = fI h70 64 93 - fI h25 64 93 by omega]
    exact g130)
  exact hQ _ _ ⟨rfl, by omega, by omega, by omega, by omega, by omega, by omega, by omega, by omega, fr122, fr123, sg126, hT98, hF112⟩
  have hF131 := Fr_cp hF84 hF99 (by decide +kernel : Wsub W258 Wp12 = true)
  have e132 := fI_bd (q := 64) hT98 (tf hT98 rfl rfl) fd_8_90
  have e133 := fI_bd (q := 64) hT98 (tf hT98 rfl rfl) fd_8_91
  have e134 := fI_bd (q := 64) hT98 (tf hT98 rfl rfl) fd_8_86
  have e135 := fI_bd (q := 64) hT98 (tf hT98 rfl rfl) fd_8_87
  refine st_if_eq c260_166 (by omega) (fun k136 => False.elim (by omega)) (fun k137 => ?_)
  refine st_return c260_169 ?_
  have e138 := fI_bd (q := 64) hT98 (tf hT98 rfl rfl) fd_8_88
  have e139 := fI_bd (q := 64) hT98 (tf hT98 rfl rfl) fd_8_93
  have q140 : fI h97 64 93 = fI h70 64 93 := Fr_fI hF99 (tf hT71 rfl rfl) (by decide +kernel)
  have fr141 : ∀ i : Int, 0 ≤ i → i < 220 * fI h 64 92 + fI h 64 93 → aI h97 129 i = aI h 129 i := fun i a b => ((Fr_aI hF99 (tf hT71 rfl rfl) (by decide +kernel) i)).trans (((pf81 i a (by omega))).trans ((Fr_aI hF27 (tf hT rfl rfl) (by decide +kernel) i)))
  have fr142 : ∀ i : Int, 0 ≤ i → i < 220 * fI h 64 92 + fI h 64 93 → aI h97 130 i = aI h 130 i := fun i a b => ((Fr_aI hF99 (tf hT71 rfl rfl) (by decide +kernel) i)).trans (((pf82 i a (by omega))).trans ((Fr_aI hF27 (tf hT rfl rfl) (by decide +kernel) i)))
  have e143 := fI_bd (q := 64) hT98 (tf hT98 rfl rfl) fd_8_92
  have q144 : fI h97 64 92 = fI h25 64 92 := (Fr_fI hF99 (tf hT71 rfl rfl) (by decide +kernel)).trans (Fr_fI hF72 (tf hT26 rfl rfl) (by decide +kernel))
  have g146 := (pf83).resolve_left (by omega)
  have fr147 : ∀ i : Int, 0 ≤ i → i < 220 * fI h25 64 92 + fI h25 64 93 + (fI h70 64 93 - fI h25 64 93) → aI h97 129 i = aI h70 129 i := fun i a b => (Fr_aI hF99 (tf hT71 rfl rfl) (by decide +kernel) i)
  have fr148 : ∀ i : Int, 0 ≤ i → i < 220 * fI h25 64 92 + fI h25 64 93 + (fI h70 64 93 - fI h25 64 93) → aI h97 130 i = aI h70 130 i := fun i a b => (Fr_aI hF99 (tf hT71 rfl rfl) (by decide +kernel) i)
  have g149 : Sg h97 (220 * fI h25 64 92 + fI h25 64 93) (fI h70 64 93 - fI h25 64 93) := Sg_mv g146 (fun i a b => ⟨fr147 i (by omega) (by omega), fr148 i (by omega) (by omega)⟩)
  have sg145 : 0 ≤ fI h97 64 90 ∨ Sg h97 (220 * fI h 64 92 + fI h 64 93) (fI h97 64 93 - fI h 64 93) := Or.inr (by
    rw [show 220 * fI h 64 92 + fI h 64 93 = 220 * fI h25 64 92 + fI h25 64 93 by omega, show fI h97 64 93 - fI h 64 93 = fI h70 64 93 - fI h25 64 93 by omega]
    exact g149)
  exact hQ _ _ ⟨rfl, by omega, by omega, by omega, by omega, by omega, by omega, by omega, by omega, fr141, fr142, sg145, hT98, hF131⟩
  refine st_return c260_161 ?_
  have fr150 : ∀ i : Int, 0 ≤ i → i < 220 * fI h 64 92 + fI h 64 93 → aI h70 129 i = aI h 129 i := fun i a b => ((pf81 i a (by omega))).trans ((Fr_aI hF27 (tf hT rfl rfl) (by decide +kernel) i))
  have fr151 : ∀ i : Int, 0 ≤ i → i < 220 * fI h 64 92 + fI h 64 93 → aI h70 130 i = aI h 130 i := fun i a b => ((pf82 i a (by omega))).trans ((Fr_aI hF27 (tf hT rfl rfl) (by decide +kernel) i))
  have e152 := fI_bd (q := 64) hT71 (tf hT71 rfl rfl) fd_8_92
  have q153 : fI h70 64 92 = fI h25 64 92 := Fr_fI hF72 (tf hT26 rfl rfl) (by decide +kernel)
  exact hQ _ _ ⟨rfl, by omega, by omega, by omega, by omega, by omega, by omega, by omega, by omega, fr150, fr151, (Or.inl (by omega)), hT71, hF84⟩
  refine st_if_eq c260_62 (by omega) (fun k155 => False.elim (by omega)) (fun k156 => ?_)
  refine st_aload c260_65 rfl ?_
  refine st_lconst c260_66 ?_
  refine st_callt (as := [.long (Int64.ofInt 6476969)]) c260_69 cm_253 hT (tf hT rfl rfl) fd_8_0 rfl rfl rfl rfl (by omega) (K253 hT (Int64.ofInt 6476969) (d - 1) (by omega) _ (fun v h0 H => H)) (fun v1 h1 H => ?_)
  rcases H with ⟨rfl, rfl⟩ | ⟨rfl, pf157, rfl⟩
  refine st_if_eq c260_72 (by omega) (fun k158 => ?_) (fun k159 => False.elim (by omega))
  refine st_iconst c260_79 ?_
  refine st_istore (L' := [some (.ref 64), some (vI 6)]) c260_81 rfl rfl ?_
  refine st_aload c260_82 rfl ?_
  have e160 := fI_bd (q := 64) hT (tf hT rfl rfl) fd_8_87
  have e161 := fI_bd (q := 64) hT (tf hT rfl rfl) fd_8_77
  refine st_callt (as := []) c260_83 cm_252 hT (tf hT rfl rfl) fd_8_0 rfl rfl rfl rfl (by omega) (K252 hT (Stb_mono hS (by decide +kernel)) (by omega) (d - 1) (by omega) _ (fun v h0 H => H)) (fun v1 h162 H => ?_)
  obtain ⟨rfl, pf165, pf166, pf167, pf168, hT163, hF164⟩ := H
  have hF169 := Fr_cp hF hF164 (by decide +kernel : Wsub W252 Wp12 = true)
  have e170 := fI_bd (q := 64) hT163 (tf hT163 rfl rfl) fd_8_86
  have e171 := fI_bd (q := 64) hT163 (tf hT163 rfl rfl) fd_8_87
  have e172 := fI_bd (q := 64) hT163 (tf hT163 rfl rfl) fd_8_88
  refine st_aload c260_86 rfl ?_
  have e173 := fI_bd (q := 64) hT163 (tf hT163 rfl rfl) fd_8_91
  have q174 : fI h162 64 91 = fI h 64 91 := Fr_fI hF164 (tf hT rfl rfl) (by decide +kernel)
  have e175 := fI_bd (q := 64) hT163 (tf hT163 rfl rfl) fd_8_90
  have q176 : fI h162 64 90 = fI h 64 90 := Fr_fI hF164 (tf hT rfl rfl) (by decide +kernel)
  have e177 := fI_bd (q := 64) hT163 (tf hT163 rfl rfl) fd_8_77
  have q178 : fI h162 64 77 = fI h 64 77 := Fr_fI hF164 (tf hT rfl rfl) (by decide +kernel)
  refine st_callt (as := []) c260_87 cm_257 hT163 (tf hT163 rfl rfl) fd_8_0 rfl rfl rfl rfl (by omega) (K257 hT163 (Stb_mono hS (by decide +kernel)) (by omega) (d - 1) (by omega) _ (fun v h0 H => H)) (fun v1 h179 H => ?_)
  rcases H with ⟨rfl, pf182, pf183, pf184, pf185, pf186, hT180, hF181⟩ | ⟨rfl, pf187, pf188, pf189, pf190, pf191, pf192, pf193, pf194, hT180, hF181⟩
  have hF195 := Fr_cp hF169 hF181 (by decide +kernel : Wsub W257 Wp12 = true)
  have e196 := fI_bd (q := 64) hT180 (tf hT180 rfl rfl) fd_8_90
  have e197 := fI_bd (q := 64) hT180 (tf hT180 rfl rfl) fd_8_91
  have e198 := fI_bd (q := 64) hT180 (tf hT180 rfl rfl) fd_8_86
  have e199 := fI_bd (q := 64) hT180 (tf hT180 rfl rfl) fd_8_87
  have e200 := fI_bd (q := 64) hT180 (tf hT180 rfl rfl) fd_8_88
  refine st_if_ne c260_90 (by omega) (fun k201 => False.elim (by omega)) (fun k202 => ?_)
  refine st_return c260_93 ?_
  have e203 := fI_bd (q := 64) hT180 (tf hT180 rfl rfl) fd_8_93
  have q204 : fI h179 64 93 = fI h 64 93 := (Fr_fI hF181 (tf hT163 rfl rfl) (by decide +kernel)).trans (Fr_fI hF164 (tf hT rfl rfl) (by decide +kernel))
  have fr205 : ∀ i : Int, 0 ≤ i → i < 220 * fI h 64 92 + fI h 64 93 → aI h179 129 i = aI h 129 i := fun i a b => ((Fr_aI hF181 (tf hT163 rfl rfl) (by decide +kernel) i)).trans ((Fr_aI hF164 (tf hT rfl rfl) (by decide +kernel) i))
  have fr206 : ∀ i : Int, 0 ≤ i → i < 220 * fI h 64 92 + fI h 64 93 → aI h179 130 i = aI h 130 i := fun i a b => ((Fr_aI hF181 (tf hT163 rfl rfl) (by decide +kernel) i)).trans ((Fr_aI hF164 (tf hT rfl rfl) (by decide +kernel) i))
  have e207 := fI_bd (q := 64) hT180 (tf hT180 rfl rfl) fd_8_92
  have q208 : fI h179 64 92 = fI h 64 92 := (Fr_fI hF181 (tf hT163 rfl rfl) (by decide +kernel)).trans (Fr_fI hF164 (tf hT rfl rfl) (by decide +kernel))
  exact hQ _ _ ⟨rfl, by omega, by omega, by omega, by omega, by omega, by omega, by omega, by omega, fr205, fr206, (Or.inl (by omega)), hT180, hF195⟩
  have hF210 := Fr_cp hF169 hF181 (by decide +kernel : Wsub W257 Wp12 = true)
  have e211 := fI_bd (q := 64) hT180 (tf hT180 rfl rfl) fd_8_90
  have e212 := fI_bd (q := 64) hT180 (tf hT180 rfl rfl) fd_8_91
  have e213 := fI_bd (q := 64) hT180 (tf hT180 rfl rfl) fd_8_86
  have e214 := fI_bd (q := 64) hT180 (tf hT180 rfl rfl) fd_8_87
  refine st_if_ne c260_90 (by omega) (fun k215 => ?_) (fun k216 => False.elim (by omega))
  refine st_aload c260_94 rfl ?_
  have e217 := fI_bd (q := 64) hT180 (tf hT180 rfl rfl) fd_8_77
  have q218 : fI h179 64 77 = fI h162 64 77 := Fr_fI hF181 (tf hT163 rfl rfl) (by decide +kernel)
  have e219 := fI_bd (q := 64) hT180 (tf hT180 rfl rfl) fd_8_93
  have q220 : fI h179 64 93 = fI h 64 93 := (Fr_fI hF181 (tf hT163 rfl rfl) (by decide +kernel)).trans (Fr_fI hF164 (tf hT rfl rfl) (by decide +kernel))
  have e221 := fI_bd (q := 64) hT180 (tf hT180 rfl rfl) fd_8_92
  have q222 : fI h179 64 92 = fI h 64 92 := (Fr_fI hF181 (tf hT163 rfl rfl) (by decide +kernel)).trans (Fr_fI hF164 (tf hT rfl rfl) (by decide +kernel))
  have e223 := fI_bd (q := 64) hT180 (tf hT180 rfl rfl) fd_8_88
  refine st_callt (as := []) c260_95 cm_262 hT180 (tf hT180 rfl rfl) fd_8_0 rfl rfl rfl rfl (by omega) ((pre5 (by omega)) hT180 (Stb_mono hS (by decide +kernel)) (by omega) (by omega) (by omega) (by omega) (by omega) (d - 1) (by omega) _ (fun v h0 H => H)) (fun v1 h224 H => ?_)
  obtain ⟨rfl, pf227, pf228, pf229, pf230, pf231, pf232, pf233, pf234, pf235, pf236, pf237, hT225, hF226⟩ := H
  have hF238 := Fr_cp hF210 hF226 (by decide +kernel : Wsub Wp12 Wp12 = true)
  have e239 := fI_bd (q := 64) hT225 (tf hT225 rfl rfl) fd_8_86
  have e240 := fI_bd (q := 64) hT225 (tf hT225 rfl rfl) fd_8_87
  have e241 := fI_bd (q := 64) hT225 (tf hT225 rfl rfl) fd_8_88
  have e242 := fI_bd (q := 64) hT225 (tf hT225 rfl rfl) fd_8_90
  have e243 := fI_bd (q := 64) hT225 (tf hT225 rfl rfl) fd_8_93
  have e244 := fI_bd (q := 64) hT225 (tf hT225 rfl rfl) fd_8_91
  refine st_aload c260_98 rfl ?_
  refine st_getI c260_99 hT225 (tf hT225 rfl rfl) fd_8_90 (fun e245 e246 => ?_)
  refine st_if_ge c260_102 (by omega) (fun k247 => ?_) (fun k248 => ?_)
  refine st_return c260_114 ?_
  have fr249 : ∀ i : Int, 0 ≤ i → i < 220 * fI h 64 92 + fI h 64 93 → aI h224 129 i = aI h 129 i := fun i a b => ((pf235 i a (by omega))).trans (((Fr_aI hF181 (tf hT163 rfl rfl) (by decide +kernel) i)).trans ((Fr_aI hF164 (tf hT rfl rfl) (by decide +kernel) i)))
  have fr250 : ∀ i : Int, 0 ≤ i → i < 220 * fI h 64 92 + fI h 64 93 → aI h224 130 i = aI h 130 i := fun i a b => ((pf236 i a (by omega))).trans (((Fr_aI hF181 (tf hT163 rfl rfl) (by decide +kernel) i)).trans ((Fr_aI hF164 (tf hT rfl rfl) (by decide +kernel) i)))
  have e251 := fI_bd (q := 64) hT225 (tf hT225 rfl rfl) fd_8_92
  have q252 : fI h224 64 92 = fI h179 64 92 := Fr_fI hF226 (tf hT180 rfl rfl) (by decide +kernel)
  exact hQ _ _ ⟨rfl, by omega, by omega, by omega, by omega, by omega, by omega, by omega, by omega, fr249, fr250, (Or.inl (by omega)), hT225, hF238⟩
  refine st_aload c260_105 rfl ?_
  refine st_iconst c260_106 ?_
  have e254 := fI_bd (q := 64) hT225 (tf hT225 rfl rfl) fd_8_77
  have q255 : fI h224 64 77 = fI h179 64 77 := Fr_fI hF226 (tf hT180 rfl rfl) (by decide +kernel)
  refine st_callt (as := [vI 44]) c260_108 cm_256 hT225 (tf hT225 rfl rfl) fd_8_0 rfl rfl rfl rfl (by omega) (K256 hT225 (Stb_mono hS (by decide +kernel)) 44 (by omega) (by omega) (d - 1) (by omega) _ (fun v h0 H => H)) (fun v1 h256 H => ?_)
  rcases H with ⟨rfl, pf259, pf260, pf261, pf262, hT257, hF258⟩ | ⟨rfl, pf263, pf264, pf265, pf266, pf267, pf268, hT257, hF258⟩
  have hF269 := Fr_cp hF238 hF258 (by decide +kernel : Wsub W256 Wp12 = true)
  have e270 := fI_bd (q := 64) hT257 (tf hT257 rfl rfl) fd_8_90
  have e271 := fI_bd (q := 64) hT257 (tf hT257 rfl rfl) fd_8_86
  have e272 := fI_bd (q := 64) hT257 (tf hT257 rfl rfl) fd_8_87
  have e273 := fI_bd (q := 64) hT257 (tf hT257 rfl rfl) fd_8_88
  refine st_if_ne c260_111 (by omega) (fun k274 => False.elim (by omega)) (fun k275 => ?_)
  refine st_return c260_114 ?_
  have e276 := fI_bd (q := 64) hT257 (tf hT257 rfl rfl) fd_8_93
  have q277 : fI h256 64 93 = fI h224 64 93 := Fr_fI hF258 (tf hT225 rfl rfl) (by decide +kernel)
  have e278 := fI_bd (q := 64) hT257 (tf hT257 rfl rfl) fd_8_91
  have q279 : fI h256 64 91 = fI h224 64 91 := Fr_fI hF258 (tf hT225 rfl rfl) (by decide +kernel)
  have fr280 : ∀ i : Int, 0 ≤ i → i < 220 * fI h 64 92 + fI h 64 93 → aI h256 129 i = aI h 129 i := fun i a b => ((Fr_aI hF258 (tf hT225 rfl rfl) (by decide +kernel) i)).trans (((pf235 i a (by omega))).trans (((Fr_aI hF181 (tf hT163 rfl rfl) (by decide +kernel) i)).trans ((Fr_aI hF164 (tf hT rfl rfl) (by decide +kernel) i))))
  have fr281 : ∀ i : Int, 0 ≤ i → i < 220 * fI h 64 92 + fI h 64 93 → aI h256 130 i = aI h 130 i := fun i a b => ((Fr_aI hF258 (tf hT225 rfl rfl) (by decide +kernel) i)).trans (((pf236 i a (by omega))).trans (((Fr_aI hF181 (tf hT163 rfl rfl) (by decide +kernel) i)).trans ((Fr_aI hF164 (tf hT rfl rfl) (by decide +kernel) i))))
  have e282 := fI_bd (q := 64) hT257 (tf hT257 rfl rfl) fd_8_92
  have q283 : fI h256 64 92 = fI h179 64 92 := (Fr_fI hF258 (tf hT225 rfl rfl) (by decide +kernel)).trans (Fr_fI hF226 (tf hT180 rfl rfl) (by decide +kernel))
  exact hQ _ _ ⟨rfl, by omega, by omega, by omega, by omega, by omega, by omega, by omega, by omega, fr280, fr281, (Or.inl (by omega)), hT257, hF269⟩
  have hF285 := Fr_cp hF238 hF258 (by decide +kernel : Wsub W256 Wp12 = true)
  have e286 := fI_bd (q := 64) hT257 (tf hT257 rfl rfl) fd_8_90
  have e287 := fI_bd (q := 64) hT257 (tf hT257 rfl rfl) fd_8_86
  have e288 := fI_bd (q := 64) hT257 (tf hT257 rfl rfl) fd_8_87
  refine st_if_ne c260_111 (by omega) (fun k289 => ?_) (fun k290 => False.elim (by omega))
  refine st_aload c260_115 rfl ?_
  have e291 := fI_bd (q := 64) hT257 (tf hT257 rfl rfl) fd_8_77
  have q292 : fI h256 64 77 = fI h224 64 77 := Fr_fI hF258 (tf hT225 rfl rfl) (by decide +kernel)
  have e293 := fI_bd (q := 64) hT257 (tf hT257 rfl rfl) fd_8_93
  have q294 : fI h256 64 93 = fI h224 64 93 := Fr_fI hF258 (tf hT225 rfl rfl) (by decide +kernel)
  have e295 := fI_bd (q := 64) hT257 (tf hT257 rfl rfl) fd_8_91
  have q296 : fI h256 64 91 = fI h224 64 91 := Fr_fI hF258 (tf hT225 rfl rfl) (by decide +kernel)
  have e297 := fI_bd (q := 64) hT257 (tf hT257 rfl rfl) fd_8_92
  have q298 : fI h256 64 92 = fI h179 64 92 := (Fr_fI hF258 (tf hT225 rfl rfl) (by decide +kernel)).trans (Fr_fI hF226 (tf hT180 rfl rfl) (by decide +kernel))
  have e299 := fI_bd (q := 64) hT257 (tf hT257 rfl rfl) fd_8_88
  refine st_callt (as := []) c260_116 cm_262 hT257 (tf hT257 rfl rfl) fd_8_0 rfl rfl rfl rfl (by omega) ((pre5 (by omega)) hT257 (Stb_mono hS (by decide +kernel)) (by omega) (by omega) (by omega) (by omega) (by omega) (d - 1) (by omega) _ (fun v h0 H => H)) (fun v1 h300 H => ?_)
  obtain ⟨rfl, pf303, pf304, pf305, pf306, pf307, pf308, pf309, pf310, pf311, pf312, pf313, hT301, hF302⟩ := H
  have hF314 := Fr_cp hF285 hF302 (by decide +kernel : Wsub Wp12 Wp12 = true)
  have e315 := fI_bd (q := 64) hT301 (tf hT301 rfl rfl) fd_8_86
  have e316 := fI_bd (q := 64) hT301 (tf hT301 rfl rfl) fd_8_87
  have e317 := fI_bd (q := 64) hT301 (tf hT301 rfl rfl) fd_8_88
  have e318 := fI_bd (q := 64) hT301 (tf hT301 rfl rfl) fd_8_90
  have e319 := fI_bd (q := 64) hT301 (tf hT301 rfl rfl) fd_8_93
  have e320 := fI_bd (q := 64) hT301 (tf hT301 rfl rfl) fd_8_91
  refine st_aload c260_119 rfl ?_
  refine st_getI c260_120 hT301 (tf hT301 rfl rfl) fd_8_90 (fun e321 e322 => ?_)
  refine st_if_ge c260_123 (by omega) (fun k323 => ?_) (fun k324 => ?_)
  refine st_return c260_133 ?_
  have fr325 : ∀ i : Int, 0 ≤ i → i < 220 * fI h 64 92 + fI h 64 93 → aI h300 129 i = aI h 129 i := fun i a b => ((pf311 i a (by omega))).trans (((Fr_aI hF258 (tf hT225 rfl rfl) (by decide +kernel) i)).trans (((pf235 i a (by omega))).trans (((Fr_aI hF181 (tf hT163 rfl rfl) (by decide +kernel) i)).trans ((Fr_aI hF164 (tf hT rfl rfl) (by decide +kernel) i)))))
  have fr326 : ∀ i : Int, 0 ≤ i → i < 220 * fI h 64 92 + fI h 64 93 → aI h300 130 i = aI h 130 i := fun i a b => ((pf312 i a (by omega))).trans (((Fr_aI hF258 (tf hT225 rfl rfl) (by decide +kernel) i)).trans (((pf236 i a (by omega))).trans (((Fr_aI hF181 (tf hT163 rfl rfl) (by decide +kernel) i)).trans ((Fr_aI hF164 (tf hT rfl rfl) (by decide +kernel) i)))))
  have e327 := fI_bd (q := 64) hT301 (tf hT301 rfl rfl) fd_8_92
  have q328 : fI h300 64 92 = fI h256 64 92 := Fr_fI hF302 (tf hT257 rfl rfl) (by decide +kernel)
  exact hQ _ _ ⟨rfl, by omega, by omega, by omega, by omega, by omega, by omega, by omega, by omega, fr325, fr326, (Or.inl (by omega)), hT301, hF314⟩
  refine st_aload c260_126 rfl ?_
  have e330 := fI_bd (q := 64) hT301 (tf hT301 rfl rfl) fd_8_77
  have q331 : fI h300 64 77 = fI h256 64 77 := Fr_fI hF302 (tf hT257 rfl rfl) (by decide +kernel)
  refine st_callt (as := []) c260_127 cm_258 hT301 (tf hT301 rfl rfl) fd_8_0 rfl rfl rfl rfl (by omega) (K258 hT301 (Stb_mono hS (by decide +kernel)) (by omega) (by omega) (d - 1) (by omega) _ (fun v h0 H => H)) (fun v1 h332 H => ?_)
  rcases H with ⟨rfl, pf335, pf336, pf337, pf338, pf339, hT333, hF334⟩ | ⟨rfl, pf340, pf341, pf342, pf343, pf344, pf345, pf346, hT333, hF334⟩
  have hF347 := Fr_cp hF314 hF334 (by decide +kernel : Wsub W258 Wp12 = true)
  have e348 := fI_bd (q := 64) hT333 (tf hT333 rfl rfl) fd_8_90
  have e349 := fI_bd (q := 64) hT333 (tf hT333 rfl rfl) fd_8_91
  have e350 := fI_bd (q := 64) hT333 (tf hT333 rfl rfl) fd_8_86
  have e351 := fI_bd (q := 64) hT333 (tf hT333 rfl rfl) fd_8_87
  have e352 := fI_bd (q := 64) hT333 (tf hT333 rfl rfl) fd_8_88
  refine st_if_ne c260_130 (by omega) (fun k353 => False.elim (by omega)) (fun k354 => ?_)
  refine st_return c260_133 ?_
  have e355 := fI_bd (q := 64) hT333 (tf hT333 rfl rfl) fd_8_93
  have q356 : fI h332 64 93 = fI h300 64 93 := Fr_fI hF334 (tf hT301 rfl rfl) (by decide +kernel)
  have fr357 : ∀ i : Int, 0 ≤ i → i < 220 * fI h 64 92 + fI h 64 93 → aI h332 129 i = aI h 129 i := fun i a b => ((Fr_aI hF334 (tf hT301 rfl rfl) (by decide +kernel) i)).trans (((pf311 i a (by omega))).trans (((Fr_aI hF258 (tf hT225 rfl rfl) (by decide +kernel) i)).trans (((pf235 i a (by omega))).trans (((Fr_aI hF181 (tf hT163 rfl rfl) (by decide +kernel) i)).trans ((Fr_aI hF164 (tf hT rfl rfl) (by decide +kernel) i))))))
  have fr358 : ∀ i : Int, 0 ≤ i → i < 220 * fI h 64 92 + fI h 64 93 → aI h332 130 i = aI h 130 i := fun i a b => ((Fr_aI hF334 (tf hT301 rfl rfl) (by decide +kernel) i)).trans (((pf312 i a (by omega))).trans (((Fr_aI hF258 (tf hT225 rfl rfl) (by decide +kernel) i)).trans (((pf236 i a (by omega))).trans (((Fr_aI hF181 (tf hT163 rfl rfl) (by decide +kernel) i)).trans ((Fr_aI hF164 (tf hT rfl rfl) (by decide +kernel) i))))))
  have e359 := fI_bd (q := 64) hT333 (tf hT333 rfl rfl) fd_8_92
  have q360 : fI h332 64 92 = fI h256 64 92 := (Fr_fI hF334 (tf hT301 rfl rfl) (by decide +kernel)).trans (Fr_fI hF302 (tf hT257 rfl rfl) (by decide +kernel))
  exact hQ _ _ ⟨rfl, by omega, by omega, by omega, by omega, by omega, by omega, by omega, by omega, fr357, fr358, (Or.inl (by omega)), hT333, hF347⟩
  have hF362 := Fr_cp hF314 hF334 (by decide +kernel : Wsub W258 Wp12 = true)
  have e363 := fI_bd (q := 64) hT333 (tf hT333 rfl rfl) fd_8_90
  have e364 := fI_bd (q := 64) hT333 (tf hT333 rfl rfl) fd_8_91
  have e365 := fI_bd (q := 64) hT333 (tf hT333 rfl rfl) fd_8_86
  have e366 := fI_bd (q := 64) hT333 (tf hT333 rfl rfl) fd_8_87
  refine st_if_ne c260_130 (by omega) (fun k367 => ?_) (fun k368 => False.elim (by omega))
  refine st_aload c260_134 rfl ?_
  refine st_iload c260_135 rfl ?_
  refine st_iconst c260_136 ?_
  refine st_iconst c260_137 ?_
  have e369 := fI_bd (q := 64) hT333 (tf hT333 rfl rfl) fd_8_93
  have q370 : fI h332 64 93 = fI h300 64 93 := Fr_fI hF334 (tf hT301 rfl rfl) (by decide +kernel)
  have e371 := fI_bd (q := 64) hT333 (tf hT333 rfl rfl) fd_8_92
  have q372 : fI h332 64 92 = fI h256 64 92 := (Fr_fI hF334 (tf hT301 rfl rfl) (by decide +kernel)).trans (Fr_fI hF302 (tf hT257 rfl rfl) (by decide +kernel))
  refine st_callt (as := [vI 6, vI 0, vI 0]) c260_138 cm_255 hT333 (tf hT333 rfl rfl) fd_8_0 rfl rfl rfl rfl (by omega) (K255 hT333 (Stb_mono hS (by decide +kernel)) 6 (by omega) 0 (by omega) 0 (by omega) (by omega) (d - 1) (by omega) _ (fun v h0 H => H)) (fun v1 h373 H => ?_)
  obtain ⟨rfl, pf376, pf377, pf378, pf379, pf380, hT374, hF375⟩ := H
  have hF381 := Fr_cp hF362 hF375 (by decide +kernel : Wsub W255 Wp12 = true)
  have e382 := fI_bd (q := 64) hT374 (tf hT374 rfl rfl) fd_8_93
  refine st_return c260_141 ?_
  have e383 := fI_bd (q := 64) hT374 (tf hT374 rfl rfl) fd_8_86
  have q384 : fI h373 64 86 = fI h332 64 86 := Fr_fI hF375 (tf hT333 rfl rfl) (by decide +kernel)
  have e385 := fI_bd (q := 64) hT374 (tf hT374 rfl rfl) fd_8_87
  have q386 : fI h373 64 87 = fI h332 64 87 := Fr_fI hF375 (tf hT333 rfl rfl) (by decide +kernel)
  have e387 := fI_bd (q := 64) hT374 (tf hT374 rfl rfl) fd_8_88
  have q388 : fI h373 64 88 = fI h332 64 88 := Fr_fI hF375 (tf hT333 rfl rfl) (by decide +kernel)
  have e389 := fI_bd (q := 64) hT374 (tf hT374 rfl rfl) fd_8_90
  have q390 : fI h373 64 90 = fI h332 64 90 := Fr_fI hF375 (tf hT333 rfl rfl) (by decide +kernel)
  have e391 := fI_bd (q := 64) hT374 (tf hT374 rfl rfl) fd_8_91
  have q392 : fI h373 64 91 = fI h332 64 91 := Fr_fI hF375 (tf hT333 rfl rfl) (by decide +kernel)
  have fr393 : ∀ i : Int, 0 ≤ i → i < 220 * fI h 64 92 + fI h 64 93 → aI h373 129 i = aI h 129 i := fun i a b => ((pf379 i a (by omega))).trans (((Fr_aI hF334 (tf hT301 rfl rfl) (by decide +kernel) i)).trans (((pf311 i a (by omega))).trans (((Fr_aI hF258 (tf hT225 rfl rfl) (by decide +kernel) i)).trans (((pf235 i a (by omega))).trans (((Fr_aI hF181 (tf hT163 rfl rfl) (by decide +kernel) i)).trans ((Fr_aI hF164 (tf hT rfl rfl) (by decide +kernel) i)))))))
  have fr394 : ∀ i : Int, 0 ≤ i → i < 220 * fI h 64 92 + fI h 64 93 → aI h373 130 i = aI h 130 i := fun i a b => ((pf380 i a (by omega))).trans (((Fr_aI hF334 (tf hT301 rfl rfl) (by decide +kernel) i)).trans (((pf312 i a (by omega))).trans (((Fr_aI hF258 (tf hT225 rfl rfl) (by decide +kernel) i)).trans (((pf236 i a (by omega))).trans (((Fr_aI hF181 (tf hT163 rfl rfl) (by decide +kernel) i)).trans ((Fr_aI hF164 (tf hT rfl rfl) (by decide +kernel) i)))))))
  have e395 := fI_bd (q := 64) hT374 (tf hT374 rfl rfl) fd_8_92
  have q396 : fI h373 64 92 = fI h332 64 92 := Fr_fI hF375 (tf hT333 rfl rfl) (by decide +kernel)
  have g398 := (pf237).resolve_left (by omega)
  have fr399 : ∀ i : Int, 0 ≤ i → i < 220 * fI h179 64 92 + fI h179 64 93 + (fI h224 64 93 - fI h179 64 93) → aI h373 129 i = aI h224 129 i := fun i a b => ((pf379 i a (by omega))).trans (((Fr_aI hF334 (tf hT301 rfl rfl) (by decide +kernel) i)).trans (((pf311 i a (by omega))).trans ((Fr_aI hF258 (tf hT225 rfl rfl) (by decide +kernel) i))))
  have fr400 : ∀ i : Int, 0 ≤ i → i < 220 * fI h179 64 92 + fI h179 64 93 + (fI h224 64 93 - fI h179 64 93) → aI h373 130 i = aI h224 130 i := fun i a b => ((pf380 i a (by omega))).trans (((Fr_aI hF334 (tf hT301 rfl rfl) (by decide +kernel) i)).trans (((pf312 i a (by omega))).trans ((Fr_aI hF258 (tf hT225 rfl rfl) (by decide +kernel) i))))
  have g401 : Sg h373 (220 * fI h179 64 92 + fI h179 64 93) (fI h224 64 93 - fI h179 64 93) := Sg_mv g398 (fun i a b => ⟨fr399 i (by omega) (by omega), fr400 i (by omega) (by omega)⟩)
  have g402 := (pf313).resolve_left (by omega)
  have fr403 : ∀ i : Int, 0 ≤ i → i < 220 * fI h256 64 92 + fI h256 64 93 + (fI h300 64 93 - fI h256 64 93) → aI h373 129 i = aI h300 129 i := fun i a b => ((pf379 i a (by omega))).trans ((Fr_aI hF334 (tf hT301 rfl rfl) (by decide +kernel) i))
  have fr404 : ∀ i : Int, 0 ≤ i → i < 220 * fI h256 64 92 + fI h256 64 93 + (fI h300 64 93 - fI h256 64 93) → aI h373 130 i = aI h300 130 i := fun i a b => ((pf380 i a (by omega))).trans ((Fr_aI hF334 (tf hT301 rfl rfl) (by decide +kernel) i))
  have g405 : Sg h373 (220 * fI h256 64 92 + fI h256 64 93) (fI h300 64 93 - fI h256 64 93) := Sg_mv g402 (fun i a b => ⟨fr403 i (by omega) (by omega), fr404 i (by omega) (by omega)⟩)
  have a1 : aI h373 129 (220 * fI h332 64 92 + fI h332 64 93) = 6 := (rfl).trans pf377
  have k1 : Sg h373 (220 * fI h 64 92 + fI h 64 93) (fI h224 64 93 - fI h179 64 93) := by rw [show 220 * fI h 64 92 + fI h 64 93 = 220 * fI h179 64 92 + fI h179 64 93 by omega]; exact g401
  have k2 : Sg h373 (220 * fI h 64 92 + fI h 64 93 + (fI h224 64 93 - fI h179 64 93)) (fI h300 64 93 - fI h256 64 93) := by rw [show 220 * fI h 64 92 + fI h 64 93 + (fI h224 64 93 - fI h179 64 93) = 220 * fI h256 64 92 + fI h256 64 93 by omega]; exact g405
  have sg397 : 0 ≤ fI h373 64 90 ∨ Sg h373 (220 * fI h 64 92 + fI h 64 93) (fI h373 64 93 - fI h 64 93) := Or.inr (by
    rw [show fI h373 64 93 - fI h 64 93 = (fI h224 64 93 - fI h179 64 93) + (fI h300 64 93 - fI h256 64 93) + 1 by omega]
    exact Sg_op k1 k2 (by rw [show 220 * fI h 64 92 + fI h 64 93 + (fI h224 64 93 - fI h179 64 93) + (fI h300 64 93 - fI h256 64 93) = 220 * fI h332 64 92 + fI h332 64 93 by omega, a1]; omega))
  exact hQ _ _ ⟨rfl, by omega, by omega, by omega, by omega, by omega, by omega, by omega, by omega, fr393, fr394, sg397, hT374, hF381⟩
  refine st_if_eq c260_72 (by omega) (fun k406 => False.elim (by omega)) (fun k407 => ?_)
  refine st_iconst c260_75 ?_
  refine st_goto c260_76 ?_
  refine st_istore (L' := [some (.ref 64), some (vI 5)]) c260_81 rfl rfl ?_
  refine st_aload c260_82 rfl ?_
  have e408 := fI_bd (q := 64) hT (tf hT rfl rfl) fd_8_87
  have e409 := fI_bd (q := 64) hT (tf hT rfl rfl) fd_8_77
  refine st_callt (as := []) c260_83 cm_252 hT (tf hT rfl rfl) fd_8_0 rfl rfl rfl rfl (by omega) (K252 hT (Stb_mono hS (by decide +kernel)) (by omega) (d - 1) (by omega) _ (fun v h0 H => H)) (fun v1 h410 H => ?_)
  obtain ⟨rfl, pf413, pf414, pf415, pf416, hT411, hF412⟩ := H
  have hF417 := Fr_cp hF hF412 (by decide +kernel : Wsub W252 Wp12 = true)
  have e418 := fI_bd (q := 64) hT411 (tf hT411 rfl rfl) fd_8_86
  have e419 := fI_bd (q := 64) hT411 (tf hT411 rfl rfl) fd_8_87
  have e420 := fI_bd (q := 64) hT411 (tf hT411 rfl rfl) fd_8_88
  refine st_aload c260_86 rfl ?_
  have e421 := fI_bd (q := 64) hT411 (tf hT411 rfl rfl) fd_8_91
  have q422 : fI h410 64 91 = fI h 64 91 := Fr_fI hF412 (tf hT rfl rfl) (by decide +kernel)
  have e423 := fI_bd (q := 64) hT411 (tf hT411 rfl rfl) fd_8_90
  have q424 : fI h410 64 90 = fI h 64 90 := Fr_fI hF412 (tf hT rfl rfl) (by decide +kernel)
  have e425 := fI_bd (q := 64) hT411 (tf hT411 rfl rfl) fd_8_77
  have q426 : fI h410 64 77 = fI h 64 77 := Fr_fI hF412 (tf hT rfl rfl) (by decide +kernel)
  refine st_callt (as := []) c260_87 cm_257 hT411 (tf hT411 rfl rfl) fd_8_0 rfl rfl rfl rfl (by omega) (K257 hT411 (Stb_mono hS (by decide +kernel)) (by omega) (d - 1) (by omega) _ (fun v h0 H => H)) (fun v1 h427 H => ?_)
  rcases H with ⟨rfl, pf430, pf431, pf432, pf433, pf434, hT428, hF429⟩ | ⟨rfl, pf435, pf436, pf437, pf438, pf439, pf440, pf441, pf442, hT428, hF429⟩
  have hF443 := Fr_cp hF417 hF429 (by decide +kernel : Wsub W257 Wp12 = true)
  have e444 := fI_bd (q := 64) hT428 (tf hT428 rfl rfl) fd_8_90
  have e445 := fI_bd (q := 64) hT428 (tf hT428 rfl rfl) fd_8_91
  have e446 := fI_bd (q := 64) hT428 (tf hT428 rfl rfl) fd_8_86
  have e447 := fI_bd (q := 64) hT428 (tf hT428 rfl rfl) fd_8_87
  have e448 := fI_bd (q := 64) hT428 (tf hT428 rfl rfl) fd_8_88
  refine st_if_ne c260_90 (by omega) (fun k449 => False.elim (by omega)) (fun k450 => ?_)
  refine st_return c260_93 ?_
  have e451 := fI_bd (q := 64) hT428 (tf hT428 rfl rfl) fd_8_93
  have q452 : fI h427 64 93 = fI h 64 93 := (Fr_fI hF429 (tf hT411 rfl rfl) (by decide +kernel)).trans (Fr_fI hF412 (tf hT rfl rfl) (by decide +kernel))
  have fr453 : ∀ i : Int, 0 ≤ i → i < 220 * fI h 64 92 + fI h 64 93 → aI h427 129 i = aI h 129 i := fun i a b => ((Fr_aI hF429 (tf hT411 rfl rfl) (by decide +kernel) i)).trans ((Fr_aI hF412 (tf hT rfl rfl) (by decide +kernel) i))
  have fr454 : ∀ i : Int, 0 ≤ i → i < 220 * fI h 64 92 + fI h 64 93 → aI h427 130 i = aI h 130 i := fun i a b => ((Fr_aI hF429 (tf hT411 rfl rfl) (by decide +kernel) i)).trans ((Fr_aI hF412 (tf hT rfl rfl) (by decide +kernel) i))
  have e455 := fI_bd (q := 64) hT428 (tf hT428 rfl rfl) fd_8_92
  have q456 : fI h427 64 92 = fI h 64 92 := (Fr_fI hF429 (tf hT411 rfl rfl) (by decide +kernel)).trans (Fr_fI hF412 (tf hT rfl rfl) (by decide +kernel))
  exact hQ _ _ ⟨rfl, by omega, by omega, by omega, by omega, by omega, by omega, by omega, by omega, fr453, fr454, (Or.inl (by omega)), hT428, hF443⟩
  have hF458 := Fr_cp hF417 hF429 (by decide +kernel : Wsub W257 Wp12 = true)
  have e459 := fI_bd (q := 64) hT428 (tf hT428 rfl rfl) fd_8_90
  have e460 := fI_bd (q := 64) hT428 (tf hT428 rfl rfl) fd_8_91
  have e461 := fI_bd (q := 64) hT428 (tf hT428 rfl rfl) fd_8_86
  have e462 := fI_bd (q := 64) hT428 (tf hT428 rfl rfl) fd_8_87
  refine st_if_ne c260_90 (by omega) (fun k463 => ?_) (fun k464 => False.elim (by omega))
  refine st_aload c260_94 rfl ?_
  have e465 := fI_bd (q := 64) hT428 (tf hT428 rfl rfl) fd_8_77
  have q466 : fI h427 64 77 = fI h410 64 77 := Fr_fI hF429 (tf hT411 rfl rfl) (by decide +kernel)
  have e467 := fI_bd (q := 64) hT428 (tf hT428 rfl rfl) fd_8_93
  have q468 : fI h427 64 93 = fI h 64 93 := (Fr_fI hF429 (tf hT411 rfl rfl) (by decide +kernel)).trans (Fr_fI hF412 (tf hT rfl rfl) (by decide +kernel))
  have e469 := fI_bd (q := 64) hT428 (tf hT428 rfl rfl) fd_8_92
  have q470 : fI h427 64 92 = fI h 64 92 := (Fr_fI hF429 (tf hT411 rfl rfl) (by decide +kernel)).trans (Fr_fI hF412 (tf hT rfl rfl) (by decide +kernel))
  have e471 := fI_bd (q := 64) hT428 (tf hT428 rfl rfl) fd_8_88
  refine st_callt (as := []) c260_95 cm_262 hT428 (tf hT428 rfl rfl) fd_8_0 rfl rfl rfl rfl (by omega) ((pre5 (by omega)) hT428 (Stb_mono hS (by decide +kernel)) (by omega) (by omega) (by omega) (by omega) (by omega) (d - 1) (by omega) _ (fun v h0 H => H)) (fun v1 h472 H => ?_)
  obtain ⟨rfl, pf475, pf476, pf477, pf478, pf479, pf480, pf481, pf482, pf483, pf484, pf485, hT473, hF474⟩ := H
  have hF486 := Fr_cp hF458 hF474 (by decide +kernel : Wsub Wp12 Wp12 = true)
  have e487 := fI_bd (q := 64) hT473 (tf hT473 rfl rfl) fd_8_86
  have e488 := fI_bd (q := 64) hT473 (tf hT473 rfl rfl) fd_8_87
  have e489 := fI_bd (q := 64) hT473 (tf hT473 rfl rfl) fd_8_88
  have e490 := fI_bd (q := 64) hT473 (tf hT473 rfl rfl) fd_8_90
  have e491 := fI_bd (q := 64) hT473 (tf hT473 rfl rfl) fd_8_93
  have e492 := fI_bd (q := 64) hT473 (tf hT473 rfl rfl) fd_8_91
  refine st_aload c260_98 rfl ?_
  refine st_getI c260_99 hT473 (tf hT473 rfl rfl) fd_8_90 (fun e493 e494 => ?_)
  refine st_if_ge c260_102 (by omega) (fun k495 => ?_) (fun k496 => ?_)
  refine st_return c260_114 ?_
  have fr497 : ∀ i : Int, 0 ≤ i → i < 220 * fI h 64 92 + fI h 64 93 → aI h472 129 i = aI h 129 i := fun i a b => ((pf483 i a (by omega))).trans (((Fr_aI hF429 (tf hT411 rfl rfl) (by decide +kernel) i)).trans ((Fr_aI hF412 (tf hT rfl rfl) (by decide +kernel) i)))
  have fr498 : ∀ i : Int, 0 ≤ i → i < 220 * fI h 64 92 + fI h 64 93 → aI h472 130 i = aI h 130 i := fun i a b => ((pf484 i a (by omega))).trans (((Fr_aI hF429 (tf hT411 rfl rfl) (by decide +kernel) i)).trans ((Fr_aI hF412 (tf hT rfl rfl) (by decide +kernel) i)))
  have e499 := fI_bd (q := 64) hT473 (tf hT473 rfl rfl) fd_8_92
  have q500 : fI h472 64 92 = fI h427 64 92 := Fr_fI hF474 (tf hT428 rfl rfl) (by decide +kernel)
  exact hQ _ _ ⟨rfl, by omega, by omega, by omega, by omega, by omega, by omega, by omega, by omega, fr497, fr498, (Or.inl (by omega)), hT473, hF486⟩
  refine st_aload c260_105 rfl ?_
  refine st_iconst c260_106 ?_
  have e502 := fI_bd (q := 64) hT473 (tf hT473 rfl rfl) fd_8_77
  have q503 : fI h472 64 77 = fI h427 64 77 := Fr_fI hF474 (tf hT428 rfl rfl) (by decide +kernel)
  refine st_callt (as := [vI 44]) c260_108 cm_256 hT473 (tf hT473 rfl rfl) fd_8_0 rfl rfl rfl rfl (by omega) (K256 hT473 (Stb_mono hS (by decide +kernel)) 44 (by omega) (by omega) (d - 1) (by omega) _ (fun v h0 H => H)) (fun v1 h504 H => ?_)
  rcases H with ⟨rfl, pf507, pf508, pf509, pf510, hT505, hF506⟩ | ⟨rfl, pf511, pf512, pf513, pf514, pf515, pf516, hT505, hF506⟩
  have hF517 := Fr_cp hF486 hF506 (by decide +kernel : Wsub W256 Wp12 = true)
  have e518 := fI_bd (q := 64) hT505 (tf hT505 rfl rfl) fd_8_90
  have e519 := fI_bd (q := 64) hT505 (tf hT505 rfl rfl) fd_8_86
  have e520 := fI_bd (q := 64) hT505 (tf hT505 rfl rfl) fd_8_87
  have e521 := fI_bd (q := 64) hT505 (tf hT505 rfl rfl) fd_8_88
  refine st_if_ne c260_111 (by omega) (fun k522 => False.elim (by omega)) (fun k523 => ?_)
  refine st_return c260_114 ?_
  have e524 := fI_bd (q := 64) hT505 (tf hT505 rfl rfl) fd_8_93
  have q525 : fI h504 64 93 = fI h472 64 93 := Fr_fI hF506 (tf hT473 rfl rfl) (by decide +kernel)
  have e526 := fI_bd (q := 64) hT505 (tf hT505 rfl rfl) fd_8_91
  have q527 : fI h504 64 91 = fI h472 64 91 := Fr_fI hF506 (tf hT473 rfl rfl) (by decide +kernel)
  have fr528 : ∀ i : Int, 0 ≤ i → i < 220 * fI h 64 92 + fI h 64 93 → aI h504 129 i = aI h 129 i := fun i a b => ((Fr_aI hF506 (tf hT473 rfl rfl) (by decide +kernel) i)).trans (((pf483 i a (by omega))).trans (((Fr_aI hF429 (tf hT411 rfl rfl) (by decide +kernel) i)).trans ((Fr_aI hF412 (tf hT rfl rfl) (by decide +kernel) i))))
  have fr529 : ∀ i : Int, 0 ≤ i → i < 220 * fI h 64 92 + fI h 64 93 → aI h504 130 i = aI h 130 i := fun i a b => ((Fr_aI hF506 (tf hT473 rfl rfl) (by decide +kernel) i)).trans (((pf484 i a (by omega))).trans (((Fr_aI hF429 (tf hT411 rfl rfl) (by decide +kernel) i)).trans ((Fr_aI hF412 (tf hT rfl rfl) (by decide +kernel) i))))
  have e530 := fI_bd (q := 64) hT505 (tf hT505 rfl rfl) fd_8_92
  have q531 : fI h504 64 92 = fI h427 64 92 := (Fr_fI hF506 (tf hT473 rfl rfl) (by decide +kernel)).trans (Fr_fI hF474 (tf hT428 rfl rfl) (by decide +kernel))
  exact hQ _ _ ⟨rfl, by omega, by omega, by omega, by omega, by omega, by omega, by omega, by omega, fr528, fr529, (Or.inl (by omega)), hT505, hF517⟩
  have hF533 := Fr_cp hF486 hF506 (by decide +kernel : Wsub W256 Wp12 = true)
  have e534 := fI_bd (q := 64) hT505 (tf hT505 rfl rfl) fd_8_90
  have e535 := fI_bd (q := 64) hT505 (tf hT505 rfl rfl) fd_8_86
  have e536 := fI_bd (q := 64) hT505 (tf hT505 rfl rfl) fd_8_87
  refine st_if_ne c260_111 (by omega) (fun k537 => ?_) (fun k538 => False.elim (by omega))
  refine st_aload c260_115 rfl ?_
  have e539 := fI_bd (q := 64) hT505 (tf hT505 rfl rfl) fd_8_77
  have q540 : fI h504 64 77 = fI h472 64 77 := Fr_fI hF506 (tf hT473 rfl rfl) (by decide +kernel)
  have e541 := fI_bd (q := 64) hT505 (tf hT505 rfl rfl) fd_8_93
  have q542 : fI h504 64 93 = fI h472 64 93 := Fr_fI hF506 (tf hT473 rfl rfl) (by decide +kernel)
  have e543 := fI_bd (q := 64) hT505 (tf hT505 rfl rfl) fd_8_91
  have q544 : fI h504 64 91 = fI h472 64 91 := Fr_fI hF506 (tf hT473 rfl rfl) (by decide +kernel)
  have e545 := fI_bd (q := 64) hT505 (tf hT505 rfl rfl) fd_8_92
  have q546 : fI h504 64 92 = fI h427 64 92 := (Fr_fI hF506 (tf hT473 rfl rfl) (by decide +kernel)).trans (Fr_fI hF474 (tf hT428 rfl rfl) (by decide +kernel))
  have e547 := fI_bd (q := 64) hT505 (tf hT505 rfl rfl) fd_8_88
  refine st_callt (as := []) c260_116 cm_262 hT505 (tf hT505 rfl rfl) fd_8_0 rfl rfl rfl rfl (by omega) ((pre5 (by omega)) hT505 (Stb_mono hS (by decide +kernel)) (by omega) (by omega) (by omega) (by omega) (by omega) (d - 1) (by omega) _ (fun v h0 H => H)) (fun v1 h548 H => ?_)
  obtain ⟨rfl, pf551, pf552, pf553, pf554, pf555, pf556, pf557, pf558, pf559, pf560, pf561, hT549, hF550⟩ := H
  have hF562 := Fr_cp hF533 hF550 (by decide +kernel : Wsub Wp12 Wp12 = true)
  have e563 := fI_bd (q := 64) hT549 (tf hT549 rfl rfl) fd_8_86
  have e564 := fI_bd (q := 64) hT549 (tf hT549 rfl rfl) fd_8_87
  have e565 := fI_bd (q := 64) hT549 (tf hT549 rfl rfl) fd_8_88
  have e566 := fI_bd (q := 64) hT549 (tf hT549 rfl rfl) fd_8_90
  have e567 := fI_bd (q := 64) hT549 (tf hT549 rfl rfl) fd_8_93
  have e568 := fI_bd (q := 64) hT549 (tf hT549 rfl rfl) fd_8_91
  refine st_aload c260_119 rfl ?_
  refine st_getI c260_120 hT549 (tf hT549 rfl rfl) fd_8_90 (fun e569 e570 => ?_)
  refine st_if_ge c260_123 (by omega) (fun k571 => ?_) (fun k572 => ?_)
  refine st_return c260_133 ?_
  have fr573 : ∀ i : Int, 0 ≤ i → i < 220 * fI h 64 92 + fI h 64 93 → aI h548 129 i = aI h 129 i := fun i a b => ((pf559 i a (by omega))).trans (((Fr_aI hF506 (tf hT473 rfl rfl) (by decide +kernel) i)).trans (((pf483 i a (by omega))).trans (((Fr_aI hF429 (tf hT411 rfl rfl) (by decide +kernel) i)).trans ((Fr_aI hF412 (tf hT rfl rfl) (by decide +kernel) i)))))
  have fr574 : ∀ i : Int, 0 ≤ i → i < 220 * fI h 64 92 + fI h 64 93 → aI h548 130 i = aI h 130 i := fun i a b => ((pf560 i a (by omega))).trans (((Fr_aI hF506 (tf hT473 rfl rfl) (by decide +kernel) i)).trans (((pf484 i a (by omega))).trans (((Fr_aI hF429 (tf hT411 rfl rfl) (by decide +kernel) i)).trans ((Fr_aI hF412 (tf hT rfl rfl) (by decide +kernel) i)))))
  have e575 := fI_bd (q := 64) hT549 (tf hT549 rfl rfl) fd_8_92
  have q576 : fI h548 64 92 = fI h504 64 92 := Fr_fI hF550 (tf hT505 rfl rfl) (by decide +kernel)
  exact hQ _ _ ⟨rfl, by omega, by omega, by omega, by omega, by omega, by omega, by omega, by omega, fr573, fr574, (Or.inl (by omega)), hT549, hF562⟩
  refine st_aload c260_126 rfl ?_
  have e578 := fI_bd (q := 64) hT549 (tf hT549 rfl rfl) fd_8_77
  have q579 : fI h548 64 77 = fI h504 64 77 := Fr_fI hF550 (tf hT505 rfl rfl) (by decide +kernel)
  refine st_callt (as := []) c260_127 cm_258 hT549 (tf hT549 rfl rfl) fd_8_0 rfl rfl rfl rfl (by omega) (K258 hT549 (Stb_mono hS (by decide +kernel)) (by omega) (by omega) (d - 1) (by omega) _ (fun v h0 H => H)) (fun v1 h580 H => ?_)
  rcases H with ⟨rfl, pf583, pf584, pf585, pf586, pf587, hT581, hF582⟩ | ⟨rfl, pf588, pf589, pf590, pf591, pf592, pf593, pf594, hT581, hF582⟩
  have hF595 := Fr_cp hF562 hF582 (by decide +kernel : Wsub W258 Wp12 = true)
  have e596 := fI_bd (q := 64) hT581 (tf hT581 rfl rfl) fd_8_90
  have e597 := fI_bd (q := 64) hT581 (tf hT581 rfl rfl) fd_8_91
  have e598 := fI_bd (q := 64) hT581 (tf hT581 rfl rfl) fd_8_86
  have e599 := fI_bd (q := 64) hT581 (tf hT581 rfl rfl) fd_8_87
  have e600 := fI_bd (q := 64) hT581 (tf hT581 rfl rfl) fd_8_88
  refine st_if_ne c260_130 (by omega) (fun k601 => False.elim (by omega)) (fun k602 => ?_)
  refine st_return c260_133 ?_
  have e603 := fI_bd (q := 64) hT581 (tf hT581 rfl rfl) fd_8_93
  have q604 : fI h580 64 93 = fI h548 64 93 := Fr_fI hF582 (tf hT549 rfl rfl) (by decide +kernel)
  have fr605 : ∀ i : Int, 0 ≤ i → i < 220 * fI h 64 92 + fI h 64 93 → aI h580 129 i = aI h 129 i := fun i a b => ((Fr_aI hF582 (tf hT549 rfl rfl) (by decide +kernel) i)).trans (((pf559 i a (by omega))).trans (((Fr_aI hF506 (tf hT473 rfl rfl) (by decide +kernel) i)).trans (((pf483 i a (by omega))).trans (((Fr_aI hF429 (tf hT411 rfl rfl) (by decide +kernel) i)).trans ((Fr_aI hF412 (tf hT rfl rfl) (by decide +kernel) i))))))
  have fr606 : ∀ i : Int, 0 ≤ i → i < 220 * fI h 64 92 + fI h 64 93 → aI h580 130 i = aI h 130 i := fun i a b => ((Fr_aI hF582 (tf hT549 rfl rfl) (by decide +kernel) i)).trans (((pf560 i a (by omega))).trans (((Fr_aI hF506 (tf hT473 rfl rfl) (by decide +kernel) i)).trans (((pf484 i a (by omega))).trans (((Fr_aI hF429 (tf hT411 rfl rfl) (by decide +kernel) i)).trans ((Fr_aI hF412 (tf hT rfl rfl) (by decide +kernel) i))))))
  have e607 := fI_bd (q := 64) hT581 (tf hT581 rfl rfl) fd_8_92
  have q608 : fI h580 64 92 = fI h504 64 92 := (Fr_fI hF582 (tf hT549 rfl rfl) (by decide +kernel)).trans (Fr_fI hF550 (tf hT505 rfl rfl) (by decide +kernel))
  exact hQ _ _ ⟨rfl, by omega, by omega, by omega, by omega, by omega, by omega, by omega, by omega, fr605, fr606, (Or.inl (by omega)), hT581, hF595⟩
  have hF610 := Fr_cp hF562 hF582 (by decide +kernel : Wsub W258 Wp12 = true)
  have e611 := fI_bd (q := 64) hT581 (tf hT581 rfl rfl) fd_8_90
  have e612 := fI_bd (q := 64) hT581 (tf hT581 rfl rfl) fd_8_91
  have e613 := fI_bd (q := 64) hT581 (tf hT581 rfl rfl) fd_8_86
  have e614 := fI_bd (q := 64) hT581 (tf hT581 rfl rfl) fd_8_87
  refine st_if_ne c260_130 (by omega) (fun k615 => ?_) (fun k616 => False.elim (by omega))
  refine st_aload c260_134 rfl ?_
  refine st_iload c260_135 rfl ?_
  refine st_iconst c260_136 ?_
  refine st_iconst c260_137 ?_
  have e617 := fI_bd (q := 64) hT581 (tf hT581 rfl rfl) fd_8_93
  have q618 : fI h580 64 93 = fI h548 64 93 := Fr_fI hF582 (tf hT549 rfl rfl) (by decide +kernel)
  have e619 := fI_bd (q := 64) hT581 (tf hT581 rfl rfl) fd_8_92
  have q620 : fI h580 64 92 = fI h504 64 92 := (Fr_fI hF582 (tf hT549 rfl rfl) (by decide +kernel)).trans (Fr_fI hF550 (tf hT505 rfl rfl) (by decide +kernel))
  refine st_callt (as := [vI 5, vI 0, vI 0]) c260_138 cm_255 hT581 (tf hT581 rfl rfl) fd_8_0 rfl rfl rfl rfl (by omega) (K255 hT581 (Stb_mono hS (by decide +kernel)) 5 (by omega) 0 (by omega) 0 (by omega) (by omega) (d - 1) (by omega) _ (fun v h0 H => H)) (fun v1 h621 H => ?_)
  obtain ⟨rfl, pf624, pf625, pf626, pf627, pf628, hT622, hF623⟩ := H
  have hF629 := Fr_cp hF610 hF623 (by decide +kernel : Wsub W255 Wp12 = true)
  have e630 := fI_bd (q := 64) hT622 (tf hT622 rfl rfl) fd_8_93
  refine st_return c260_141 ?_
  have e631 := fI_bd (q := 64) hT622 (tf hT622 rfl rfl) fd_8_86
  have q632 : fI h621 64 86 = fI h580 64 86 := Fr_fI hF623 (tf hT581 rfl rfl) (by decide +kernel)
  have e633 := fI_bd (q := 64) hT622 (tf hT622 rfl rfl) fd_8_87
  have q634 : fI h621 64 87 = fI h580 64 87 := Fr_fI hF623 (tf hT581 rfl rfl) (by decide +kernel)
  have e635 := fI_bd (q := 64) hT622 (tf hT622 rfl rfl) fd_8_88
  have q636 : fI h621 64 88 = fI h580 64 88 := Fr_fI hF623 (tf hT581 rfl rfl) (by decide +kernel)
  have e637 := fI_bd (q := 64) hT622 (tf hT622 rfl rfl) fd_8_90
  have q638 : fI h621 64 90 = fI h580 64 90 := Fr_fI hF623 (tf hT581 rfl rfl) (by decide +kernel)
  have e639 := fI_bd (q := 64) hT622 (tf hT622 rfl rfl) fd_8_91
  have q640 : fI h621 64 91 = fI h580 64 91 := Fr_fI hF623 (tf hT581 rfl rfl) (by decide +kernel)
  have fr641 : ∀ i : Int, 0 ≤ i → i < 220 * fI h 64 92 + fI h 64 93 → aI h621 129 i = aI h 129 i := fun i a b => ((pf627 i a (by omega))).trans (((Fr_aI hF582 (tf hT549 rfl rfl) (by decide +kernel) i)).trans (((pf559 i a (by omega))).trans (((Fr_aI hF506 (tf hT473 rfl rfl) (by decide +kernel) i)).trans (((pf483 i a (by omega))).trans (((Fr_aI hF429 (tf hT411 rfl rfl) (by decide +kernel) i)).trans ((Fr_aI hF412 (tf hT rfl rfl) (by decide +kernel) i)))))))
  have fr642 : ∀ i : Int, 0 ≤ i → i < 220 * fI h 64 92 + fI h 64 93 → aI h621 130 i = aI h 130 i := fun i a b => ((pf628 i a (by omega))).trans (((Fr_aI hF582 (tf hT549 rfl rfl) (by decide +kernel) i)).trans (((pf560 i a (by omega))).trans (((Fr_aI hF506 (tf hT473 rfl rfl) (by decide +kernel) i)).trans (((pf484 i a (by omega))).trans (((Fr_aI hF429 (tf hT411 rfl rfl) (by decide +kernel) i)).trans ((Fr_aI hF412 (tf hT rfl rfl) (by decide +kernel) i)))))))
  have e643 := fI_bd (q := 64) hT622 (tf hT622 rfl rfl) fd_8_92
  have q644 : fI h621 64 92 = fI h580 64 92 := Fr_fI hF623 (tf hT581 rfl rfl) (by decide +kernel)
  have g646 := (pf485).resolve_left (by omega)
  have fr647 : ∀ i : Int, 0 ≤ i → i < 220 * fI h427 64 92 + fI h427 64 93 + (fI h472 64 93 - fI h427 64 93) → aI h621 129 i = aI h472 129 i := fun i a b => ((pf627 i a (by omega))).trans (((Fr_aI hF582 (tf hT549 rfl rfl) (by decide +kernel) i)).trans (((pf559 i a (by omega))).trans ((Fr_aI hF506 (tf hT473 rfl rfl) (by decide +kernel) i))))
  have fr648 : ∀ i : Int, 0 ≤ i → i < 220 * fI h427 64 92 + fI h427 64 93 + (fI h472 64 93 - fI h427 64 93) → aI h621 130 i = aI h472 130 i := fun i a b => ((pf628 i a (by omega))).trans (((Fr_aI hF582 (tf hT549 rfl rfl) (by decide +kernel) i)).trans (((pf560 i a (by omega))).trans ((Fr_aI hF506 (tf hT473 rfl rfl) (by decide +kernel) i))))
  have g649 : Sg h621 (220 * fI h427 64 92 + fI h427 64 93) (fI h472 64 93 - fI h427 64 93) := Sg_mv g646 (fun i a b => ⟨fr647 i (by omega) (by omega), fr648 i (by omega) (by omega)⟩)
  have g650 := (pf561).resolve_left (by omega)
  have fr651 : ∀ i : Int, 0 ≤ i → i < 220 * fI h504 64 92 + fI h504 64 93 + (fI h548 64 93 - fI h504 64 93) → aI h621 129 i = aI h548 129 i := fun i a b => ((pf627 i a (by omega))).trans ((Fr_aI hF582 (tf hT549 rfl rfl) (by decide +kernel) i))
  have fr652 : ∀ i : Int, 0 ≤ i → i < 220 * fI h504 64 92 + fI h504 64 93 + (fI h548 64 93 - fI h504 64 93) → aI h621 130 i = aI h548 130 i := fun i a b => ((pf628 i a (by omega))).trans ((Fr_aI hF582 (tf hT549 rfl rfl) (by decide +kernel) i))
  have g653 : Sg h621 (220 * fI h504 64 92 + fI h504 64 93) (fI h548 64 93 - fI h504 64 93) := Sg_mv g650 (fun i a b => ⟨fr651 i (by omega) (by omega), fr652 i (by omega) (by omega)⟩)
  have a1 : aI h621 129 (220 * fI h580 64 92 + fI h580 64 93) = 5 := (rfl).trans pf625
  have k1 : Sg h621 (220 * fI h 64 92 + fI h 64 93) (fI h472 64 93 - fI h427 64 93) := by rw [show 220 * fI h 64 92 + fI h 64 93 = 220 * fI h427 64 92 + fI h427 64 93 by omega]; exact g649
  have k2 : Sg h621 (220 * fI h 64 92 + fI h 64 93 + (fI h472 64 93 - fI h427 64 93)) (fI h548 64 93 - fI h504 64 93) := by rw [show 220 * fI h 64 92 + fI h 64 93 + (fI h472 64 93 - fI h427 64 93) = 220 * fI h504 64 92 + fI h504 64 93 by omega]; exact g653
  have sg645 : 0 ≤ fI h621 64 90 ∨ Sg h621 (220 * fI h 64 92 + fI h 64 93) (fI h621 64 93 - fI h 64 93) := Or.inr (by
    rw [show fI h621 64 93 - fI h 64 93 = (fI h472 64 93 - fI h427 64 93) + (fI h548 64 93 - fI h504 64 93) + 1 by omega]
    exact Sg_op k1 k2 (by rw [show 220 * fI h 64 92 + fI h 64 93 + (fI h472 64 93 - fI h427 64 93) + (fI h548 64 93 - fI h504 64 93) = 220 * fI h580 64 92 + fI h580 64 93 by omega, a1]; omega))
  exact hQ _ _ ⟨rfl, by omega, by omega, by omega, by omega, by omega, by omega, by omega, by omega, fr641, fr642, sg645, hT622, hF629⟩
  refine st_if_ne c260_52 (by omega) (fun k654 => ?_) (fun k655 => False.elim (by omega))
  refine st_aload c260_65 rfl ?_
  refine st_lconst c260_66 ?_
  refine st_callt (as := [.long (Int64.ofInt 6476969)]) c260_69 cm_253 hT (tf hT rfl rfl) fd_8_0 rfl rfl rfl rfl (by omega) (K253 hT (Int64.ofInt 6476969) (d - 1) (by omega) _ (fun v h0 H => H)) (fun v1 h1 H => ?_)
  rcases H with ⟨rfl, rfl⟩ | ⟨rfl, pf656, rfl⟩
  refine st_if_eq c260_72 (by omega) (fun k657 => ?_) (fun k658 => False.elim (by omega))
  refine st_iconst c260_79 ?_
  refine st_istore (L' := [some (.ref 64), some (vI 6)]) c260_81 rfl rfl ?_
  refine st_aload c260_82 rfl ?_
  have e659 := fI_bd (q := 64) hT (tf hT rfl rfl) fd_8_87
  have e660 := fI_bd (q := 64) hT (tf hT rfl rfl) fd_8_77
  refine st_callt (as := []) c260_83 cm_252 hT (tf hT rfl rfl) fd_8_0 rfl rfl rfl rfl (by omega) (K252 hT (Stb_mono hS (by decide +kernel)) (by omega) (d - 1) (by omega) _ (fun v h0 H => H)) (fun v1 h661 H => ?_)
  obtain ⟨rfl, pf664, pf665, pf666, pf667, hT662, hF663⟩ := H
  have hF668 := Fr_cp hF hF663 (by decide +kernel : Wsub W252 Wp12 = true)
  have e669 := fI_bd (q := 64) hT662 (tf hT662 rfl rfl) fd_8_86
  have e670 := fI_bd (q := 64) hT662 (tf hT662 rfl rfl) fd_8_87
  have e671 := fI_bd (q := 64) hT662 (tf hT662 rfl rfl) fd_8_88
  refine st_aload c260_86 rfl ?_
  have e672 := fI_bd (q := 64) hT662 (tf hT662 rfl rfl) fd_8_91
  have q673 : fI h661 64 91 = fI h 64 91 := Fr_fI hF663 (tf hT rfl rfl) (by decide +kernel)
  have e674 := fI_bd (q := 64) hT662 (tf hT662 rfl rfl) fd_8_90
  have q675 : fI h661 64 90 = fI h 64 90 := Fr_fI hF663 (tf hT rfl rfl) (by decide +kernel)
  have e676 := fI_bd (q := 64) hT662 (tf hT662 rfl rfl) fd_8_77
  have q677 : fI h661 64 77 = fI h 64 77 := Fr_fI hF663 (tf hT rfl rfl) (by decide +kernel)
  refine st_callt (as := []) c260_87 cm_257 hT662 (tf hT662 rfl rfl) fd_8_0 rfl rfl rfl rfl (by omega) (K257 hT662 (Stb_mono hS (by decide +kernel)) (by omega) (d - 1) (by omega) _ (fun v h0 H => H)) (fun v1 h678 H => ?_)
  rcases H with ⟨rfl, pf681, pf682, pf683, pf684, pf685, hT679, hF680⟩ | ⟨rfl, pf686, pf687, pf688, pf689, pf690, pf691, pf692, pf693, hT679, hF680⟩
  have hF694 := Fr_cp hF668 hF680 (by decide +kernel : Wsub W257 Wp12 = true)
  have e695 := fI_bd (q := 64) hT679 (tf hT679 rfl rfl) fd_8_90
  have e696 := fI_bd (q := 64) hT679 (tf hT679 rfl rfl) fd_8_91
  have e697 := fI_bd (q := 64) hT679 (tf hT679 rfl rfl) fd_8_86
  have e698 := fI_bd (q := 64) hT679 (tf hT679 rfl rfl) fd_8_87
  have e699 := fI_bd (q := 64) hT679 (tf hT679 rfl rfl) fd_8_88
  refine st_if_ne c260_90 (by omega) (fun k700 => False.elim (by omega)) (fun k701 => ?_)
  refine st_return c260_93 ?_
  have e702 := fI_bd (q := 64) hT679 (tf hT679 rfl rfl) fd_8_93
  have q703 : fI h678 64 93 = fI h 64 93 := (Fr_fI hF680 (tf hT662 rfl rfl) (by decide +kernel)).trans (Fr_fI hF663 (tf hT rfl rfl) (by decide +kernel))
  have fr704 : ∀ i : Int, 0 ≤ i → i < 220 * fI h 64 92 + fI h 64 93 → aI h678 129 i = aI h 129 i := fun i a b => ((Fr_aI hF680 (tf hT662 rfl rfl) (by decide +kernel) i)).trans ((Fr_aI hF663 (tf hT rfl rfl) (by decide +kernel) i))
  have fr705 : ∀ i : Int, 0 ≤ i → i < 220 * fI h 64 92 + fI h 64 93 → aI h678 130 i = aI h 130 i := fun i a b => ((Fr_aI hF680 (tf hT662 rfl rfl) (by decide +kernel) i)).trans ((Fr_aI hF663 (tf hT rfl rfl) (by decide +kernel) i))
  have e706 := fI_bd (q := 64) hT679 (tf hT679 rfl rfl) fd_8_92
  have q707 : fI h678 64 92 = fI h 64 92 := (Fr_fI hF680 (tf hT662 rfl rfl) (by decide +kernel)).trans (Fr_fI hF663 (tf hT rfl rfl) (by decide +kernel))
  exact hQ _ _ ⟨rfl, by omega, by omega, by omega, by omega, by omega, by omega, by omega, by omega, fr704, fr705, (Or.inl (by omega)), hT679, hF694⟩
  have hF709 := Fr_cp hF668 hF680 (by decide +kernel : Wsub W257 Wp12 = true)
  have e710 := fI_bd (q := 64) hT679 (tf hT679 rfl rfl) fd_8_90
  have e711 := fI_bd (q := 64) hT679 (tf hT679 rfl rfl) fd_8_91
  have e712 := fI_bd (q := 64) hT679 (tf hT679 rfl rfl) fd_8_86
  have e713 := fI_bd (q := 64) hT679 (tf hT679 rfl rfl) fd_8_87
  refine st_if_ne c260_90 (by omega) (fun k714 => ?_) (fun k715 => False.elim (by omega))
  refine st_aload c260_94 rfl ?_
  have e716 := fI_bd (q := 64) hT679 (tf hT679 rfl rfl) fd_8_77
  have q717 : fI h678 64 77 = fI h661 64 77 := Fr_fI hF680 (tf hT662 rfl rfl) (by decide +kernel)
  have e718 := fI_bd (q := 64) hT679 (tf hT679 rfl rfl) fd_8_93
  have q719 : fI h678 64 93 = fI h 64 93 := (Fr_fI hF680 (tf hT662 rfl rfl) (by decide +kernel)).trans (Fr_fI hF663 (tf hT rfl rfl) (by decide +kernel))
  have e720 := fI_bd (q := 64) hT679 (tf hT679 rfl rfl) fd_8_92
  have q721 : fI h678 64 92 = fI h 64 92 := (Fr_fI hF680 (tf hT662 rfl rfl) (by decide +kernel)).trans (Fr_fI hF663 (tf hT rfl rfl) (by decide +kernel))
  have e722 := fI_bd (q := 64) hT679 (tf hT679 rfl rfl) fd_8_88
  refine st_callt (as := []) c260_95 cm_262 hT679 (tf hT679 rfl rfl) fd_8_0 rfl rfl rfl rfl (by omega) ((pre5 (by omega)) hT679 (Stb_mono hS (by decide +kernel)) (by omega) (by omega) (by omega) (by omega) (by omega) (d - 1) (by omega) _ (fun v h0 H => H)) (fun v1 h723 H => ?_)
  obtain ⟨rfl, pf726, pf727, pf728, pf729, pf730, pf731, pf732, pf733, pf734, pf735, pf736, hT724, hF725⟩ := H
  have hF737 := Fr_cp hF709 hF725 (by decide +kernel : Wsub Wp12 Wp12 = true)
  have e738 := fI_bd (q := 64) hT724 (tf hT724 rfl rfl) fd_8_86
  have e739 := fI_bd (q := 64) hT724 (tf hT724 rfl rfl) fd_8_87
  have e740 := fI_bd (q := 64) hT724 (tf hT724 rfl rfl) fd_8_88
  have e741 := fI_bd (q := 64) hT724 (tf hT724 rfl rfl) fd_8_90
  have e742 := fI_bd (q := 64) hT724 (tf hT724 rfl rfl) fd_8_93
  have e743 := fI_bd (q := 64) hT724 (tf hT724 rfl rfl) fd_8_91
  refine st_aload c260_98 rfl ?_
  refine st_getI c260_99 hT724 (tf hT724 rfl rfl) fd_8_90 (fun e744 e745 => ?_)
  refine st_if_ge c260_102 (by omega) (fun k746 => ?_) (fun k747 => ?_)
  refine st_return c260_114 ?_
  have fr748 : ∀ i : Int, 0 ≤ i → i < 220 * fI h 64 92 + fI h 64 93 → aI h723 129 i = aI h 129 i := fun i a b => ((pf734 i a (by omega))).trans (((Fr_aI hF680 (tf hT662 rfl rfl) (by decide +kernel) i)).trans ((Fr_aI hF663 (tf hT rfl rfl) (by decide +kernel) i)))
  have fr749 : ∀ i : Int, 0 ≤ i → i < 220 * fI h 64 92 + fI h 64 93 → aI h723 130 i = aI h 130 i := fun i a b => ((pf735 i a (by omega))).trans (((Fr_aI hF680 (tf hT662 rfl rfl) (by decide +kernel) i)).trans ((Fr_aI hF663 (tf hT rfl rfl) (by decide +kernel) i)))
  have e750 := fI_bd (q := 64) hT724 (tf hT724 rfl rfl) fd_8_92
  have q751 : fI h723 64 92 = fI h678 64 92 := Fr_fI hF725 (tf hT679 rfl rfl) (by decide +kernel)
  exact hQ _ _ ⟨rfl, by omega, by omega, by omega, by omega, by omega, by omega, by omega, by omega, fr748, fr749, (Or.inl (by omega)), hT724, hF737⟩
  refine st_aload c260_105 rfl ?_
  refine st_iconst c260_106 ?_
  have e753 := fI_bd (q := 64) hT724 (tf hT724 rfl rfl) fd_8_77
  have q754 : fI h723 64 77 = fI h678 64 77 := Fr_fI hF725 (tf hT679 rfl rfl) (by decide +kernel)
  refine st_callt (as := [vI 44]) c260_108 cm_256 hT724 (tf hT724 rfl rfl) fd_8_0 rfl rfl rfl rfl (by omega) (K256 hT724 (Stb_mono hS (by decide +kernel)) 44 (by omega) (by omega) (d - 1) (by omega) _ (fun v h0 H => H)) (fun v1 h755 H => ?_)
  rcases H with ⟨rfl, pf758, pf759, pf760, pf761, hT756, hF757⟩ | ⟨rfl, pf762, pf763, pf764, pf765, pf766, pf767, hT756, hF757⟩
  have hF768 := Fr_cp hF737 hF757 (by decide +kernel : Wsub W256 Wp12 = true)
  have e769 := fI_bd (q := 64) hT756 (tf hT756 rfl rfl) fd_8_90
  have e770 := fI_bd (q := 64) hT756 (tf hT756 rfl rfl) fd_8_86
  have e771 := fI_bd (q := 64) hT756 (tf hT756 rfl rfl) fd_8_87
  have e772 := fI_bd (q := 64) hT756 (tf hT756 rfl rfl) fd_8_88
  refine st_if_ne c260_111 (by omega) (fun k773 => False.elim (by omega)) (fun k774 => ?_)
  refine st_return c260_114 ?_
  have e775 := fI_bd (q := 64) hT756 (tf hT756 rfl rfl) fd_8_93
  have q776 : fI h755 64 93 = fI h723 64 93 := Fr_fI hF757 (tf hT724 rfl rfl) (by decide +kernel)
  have e777 := fI_bd (q := 64) hT756 (tf hT756 rfl rfl) fd_8_91
  have q778 : fI h755 64 91 = fI h723 64 91 := Fr_fI hF757 (tf hT724 rfl rfl) (by decide +kernel)
  have fr779 : ∀ i : Int, 0 ≤ i → i < 220 * fI h 64 92 + fI h 64 93 → aI h755 129 i = aI h 129 i := fun i a b => ((Fr_aI hF757 (tf hT724 rfl rfl) (by decide +kernel) i)).trans (((pf734 i a (by omega))).trans (((Fr_aI hF680 (tf hT662 rfl rfl) (by decide +kernel) i)).trans ((Fr_aI hF663 (tf hT rfl rfl) (by decide +kernel) i))))
  have fr780 : ∀ i : Int, 0 ≤ i → i < 220 * fI h 64 92 + fI h 64 93 → aI h755 130 i = aI h 130 i := fun i a b => ((Fr_aI hF757 (tf hT724 rfl rfl) (by decide +kernel) i)).trans (((pf735 i a (by omega))).trans (((Fr_aI hF680 (tf hT662 rfl rfl) (by decide +kernel) i)).trans ((Fr_aI hF663 (tf hT rfl rfl) (by decide +kernel) i))))
  have e781 := fI_bd (q := 64) hT756 (tf hT756 rfl rfl) fd_8_92
  have q782 : fI h755 64 92 = fI h678 64 92 := (Fr_fI hF757 (tf hT724 rfl rfl) (by decide +kernel)).trans (Fr_fI hF725 (tf hT679 rfl rfl) (by decide +kernel))
  exact hQ _ _ ⟨rfl, by omega, by omega, by omega, by omega, by omega, by omega, by omega, by omega, fr779, fr780, (Or.inl (by omega)), hT756, hF768⟩
  have hF784 := Fr_cp hF737 hF757 (by decide +kernel : Wsub W256 Wp12 = true)
  have e785 := fI_bd (q := 64) hT756 (tf hT756 rfl rfl) fd_8_90
  have e786 := fI_bd (q := 64) hT756 (tf hT756 rfl rfl) fd_8_86
  have e787 := fI_bd (q := 64) hT756 (tf hT756 rfl rfl) fd_8_87
  refine st_if_ne c260_111 (by omega) (fun k788 => ?_) (fun k789 => False.elim (by omega))
  refine st_aload c260_115 rfl ?_
  have e790 := fI_bd (q := 64) hT756 (tf hT756 rfl rfl) fd_8_77
  have q791 : fI h755 64 77 = fI h723 64 77 := Fr_fI hF757 (tf hT724 rfl rfl) (by decide +kernel)
  have e792 := fI_bd (q := 64) hT756 (tf hT756 rfl rfl) fd_8_93
  have q793 : fI h755 64 93 = fI h723 64 93 := Fr_fI hF757 (tf hT724 rfl rfl) (by decide +kernel)
  have e794 := fI_bd (q := 64) hT756 (tf hT756 rfl rfl) fd_8_91
  have q795 : fI h755 64 91 = fI h723 64 91 := Fr_fI hF757 (tf hT724 rfl rfl) (by decide +kernel)
  have e796 := fI_bd (q := 64) hT756 (tf hT756 rfl rfl) fd_8_92
  have q797 : fI h755 64 92 = fI h678 64 92 := (Fr_fI hF757 (tf hT724 rfl rfl) (by decide +kernel)).trans (Fr_fI hF725 (tf hT679 rfl rfl) (by decide +kernel))
  have e798 := fI_bd (q := 64) hT756 (tf hT756 rfl rfl) fd_8_88
  refine st_callt (as := []) c260_116 cm_262 hT756 (tf hT756 rfl rfl) fd_8_0 rfl rfl rfl rfl (by omega) ((pre5 (by omega)) hT756 (Stb_mono hS (by decide +kernel)) (by omega) (by omega) (by omega) (by omega) (by omega) (d - 1) (by omega) _ (fun v h0 H => H)) (fun v1 h799 H => ?_)
  obtain ⟨rfl, pf802, pf803, pf804, pf805, pf806, pf807, pf808, pf809, pf810, pf811, pf812, hT800, hF801⟩ := H
  have hF813 := Fr_cp hF784 hF801 (by decide +kernel : Wsub Wp12 Wp12 = true)
  have e814 := fI_bd (q := 64) hT800 (tf hT800 rfl rfl) fd_8_86
  have e815 := fI_bd (q := 64) hT800 (tf hT800 rfl rfl) fd_8_87
  have e816 := fI_bd (q := 64) hT800 (tf hT800 rfl rfl) fd_8_88
  have e817 := fI_bd (q := 64) hT800 (tf hT800 rfl rfl) fd_8_90
  have e818 := fI_bd (q := 64) hT800 (tf hT800 rfl rfl) fd_8_93
  have e819 := fI_bd (q := 64) hT800 (tf hT800 rfl rfl) fd_8_91
  refine st_aload c260_119 rfl ?_
  refine st_getI c260_120 hT800 (tf hT800 rfl rfl) fd_8_90 (fun e820 e821 => ?_)
  refine st_if_ge c260_123 (by omega) (fun k822 => ?_) (fun k823 => ?_)
  refine st_return c260_133 ?_
  have fr824 : ∀ i : Int, 0 ≤ i → i < 220 * fI h 64 92 + fI h 64 93 → aI h799 129 i = aI h 129 i := fun i a b => ((pf810 i a (by omega))).trans (((Fr_aI hF757 (tf hT724 rfl rfl) (by decide +kernel) i)).trans (((pf734 i a (by omega))).trans (((Fr_aI hF680 (tf hT662 rfl rfl) (by decide +kernel) i)).trans ((Fr_aI hF663 (tf hT rfl rfl) (by decide +kernel) i)))))
  have fr825 : ∀ i : Int, 0 ≤ i → i < 220 * fI h 64 92 + fI h 64 93 → aI h799 130 i = aI h 130 i := fun i a b => ((pf811 i a (by omega))).trans (((Fr_aI hF757 (tf hT724 rfl rfl) (by decide +kernel) i)).trans (((pf735 i a (by omega))).trans (((Fr_aI hF680 (tf hT662 rfl rfl) (by decide +kernel) i)).trans ((Fr_aI hF663 (tf hT rfl rfl) (by decide +kernel) i)))))
  have e826 := fI_bd (q := 64) hT800 (tf hT800 rfl rfl) fd_8_92
  have q827 : fI h799 64 92 = fI h755 64 92 := Fr_fI hF801 (tf hT756 rfl rfl) (by decide +kernel)
  exact hQ _ _ ⟨rfl, by omega, by omega, by omega, by omega, by omega, by omega, by omega, by omega, fr824, fr825, (Or.inl (by omega)), hT800, hF813⟩
  refine st_aload c260_126 rfl ?_
  have e829 := fI_bd (q := 64) hT800 (tf hT800 rfl rfl) fd_8_77
  have q830 : fI h799 64 77 = fI h755 64 77 := Fr_fI hF801 (tf hT756 rfl rfl) (by decide +kernel)
  refine st_callt (as := []) c260_127 cm_258 hT800 (tf hT800 rfl rfl) fd_8_0 rfl rfl rfl rfl (by omega) (K258 hT800 (Stb_mono hS (by decide +kernel)) (by omega) (by omega) (d - 1) (by omega) _ (fun v h0 H => H)) (fun v1 h831 H => ?_)
  rcases H with ⟨rfl, pf834, pf835, pf836, pf837, pf838, hT832, hF833⟩ | ⟨rfl, pf839, pf840, pf841, pf842, pf843, pf844, pf845, hT832, hF833⟩
  have hF846 := Fr_cp hF813 hF833 (by decide +kernel : Wsub W258 Wp12 = true)
  have e847 := fI_bd (q := 64) hT832 (tf hT832 rfl rfl) fd_8_90
  have e848 := fI_bd (q := 64) hT832 (tf hT832 rfl rfl) fd_8_91
  have e849 := fI_bd (q := 64) hT832 (tf hT832 rfl rfl) fd_8_86
  have e850 := fI_bd (q := 64) hT832 (tf hT832 rfl rfl) fd_8_87
  have e851 := fI_bd (q := 64) hT832 (tf hT832 rfl rfl) fd_8_88
  refine st_if_ne c260_130 (by omega) (fun k852 => False.elim (by omega)) (fun k853 => ?_)
  refine st_return c260_133 ?_
  have e854 := fI_bd (q := 64) hT832 (tf hT832 rfl rfl) fd_8_93
  have q855 : fI h831 64 93 = fI h799 64 93 := Fr_fI hF833 (tf hT800 rfl rfl) (by decide +kernel)
  have fr856 : ∀ i : Int, 0 ≤ i → i < 220 * fI h 64 92 + fI h 64 93 → aI h831 129 i = aI h 129 i := fun i a b => ((Fr_aI hF833 (tf hT800 rfl rfl) (by decide +kernel) i)).trans (((pf810 i a (by omega))).trans (((Fr_aI hF757 (tf hT724 rfl rfl) (by decide +kernel) i)).trans (((pf734 i a (by omega))).trans (((Fr_aI hF680 (tf hT662 rfl rfl) (by decide +kernel) i)).trans ((Fr_aI hF663 (tf hT rfl rfl) (by decide +kernel) i))))))
  have fr857 : ∀ i : Int, 0 ≤ i → i < 220 * fI h 64 92 + fI h 64 93 → aI h831 130 i = aI h 130 i := fun i a b => ((Fr_aI hF833 (tf hT800 rfl rfl) (by decide +kernel) i)).trans (((pf811 i a (by omega))).trans (((Fr_aI hF757 (tf hT724 rfl rfl) (by decide +kernel) i)).trans (((pf735 i a (by omega))).trans (((Fr_aI hF680 (tf hT662 rfl rfl) (by decide +kernel) i)).trans ((Fr_aI hF663 (tf hT rfl rfl) (by decide +kernel) i))))))
  have e858 := fI_bd (q := 64) hT832 (tf hT832 rfl rfl) fd_8_92
  have q859 : fI h831 64 92 = fI h755 64 92 := (Fr_fI hF833 (tf hT800 rfl rfl) (by decide +kernel)).trans (Fr_fI hF801 (tf hT756 rfl rfl) (by decide +kernel))
  exact hQ _ _ ⟨rfl, by omega, by omega, by omega, by omega, by omega, by omega, by omega, by omega, fr856, fr857, (Or.inl (by omega)), hT832, hF846⟩
  have hF861 := Fr_cp hF813 hF833 (by decide +kernel : Wsub W258 Wp12 = true)
  have e862 := fI_bd (q := 64) hT832 (tf hT832 rfl rfl) fd_8_90
  have e863 := fI_bd (q := 64) hT832 (tf hT832 rfl rfl) fd_8_91
  have e864 := fI_bd (q := 64) hT832 (tf hT832 rfl rfl) fd_8_86
  have e865 := fI_bd (q := 64) hT832 (tf hT832 rfl rfl) fd_8_87
  refine st_if_ne c260_130 (by omega) (fun k866 => ?_) (fun k867 => False.elim (by omega))
  refine st_aload c260_134 rfl ?_
  refine st_iload c260_135 rfl ?_
  refine st_iconst c260_136 ?_
  refine st_iconst c260_137 ?_
  have e868 := fI_bd (q := 64) hT832 (tf hT832 rfl rfl) fd_8_93
  have q869 : fI h831 64 93 = fI h799 64 93 := Fr_fI hF833 (tf hT800 rfl rfl) (by decide +kernel)
  have e870 := fI_bd (q := 64) hT832 (tf hT832 rfl rfl) fd_8_92
  have q871 : fI h831 64 92 = fI h755 64 92 := (Fr_fI hF833 (tf hT800 rfl rfl) (by decide +kernel)).trans (Fr_fI hF801 (tf hT756 rfl rfl) (by decide +kernel))
  refine st_callt (as := [vI 6, vI 0, vI 0]) c260_138 cm_255 hT832 (tf hT832 rfl rfl) fd_8_0 rfl rfl rfl rfl (by omega) (K255 hT832 (Stb_mono hS (by decide +kernel)) 6 (by omega) 0 (by omega) 0 (by omega) (by omega) (d - 1) (by omega) _ (fun v h0 H => H)) (fun v1 h872 H => ?_)
  obtain ⟨rfl, pf875, pf876, pf877, pf878, pf879, hT873, hF874⟩ := H
  have hF880 := Fr_cp hF861 hF874 (by decide +kernel : Wsub W255 Wp12 = true)
  have e881 := fI_bd (q := 64) hT873 (tf hT873 rfl rfl) fd_8_93
  refine st_return c260_141 ?_
  have e882 := fI_bd (q := 64) hT873 (tf hT873 rfl rfl) fd_8_86
  have q883 : fI h872 64 86 = fI h831 64 86 := Fr_fI hF874 (tf hT832 rfl rfl) (by decide +kernel)
  have e884 := fI_bd (q := 64) hT873 (tf hT873 rfl rfl) fd_8_87
  have q885 : fI h872 64 87 = fI h831 64 87 := Fr_fI hF874 (tf hT832 rfl rfl) (by decide +kernel)
  have e886 := fI_bd (q := 64) hT873 (tf hT873 rfl rfl) fd_8_88
  have q887 : fI h872 64 88 = fI h831 64 88 := Fr_fI hF874 (tf hT832 rfl rfl) (by decide +kernel)
  have e888 := fI_bd (q := 64) hT873 (tf hT873 rfl rfl) fd_8_90
  have q889 : fI h872 64 90 = fI h831 64 90 := Fr_fI hF874 (tf hT832 rfl rfl) (by decide +kernel)
  have e890 := fI_bd (q := 64) hT873 (tf hT873 rfl rfl) fd_8_91
  have q891 : fI h872 64 91 = fI h831 64 91 := Fr_fI hF874 (tf hT832 rfl rfl) (by decide +kernel)
  have fr892 : ∀ i : Int, 0 ≤ i → i < 220 * fI h 64 92 + fI h 64 93 → aI h872 129 i = aI h 129 i := fun i a b => ((pf878 i a (by omega))).trans (((Fr_aI hF833 (tf hT800 rfl rfl) (by decide +kernel) i)).trans (((pf810 i a (by omega))).trans (((Fr_aI hF757 (tf hT724 rfl rfl) (by decide +kernel) i)).trans (((pf734 i a (by omega))).trans (((Fr_aI hF680 (tf hT662 rfl rfl) (by decide +kernel) i)).trans ((Fr_aI hF663 (tf hT rfl rfl) (by decide +kernel) i)))))))
  have fr893 : ∀ i : Int, 0 ≤ i → i < 220 * fI h 64 92 + fI h 64 93 → aI h872 130 i = aI h 130 i := fun i a b => ((pf879 i a (by omega))).trans (((Fr_aI hF833 (tf hT800 rfl rfl) (by decide +kernel) i)).trans (((pf811 i a (by omega))).trans (((Fr_aI hF757 (tf hT724 rfl rfl) (by decide +kernel) i)).trans (((pf735 i a (by omega))).trans (((Fr_aI hF680 (tf hT662 rfl rfl) (by decide +kernel) i)).trans ((Fr_aI hF663 (tf hT rfl rfl) (by decide +kernel) i)))))))
  have e894 := fI_bd (q := 64) hT873 (tf hT873 rfl rfl) fd_8_92
  have q895 : fI h872 64 92 = fI h831 64 92 := Fr_fI hF874 (tf hT832 rfl rfl) (by decide +kernel)
  have g897 := (pf736).resolve_left (by omega)
  have fr898 : ∀ i : Int, 0 ≤ i → i < 220 * fI h678 64 92 + fI h678 64 93 + (fI h723 64 93 - fI h678 64 93) → aI h872 129 i = aI h723 129 i := fun i a b => ((pf878 i a (by omega))).trans (((Fr_aI hF833 (tf hT800 rfl rfl) (by decide +kernel) i)).trans (((pf810 i a (by omega))).trans ((Fr_aI hF757 (tf hT724 rfl rfl) (by decide +kernel) i))))
  have fr899 : ∀ i : Int, 0 ≤ i → i < 220 * fI h678 64 92 + fI h678 64 93 + (fI h723 64 93 - fI h678 64 93) → aI h872 130 i = aI h723 130 i := fun i a b => ((pf879 i a (by omega))).trans (((Fr_aI hF833 (tf hT800 rfl rfl) (by decide +kernel) i)).trans (((pf811 i a (by omega))).trans ((Fr_aI hF757 (tf hT724 rfl rfl) (by decide +kernel) i))))
  have g900 : Sg h872 (220 * fI h678 64 92 + fI h678 64 93) (fI h723 64 93 - fI h678 64 93) := Sg_mv g897 (fun i a b => ⟨fr898 i (by omega) (by omega), fr899 i (by omega) (by omega)⟩)
  have g901 := (pf812).resolve_left (by omega)
  have fr902 : ∀ i : Int, 0 ≤ i → i < 220 * fI h755 64 92 + fI h755 64 93 + (fI h799 64 93 - fI h755 64 93) → aI h872 129 i = aI h799 129 i := fun i a b => ((pf878 i a (by omega))).trans ((Fr_aI hF833 (tf hT800 rfl rfl) (by decide +kernel) i))
  have fr903 : ∀ i : Int, 0 ≤ i → i < 220 * fI h755 64 92 + fI h755 64 93 + (fI h799 64 93 - fI h755 64 93) → aI h872 130 i = aI h799 130 i := fun i a b => ((pf879 i a (by omega))).trans ((Fr_aI hF833 (tf hT800 rfl rfl) (by decide +kernel) i))
  have g904 : Sg h872 (220 * fI h755 64 92 + fI h755 64 93) (fI h799 64 93 - fI h755 64 93) := Sg_mv g901 (fun i a b => ⟨fr902 i (by omega) (by omega), fr903 i (by omega) (by omega)⟩)
  have a1 : aI h872 129 (220 * fI h831 64 92 + fI h831 64 93) = 6 := (rfl).trans pf876
  have k1 : Sg h872 (220 * fI h 64 92 + fI h 64 93) (fI h723 64 93 - fI h678 64 93) := by rw [show 220 * fI h 64 92 + fI h 64 93 = 220 * fI h678 64 92 + fI h678 64 93 by omega]; exact g900
  have k2 : Sg h872 (220 * fI h 64 92 + fI h 64 93 + (fI h723 64 93 - fI h678 64 93)) (fI h799 64 93 - fI h755 64 93) := by rw [show 220 * fI h 64 92 + fI h 64 93 + (fI h723 64 93 - fI h678 64 93) = 220 * fI h755 64 92 + fI h755 64 93 by omega]; exact g904
  have sg896 : 0 ≤ fI h872 64 90 ∨ Sg h872 (220 * fI h 64 92 + fI h 64 93) (fI h872 64 93 - fI h 64 93) := Or.inr (by
    rw [show fI h872 64 93 - fI h 64 93 = (fI h723 64 93 - fI h678 64 93) + (fI h799 64 93 - fI h755 64 93) + 1 by omega]
    exact Sg_op k1 k2 (by rw [show 220 * fI h 64 92 + fI h 64 93 + (fI h723 64 93 - fI h678 64 93) + (fI h799 64 93 - fI h755 64 93) = 220 * fI h831 64 92 + fI h831 64 93 by omega, a1]; omega))
  exact hQ _ _ ⟨rfl, by omega, by omega, by omega, by omega, by omega, by omega, by omega, by omega, fr892, fr893, sg896, hT873, hF880⟩
  refine st_if_eq c260_72 (by omega) (fun k905 => False.elim (by omega)) (fun k906 => ?_)
  refine st_iconst c260_75 ?_
  refine st_goto c260_76 ?_
  refine st_istore (L' := [some (.ref 64), some (vI 5)]) c260_81 rfl rfl ?_
  refine st_aload c260_82 rfl ?_
  have e907 := fI_bd (q := 64) hT (tf hT rfl rfl) fd_8_87
  have e908 := fI_bd (q := 64) hT (tf hT rfl rfl) fd_8_77
  refine st_callt (as := []) c260_83 cm_252 hT (tf hT rfl rfl) fd_8_0 rfl rfl rfl rfl (by omega) (K252 hT (Stb_mono hS (by decide +kernel)) (by omega) (d - 1) (by omega) _ (fun v h0 H => H)) (fun v1 h909 H => ?_)
  obtain ⟨rfl, pf912, pf913, pf914, pf915, hT910, hF911⟩ := H
  have hF916 := Fr_cp hF hF911 (by decide +kernel : Wsub W252 Wp12 = true)
  have e917 := fI_bd (q := 64) hT910 (tf hT910 rfl rfl) fd_8_86
  have e918 := fI_bd (q := 64) hT910 (tf hT910 rfl rfl) fd_8_87
  have e919 := fI_bd (q := 64) hT910 (tf hT910 rfl rfl) fd_8_88
  refine st_aload c260_86 rfl ?_
  have e920 := fI_bd (q := 64) hT910 (tf hT910 rfl rfl) fd_8_91
  have q921 : fI h909 64 91 = fI h 64 91 := Fr_fI hF911 (tf hT rfl rfl) (by decide +kernel)
  have e922 := fI_bd (q := 64) hT910 (tf hT910 rfl rfl) fd_8_90
  have q923 : fI h909 64 90 = fI h 64 90 := Fr_fI hF911 (tf hT rfl rfl) (by decide +kernel)
  have e924 := fI_bd (q := 64) hT910 (tf hT910 rfl rfl) fd_8_77
  have q925 : fI h909 64 77 = fI h 64 77 := Fr_fI hF911 (tf hT rfl rfl) (by decide +kernel)
  refine st_callt (as := []) c260_87 cm_257 hT910 (tf hT910 rfl rfl) fd_8_0 rfl rfl rfl rfl (by omega) (K257 hT910 (Stb_mono hS (by decide +kernel)) (by omega) (d - 1) (by omega) _ (fun v h0 H => H)) (fun v1 h926 H => ?_)
  rcases H with ⟨rfl, pf929, pf930, pf931, pf932, pf933, hT927, hF928⟩ | ⟨rfl, pf934, pf935, pf936, pf937, pf938, pf939, pf940, pf941, hT927, hF928⟩
  have hF942 := Fr_cp hF916 hF928 (by decide +kernel : Wsub W257 Wp12 = true)
  have e943 := fI_bd (q := 64) hT927 (tf hT927 rfl rfl) fd_8_90
  have e944 := fI_bd (q := 64) hT927 (tf hT927 rfl rfl) fd_8_91
  have e945 := fI_bd (q := 64) hT927 (tf hT927 rfl rfl) fd_8_86
  have e946 := fI_bd (q := 64) hT927 (tf hT927 rfl rfl) fd_8_87
  have e947 := fI_bd (q := 64) hT927 (tf hT927 rfl rfl) fd_8_88
  refine st_if_ne c260_90 (by omega) (fun k948 => False.elim (by omega)) (fun k949 => ?_)
  refine st_return c260_93 ?_
  have e950 := fI_bd (q := 64) hT927 (tf hT927 rfl rfl) fd_8_93
  have q951 : fI h926 64 93 = fI h 64 93 := (Fr_fI hF928 (tf hT910 rfl rfl) (by decide +kernel)).trans (Fr_fI hF911 (tf hT rfl rfl) (by decide +kernel))
  have fr952 : ∀ i : Int, 0 ≤ i → i < 220 * fI h 64 92 + fI h 64 93 → aI h926 129 i = aI h 129 i := fun i a b => ((Fr_aI hF928 (tf hT910 rfl rfl) (by decide +kernel) i)).trans ((Fr_aI hF911 (tf hT rfl rfl) (by decide +kernel) i))
  have fr953 : ∀ i : Int, 0 ≤ i → i < 220 * fI h 64 92 + fI h 64 93 → aI h926 130 i = aI h 130 i := fun i a b => ((Fr_aI hF928 (tf hT910 rfl rfl) (by decide +kernel) i)).trans ((Fr_aI hF911 (tf hT rfl rfl) (by decide +kernel) i))
  have e954 := fI_bd (q := 64) hT927 (tf hT927 rfl rfl) fd_8_92
  have q955 : fI h926 64 92 = fI h 64 92 := (Fr_fI hF928 (tf hT910 rfl rfl) (by decide +kernel)).trans (Fr_fI hF911 (tf hT rfl rfl) (by decide +kernel))
  exact hQ _ _ ⟨rfl, by omega, by omega, by omega, by omega, by omega, by omega, by omega, by omega, fr952, fr953, (Or.inl (by omega)), hT927, hF942⟩
  have hF957 := Fr_cp hF916 hF928 (by decide +kernel : Wsub W257 Wp12 = true)
  have e958 := fI_bd (q := 64) hT927 (tf hT927 rfl rfl) fd_8_90
  have e959 := fI_bd (q := 64) hT927 (tf hT927 rfl rfl) fd_8_91
  have e960 := fI_bd (q := 64) hT927 (tf hT927 rfl rfl) fd_8_86
  have e961 := fI_bd (q := 64) hT927 (tf hT927 rfl rfl) fd_8_87
  refine st_if_ne c260_90 (by omega) (fun k962 => ?_) (fun k963 => False.elim (by omega))
  refine st_aload c260_94 rfl ?_
  have e964 := fI_bd (q := 64) hT927 (tf hT927 rfl rfl) fd_8_77
  have q965 : fI h926 64 77 = fI h909 64 77 := Fr_fI hF928 (tf hT910 rfl rfl) (by decide +kernel)
  have e966 := fI_bd (q := 64) hT927 (tf hT927 rfl rfl) fd_8_93
  have q967 : fI h926 64 93 = fI h 64 93 := (Fr_fI hF928 (tf hT910 rfl rfl) (by decide +kernel)).trans (Fr_fI hF911 (tf hT rfl rfl) (by decide +kernel))
  have e968 := fI_bd (q := 64) hT927 (tf hT927 rfl rfl) fd_8_92
  have q969 : fI h926 64 92 = fI h 64 92 := (Fr_fI hF928 (tf hT910 rfl rfl) (by decide +kernel)).trans (Fr_fI hF911 (tf hT rfl rfl) (by decide +kernel))
  have e970 := fI_bd (q := 64) hT927 (tf hT927 rfl rfl) fd_8_88
  refine st_callt (as := []) c260_95 cm_262 hT927 (tf hT927 rfl rfl) fd_8_0 rfl rfl rfl rfl (by omega) ((pre5 (by omega)) hT927 (Stb_mono hS (by decide +kernel)) (by omega) (by omega) (by omega) (by omega) (by omega) (d - 1) (by omega) _ (fun v h0 H => H)) (fun v1 h971 H => ?_)
  obtain ⟨rfl, pf974, pf975, pf976, pf977, pf978, pf979, pf980, pf981, pf982, pf983, pf984, hT972, hF973⟩ := H
  have hF985 := Fr_cp hF957 hF973 (by decide +kernel : Wsub Wp12 Wp12 = true)
  have e986 := fI_bd (q := 64) hT972 (tf hT972 rfl rfl) fd_8_86
  have e987 := fI_bd (q := 64) hT972 (tf hT972 rfl rfl) fd_8_87
  have e988 := fI_bd (q := 64) hT972 (tf hT972 rfl rfl) fd_8_88
  have e989 := fI_bd (q := 64) hT972 (tf hT972 rfl rfl) fd_8_90
  have e990 := fI_bd (q := 64) hT972 (tf hT972 rfl rfl) fd_8_93
  have e991 := fI_bd (q := 64) hT972 (tf hT972 rfl rfl) fd_8_91
  refine st_aload c260_98 rfl ?_
  refine st_getI c260_99 hT972 (tf hT972 rfl rfl) fd_8_90 (fun e992 e993 => ?_)
  refine st_if_ge c260_102 (by omega) (fun k994 => ?_) (fun k995 => ?_)
  refine st_return c260_114 ?_
  have fr996 : ∀ i : Int, 0 ≤ i → i < 220 * fI h 64 92 + fI h 64 93 → aI h971 129 i = aI h 129 i := fun i a b => ((pf982 i a (by omega))).trans (((Fr_aI hF928 (tf hT910 rfl rfl) (by decide +kernel) i)).trans ((Fr_aI hF911 (tf hT rfl rfl) (by decide +kernel) i)))
  have fr997 : ∀ i : Int, 0 ≤ i → i < 220 * fI h 64 92 + fI h 64 93 → aI h971 130 i = aI h 130 i := fun i a b => ((pf983 i a (by omega))).trans (((Fr_aI hF928 (tf hT910 rfl rfl) (by decide +kernel) i)).trans ((Fr_aI hF911 (tf hT rfl rfl) (by decide +kernel) i)))
  have e998 := fI_bd (q := 64) hT972 (tf hT972 rfl rfl) fd_8_92
  have q999 : fI h971 64 92 = fI h926 64 92 := Fr_fI hF973 (tf hT927 rfl rfl) (by decide +kernel)
  exact hQ _ _ ⟨rfl, by omega, by omega, by omega, by omega, by omega, by omega, by omega, by omega, fr996, fr997, (Or.inl (by omega)), hT972, hF985⟩
  refine st_aload c260_105 rfl ?_
  refine st_iconst c260_106 ?_
  have e1001 := fI_bd (q := 64) hT972 (tf hT972 rfl rfl) fd_8_77
  have q1002 : fI h971 64 77 = fI h926 64 77 := Fr_fI hF973 (tf hT927 rfl rfl) (by decide +kernel)
  refine st_callt (as := [vI 44]) c260_108 cm_256 hT972 (tf hT972 rfl rfl) fd_8_0 rfl rfl rfl rfl (by omega) (K256 hT972 (Stb_mono hS (by decide +kernel)) 44 (by omega) (by omega) (d - 1) (by omega) _ (fun v h0 H => H)) (fun v1 h1003 H => ?_)
  rcases H with ⟨rfl, pf1006, pf1007, pf1008, pf1009, hT1004, hF1005⟩ | ⟨rfl, pf1010, pf1011, pf1012, pf1013, pf1014, pf1015, hT1004, hF1005⟩
  have hF1016 := Fr_cp hF985 hF1005 (by decide +kernel : Wsub W256 Wp12 = true)
  have e1017 := fI_bd (q := 64) hT1004 (tf hT1004 rfl rfl) fd_8_90
  have e1018 := fI_bd (q := 64) hT1004 (tf hT1004 rfl rfl) fd_8_86
  have e1019 := fI_bd (q := 64) hT1004 (tf hT1004 rfl rfl) fd_8_87
  have e1020 := fI_bd (q := 64) hT1004 (tf hT1004 rfl rfl) fd_8_88
  refine st_if_ne c260_111 (by omega) (fun k1021 => False.elim (by omega)) (fun k1022 => ?_)
  refine st_return c260_114 ?_
  have e1023 := fI_bd (q := 64) hT1004 (tf hT1004 rfl rfl) fd_8_93
  have q1024 : fI h1003 64 93 = fI h971 64 93 := Fr_fI hF1005 (tf hT972 rfl rfl) (by decide +kernel)
  have e1025 := fI_bd (q := 64) hT1004 (tf hT1004 rfl rfl) fd_8_91
  have q1026 : fI h1003 64 91 = fI h971 64 91 := Fr_fI hF1005 (tf hT972 rfl rfl) (by decide +kernel)
  have fr1027 : ∀ i : Int, 0 ≤ i → i < 220 * fI h 64 92 + fI h 64 93 → aI h1003 129 i = aI h 129 i := fun i a b => ((Fr_aI hF1005 (tf hT972 rfl rfl) (by decide +kernel) i)).trans (((pf982 i a (by omega))).trans (((Fr_aI hF928 (tf hT910 rfl rfl) (by decide +kernel) i)).trans ((Fr_aI hF911 (tf hT rfl rfl) (by decide +kernel) i))))
  have fr1028 : ∀ i : Int, 0 ≤ i → i < 220 * fI h 64 92 + fI h 64 93 → aI h1003 130 i = aI h 130 i := fun i a b => ((Fr_aI hF1005 (tf hT972 rfl rfl) (by decide +kernel) i)).trans (((pf983 i a (by omega))).trans (((Fr_aI hF928 (tf hT910 rfl rfl) (by decide +kernel) i)).trans ((Fr_aI hF911 (tf hT rfl rfl) (by decide +kernel) i))))
  have e1029 := fI_bd (q := 64) hT1004 (tf hT1004 rfl rfl) fd_8_92
  have q1030 : fI h1003 64 92 = fI h926 64 92 := (Fr_fI hF1005 (tf hT972 rfl rfl) (by decide +kernel)).trans (Fr_fI hF973 (tf hT927 rfl rfl) (by decide +kernel))
  exact hQ _ _ ⟨rfl, by omega, by omega, by omega, by omega, by omega, by omega, by omega, by omega, fr1027, fr1028, (Or.inl (by omega)), hT1004, hF1016⟩
  have hF1032 := Fr_cp hF985 hF1005 (by decide +kernel : Wsub W256 Wp12 = true)
  have e1033 := fI_bd (q := 64) hT1004 (tf hT1004 rfl rfl) fd_8_90
  have e1034 := fI_bd (q := 64) hT1004 (tf hT1004 rfl rfl) fd_8_86
  have e1035 := fI_bd (q := 64) hT1004 (tf hT1004 rfl rfl) fd_8_87
  refine st_if_ne c260_111 (by omega) (fun k1036 => ?_) (fun k1037 => False.elim (by omega))
  refine st_aload c260_115 rfl ?_
  have e1038 := fI_bd (q := 64) hT1004 (tf hT1004 rfl rfl) fd_8_77
  have q1039 : fI h1003 64 77 = fI h971 64 77 := Fr_fI hF1005 (tf hT972 rfl rfl) (by decide +kernel)
  have e1040 := fI_bd (q := 64) hT1004 (tf hT1004 rfl rfl) fd_8_93
  have q1041 : fI h1003 64 93 = fI h971 64 93 := Fr_fI hF1005 (tf hT972 rfl rfl) (by decide +kernel)
  have e1042 := fI_bd (q := 64) hT1004 (tf hT1004 rfl rfl) fd_8_91
  have q1043 : fI h1003 64 91 = fI h971 64 91 := Fr_fI hF1005 (tf hT972 rfl rfl) (by decide +kernel)
  have e1044 := fI_bd (q := 64) hT1004 (tf hT1004 rfl rfl) fd_8_92
  have q1045 : fI h1003 64 92 = fI h926 64 92 := (Fr_fI hF1005 (tf hT972 rfl rfl) (by decide +kernel)).trans (Fr_fI hF973 (tf hT927 rfl rfl) (by decide +kernel))
  have e1046 := fI_bd (q := 64) hT1004 (tf hT1004 rfl rfl) fd_8_88
  refine st_callt (as := []) c260_116 cm_262 hT1004 (tf hT1004 rfl rfl) fd_8_0 rfl rfl rfl rfl (by omega) ((pre5 (by omega)) hT1004 (Stb_mono hS (by decide +kernel)) (by omega) (by omega) (by omega) (by omega) (by omega) (d - 1) (by omega) _ (fun v h0 H => H)) (fun v1 h1047 H => ?_)
  obtain ⟨rfl, pf1050, pf1051, pf1052, pf1053, pf1054, pf1055, pf1056, pf1057, pf1058, pf1059, pf1060, hT1048, hF1049⟩ := H
  have hF1061 := Fr_cp hF1032 hF1049 (by decide +kernel : Wsub Wp12 Wp12 = true)
  have e1062 := fI_bd (q := 64) hT1048 (tf hT1048 rfl rfl) fd_8_86
  have e1063 := fI_bd (q := 64) hT1048 (tf hT1048 rfl rfl) fd_8_87
  have e1064 := fI_bd (q := 64) hT1048 (tf hT1048 rfl rfl) fd_8_88
  have e1065 := fI_bd (q := 64) hT1048 (tf hT1048 rfl rfl) fd_8_90
  have e1066 := fI_bd (q := 64) hT1048 (tf hT1048 rfl rfl) fd_8_93
  have e1067 := fI_bd (q := 64) hT1048 (tf hT1048 rfl rfl) fd_8_91
  refine st_aload c260_119 rfl ?_
  refine st_getI c260_120 hT1048 (tf hT1048 rfl rfl) fd_8_90 (fun e1068 e1069 => ?_)
  refine st_if_ge c260_123 (by omega) (fun k1070 => ?_) (fun k1071 => ?_)
  refine st_return c260_133 ?_
  have fr1072 : ∀ i : Int, 0 ≤ i → i < 220 * fI h 64 92 + fI h 64 93 → aI h1047 129 i = aI h 129 i := fun i a b => ((pf1058 i a (by omega))).trans (((Fr_aI hF1005 (tf hT972 rfl rfl) (by decide +kernel) i)).trans (((pf982 i a (by omega))).trans (((Fr_aI hF928 (tf hT910 rfl rfl) (by decide +kernel) i)).trans ((Fr_aI hF911 (tf hT rfl rfl) (by decide +kernel) i)))))
  have fr1073 : ∀ i : Int, 0 ≤ i → i < 220 * fI h 64 92 + fI h 64 93 → aI h1047 130 i = aI h 130 i := fun i a b => ((pf1059 i a (by omega))).trans (((Fr_aI hF1005 (tf hT972 rfl rfl) (by decide +kernel) i)).trans (((pf983 i a (by omega))).trans (((Fr_aI hF928 (tf hT910 rfl rfl) (by decide +kernel) i)).trans ((Fr_aI hF911 (tf hT rfl rfl) (by decide +kernel) i)))))
  have e1074 := fI_bd (q := 64) hT1048 (tf hT1048 rfl rfl) fd_8_92
  have q1075 : fI h1047 64 92 = fI h1003 64 92 := Fr_fI hF1049 (tf hT1004 rfl rfl) (by decide +kernel)
  exact hQ _ _ ⟨rfl, by omega, by omega, by omega, by omega, by omega, by omega, by omega, by omega, fr1072, fr1073, (Or.inl (by omega)), hT1048, hF1061⟩
  refine st_aload c260_126 rfl ?_
  have e1077 := fI_bd (q := 64) hT1048 (tf hT1048 rfl rfl) fd_8_77
  have q1078 : fI h1047 64 77 = fI h1003 64 77 := Fr_fI hF1049 (tf hT1004 rfl rfl) (by decide +kernel)
  refine st_callt (as := []) c260_127 cm_258 hT1048 (tf hT1048 rfl rfl) fd_8_0 rfl rfl rfl rfl (by omega) (K258 hT1048 (Stb_mono hS (by decide +kernel)) (by omega) (by omega) (d - 1) (by omega) _ (fun v h0 H => H)) (fun v1 h1079 H => ?_)
  rcases H with ⟨rfl, pf1082, pf1083, pf1084, pf1085, pf1086, hT1080, hF1081⟩ | ⟨rfl, pf1087, pf1088, pf1089, pf1090, pf1091, pf1092, pf1093, hT1080, hF1081⟩
  have hF1094 := Fr_cp hF1061 hF1081 (by decide +kernel : Wsub W258 Wp12 = true)
  have e1095 := fI_bd (q := 64) hT1080 (tf hT1080 rfl rfl) fd_8_90
  have e1096 := fI_bd (q := 64) hT1080 (tf hT1080 rfl rfl) fd_8_91
  have e1097 := fI_bd (q := 64) hT1080 (tf hT1080 rfl rfl) fd_8_86
  have e1098 := fI_bd (q := 64) hT1080 (tf hT1080 rfl rfl) fd_8_87
  have e1099 := fI_bd (q := 64) hT1080 (tf hT1080 rfl rfl) fd_8_88
  refine st_if_ne c260_130 (by omega) (fun k1100 => False.elim (by omega)) (fun k1101 => ?_)
  refine st_return c260_133 ?_
  have e1102 := fI_bd (q := 64) hT1080 (tf hT1080 rfl rfl) fd_8_93
  have q1103 : fI h1079 64 93 = fI h1047 64 93 := Fr_fI hF1081 (tf hT1048 rfl rfl) (by decide +kernel)
  have fr1104 : ∀ i : Int, 0 ≤ i → i < 220 * fI h 64 92 + fI h 64 93 → aI h1079 129 i = aI h 129 i := fun i a b => ((Fr_aI hF1081 (tf hT1048 rfl rfl) (by decide +kernel) i)).trans (((pf1058 i a (by omega))).trans (((Fr_aI hF1005 (tf hT972 rfl rfl) (by decide +kernel) i)).trans (((pf982 i a (by omega))).trans (((Fr_aI hF928 (tf hT910 rfl rfl) (by decide +kernel) i)).trans ((Fr_aI hF911 (tf hT rfl rfl) (by decide +kernel) i))))))
  have fr1105 : ∀ i : Int, 0 ≤ i → i < 220 * fI h 64 92 + fI h 64 93 → aI h1079 130 i = aI h 130 i := fun i a b => ((Fr_aI hF1081 (tf hT1048 rfl rfl) (by decide +kernel) i)).trans (((pf1059 i a (by omega))).trans (((Fr_aI hF1005 (tf hT972 rfl rfl) (by decide +kernel) i)).trans (((pf983 i a (by omega))).trans (((Fr_aI hF928 (tf hT910 rfl rfl) (by decide +kernel) i)).trans ((Fr_aI hF911 (tf hT rfl rfl) (by decide +kernel) i))))))
  have e1106 := fI_bd (q := 64) hT1080 (tf hT1080 rfl rfl) fd_8_92
  have q1107 : fI h1079 64 92 = fI h1003 64 92 := (Fr_fI hF1081 (tf hT1048 rfl rfl) (by decide +kernel)).trans (Fr_fI hF1049 (tf hT1004 rfl rfl) (by decide +kernel))
  exact hQ _ _ ⟨rfl, by omega, by omega, by omega, by omega, by omega, by omega, by omega, by omega, fr1104, fr1105, (Or.inl (by omega)), hT1080, hF1094⟩
  have hF1109 := Fr_cp hF1061 hF1081 (by decide +kernel : Wsub W258 Wp12 = true)
  have e1110 := fI_bd (q := 64) hT1080 (tf hT1080 rfl rfl) fd_8_90
  have e1111 := fI_bd (q := 64) hT1080 (tf hT1080 rfl rfl) fd_8_91
  have e1112 := fI_bd (q := 64) hT1080 (tf hT1080 rfl rfl) fd_8_86
  have e1113 := fI_bd (q := 64) hT1080 (tf hT1080 rfl rfl) fd_8_87
  refine st_if_ne c260_130 (by omega) (fun k1114 => ?_) (fun k1115 => False.elim (by omega))
  refine st_aload c260_134 rfl ?_
  refine st_iload c260_135 rfl ?_
  refine st_iconst c260_136 ?_
  refine st_iconst c260_137 ?_
  have e1116 := fI_bd (q := 64) hT1080 (tf hT1080 rfl rfl) fd_8_93
  have q1117 : fI h1079 64 93 = fI h1047 64 93 := Fr_fI hF1081 (tf hT1048 rfl rfl) (by decide +kernel)
  have e1118 := fI_bd (q := 64) hT1080 (tf hT1080 rfl rfl) fd_8_92
  have q1119 : fI h1079 64 92 = fI h1003 64 92 := (Fr_fI hF1081 (tf hT1048 rfl rfl) (by decide +kernel)).trans (Fr_fI hF1049 (tf hT1004 rfl rfl) (by decide +kernel))
  refine st_callt (as := [vI 5, vI 0, vI 0]) c260_138 cm_255 hT1080 (tf hT1080 rfl rfl) fd_8_0 rfl rfl rfl rfl (by omega) (K255 hT1080 (Stb_mono hS (by decide +kernel)) 5 (by omega) 0 (by omega) 0 (by omega) (by omega) (d - 1) (by omega) _ (fun v h0 H => H)) (fun v1 h1120 H => ?_)
  obtain ⟨rfl, pf1123, pf1124, pf1125, pf1126, pf1127, hT1121, hF1122⟩ := H
  have hF1128 := Fr_cp hF1109 hF1122 (by decide +kernel : Wsub W255 Wp12 = true)
  have e1129 := fI_bd (q := 64) hT1121 (tf hT1121 rfl rfl) fd_8_93
  refine st_return c260_141 ?_
  have e1130 := fI_bd (q := 64) hT1121 (tf hT1121 rfl rfl) fd_8_86
  have q1131 : fI h1120 64 86 = fI h1079 64 86 := Fr_fI hF1122 (tf hT1080 rfl rfl) (by decide +kernel)
  have e1132 := fI_bd (q := 64) hT1121 (tf hT1121 rfl rfl) fd_8_87
  have q1133 : fI h1120 64 87 = fI h1079 64 87 := Fr_fI hF1122 (tf hT1080 rfl rfl) (by decide +kernel)
  have e1134 := fI_bd (q := 64) hT1121 (tf hT1121 rfl rfl) fd_8_88
  have q1135 : fI h1120 64 88 = fI h1079 64 88 := Fr_fI hF1122 (tf hT1080 rfl rfl) (by decide +kernel)
  have e1136 := fI_bd (q := 64) hT1121 (tf hT1121 rfl rfl) fd_8_90
  have q1137 : fI h1120 64 90 = fI h1079 64 90 := Fr_fI hF1122 (tf hT1080 rfl rfl) (by decide +kernel)
  have e1138 := fI_bd (q := 64) hT1121 (tf hT1121 rfl rfl) fd_8_91
  have q1139 : fI h1120 64 91 = fI h1079 64 91 := Fr_fI hF1122 (tf hT1080 rfl rfl) (by decide +kernel)
  have fr1140 : ∀ i : Int, 0 ≤ i → i < 220 * fI h 64 92 + fI h 64 93 → aI h1120 129 i = aI h 129 i := fun i a b => ((pf1126 i a (by omega))).trans (((Fr_aI hF1081 (tf hT1048 rfl rfl) (by decide +kernel) i)).trans (((pf1058 i a (by omega))).trans (((Fr_aI hF1005 (tf hT972 rfl rfl) (by decide +kernel) i)).trans (((pf982 i a (by omega))).trans (((Fr_aI hF928 (tf hT910 rfl rfl) (by decide +kernel) i)).trans ((Fr_aI hF911 (tf hT rfl rfl) (by decide +kernel) i)))))))
  have fr1141 : ∀ i : Int, 0 ≤ i → i < 220 * fI h 64 92 + fI h 64 93 → aI h1120 130 i = aI h 130 i := fun i a b => ((pf1127 i a (by omega))).trans (((Fr_aI hF1081 (tf hT1048 rfl rfl) (by decide +kernel) i)).trans (((pf1059 i a (by omega))).trans (((Fr_aI hF1005 (tf hT972 rfl rfl) (by decide +kernel) i)).trans (((pf983 i a (by omega))).trans (((Fr_aI hF928 (tf hT910 rfl rfl) (by decide +kernel) i)).trans ((Fr_aI hF911 (tf hT rfl rfl) (by decide +kernel) i)))))))
  have e1142 := fI_bd (q := 64) hT1121 (tf hT1121 rfl rfl) fd_8_92
  have q1143 : fI h1120 64 92 = fI h1079 64 92 := Fr_fI hF1122 (tf hT1080 rfl rfl) (by decide +kernel)
  have g1145 := (pf984).resolve_left (by omega)
  have fr1146 : ∀ i : Int, 0 ≤ i → i < 220 * fI h926 64 92 + fI h926 64 93 + (fI h971 64 93 - fI h926 64 93) → aI h1120 129 i = aI h971 129 i := fun i a b => ((pf1126 i a (by omega))).trans (((Fr_aI hF1081 (tf hT1048 rfl rfl) (by decide +kernel) i)).trans (((pf1058 i a (by omega))).trans ((Fr_aI hF1005 (tf hT972 rfl rfl) (by decide +kernel) i))))
  have fr1147 : ∀ i : Int, 0 ≤ i → i < 220 * fI h926 64 92 + fI h926 64 93 + (fI h971 64 93 - fI h926 64 93) → aI h1120 130 i = aI h971 130 i := fun i a b => ((pf1127 i a (by omega))).trans (((Fr_aI hF1081 (tf hT1048 rfl rfl) (by decide +kernel) i)).trans (((pf1059 i a (by omega))).trans ((Fr_aI hF1005 (tf hT972 rfl rfl) (by decide +kernel) i))))
  have g1148 : Sg h1120 (220 * fI h926 64 92 + fI h926 64 93) (fI h971 64 93 - fI h926 64 93) := Sg_mv g1145 (fun i a b => ⟨fr1146 i (by omega) (by omega), fr1147 i (by omega) (by omega)⟩)
  have g1149 := (pf1060).resolve_left (by omega)
  have fr1150 : ∀ i : Int, 0 ≤ i → i < 220 * fI h1003 64 92 + fI h1003 64 93 + (fI h1047 64 93 - fI h1003 64 93) → aI h1120 129 i = aI h1047 129 i := fun i a b => ((pf1126 i a (by omega))).trans ((Fr_aI hF1081 (tf hT1048 rfl rfl) (by decide +kernel) i))
  have fr1151 : ∀ i : Int, 0 ≤ i → i < 220 * fI h1003 64 92 + fI h1003 64 93 + (fI h1047 64 93 - fI h1003 64 93) → aI h1120 130 i = aI h1047 130 i := fun i a b => ((pf1127 i a (by omega))).trans ((Fr_aI hF1081 (tf hT1048 rfl rfl) (by decide +kernel) i))
  have g1152 : Sg h1120 (220 * fI h1003 64 92 + fI h1003 64 93) (fI h1047 64 93 - fI h1003 64 93) := Sg_mv g1149 (fun i a b => ⟨fr1150 i (by omega) (by omega), fr1151 i (by omega) (by omega)⟩)
  have a1 : aI h1120 129 (220 * fI h1079 64 92 + fI h1079 64 93) = 5 := (rfl).trans pf1124
  have k1 : Sg h1120 (220 * fI h 64 92 + fI h 64 93) (fI h971 64 93 - fI h926 64 93) := by rw [show 220 * fI h 64 92 + fI h 64 93 = 220 * fI h926 64 92 + fI h926 64 93 by omega]; exact g1148
  have k2 : Sg h1120 (220 * fI h 64 92 + fI h 64 93 + (fI h971 64 93 - fI h926 64 93)) (fI h1047 64 93 - fI h1003 64 93) := by rw [show 220 * fI h 64 92 + fI h 64 93 + (fI h971 64 93 - fI h926 64 93) = 220 * fI h1003 64 92 + fI h1003 64 93 by omega]; exact g1152
  have sg1144 : 0 ≤ fI h1120 64 90 ∨ Sg h1120 (220 * fI h 64 92 + fI h 64 93) (fI h1120 64 93 - fI h 64 93) := Or.inr (by
    rw [show fI h1120 64 93 - fI h 64 93 = (fI h971 64 93 - fI h926 64 93) + (fI h1047 64 93 - fI h1003 64 93) + 1 by omega]
    exact Sg_op k1 k2 (by rw [show 220 * fI h 64 92 + fI h 64 93 + (fI h971 64 93 - fI h926 64 93) + (fI h1047 64 93 - fI h1003 64 93) = 220 * fI h1079 64 92 + fI h1079 64 93 by omega, a1]; omega))
  exact hQ _ _ ⟨rfl, by omega, by omega, by omega, by omega, by omega, by omega, by omega, by omega, fr1140, fr1141, sg1144, hT1121, hF1128⟩
  refine st_aload c260_30 rfl ?_
  refine st_iconst c260_31 ?_
  refine st_aload c260_32 rfl ?_
  refine st_callt (as := []) c260_33 cm_259 hT (tf hT rfl rfl) fd_8_0 rfl rfl rfl rfl (by omega) (MR_det (K259 hT (d - 1) (by omega) _ (fun v h0 H => H))) (fun v1 h1 H => ?_)
  obtain ⟨H, rb2⟩ := H
  obtain ⟨z1154, rfl, b1155, pf1153, rfl⟩ := H
  have e1156 : z1154 = z10 := vI_inj (by omega) (by omega) (RB_det rb2 rb1)
  refine st_iconst c260_36 ?_
  have e1157 := fI_bd (q := 64) hT (tf hT rfl rfl) fd_8_93
  have e1158 := fI_bd (q := 64) hT (tf hT rfl rfl) fd_8_92
  refine st_callt (as := [vI 2, vI z1154, vI 0]) c260_37 cm_255 hT (tf hT rfl rfl) fd_8_0 rfl rfl rfl rfl (by omega) (K255 hT (Stb_mono hS (by decide +kernel)) 2 (by omega) z1154 (by omega) 0 (by omega) (by omega) (d - 1) (by omega) _ (fun v h0 H => H)) (fun v1 h1159 H => ?_)
  obtain ⟨rfl, pf1162, pf1163, pf1164, pf1165, pf1166, hT1160, hF1161⟩ := H
  have hF1167 := Fr_cp hF hF1161 (by decide +kernel : Wsub W255 Wp12 = true)
  have e1168 := fI_bd (q := 64) hT1160 (tf hT1160 rfl rfl) fd_8_93
  refine st_aload c260_40 rfl ?_
  have e1169 := fI_bd (q := 64) hT1160 (tf hT1160 rfl rfl) fd_8_87
  have q1170 : fI h1159 64 87 = fI h 64 87 := Fr_fI hF1161 (tf hT rfl rfl) (by decide +kernel)
  have e1171 := fI_bd (q := 64) hT1160 (tf hT1160 rfl rfl) fd_8_77
  have q1172 : fI h1159 64 77 = fI h 64 77 := Fr_fI hF1161 (tf hT rfl rfl) (by decide +kernel)
  refine st_callt (as := []) c260_41 cm_252 hT1160 (tf hT1160 rfl rfl) fd_8_0 rfl rfl rfl rfl (by omega) (K252 hT1160 (Stb_mono hS (by decide +kernel)) (by omega) (d - 1) (by omega) _ (fun v h0 H => H)) (fun v1 h1173 H => ?_)
  obtain ⟨rfl, pf1176, pf1177, pf1178, pf1179, hT1174, hF1175⟩ := H
  have hF1180 := Fr_cp hF1167 hF1175 (by decide +kernel : Wsub W252 Wp12 = true)
  have e1181 := fI_bd (q := 64) hT1174 (tf hT1174 rfl rfl) fd_8_86
  have e1182 := fI_bd (q := 64) hT1174 (tf hT1174 rfl rfl) fd_8_87
  have e1183 := fI_bd (q := 64) hT1174 (tf hT1174 rfl rfl) fd_8_88
  refine st_return c260_44 ?_
  have e1184 := fI_bd (q := 64) hT1174 (tf hT1174 rfl rfl) fd_8_90
  have q1185 : fI h1173 64 90 = fI h 64 90 := (Fr_fI hF1175 (tf hT1160 rfl rfl) (by decide +kernel)).trans (Fr_fI hF1161 (tf hT rfl rfl) (by decide +kernel))
  have e1186 := fI_bd (q := 64) hT1174 (tf hT1174 rfl rfl) fd_8_93
  have q1187 : fI h1173 64 93 = fI h1159 64 93 := Fr_fI hF1175 (tf hT1160 rfl rfl) (by decide +kernel)
  have e1188 := fI_bd (q := 64) hT1174 (tf hT1174 rfl rfl) fd_8_91
  have q1189 : fI h1173 64 91 = fI h 64 91 := (Fr_fI hF1175 (tf hT1160 rfl rfl) (by decide +kernel)).trans (Fr_fI hF1161 (tf hT rfl rfl) (by decide +kernel))
  have fr1190 : ∀ i : Int, 0 ≤ i → i < 220 * fI h 64 92 + fI h 64 93 → aI h1173 129 i = aI h 129 i := fun i a b => ((Fr_aI hF1175 (tf hT1160 rfl rfl) (by decide +kernel) i)).trans ((pf1165 i a (by omega)))
  have fr1191 : ∀ i : Int, 0 ≤ i → i < 220 * fI h 64 92 + fI h 64 93 → aI h1173 130 i = aI h 130 i := fun i a b => ((Fr_aI hF1175 (tf hT1160 rfl rfl) (by decide +kernel) i)).trans ((pf1166 i a (by omega)))
  have e1192 := fI_bd (q := 64) hT1174 (tf hT1174 rfl rfl) fd_8_92
  have q1193 : fI h1173 64 92 = fI h 64 92 := (Fr_fI hF1175 (tf hT1160 rfl rfl) (by decide +kernel)).trans (Fr_fI hF1161 (tf hT rfl rfl) (by decide +kernel))
  have a1 : aI h1173 129 (220 * fI h 64 92 + fI h 64 93) = 2 := (Fr_aI hF1175 (tf hT1160 rfl rfl) (by decide +kernel) (220 * fI h 64 92 + fI h 64 93)).trans pf1163
  have a2 : aI h1173 130 (220 * fI h 64 92 + fI h 64 93) = z1154 := (Fr_aI hF1175 (tf hT1160 rfl rfl) (by decide +kernel) (220 * fI h 64 92 + fI h 64 93)).trans pf1164
  have sg1194 : 0 ≤ fI h1173 64 90 ∨ Sg h1173 (220 * fI h 64 92 + fI h 64 93) (fI h1173 64 93 - fI h 64 93) := Or.inr (by
    rw [show fI h1173 64 93 - fI h 64 93 = 1 by omega]
    exact Sg_name a1 (by rw [a2]; omega))
  exact hQ _ _ ⟨rfl, by omega, by omega, by omega, by omega, by omega, by omega, by omega, by omega, fr1190, fr1191, sg1194, hT1174, hF1180⟩
  refine st_aload c260_8 rfl ?_
  refine st_iconst c260_9 ?_
  refine st_aload c260_10 rfl ?_
  refine st_getI c260_11 hT (tf hT rfl rfl) fd_8_89 (fun e1195 e1196 => ?_)
  refine st_iconst c260_14 ?_
  have e1197 := fI_bd (q := 64) hT (tf hT rfl rfl) fd_8_93
  have e1198 := fI_bd (q := 64) hT (tf hT rfl rfl) fd_8_92
  refine st_callt (as := [vI 1, vI (fI h 64 89), vI 0]) c260_15 cm_255 hT (tf hT rfl rfl) fd_8_0 rfl rfl rfl rfl (by omega) (K255 hT (Stb_mono hS (by decide +kernel)) 1 (by omega) (fI h 64 89) (by omega) 0 (by omega) (by omega) (d - 1) (by omega) _ (fun v h0 H => H)) (fun v1 h1199 H => ?_)
  obtain ⟨rfl, pf1202, pf1203, pf1204, pf1205, pf1206, hT1200, hF1201⟩ := H
  have hF1207 := Fr_cp hF hF1201 (by decide +kernel : Wsub W255 Wp12 = true)
  have e1208 := fI_bd (q := 64) hT1200 (tf hT1200 rfl rfl) fd_8_93
  refine st_aload c260_18 rfl ?_
  have e1209 := fI_bd (q := 64) hT1200 (tf hT1200 rfl rfl) fd_8_87
  have q1210 : fI h1199 64 87 = fI h 64 87 := Fr_fI hF1201 (tf hT rfl rfl) (by decide +kernel)
  have e1211 := fI_bd (q := 64) hT1200 (tf hT1200 rfl rfl) fd_8_77
  have q1212 : fI h1199 64 77 = fI h 64 77 := Fr_fI hF1201 (tf hT rfl rfl) (by decide +kernel)
  refine st_callt (as := []) c260_19 cm_252 hT1200 (tf hT1200 rfl rfl) fd_8_0 rfl rfl rfl rfl (by omega) (K252 hT1200 (Stb_mono hS (by decide +kernel)) (by omega) (d - 1) (by omega) _ (fun v h0 H => H)) (fun v1 h1213 H => ?_)
  obtain ⟨rfl, pf1216, pf1217, pf1218, pf1219, hT1214, hF1215⟩ := H
  have hF1220 := Fr_cp hF1207 hF1215 (by decide +kernel : Wsub W252 Wp12 = true)
  have e1221 := fI_bd (q := 64) hT1214 (tf hT1214 rfl rfl) fd_8_86
  have e1222 := fI_bd (q := 64) hT1214 (tf hT1214 rfl rfl) fd_8_87
  have e1223 := fI_bd (q := 64) hT1214 (tf hT1214 rfl rfl) fd_8_88
  refine st_return c260_22 ?_
  have e1224 := fI_bd (q := 64) hT1214 (tf hT1214 rfl rfl) fd_8_90
  have q1225 : fI h1213 64 90 = fI h 64 90 := (Fr_fI hF1215 (tf hT1200 rfl rfl) (by decide +kernel)).trans (Fr_fI hF1201 (tf hT rfl rfl) (by decide +kernel))
  have e1226 := fI_bd (q := 64) hT1214 (tf hT1214 rfl rfl) fd_8_93
  have q1227 : fI h1213 64 93 = fI h1199 64 93 := Fr_fI hF1215 (tf hT1200 rfl rfl) (by decide +kernel)
  have e1228 := fI_bd (q := 64) hT1214 (tf hT1214 rfl rfl) fd_8_91
  have q1229 : fI h1213 64 91 = fI h 64 91 := (Fr_fI hF1215 (tf hT1200 rfl rfl) (by decide +kernel)).trans (Fr_fI hF1201 (tf hT rfl rfl) (by decide +kernel))
  have fr1230 : ∀ i : Int, 0 ≤ i → i < 220 * fI h 64 92 + fI h 64 93 → aI h1213 129 i = aI h 129 i := fun i a b => ((Fr_aI hF1215 (tf hT1200 rfl rfl) (by decide +kernel) i)).trans ((pf1205 i a (by omega)))
  have fr1231 : ∀ i : Int, 0 ≤ i → i < 220 * fI h 64 92 + fI h 64 93 → aI h1213 130 i = aI h 130 i := fun i a b => ((Fr_aI hF1215 (tf hT1200 rfl rfl) (by decide +kernel) i)).trans ((pf1206 i a (by omega)))
  have e1232 := fI_bd (q := 64) hT1214 (tf hT1214 rfl rfl) fd_8_92
  have q1233 : fI h1213 64 92 = fI h 64 92 := (Fr_fI hF1215 (tf hT1200 rfl rfl) (by decide +kernel)).trans (Fr_fI hF1201 (tf hT rfl rfl) (by decide +kernel))
  have a1 : aI h1213 129 (220 * fI h 64 92 + fI h 64 93) = 1 := (Fr_aI hF1215 (tf hT1200 rfl rfl) (by decide +kernel) (220 * fI h 64 92 + fI h 64 93)).trans pf1203
  have sg1234 : 0 ≤ fI h1213 64 90 ∨ Sg h1213 (220 * fI h 64 92 + fI h 64 93) (fI h1213 64 93 - fI h 64 93) := Or.inr (by
    rw [show fI h1213 64 93 - fI h 64 93 = 1 by omega]
    exact Sg_push a1)
  exact hQ _ _ ⟨rfl, by omega, by omega, by omega, by omega, by omega, by omega, by omega, by omega, fr1230, fr1231, sg1234, hT1214, hF1220⟩
set_option maxHeartbeats 0 in
theorem K261 {k : Int} {Ln : Nat} {xs : Nat → Int32} {τ : List Nat} {h : List mE} {E : EP} (hT : TH E τ h) (hS : Stb E Wp12) (pre0 : fI h 64 86≤fI h 64 87) (pre1 : fI h 64 87≤fI h 64 77) (pre2 : fI h 64 88 = 0 ∨ fI h 64 86 + 1 ≤ fI h 64 87) (pre3 : fI h 64 93≤fI h 64 86+1) (pre4 : fI h 64 91 = k ∧ 0 ≤ k ∧ k ≤ 8) (pre5 : k < 8 → C262 (k + 1)) (d : Nat) (hd : 83 - 7 * k ≤ (d : Int)) (Q : Option Value → List mE → Prop) (hQ : ∀ v h', (v = none ∧ (fI h 64 86≤fI h' 64 86) ∧ (fI h' 64 86≤fI h' 64 87) ∧ (fI h' 64 87≤fI h 64 77) ∧ (fI h' 64 88 = 0 ∨ fI h' 64 86 + 1 ≤ fI h' 64 87) ∧ (fI h 64 90 < 0 ∨ 0 ≤ fI h' 64 90) ∧ (fI h' 64 93 - fI h' 64 86 ≤ fI h 64 93 - fI h 64 86) ∧ (fI h 64 93≤fI h' 64 93) ∧ (0 ≤ fI h' 64 90 ∨ fI h' 64 91 = fI h 64 91) ∧ (∀ i : Int, 0 ≤ i → i < 220 * fI h 64 92 + fI h 64 93 → aI h' 129 i = aI h 129 i) ∧ (∀ i : Int, 0 ≤ i → i < 220 * fI h 64 92 + fI h 64 93 → aI h' 130 i = aI h 130 i) ∧ (0 ≤ fI h' 64 90 ∨ Sg h' (220 * fI h 64 92 + fI h 64 93) (fI h' 64 93 - fI h 64 93)) ∧ TH E τ h' ∧ Fr τ Wp12 h h') → Q v h') : MR (mex Ln xs) d 261 0 [some (.ref 64), none] [] h Q := by
  have hF := Fr_rf τ Wp12 h
  have e1 := fI_bd (q := 64) hT (tf hT rfl rfl) fd_8_86
  have e2 := fI_bd (q := 64) hT (tf hT rfl rfl) fd_8_87
  have e3 := fI_bd (q := 64) hT (tf hT rfl rfl) fd_8_77
  have e4 := fI_bd (q := 64) hT (tf hT rfl rfl) fd_8_93
  refine st_aload c261_0 rfl ?_
  have e5 := fI_bd (q := 64) hT (tf hT rfl rfl) fd_8_86
  have e6 := fI_bd (q := 64) hT (tf hT rfl rfl) fd_8_77
  have e7 := fI_bd (q := 64) hT (tf hT rfl rfl) fd_8_90
  have e8 := fI_bd (q := 64) hT (tf hT rfl rfl) fd_8_93
  have e9 := fI_bd (q := 64) hT (tf hT rfl rfl) fd_8_91
  have e10 := fI_bd (q := 64) hT (tf hT rfl rfl) fd_8_92
  have e11 := fI_bd (q := 64) hT (tf hT rfl rfl) fd_8_87
  have e12 := fI_bd (q := 64) hT (tf hT rfl rfl) fd_8_88
  refine st_callt (as := []) c261_1 cm_260 hT (tf hT rfl rfl) fd_8_0 rfl rfl rfl rfl (by omega) (K260 (k := k) hT (Stb_mono hS (by decide +kernel)) (by omega) (by omega) (by omega) (by omega) (by omega) pre5 (d - 1) (by omega) _ (fun v h0 H => H)) (fun v1 h13 H => ?_)
  obtain ⟨rfl, pf16, pf17, pf18, pf19, pf20, pf21, pf22, pf23, pf24, pf25, pf26, hT14, hF15⟩ := H
  have hF27 := Fr_cp hF hF15 (by decide +kernel : Wsub Wp12 Wp12 = true)
  have e28 := fI_bd (q := 64) hT14 (tf hT14 rfl rfl) fd_8_86
  have e29 := fI_bd (q := 64) hT14 (tf hT14 rfl rfl) fd_8_87
  have e30 := fI_bd (q := 64) hT14 (tf hT14 rfl rfl) fd_8_88
  have e31 := fI_bd (q := 64) hT14 (tf hT14 rfl rfl) fd_8_90
  have e32 := fI_bd (q := 64) hT14 (tf hT14 rfl rfl) fd_8_93
  have e33 := fI_bd (q := 64) hT14 (tf hT14 rfl rfl) fd_8_91
  have lp172 : ∀ (n173 : Nat) (h168 : List mE), fI h168 64 77 - fI h168 64 86 < (n173 : Int) → fI h 64 86 ≤ fI h168 64 86 → fI h168 64 86 ≤ fI h168 64 87 → fI h168 64 87 ≤ fI h168 64 77 → fI h168 64 88 = 0 ∨ fI h168 64 86 + 1 ≤ fI h168 64 87 → fI h 64 90 < 0 ∨ 0 ≤ fI h168 64 90 → fI h168 64 93 - fI h168 64 86 ≤ fI h 64 93 - fI h 64 86 → fI h 64 93 ≤ fI h168 64 93 → 0 ≤ fI h168 64 90 ∨ fI h168 64 91 = fI h 64 91 → (∀ i : Int, 0 ≤ i → i < 220 * fI h 64 92 + fI h 64 93 → aI h168 129 i = aI h 129 i) → (∀ i : Int, 0 ≤ i → i < 220 * fI h 64 92 + fI h 64 93 → aI h168 130 i = aI h 130 i) → 0 ≤ fI h168 64 90 ∨ Sg h168 (220 * fI h 64 92 + fI h 64 93) (fI h168 64 93 - fI h 64 93) → fI h168 64 77 = fI h 64 77 → fI h168 64 92 = fI h 64 92 → TH E τ h168 → Fr τ Wp12 h h168 → Fr τ [(8, 86), (8, 87), (8, 88), (8, 89), (8, 90), (8, 91), (8, 93), (107, 0), (108, 0), (109, 0)] h13 h168 → MR (mex Ln xs) d 261 4 [some (.ref 64), none] [] h168 Q := by
    intro n173
    induction n173 with
    | zero =>
      intro h168 hm175 x176 x177 x178 x179 x180 x181 x182 x183 x184 x185 x186 x187 x188 hT169 hF170 hL171
      exfalso; omega
    | succ n173 ih174 =>
      intro h168 hm175 x176 x177 x178 x179 x180 x181 x182 x183 x184 x185 x186 x187 x188 hT169 hF170 hL171
      have e189 := fI_bd (q := 64) hT169 (tf hT169 rfl rfl) fd_8_86
      have e190 := fI_bd (q := 64) hT169 (tf hT169 rfl rfl) fd_8_87
      have e191 := fI_bd (q := 64) hT169 (tf hT169 rfl rfl) fd_8_77
      have q192 : fI h168 64 77 = fI h 64 77 := (Fr_fI hL171 (tf hT14 rfl rfl) (by decide +kernel)).trans (Fr_fI hF15 (tf hT rfl rfl) (by decide +kernel))
      have e193 := fI_bd (q := 64) hT169 (tf hT169 rfl rfl) fd_8_88
      have e194 := fI_bd (q := 64) hT169 (tf hT169 rfl rfl) fd_8_90
      have e195 := fI_bd (q := 64) hT169 (tf hT169 rfl rfl) fd_8_93
      have e196 := fI_bd (q := 64) hT169 (tf hT169 rfl rfl) fd_8_91
      have e197 := fI_bd (q := 64) hT169 (tf hT169 rfl rfl) fd_8_92
      have q198 : fI h168 64 92 = fI h 64 92 := (Fr_fI hL171 (tf hT14 rfl rfl) (by decide +kernel)).trans (Fr_fI hF15 (tf hT rfl rfl) (by decide +kernel))
      refine st_aload c261_4 rfl ?_
      refine st_getI c261_5 hT169 (tf hT169 rfl rfl) fd_8_90 (fun e199 e200 => ?_)
      refine st_if_ge c261_8 (by omega) (fun k201 => ?_) (fun k202 => ?_)
      refine st_return c261_52 ?_
      have fr203 : ∀ i : Int, 0 ≤ i → i < 220 * fI h 64 92 + fI h 64 93 → aI h168 129 i = aI h 129 i := fun i a b => (x184 i a b)
      have fr204 : ∀ i : Int, 0 ≤ i → i < 220 * fI h 64 92 + fI h 64 93 → aI h168 130 i = aI h 130 i := fun i a b => (x185 i a b)
      exact hQ _ _ ⟨rfl, by omega, by omega, by omega, by omega, by omega, by omega, by omega, by omega, fr203, fr204, x186, hT169, hF170⟩
      refine st_aload c261_11 rfl ?_
      refine st_getI c261_12 hT169 (tf hT169 rfl rfl) fd_8_88 (fun e205 e206 => ?_)
      refine st_iconst c261_15 ?_
      refine st_icmp_eq c261_17 (by omega) (by omega) (fun k207 => ?_) (fun k208 => ?_)
      refine st_aload c261_29 rfl ?_
      refine st_getI c261_30 hT169 (tf hT169 rfl rfl) fd_8_88 (fun e209 e210 => ?_)
      refine st_istore (L' := [some (.ref 64), some (vI (fI h168 64 88))]) c261_33 rfl rfl ?_
      refine st_aload c261_34 rfl ?_
      refine st_callt (as := []) c261_35 cm_252 hT169 (tf hT169 rfl rfl) fd_8_0 rfl rfl rfl rfl (by omega) (K252 hT169 (Stb_mono hS (by decide +kernel)) (by omega) (d - 1) (by omega) _ (fun v h0 H => H)) (fun v1 h211 H => ?_)
      obtain ⟨rfl, pf214, pf215, pf216, pf217, hT212, hF213⟩ := H
      have hF218 := Fr_cp hF170 hF213 (by decide +kernel : Wsub W252 Wp12 = true)
      have e219 := fI_bd (q := 64) hT212 (tf hT212 rfl rfl) fd_8_86
      have e220 := fI_bd (q := 64) hT212 (tf hT212 rfl rfl) fd_8_87
      have e221 := fI_bd (q := 64) hT212 (tf hT212 rfl rfl) fd_8_88
      refine st_aload c261_38 rfl ?_
      have e222 := fI_bd (q := 64) hT212 (tf hT212 rfl rfl) fd_8_77
      have q223 : fI h211 64 77 = fI h168 64 77 := Fr_fI hF213 (tf hT169 rfl rfl) (by decide +kernel)
      have e224 := fI_bd (q := 64) hT212 (tf hT212 rfl rfl) fd_8_90
      have q225 : fI h211 64 90 = fI h168 64 90 := Fr_fI hF213 (tf hT169 rfl rfl) (by decide +kernel)
      have e226 := fI_bd (q := 64) hT212 (tf hT212 rfl rfl) fd_8_93
      have q227 : fI h211 64 93 = fI h168 64 93 := Fr_fI hF213 (tf hT169 rfl rfl) (by decide +kernel)
      have e228 := fI_bd (q := 64) hT212 (tf hT212 rfl rfl) fd_8_91
      have q229 : fI h211 64 91 = fI h168 64 91 := Fr_fI hF213 (tf hT169 rfl rfl) (by decide +kernel)
      have e230 := fI_bd (q := 64) hT212 (tf hT212 rfl rfl) fd_8_92
      have q231 : fI h211 64 92 = fI h168 64 92 := Fr_fI hF213 (tf hT169 rfl rfl) (by decide +kernel)
      refine st_callt (as := []) c261_39 cm_260 hT212 (tf hT212 rfl rfl) fd_8_0 rfl rfl rfl rfl (by omega) (K260 (k := k) hT212 (Stb_mono hS (by decide +kernel)) (by omega) (by omega) (by omega) (by omega) (by omega) pre5 (d - 1) (by omega) _ (fun v h0 H => H)) (fun v1 h232 H => ?_)
      obtain ⟨rfl, pf235, pf236, pf237, pf238, pf239, pf240, pf241, pf242, pf243, pf244, pf245, hT233, hF234⟩ := H
      have hF246 := Fr_cp hF218 hF234 (by decide +kernel : Wsub Wp12 Wp12 = true)
      have e247 := fI_bd (q := 64) hT233 (tf hT233 rfl rfl) fd_8_86
      have e248 := fI_bd (q := 64) hT233 (tf hT233 rfl rfl) fd_8_87
      have e249 := fI_bd (q := 64) hT233 (tf hT233 rfl rfl) fd_8_88
      have e250 := fI_bd (q := 64) hT233 (tf hT233 rfl rfl) fd_8_90
      have e251 := fI_bd (q := 64) hT233 (tf hT233 rfl rfl) fd_8_93
      have e252 := fI_bd (q := 64) hT233 (tf hT233 rfl rfl) fd_8_91
      refine st_aload c261_42 rfl ?_
      refine st_iload c261_43 rfl ?_
      refine st_iconst c261_44 ?_
      refine st_iconst c261_45 ?_
      have e253 := fI_bd (q := 64) hT233 (tf hT233 rfl rfl) fd_8_92
      have q254 : fI h232 64 92 = fI h211 64 92 := Fr_fI hF234 (tf hT212 rfl rfl) (by decide +kernel)
      refine st_callt (as := [vI (fI h168 64 88), vI 0, vI 0]) c261_46 cm_255 hT233 (tf hT233 rfl rfl) fd_8_0 rfl rfl rfl rfl (by omega) (K255 hT233 (Stb_mono hS (by decide +kernel)) (fI h168 64 88) (by omega) 0 (by omega) 0 (by omega) (by omega) (d - 1) (by omega) _ (fun v h0 H => H)) (fun v1 h255 H => ?_)
      obtain ⟨rfl, pf258, pf259, pf260, pf261, pf262, hT256, hF257⟩ := H
      have hF263 := Fr_cp hF246 hF257 (by decide +kernel : Wsub W255 Wp12 = true)
      have e264 := fI_bd (q := 64) hT256 (tf hT256 rfl rfl) fd_8_93
      refine st_goto c261_49 ?_
      refine MR_weak (A := [some (.ref 64), none]) (Lle_s (Lle_n (Lle_0))) ?_
      have e265 := fI_bd (q := 64) hT256 (tf hT256 rfl rfl) fd_8_92
      have q266 : fI h255 64 92 = fI h232 64 92 := Fr_fI hF257 (tf hT233 rfl rfl) (by decide +kernel)
      have e267 := fI_bd (q := 64) hT256 (tf hT256 rfl rfl) fd_8_90
      have q268 : fI h255 64 90 = fI h232 64 90 := Fr_fI hF257 (tf hT233 rfl rfl) (by decide +kernel)
      have sg269 : 0 ≤ fI h255 64 90 ∨ Sg h255 (220 * fI h 64 92 + fI h 64 93) (fI h255 64 93 - fI h 64 93) := by
        rcases pf245 with q | q
        · exact Or.inl (by omega)
        · have gx := x186.resolve_left (by omega)
          have fr270 : ∀ i : Int, 0 ≤ i → i < 220 * fI h 64 92 + fI h 64 93 + (fI h168 64 93 - fI h 64 93) → aI h255 129 i = aI h168 129 i := fun i a b => ((pf261 i a (by omega))).trans (((pf243 i a (by omega))).trans ((Fr_aI hF213 (tf hT169 rfl rfl) (by decide +kernel) i)))
          have fr271 : ∀ i : Int, 0 ≤ i → i < 220 * fI h 64 92 + fI h 64 93 + (fI h168 64 93 - fI h 64 93) → aI h255 130 i = aI h168 130 i := fun i a b => ((pf262 i a (by omega))).trans (((pf244 i a (by omega))).trans ((Fr_aI hF213 (tf hT169 rfl rfl) (by decide +kernel) i)))
          have k1 : Sg h255 (220 * fI h 64 92 + fI h 64 93) (fI h168 64 93 - fI h 64 93) := Sg_mv gx (fun i a b => ⟨fr270 i (by omega) (by omega), fr271 i (by omega) (by omega)⟩)
          have fr272 : ∀ i : Int, 0 ≤ i → i < 220 * fI h211 64 92 + fI h211 64 93 + (fI h232 64 93 - fI h211 64 93) → aI h255 129 i = aI h232 129 i := fun i a b => (pf261 i a (by omega))
          have fr273 : ∀ i : Int, 0 ≤ i → i < 220 * fI h211 64 92 + fI h211 64 93 + (fI h232 64 93 - fI h211 64 93) → aI h255 130 i = aI h232 130 i := fun i a b => (pf262 i a (by omega))
          have g274 : Sg h255 (220 * fI h211 64 92 + fI h211 64 93) (fI h232 64 93 - fI h211 64 93) := Sg_mv q (fun i a b => ⟨fr272 i (by omega) (by omega), fr273 i (by omega) (by omega)⟩)
          have k2 : Sg h255 (220 * fI h 64 92 + fI h 64 93 + (fI h168 64 93 - fI h 64 93)) (fI h232 64 93 - fI h211 64 93) := by rw [show 220 * fI h 64 92 + fI h 64 93 + (fI h168 64 93 - fI h 64 93) = 220 * fI h211 64 92 + fI h211 64 93 by omega]; exact g274
          have a1 : aI h255 129 (220 * fI h232 64 92 + fI h232 64 93) = fI h168 64 88 := (rfl).trans pf259
          refine Or.inr ?_
          rw [show fI h255 64 93 - fI h 64 93 = (fI h168 64 93 - fI h 64 93) + (fI h232 64 93 - fI h211 64 93) + 1 by omega]
          exact Sg_op k1 k2 (by rw [show 220 * fI h 64 92 + fI h 64 93 + (fI h168 64 93 - fI h 64 93) + (fI h232 64 93 - fI h211 64 93) = 220 * fI h232 64 92 + fI h232 64 93 by omega, a1]; omega)
      have e275 := fI_bd (q := 64) hT256 (tf hT256 rfl rfl) fd_8_86
      have q276 : fI h255 64 86 = fI h232 64 86 := Fr_fI hF257 (tf hT233 rfl rfl) (by decide +kernel)
      have e277 := fI_bd (q := 64) hT256 (tf hT256 rfl rfl) fd_8_87
      have q278 : fI h255 64 87 = fI h232 64 87 := Fr_fI hF257 (tf hT233 rfl rfl) (by decide +kernel)
      have e279 := fI_bd (q := 64) hT256 (tf hT256 rfl rfl) fd_8_77
      have q280 : fI h255 64 77 = fI h211 64 77 := (Fr_fI hF257 (tf hT233 rfl rfl) (by decide +kernel)).trans (Fr_fI hF234 (tf hT212 rfl rfl) (by decide +kernel))
      have e281 := fI_bd (q := 64) hT256 (tf hT256 rfl rfl) fd_8_88
      have q282 : fI h255 64 88 = fI h232 64 88 := Fr_fI hF257 (tf hT233 rfl rfl) (by decide +kernel)
      have e283 := fI_bd (q := 64) hT256 (tf hT256 rfl rfl) fd_8_91
      have q284 : fI h255 64 91 = fI h232 64 91 := Fr_fI hF257 (tf hT233 rfl rfl) (by decide +kernel)
      have fr285 : ∀ i : Int, 0 ≤ i → i < 220 * fI h 64 92 + fI h 64 93 → aI h255 129 i = aI h 129 i := fun i a b => ((pf261 i a (by omega))).trans (((pf243 i a (by omega))).trans (((Fr_aI hF213 (tf hT169 rfl rfl) (by decide +kernel) i)).trans ((x184 i a b))))
      have fr286 : ∀ i : Int, 0 ≤ i → i < 220 * fI h 64 92 + fI h 64 93 → aI h255 130 i = aI h 130 i := fun i a b => ((pf262 i a (by omega))).trans (((pf244 i a (by omega))).trans (((Fr_aI hF213 (tf hT169 rfl rfl) (by decide +kernel) i)).trans ((x185 i a b))))
      exact ih174 h255 (by omega) (by omega) (by omega) (by omega) (by omega) (by omega) (by omega) (by omega) (by omega) fr285 fr286 sg269 (by omega) (by omega) hT256 hF263 (Fr_cp (Fr_cp (Fr_cp hL171 hF213 (by decide +kernel)) hF234 (by decide +kernel)) hF257 (by decide +kernel))
      refine st_aload c261_20 rfl ?_
      refine st_getI c261_21 hT169 (tf hT169 rfl rfl) fd_8_88 (fun e287 e288 => ?_)
      refine st_iconst c261_24 ?_
      refine st_icmp_ne c261_26 (by omega) (by omega) (fun k289 => ?_) (fun k290 => ?_)
      refine st_return c261_52 ?_
      have fr291 : ∀ i : Int, 0 ≤ i → i < 220 * fI h 64 92 + fI h 64 93 → aI h168 129 i = aI h 129 i := fun i a b => (x184 i a b)
      have fr292 : ∀ i : Int, 0 ≤ i → i < 220 * fI h 64 92 + fI h 64 93 → aI h168 130 i = aI h 130 i := fun i a b => (x185 i a b)
      exact hQ _ _ ⟨rfl, by omega, by omega, by omega, by omega, by omega, by omega, by omega, by omega, fr291, fr292, x186, hT169, hF170⟩
      refine st_aload c261_29 rfl ?_
      refine st_getI c261_30 hT169 (tf hT169 rfl rfl) fd_8_88 (fun e293 e294 => ?_)
      refine st_istore (L' := [some (.ref 64), some (vI (fI h168 64 88))]) c261_33 rfl rfl ?_
      refine st_aload c261_34 rfl ?_
      refine st_callt (as := []) c261_35 cm_252 hT169 (tf hT169 rfl rfl) fd_8_0 rfl rfl rfl rfl (by omega) (K252 hT169 (Stb_mono hS (by decide +kernel)) (by omega) (d - 1) (by omega) _ (fun v h0 H => H)) (fun v1 h295 H => ?_)
      obtain ⟨rfl, pf298, pf299, pf300, pf301, hT296, hF297⟩ := H
      have hF302 := Fr_cp hF170 hF297 (by decide +kernel : Wsub W252 Wp12 = true)
      have e303 := fI_bd (q := 64) hT296 (tf hT296 rfl rfl) fd_8_86
      have e304 := fI_bd (q := 64) hT296 (tf hT296 rfl rfl) fd_8_87
      have e305 := fI_bd (q := 64) hT296 (tf hT296 rfl rfl) fd_8_88
      refine st_aload c261_38 rfl ?_
      have e306 := fI_bd (q := 64) hT296 (tf hT296 rfl rfl) fd_8_77
      have q307 : fI h295 64 77 = fI h168 64 77 := Fr_fI hF297 (tf hT169 rfl rfl) (by decide +kernel)
      have e308 := fI_bd (q := 64) hT296 (tf hT296 rfl rfl) fd_8_90
      have q309 : fI h295 64 90 = fI h168 64 90 := Fr_fI hF297 (tf hT169 rfl rfl) (by decide +kernel)
      have e310 := fI_bd (q := 64) hT296 (tf hT296 rfl rfl) fd_8_93
      have q311 : fI h295 64 93 = fI h168 64 93 := Fr_fI hF297 (tf hT169 rfl rfl) (by decide +kernel)
      have e312 := fI_bd (q := 64) hT296 (tf hT296 rfl rfl) fd_8_91
      have q313 : fI h295 64 91 = fI h168 64 91 := Fr_fI hF297 (tf hT169 rfl rfl) (by decide +kernel)
      have e314 := fI_bd (q := 64) hT296 (tf hT296 rfl rfl) fd_8_92
      have q315 : fI h295 64 92 = fI h168 64 92 := Fr_fI hF297 (tf hT169 rfl rfl) (by decide +kernel)
      refine st_callt (as := []) c261_39 cm_260 hT296 (tf hT296 rfl rfl) fd_8_0 rfl rfl rfl rfl (by omega) (K260 (k := k) hT296 (Stb_mono hS (by decide +kernel)) (by omega) (by omega) (by omega) (by omega) (by omega) pre5 (d - 1) (by omega) _ (fun v h0 H => H)) (fun v1 h316 H => ?_)
      obtain ⟨rfl, pf319, pf320, pf321, pf322, pf323, pf324, pf325, pf326, pf327, pf328, pf329, hT317, hF318⟩ := H
      have hF330 := Fr_cp hF302 hF318 (by decide +kernel : Wsub Wp12 Wp12 = true)
      have e331 := fI_bd (q := 64) hT317 (tf hT317 rfl rfl) fd_8_86
      have e332 := fI_bd (q := 64) hT317 (tf hT317 rfl rfl) fd_8_87
      have e333 := fI_bd (q := 64) hT317 (tf hT317 rfl rfl) fd_8_88
      have e334 := fI_bd (q := 64) hT317 (tf hT317 rfl rfl) fd_8_90
      have e335 := fI_bd (q := 64) hT317 (tf hT317 rfl rfl) fd_8_93
      have e336 := fI_bd (q := 64) hT317 (tf hT317 rfl rfl) fd_8_91
      refine st_aload c261_42 rfl ?_
      refine st_iload c261_43 rfl ?_
      refine st_iconst c261_44 ?_
      refine st_iconst c261_45 ?_
      have e337 := fI_bd (q := 64) hT317 (tf hT317 rfl rfl) fd_8_92
      have q338 : fI h316 64 92 = fI h295 64 92 := Fr_fI hF318 (tf hT296 rfl rfl) (by decide +kernel)
      refine st_callt (as := [vI (fI h168 64 88), vI 0, vI 0]) c261_46 cm_255 hT317 (tf hT317 rfl rfl) fd_8_0 rfl rfl rfl rfl (by omega) (K255 hT317 (Stb_mono hS (by decide +kernel)) (fI h168 64 88) (by omega) 0 (by omega) 0 (by omega) (by omega) (d - 1) (by omega) _ (fun v h0 H => H)) (fun v1 h339 H => ?_)
      obtain ⟨rfl, pf342, pf343, pf344, pf345, pf346, hT340, hF341⟩ := H
      have hF347 := Fr_cp hF330 hF341 (by decide +kernel : Wsub W255 Wp12 = true)
      have e348 := fI_bd (q := 64) hT340 (tf hT340 rfl rfl) fd_8_93
      refine st_goto c261_49 ?_
      refine MR_weak (A := [some (.ref 64), none]) (Lle_s (Lle_n (Lle_0))) ?_
      have e349 := fI_bd (q := 64) hT340 (tf hT340 rfl rfl) fd_8_92
      have q350 : fI h339 64 92 = fI h316 64 92 := Fr_fI hF341 (tf hT317 rfl rfl) (by decide +kernel)
      have e351 := fI_bd (q := 64) hT340 (tf hT340 rfl rfl) fd_8_90
      have q352 : fI h339 64 90 = fI h316 64 90 := Fr_fI hF341 (tf hT317 rfl rfl) (by decide +kernel)
      have sg353 : 0 ≤ fI h339 64 90 ∨ Sg h339 (220 * fI h 64 92 + fI h 64 93) (fI h339 64 93 - fI h 64 93) := by
        rcases pf329 with q | q
        · exact Or.inl (by omega)
        · have gx := x186.resolve_left (by omega)
          have fr354 : ∀ i : Int, 0 ≤ i → i < 220 * fI h 64 92 + fI h 64 93 + (fI h168 64 93 - fI h 64 93) → aI h339 129 i = aI h168 129 i := fun i a b => ((pf345 i a (by omega))).trans (((pf327 i a (by omega))).trans ((Fr_aI hF297 (tf hT169 rfl rfl) (by decide +kernel) i)))
          have fr355 : ∀ i : Int, 0 ≤ i → i < 220 * fI h 64 92 + fI h 64 93 + (fI h168 64 93 - fI h 64 93) → aI h339 130 i = aI h168 130 i := fun i a b => ((pf346 i a (by omega))).trans (((pf328 i a (by omega))).trans ((Fr_aI hF297 (tf hT169 rfl rfl) (by decide +kernel) i)))
          have k1 : Sg h339 (220 * fI h 64 92 + fI h 64 93) (fI h168 64 93 - fI h 64 93) := Sg_mv gx (fun i a b => ⟨fr354 i (by omega) (by omega), fr355 i (by omega) (by omega)⟩)
          have fr356 : ∀ i : Int, 0 ≤ i → i < 220 * fI h295 64 92 + fI h295 64 93 + (fI h316 64 93 - fI h295 64 93) → aI h339 129 i = aI h316 129 i := fun i a b => (pf345 i a (by omega))
          have fr357 : ∀ i : Int, 0 ≤ i → i < 220 * fI h295 64 92 + fI h295 64 93 + (fI h316 64 93 - fI h295 64 93) → aI h339 130 i = aI h316 130 i := fun i a b => (pf346 i a (by omega))
          have g358 : Sg h339 (220 * fI h295 64 92 + fI h295 64 93) (fI h316 64 93 - fI h295 64 93) := Sg_mv q (fun i a b => ⟨fr356 i (by omega) (by omega), fr357 i (by omega) (by omega)⟩)
          have k2 : Sg h339 (220 * fI h 64 92 + fI h 64 93 + (fI h168 64 93 - fI h 64 93)) (fI h316 64 93 - fI h295 64 93) := by rw [show 220 * fI h 64 92 + fI h 64 93 + (fI h168 64 93 - fI h 64 93) = 220 * fI h295 64 92 + fI h295 64 93 by omega]; exact g358
          have a1 : aI h339 129 (220 * fI h316 64 92 + fI h316 64 93) = fI h168 64 88 := (rfl).trans pf343
          refine Or.inr ?_
          rw [show fI h339 64 93 - fI h 64 93 = (fI h168 64 93 - fI h 64 93) + (fI h316 64 93 - fI h295 64 93) + 1 by omega]
          exact Sg_op k1 k2 (by rw [show 220 * fI h 64 92 + fI h 64 93 + (fI h168 64 93 - fI h 64 93) + (fI h316 64 93 - fI h295 64 93) = 220 * fI h316 64 92 + fI h316 64 93 by omega, a1]; omega)
      have e359 := fI_bd (q := 64) hT340 (tf hT340 rfl rfl) fd_8_86
      have q360 : fI h339 64 86 = fI h316 64 86 := Fr_fI hF341 (tf hT317 rfl rfl) (by decide +kernel)
      have e361 := fI_bd (q := 64) hT340 (tf hT340 rfl rfl) fd_8_87
      have q362 : fI h339 64 87 = fI h316 64 87 := Fr_fI hF341 (tf hT317 rfl rfl) (by decide +kernel)
      have e363 := fI_bd (q := 64) hT340 (tf hT340 rfl rfl) fd_8_77
      have q364 : fI h339 64 77 = fI h295 64 77 := (Fr_fI hF341 (tf hT317 rfl rfl) (by decide +kernel)).trans (Fr_fI hF318 (tf hT296 rfl rfl) (by decide +kernel))
      have e365 := fI_bd (q := 64) hT340 (tf hT340 rfl rfl) fd_8_88
      have q366 : fI h339 64 88 = fI h316 64 88 := Fr_fI hF341 (tf hT317 rfl rfl) (by decide +kernel)
      have e367 := fI_bd (q := 64) hT340 (tf hT340 rfl rfl) fd_8_91
      have q368 : fI h339 64 91 = fI h316 64 91 := Fr_fI hF341 (tf hT317 rfl rfl) (by decide +kernel)
      have fr369 : ∀ i : Int, 0 ≤ i → i < 220 * fI h 64 92 + fI h 64 93 → aI h339 129 i = aI h 129 i := fun i a b => ((pf345 i a (by omega))).trans (((pf327 i a (by omega))).trans (((Fr_aI hF297 (tf hT169 rfl rfl) (by decide +kernel) i)).trans ((x184 i a b))))
      have fr370 : ∀ i : Int, 0 ≤ i → i < 220 * fI h 64 92 + fI h 64 93 → aI h339 130 i = aI h 130 i := fun i a b => ((pf346 i a (by omega))).trans (((pf328 i a (by omega))).trans (((Fr_aI hF297 (tf hT169 rfl rfl) (by decide +kernel) i)).trans ((x185 i a b))))
      exact ih174 h339 (by omega) (by omega) (by omega) (by omega) (by omega) (by omega) (by omega) (by omega) (by omega) fr369 fr370 sg353 (by omega) (by omega) hT340 hF347 (Fr_cp (Fr_cp (Fr_cp hL171 hF297 (by decide +kernel)) hF318 (by decide +kernel)) hF341 (by decide +kernel))
  have e371 := fI_bd (q := 64) hT14 (tf hT14 rfl rfl) fd_8_92
  have q372 : fI h13 64 92 = fI h 64 92 := Fr_fI hF15 (tf hT rfl rfl) (by decide +kernel)
  have e373 := fI_bd (q := 64) hT14 (tf hT14 rfl rfl) fd_8_77
  have q374 : fI h13 64 77 = fI h 64 77 := Fr_fI hF15 (tf hT rfl rfl) (by decide +kernel)
  have fr375 : ∀ i : Int, 0 ≤ i → i < 220 * fI h 64 92 + fI h 64 93 → aI h13 129 i = aI h 129 i := fun i a b => (pf24 i a (by omega))
  have fr376 : ∀ i : Int, 0 ≤ i → i < 220 * fI h 64 92 + fI h 64 93 → aI h13 130 i = aI h 130 i := fun i a b => (pf25 i a (by omega))
  exact lp172 (((fI h13 64 77 - fI h13 64 86 : Int) + 1).toNat) h13 (by omega) (by omega) (by omega) (by omega) (by omega) (by omega) (by omega) (by omega) (by omega) fr375 fr376 pf26 (by omega) (by omega) hT14 hF27 (Fr_rf _ _ _)
set_option maxHeartbeats 0 in
theorem K262 {k : Int} {Ln : Nat} {xs : Nat → Int32} {τ : List Nat} {h : List mE} {E : EP} (hT : TH E τ h) (hS : Stb E Wp12) (pre0 : fI h 64 86≤fI h 64 87) (pre1 : fI h 64 87≤fI h 64 77) (pre2 : fI h 64 88 = 0 ∨ fI h 64 86 + 1 ≤ fI h 64 87) (pre3 : fI h 64 93≤fI h 64 86+1) (pre4 : fI h 64 91 = k ∧ 0 ≤ k ∧ k ≤ 8) (pre5 : k < 8 → C262 (k + 1)) (d : Nat) (hd : 84 - 7 * k ≤ (d : Int)) (Q : Option Value → List mE → Prop) (hQ : ∀ v h', (v = none ∧ (fI h 64 86≤fI h' 64 86) ∧ (fI h' 64 86≤fI h' 64 87) ∧ (fI h' 64 87≤fI h 64 77) ∧ (fI h' 64 88 = 0 ∨ fI h' 64 86 + 1 ≤ fI h' 64 87) ∧ (fI h 64 90 < 0 ∨ 0 ≤ fI h' 64 90) ∧ (fI h' 64 93 - fI h' 64 86 ≤ fI h 64 93 - fI h 64 86) ∧ (fI h 64 93≤fI h' 64 93) ∧ (0 ≤ fI h' 64 90 ∨ fI h' 64 91 = fI h 64 91) ∧ (∀ i : Int, 0 ≤ i → i < 220 * fI h 64 92 + fI h 64 93 → aI h' 129 i = aI h 129 i) ∧ (∀ i : Int, 0 ≤ i → i < 220 * fI h 64 92 + fI h 64 93 → aI h' 130 i = aI h 130 i) ∧ (0 ≤ fI h' 64 90 ∨ Sg h' (220 * fI h 64 92 + fI h 64 93) (fI h' 64 93 - fI h 64 93)) ∧ TH E τ h' ∧ Fr τ Wp12 h h') → Q v h') : MR (mex Ln xs) d 262 0 [some (.ref 64), none] [] h Q := by
  have hF := Fr_rf τ Wp12 h
  have e1 := fI_bd (q := 64) hT (tf hT rfl rfl) fd_8_86
  have e2 := fI_bd (q := 64) hT (tf hT rfl rfl) fd_8_87
  have e3 := fI_bd (q := 64) hT (tf hT rfl rfl) fd_8_77
  have e4 := fI_bd (q := 64) hT (tf hT rfl rfl) fd_8_93
  refine st_aload c262_0 rfl ?_
  have e5 := fI_bd (q := 64) hT (tf hT rfl rfl) fd_8_86
  have e6 := fI_bd (q := 64) hT (tf hT rfl rfl) fd_8_77
  have e7 := fI_bd (q := 64) hT (tf hT rfl rfl) fd_8_90
  have e8 := fI_bd (q := 64) hT (tf hT rfl rfl) fd_8_93
  have e9 := fI_bd (q := 64) hT (tf hT rfl rfl) fd_8_91
  have e10 := fI_bd (q := 64) hT (tf hT rfl rfl) fd_8_92
  have e11 := fI_bd (q := 64) hT (tf hT rfl rfl) fd_8_87
  have e12 := fI_bd (q := 64) hT (tf hT rfl rfl) fd_8_88
  refine st_callt (as := []) c262_1 cm_261 hT (tf hT rfl rfl) fd_8_0 rfl rfl rfl rfl (by omega) (K261 (k := k) hT (Stb_mono hS (by decide +kernel)) (by omega) (by omega) (by omega) (by omega) (by omega) pre5 (d - 1) (by omega) _ (fun v h0 H => H)) (fun v1 h13 H => ?_)
  obtain ⟨rfl, pf16, pf17, pf18, pf19, pf20, pf21, pf22, pf23, pf24, pf25, pf26, hT14, hF15⟩ := H
  have hF27 := Fr_cp hF hF15 (by decide +kernel : Wsub Wp12 Wp12 = true)
  have e28 := fI_bd (q := 64) hT14 (tf hT14 rfl rfl) fd_8_86
  have e29 := fI_bd (q := 64) hT14 (tf hT14 rfl rfl) fd_8_87
  have e30 := fI_bd (q := 64) hT14 (tf hT14 rfl rfl) fd_8_88
  have e31 := fI_bd (q := 64) hT14 (tf hT14 rfl rfl) fd_8_90
  have e32 := fI_bd (q := 64) hT14 (tf hT14 rfl rfl) fd_8_93
  have e33 := fI_bd (q := 64) hT14 (tf hT14 rfl rfl) fd_8_91
  have lp172 : ∀ (n173 : Nat) (h168 : List mE), fI h168 64 77 - fI h168 64 86 < (n173 : Int) → fI h 64 86 ≤ fI h168 64 86 → fI h168 64 86 ≤ fI h168 64 87 → fI h168 64 87 ≤ fI h168 64 77 → fI h168 64 88 = 0 ∨ fI h168 64 86 + 1 ≤ fI h168 64 87 → fI h 64 90 < 0 ∨ 0 ≤ fI h168 64 90 → fI h168 64 93 - fI h168 64 86 ≤ fI h 64 93 - fI h 64 86 → fI h 64 93 ≤ fI h168 64 93 → 0 ≤ fI h168 64 90 ∨ fI h168 64 91 = fI h 64 91 → (∀ i : Int, 0 ≤ i → i < 220 * fI h 64 92 + fI h 64 93 → aI h168 129 i = aI h 129 i) → (∀ i : Int, 0 ≤ i → i < 220 * fI h 64 92 + fI h 64 93 → aI h168 130 i = aI h 130 i) → 0 ≤ fI h168 64 90 ∨ Sg h168 (220 * fI h 64 92 + fI h 64 93) (fI h168 64 93 - fI h 64 93) → fI h168 64 77 = fI h 64 77 → fI h168 64 92 = fI h 64 92 → TH E τ h168 → Fr τ Wp12 h h168 → Fr τ [(8, 86), (8, 87), (8, 88), (8, 89), (8, 90), (8, 91), (8, 93), (107, 0), (108, 0), (109, 0)] h13 h168 → MR (mex Ln xs) d 262 4 [some (.ref 64), none] [] h168 Q := by
    intro n173
    induction n173 with
    | zero =>
      intro h168 hm175 x176 x177 x178 x179 x180 x181 x182 x183 x184 x185 x186 x187 x188 hT169 hF170 hL171
      exfalso; omega
    | succ n173 ih174 =>
      intro h168 hm175 x176 x177 x178 x179 x180 x181 x182 x183 x184 x185 x186 x187 x188 hT169 hF170 hL171
      have e189 := fI_bd (q := 64) hT169 (tf hT169 rfl rfl) fd_8_86
      have e190 := fI_bd (q := 64) hT169 (tf hT169 rfl rfl) fd_8_87
      have e191 := fI_bd (q := 64) hT169 (tf hT169 rfl rfl) fd_8_77
      have q192 : fI h168 64 77 = fI h 64 77 := (Fr_fI hL171 (tf hT14 rfl rfl) (by decide +kernel)).trans (Fr_fI hF15 (tf hT rfl rfl) (by decide +kernel))
      have e193 := fI_bd (q := 64) hT169 (tf hT169 rfl rfl) fd_8_88
      have e194 := fI_bd (q := 64) hT169 (tf hT169 rfl rfl) fd_8_90
      have e195 := fI_bd (q := 64) hT169 (tf hT169 rfl rfl) fd_8_93
      have e196 := fI_bd (q := 64) hT169 (tf hT169 rfl rfl) fd_8_91
      have e197 := fI_bd (q := 64) hT169 (tf hT169 rfl rfl) fd_8_92
      have q198 : fI h168 64 92 = fI h 64 92 := (Fr_fI hL171 (tf hT14 rfl rfl) (by decide +kernel)).trans (Fr_fI hF15 (tf hT rfl rfl) (by decide +kernel))
      refine st_aload c262_4 rfl ?_
      refine st_getI c262_5 hT169 (tf hT169 rfl rfl) fd_8_90 (fun e199 e200 => ?_)
      refine st_if_ge c262_8 (by omega) (fun k201 => ?_) (fun k202 => ?_)
      refine st_return c262_52 ?_
      have fr203 : ∀ i : Int, 0 ≤ i → i < 220 * fI h 64 92 + fI h 64 93 → aI h168 129 i = aI h 129 i := fun i a b => (x184 i a b)
      have fr204 : ∀ i : Int, 0 ≤ i → i < 220 * fI h 64 92 + fI h 64 93 → aI h168 130 i = aI h 130 i := fun i a b => (x185 i a b)
      exact hQ _ _ ⟨rfl, by omega, by omega, by omega, by omega, by omega, by omega, by omega, by omega, fr203, fr204, x186, hT169, hF170⟩
      refine st_aload c262_11 rfl ?_
      refine st_getI c262_12 hT169 (tf hT169 rfl rfl) fd_8_88 (fun e205 e206 => ?_)
      refine st_iconst c262_15 ?_
      refine st_icmp_eq c262_17 (by omega) (by omega) (fun k207 => ?_) (fun k208 => ?_)
      refine st_aload c262_29 rfl ?_
      refine st_getI c262_30 hT169 (tf hT169 rfl rfl) fd_8_88 (fun e209 e210 => ?_)
      refine st_istore (L' := [some (.ref 64), some (vI (fI h168 64 88))]) c262_33 rfl rfl ?_
      refine st_aload c262_34 rfl ?_
      refine st_callt (as := []) c262_35 cm_252 hT169 (tf hT169 rfl rfl) fd_8_0 rfl rfl rfl rfl (by omega) (K252 hT169 (Stb_mono hS (by decide +kernel)) (by omega) (d - 1) (by omega) _ (fun v h0 H => H)) (fun v1 h211 H => ?_)
      obtain ⟨rfl, pf214, pf215, pf216, pf217, hT212, hF213⟩ := H
      have hF218 := Fr_cp hF170 hF213 (by decide +kernel : Wsub W252 Wp12 = true)
      have e219 := fI_bd (q := 64) hT212 (tf hT212 rfl rfl) fd_8_86
      have e220 := fI_bd (q := 64) hT212 (tf hT212 rfl rfl) fd_8_87
      have e221 := fI_bd (q := 64) hT212 (tf hT212 rfl rfl) fd_8_88
      refine st_aload c262_38 rfl ?_
      have e222 := fI_bd (q := 64) hT212 (tf hT212 rfl rfl) fd_8_77
      have q223 : fI h211 64 77 = fI h168 64 77 := Fr_fI hF213 (tf hT169 rfl rfl) (by decide +kernel)
      have e224 := fI_bd (q := 64) hT212 (tf hT212 rfl rfl) fd_8_90
      have q225 : fI h211 64 90 = fI h168 64 90 := Fr_fI hF213 (tf hT169 rfl rfl) (by decide +kernel)
      have e226 := fI_bd (q := 64) hT212 (tf hT212 rfl rfl) fd_8_93
      have q227 : fI h211 64 93 = fI h168 64 93 := Fr_fI hF213 (tf hT169 rfl rfl) (by decide +kernel)
      have e228 := fI_bd (q := 64) hT212 (tf hT212 rfl rfl) fd_8_91
      have q229 : fI h211 64 91 = fI h168 64 91 := Fr_fI hF213 (tf hT169 rfl rfl) (by decide +kernel)
      have e230 := fI_bd (q := 64) hT212 (tf hT212 rfl rfl) fd_8_92
      have q231 : fI h211 64 92 = fI h168 64 92 := Fr_fI hF213 (tf hT169 rfl rfl) (by decide +kernel)
      refine st_callt (as := []) c262_39 cm_261 hT212 (tf hT212 rfl rfl) fd_8_0 rfl rfl rfl rfl (by omega) (K261 (k := k) hT212 (Stb_mono hS (by decide +kernel)) (by omega) (by omega) (by omega) (by omega) (by omega) pre5 (d - 1) (by omega) _ (fun v h0 H => H)) (fun v1 h232 H => ?_)
      obtain ⟨rfl, pf235, pf236, pf237, pf238, pf239, pf240, pf241, pf242, pf243, pf244, pf245, hT233, hF234⟩ := H
      have hF246 := Fr_cp hF218 hF234 (by decide +kernel : Wsub Wp12 Wp12 = true)
      have e247 := fI_bd (q := 64) hT233 (tf hT233 rfl rfl) fd_8_86
      have e248 := fI_bd (q := 64) hT233 (tf hT233 rfl rfl) fd_8_87
      have e249 := fI_bd (q := 64) hT233 (tf hT233 rfl rfl) fd_8_88
      have e250 := fI_bd (q := 64) hT233 (tf hT233 rfl rfl) fd_8_90
      have e251 := fI_bd (q := 64) hT233 (tf hT233 rfl rfl) fd_8_93
      have e252 := fI_bd (q := 64) hT233 (tf hT233 rfl rfl) fd_8_91
      refine st_aload c262_42 rfl ?_
      refine st_iload c262_43 rfl ?_
      refine st_iconst c262_44 ?_
      refine st_iconst c262_45 ?_
      have e253 := fI_bd (q := 64) hT233 (tf hT233 rfl rfl) fd_8_92
      have q254 : fI h232 64 92 = fI h211 64 92 := Fr_fI hF234 (tf hT212 rfl rfl) (by decide +kernel)
      refine st_callt (as := [vI (fI h168 64 88), vI 0, vI 0]) c262_46 cm_255 hT233 (tf hT233 rfl rfl) fd_8_0 rfl rfl rfl rfl (by omega) (K255 hT233 (Stb_mono hS (by decide +kernel)) (fI h168 64 88) (by omega) 0 (by omega) 0 (by omega) (by omega) (d - 1) (by omega) _ (fun v h0 H => H)) (fun v1 h255 H => ?_)
      obtain ⟨rfl, pf258, pf259, pf260, pf261, pf262, hT256, hF257⟩ := H
      have hF263 := Fr_cp hF246 hF257 (by decide +kernel : Wsub W255 Wp12 = true)
      have e264 := fI_bd (q := 64) hT256 (tf hT256 rfl rfl) fd_8_93
      refine st_goto c262_49 ?_
      refine MR_weak (A := [some (.ref 64), none]) (Lle_s (Lle_n (Lle_0))) ?_
      have e265 := fI_bd (q := 64) hT256 (tf hT256 rfl rfl) fd_8_92
      have q266 : fI h255 64 92 = fI h232 64 92 := Fr_fI hF257 (tf hT233 rfl rfl) (by decide +kernel)
      have e267 := fI_bd (q := 64) hT256 (tf hT256 rfl rfl) fd_8_90
      have q268 : fI h255 64 90 = fI h232 64 90 := Fr_fI hF257 (tf hT233 rfl rfl) (by decide +kernel)
      have sg269 : 0 ≤ fI h255 64 90 ∨ Sg h255 (220 * fI h 64 92 + fI h 64 93) (fI h255 64 93 - fI h 64 93) := by
        rcases pf245 with q | q
        · exact Or.inl (by omega)
        · have gx := x186.resolve_left (by omega)
          have fr270 : ∀ i : Int, 0 ≤ i → i < 220 * fI h 64 92 + fI h 64 93 + (fI h168 64 93 - fI h 64 93) → aI h255 129 i = aI h168 129 i := fun i a b => ((pf261 i a (by omega))).trans (((pf243 i a (by omega))).trans ((Fr_aI hF213 (tf hT169 rfl rfl) (by decide +kernel) i)))
          have fr271 : ∀ i : Int, 0 ≤ i → i < 220 * fI h 64 92 + fI h 64 93 + (fI h168 64 93 - fI h 64 93) → aI h255 130 i = aI h168 130 i := fun i a b => ((pf262 i a (by omega))).trans (((pf244 i a (by omega))).trans ((Fr_aI hF213 (tf hT169 rfl rfl) (by decide +kernel) i)))
          have k1 : Sg h255 (220 * fI h 64 92 + fI h 64 93) (fI h168 64 93 - fI h 64 93) := Sg_mv gx (fun i a b => ⟨fr270 i (by omega) (by omega), fr271 i (by omega) (by omega)⟩)
          have fr272 : ∀ i : Int, 0 ≤ i → i < 220 * fI h211 64 92 + fI h211 64 93 + (fI h232 64 93 - fI h211 64 93) → aI h255 129 i = aI h232 129 i := fun i a b => (pf261 i a (by omega))
          have fr273 : ∀ i : Int, 0 ≤ i → i < 220 * fI h211 64 92 + fI h211 64 93 + (fI h232 64 93 - fI h211 64 93) → aI h255 130 i = aI h232 130 i := fun i a b => (pf262 i a (by omega))
          have g274 : Sg h255 (220 * fI h211 64 92 + fI h211 64 93) (fI h232 64 93 - fI h211 64 93) := Sg_mv q (fun i a b => ⟨fr272 i (by omega) (by omega), fr273 i (by omega) (by omega)⟩)
          have k2 : Sg h255 (220 * fI h 64 92 + fI h 64 93 + (fI h168 64 93 - fI h 64 93)) (fI h232 64 93 - fI h211 64 93) := by rw [show 220 * fI h 64 92 + fI h 64 93 + (fI h168 64 93 - fI h 64 93) = 220 * fI h211 64 92 + fI h211 64 93 by omega]; exact g274
          have a1 : aI h255 129 (220 * fI h232 64 92 + fI h232 64 93) = fI h168 64 88 := (rfl).trans pf259
          refine Or.inr ?_
          rw [show fI h255 64 93 - fI h 64 93 = (fI h168 64 93 - fI h 64 93) + (fI h232 64 93 - fI h211 64 93) + 1 by omega]
          exact Sg_op k1 k2 (by rw [show 220 * fI h 64 92 + fI h 64 93 + (fI h168 64 93 - fI h 64 93) + (fI h232 64 93 - fI h211 64 93) = 220 * fI h232 64 92 + fI h232 64 93 by omega, a1]; omega)
      have e275 := fI_bd (q := 64) hT256 (tf hT256 rfl rfl) fd_8_86
      have q276 : fI h255 64 86 = fI h232 64 86 := Fr_fI hF257 (tf hT233 rfl rfl) (by decide +kernel)
      have e277 := fI_bd (q := 64) hT256 (tf hT256 rfl rfl) fd_8_87
      have q278 : fI h255 64 87 = fI h232 64 87 := Fr_fI hF257 (tf hT233 rfl rfl) (by decide +kernel)
      have e279 := fI_bd (q := 64) hT256 (tf hT256 rfl rfl) fd_8_77
      have q280 : fI h255 64 77 = fI h211 64 77 := (Fr_fI hF257 (tf hT233 rfl rfl) (by decide +kernel)).trans (Fr_fI hF234 (tf hT212 rfl rfl) (by decide +kernel))
      have e281 := fI_bd (q := 64) hT256 (tf hT256 rfl rfl) fd_8_88
      have q282 : fI h255 64 88 = fI h232 64 88 := Fr_fI hF257 (tf hT233 rfl rfl) (by decide +kernel)
      have e283 := fI_bd (q := 64) hT256 (tf hT256 rfl rfl) fd_8_91
      have q284 : fI h255 64 91 = fI h232 64 91 := Fr_fI hF257 (tf hT233 rfl rfl) (by decide +kernel)
      have fr285 : ∀ i : Int, 0 ≤ i → i < 220 * fI h 64 92 + fI h 64 93 → aI h255 129 i = aI h 129 i := fun i a b => ((pf261 i a (by omega))).trans (((pf243 i a (by omega))).trans (((Fr_aI hF213 (tf hT169 rfl rfl) (by decide +kernel) i)).trans ((x184 i a b))))
      have fr286 : ∀ i : Int, 0 ≤ i → i < 220 * fI h 64 92 + fI h 64 93 → aI h255 130 i = aI h 130 i := fun i a b => ((pf262 i a (by omega))).trans (((pf244 i a (by omega))).trans (((Fr_aI hF213 (tf hT169 rfl rfl) (by decide +kernel) i)).trans ((x185 i a b))))
      exact ih174 h255 (by omega) (by omega) (by omega) (by omega) (by omega) (by omega) (by omega) (by omega) (by omega) fr285 fr286 sg269 (by omega) (by omega) hT256 hF263 (Fr_cp (Fr_cp (Fr_cp hL171 hF213 (by decide +kernel)) hF234 (by decide +kernel)) hF257 (by decide +kernel))
      refine st_aload c262_20 rfl ?_
      refine st_getI c262_21 hT169 (tf hT169 rfl rfl) fd_8_88 (fun e287 e288 => ?_)
      refine st_iconst c262_24 ?_
      refine st_icmp_ne c262_26 (by omega) (by omega) (fun k289 => ?_) (fun k290 => ?_)
      refine st_return c262_52 ?_
      have fr291 : ∀ i : Int, 0 ≤ i → i < 220 * fI h 64 92 + fI h 64 93 → aI h168 129 i = aI h 129 i := fun i a b => (x184 i a b)
      have fr292 : ∀ i : Int, 0 ≤ i → i < 220 * fI h 64 92 + fI h 64 93 → aI h168 130 i = aI h 130 i := fun i a b => (x185 i a b)
      exact hQ _ _ ⟨rfl, by omega, by omega, by omega, by omega, by omega, by omega, by omega, by omega, fr291, fr292, x186, hT169, hF170⟩
      refine st_aload c262_29 rfl ?_
      refine st_getI c262_30 hT169 (tf hT169 rfl rfl) fd_8_88 (fun e293 e294 => ?_)
      refine st_istore (L' := [some (.ref 64), some (vI (fI h168 64 88))]) c262_33 rfl rfl ?_
      refine st_aload c262_34 rfl ?_
      refine st_callt (as := []) c262_35 cm_252 hT169 (tf hT169 rfl rfl) fd_8_0 rfl rfl rfl rfl (by omega) (K252 hT169 (Stb_mono hS (by decide +kernel)) (by omega) (d - 1) (by omega) _ (fun v h0 H => H)) (fun v1 h295 H => ?_)
      obtain ⟨rfl, pf298, pf299, pf300, pf301, hT296, hF297⟩ := H
      have hF302 := Fr_cp hF170 hF297 (by decide +kernel : Wsub W252 Wp12 = true)
      have e303 := fI_bd (q := 64) hT296 (tf hT296 rfl rfl) fd_8_86
      have e304 := fI_bd (q := 64) hT296 (tf hT296 rfl rfl) fd_8_87
      have e305 := fI_bd (q := 64) hT296 (tf hT296 rfl rfl) fd_8_88
      refine st_aload c262_38 rfl ?_
      have e306 := fI_bd (q := 64) hT296 (tf hT296 rfl rfl) fd_8_77
      have q307 : fI h295 64 77 = fI h168 64 77 := Fr_fI hF297 (tf hT169 rfl rfl) (by decide +kernel)
      have e308 := fI_bd (q := 64) hT296 (tf hT296 rfl rfl) fd_8_90
      have q309 : fI h295 64 90 = fI h168 64 90 := Fr_fI hF297 (tf hT169 rfl rfl) (by decide +kernel)
      have e310 := fI_bd (q := 64) hT296 (tf hT296 rfl rfl) fd_8_93
      have q311 : fI h295 64 93 = fI h168 64 93 := Fr_fI hF297 (tf hT169 rfl rfl) (by decide +kernel)
      have e312 := fI_bd (q := 64) hT296 (tf hT296 rfl rfl) fd_8_91
      have q313 : fI h295 64 91 = fI h168 64 91 := Fr_fI hF297 (tf hT169 rfl rfl) (by decide +kernel)
      have e314 := fI_bd (q := 64) hT296 (tf hT296 rfl rfl) fd_8_92
      have q315 : fI h295 64 92 = fI h168 64 92 := Fr_fI hF297 (tf hT169 rfl rfl) (by decide +kernel)
      refine st_callt (as := []) c262_39 cm_261 hT296 (tf hT296 rfl rfl) fd_8_0 rfl rfl rfl rfl (by omega) (K261 (k := k) hT296 (Stb_mono hS (by decide +kernel)) (by omega) (by omega) (by omega) (by omega) (by omega) pre5 (d - 1) (by omega) _ (fun v h0 H => H)) (fun v1 h316 H => ?_)
      obtain ⟨rfl, pf319, pf320, pf321, pf322, pf323, pf324, pf325, pf326, pf327, pf328, pf329, hT317, hF318⟩ := H
      have hF330 := Fr_cp hF302 hF318 (by decide +kernel : Wsub Wp12 Wp12 = true)
      have e331 := fI_bd (q := 64) hT317 (tf hT317 rfl rfl) fd_8_86
      have e332 := fI_bd (q := 64) hT317 (tf hT317 rfl rfl) fd_8_87
      have e333 := fI_bd (q := 64) hT317 (tf hT317 rfl rfl) fd_8_88
      have e334 := fI_bd (q := 64) hT317 (tf hT317 rfl rfl) fd_8_90
      have e335 := fI_bd (q := 64) hT317 (tf hT317 rfl rfl) fd_8_93
      have e336 := fI_bd (q := 64) hT317 (tf hT317 rfl rfl) fd_8_91
      refine st_aload c262_42 rfl ?_
      refine st_iload c262_43 rfl ?_
      refine st_iconst c262_44 ?_
      refine st_iconst c262_45 ?_
      have e337 := fI_bd (q := 64) hT317 (tf hT317 rfl rfl) fd_8_92
      have q338 : fI h316 64 92 = fI h295 64 92 := Fr_fI hF318 (tf hT296 rfl rfl) (by decide +kernel)
      refine st_callt (as := [vI (fI h168 64 88), vI 0, vI 0]) c262_46 cm_255 hT317 (tf hT317 rfl rfl) fd_8_0 rfl rfl rfl rfl (by omega) (K255 hT317 (Stb_mono hS (by decide +kernel)) (fI h168 64 88) (by omega) 0 (by omega) 0 (by omega) (by omega) (d - 1) (by omega) _ (fun v h0 H => H)) (fun v1 h339 H => ?_)
      obtain ⟨rfl, pf342, pf343, pf344, pf345, pf346, hT340, hF341⟩ := H
      have hF347 := Fr_cp hF330 hF341 (by decide +kernel : Wsub W255 Wp12 = true)
      have e348 := fI_bd (q := 64) hT340 (tf hT340 rfl rfl) fd_8_93
      refine st_goto c262_49 ?_
      refine MR_weak (A := [some (.ref 64), none]) (Lle_s (Lle_n (Lle_0))) ?_
      have e349 := fI_bd (q := 64) hT340 (tf hT340 rfl rfl) fd_8_92
      have q350 : fI h339 64 92 = fI h316 64 92 := Fr_fI hF341 (tf hT317 rfl rfl) (by decide +kernel)
      have e351 := fI_bd (q := 64) hT340 (tf hT340 rfl rfl) fd_8_90
      have q352 : fI h339 64 90 = fI h316 64 90 := Fr_fI hF341 (tf hT317 rfl rfl) (by decide +kernel)
      have sg353 : 0 ≤ fI h339 64 90 ∨ Sg h339 (220 * fI h 64 92 + fI h 64 93) (fI h339 64 93 - fI h 64 93) := by
        rcases pf329 with q | q
        · exact Or.inl (by omega)
        · have gx := x186.resolve_left (by omega)
          have fr354 : ∀ i : Int, 0 ≤ i → i < 220 * fI h 64 92 + fI h 64 93 + (fI h168 64 93 - fI h 64 93) → aI h339 129 i = aI h168 129 i := fun i a b => ((pf345 i a (by omega))).trans (((pf327 i a (by omega))).trans ((Fr_aI hF297 (tf hT169 rfl rfl) (by decide +kernel) i)))
          have fr355 : ∀ i : Int, 0 ≤ i → i < 220 * fI h 64 92 + fI h 64 93 + (fI h168 64 93 - fI h 64 93) → aI h339 130 i = aI h168 130 i := fun i a b => ((pf346 i a (by omega))).trans (((pf328 i a (by omega))).trans ((Fr_aI hF297 (tf hT169 rfl rfl) (by decide +kernel) i)))
          have k1 : Sg h339 (220 * fI h 64 92 + fI h 64 93) (fI h168 64 93 - fI h 64 93) := Sg_mv gx (fun i a b => ⟨fr354 i (by omega) (by omega), fr355 i (by omega) (by omega)⟩)
          have fr356 : ∀ i : Int, 0 ≤ i → i < 220 * fI h295 64 92 + fI h295 64 93 + (fI h316 64 93 - fI h295 64 93) → aI h339 129 i = aI h316 129 i := fun i a b => (pf345 i a (by omega))
          have fr357 : ∀ i : Int, 0 ≤ i → i < 220 * fI h295 64 92 + fI h295 64 93 + (fI h316 64 93 - fI h295 64 93) → aI h339 130 i = aI h316 130 i := fun i a b => (pf346 i a (by omega))
          have g358 : Sg h339 (220 * fI h295 64 92 + fI h295 64 93) (fI h316 64 93 - fI h295 64 93) := Sg_mv q (fun i a b => ⟨fr356 i (by omega) (by omega), fr357 i (by omega) (by omega)⟩)
          have k2 : Sg h339 (220 * fI h 64 92 + fI h 64 93 + (fI h168 64 93 - fI h 64 93)) (fI h316 64 93 - fI h295 64 93) := by rw [show 220 * fI h 64 92 + fI h 64 93 + (fI h168 64 93 - fI h 64 93) = 220 * fI h295 64 92 + fI h295 64 93 by omega]; exact g358
          have a1 : aI h339 129 (220 * fI h316 64 92 + fI h316 64 93) = fI h168 64 88 := (rfl).trans pf343
          refine Or.inr ?_
          rw [show fI h339 64 93 - fI h 64 93 = (fI h168 64 93 - fI h 64 93) + (fI h316 64 93 - fI h295 64 93) + 1 by omega]
          exact Sg_op k1 k2 (by rw [show 220 * fI h 64 92 + fI h 64 93 + (fI h168 64 93 - fI h 64 93) + (fI h316 64 93 - fI h295 64 93) = 220 * fI h316 64 92 + fI h316 64 93 by omega, a1]; omega)
      have e359 := fI_bd (q := 64) hT340 (tf hT340 rfl rfl) fd_8_86
      have q360 : fI h339 64 86 = fI h316 64 86 := Fr_fI hF341 (tf hT317 rfl rfl) (by decide +kernel)
      have e361 := fI_bd (q := 64) hT340 (tf hT340 rfl rfl) fd_8_87
      have q362 : fI h339 64 87 = fI h316 64 87 := Fr_fI hF341 (tf hT317 rfl rfl) (by decide +kernel)
      have e363 := fI_bd (q := 64) hT340 (tf hT340 rfl rfl) fd_8_77
      have q364 : fI h339 64 77 = fI h295 64 77 := (Fr_fI hF341 (tf hT317 rfl rfl) (by decide +kernel)).trans (Fr_fI hF318 (tf hT296 rfl rfl) (by decide +kernel))
      have e365 := fI_bd (q := 64) hT340 (tf hT340 rfl rfl) fd_8_88
      have q366 : fI h339 64 88 = fI h316 64 88 := Fr_fI hF341 (tf hT317 rfl rfl) (by decide +kernel)
      have e367 := fI_bd (q := 64) hT340 (tf hT340 rfl rfl) fd_8_91
      have q368 : fI h339 64 91 = fI h316 64 91 := Fr_fI hF341 (tf hT317 rfl rfl) (by decide +kernel)
      have fr369 : ∀ i : Int, 0 ≤ i → i < 220 * fI h 64 92 + fI h 64 93 → aI h339 129 i = aI h 129 i := fun i a b => ((pf345 i a (by omega))).trans (((pf327 i a (by omega))).trans (((Fr_aI hF297 (tf hT169 rfl rfl) (by decide +kernel) i)).trans ((x184 i a b))))
      have fr370 : ∀ i : Int, 0 ≤ i → i < 220 * fI h 64 92 + fI h 64 93 → aI h339 130 i = aI h 130 i := fun i a b => ((pf346 i a (by omega))).trans (((pf328 i a (by omega))).trans (((Fr_aI hF297 (tf hT169 rfl rfl) (by decide +kernel) i)).trans ((x185 i a b))))
      exact ih174 h339 (by omega) (by omega) (by omega) (by omega) (by omega) (by omega) (by omega) (by omega) (by omega) fr369 fr370 sg353 (by omega) (by omega) hT340 hF347 (Fr_cp (Fr_cp (Fr_cp hL171 hF297 (by decide +kernel)) hF318 (by decide +kernel)) hF341 (by decide +kernel))
  have e371 := fI_bd (q := 64) hT14 (tf hT14 rfl rfl) fd_8_92
  have q372 : fI h13 64 92 = fI h 64 92 := Fr_fI hF15 (tf hT rfl rfl) (by decide +kernel)
  have e373 := fI_bd (q := 64) hT14 (tf hT14 rfl rfl) fd_8_77
  have q374 : fI h13 64 77 = fI h 64 77 := Fr_fI hF15 (tf hT rfl rfl) (by decide +kernel)
  have fr375 : ∀ i : Int, 0 ≤ i → i < 220 * fI h 64 92 + fI h 64 93 → aI h13 129 i = aI h 129 i := fun i a b => (pf24 i a (by omega))
  have fr376 : ∀ i : Int, 0 ≤ i → i < 220 * fI h 64 92 + fI h 64 93 → aI h13 130 i = aI h 130 i := fun i a b => (pf25 i a (by omega))
  exact lp172 (((fI h13 64 77 - fI h13 64 86 : Int) + 1).toNat) h13 (by omega) (by omega) (by omega) (by omega) (by omega) (by omega) (by omega) (by omega) (by omega) fr375 fr376 pf26 (by omega) (by omega) hT14 hF27 (Fr_rf _ _ _)
theorem C262_all : ∀ (n : Nat) (k : Int), 8 - k ≤ (n : Int) → C262 k := by
  intro n
  induction n with
  | zero =>
    intro k hn Ln xs τ h E hT hS q0 q1 q2 q3 q4 d hd Q hQ
    exact K262 hT hS q0 q1 q2 q3 q4 (fun hl => by omega) d hd Q hQ
  | succ n ih =>
    intro k hn Ln xs τ h E hT hS q0 q1 q2 q3 q4 d hd Q hQ
    exact K262 hT hS q0 q1 q2 q3 q4 (fun hl => ih (k + 1) (by omega)) d hd Q hQ
theorem K262z : C262 0 := C262_all 8 0 (by decide)
def W263 : List (Nat × Nat) := [(8, 86), (8, 87), (8, 88), (8, 89), (8, 90), (8, 91), (8, 93), (107, 0), (108, 0), (109, 0)]
set_option maxHeartbeats 0 in
theorem K263 {Ln : Nat} {xs : Nat → Int32} {τ : List Nat} {h : List mE} {E : EP} (hT : TH E τ h) (hS : Stb E W263) (pre0 : fI h 64 86≤fI h 64 87) (pre1 : fI h 64 87≤fI h 64 77) (pre2 : fI h 64 88 = 0 ∨ fI h 64 86 + 1 ≤ fI h 64 87) (pre3 : fI h 64 93≤fI h 64 86) (pre4 : fI h 64 91=0) (d : Nat) (hd : 86 ≤ d) (Q : Option Value → List mE → Prop) (hQ : ∀ v h', (v = none ∧ (fI h 64 86≤fI h' 64 86) ∧ (fI h' 64 86≤fI h' 64 87) ∧ (fI h' 64 87≤fI h 64 77) ∧ (fI h' 64 88 = 0 ∨ fI h' 64 86 + 1 ≤ fI h' 64 87) ∧ (fI h' 64 93 ≤ fI h' 64 86 + 1) ∧ (fI h 64 93≤fI h' 64 93) ∧ (0 ≤ fI h' 64 90 ∨ fI h' 64 91 = fI h 64 91) ∧ (∀ i : Int, 0 ≤ i → i < 220 * fI h 64 92 + fI h 64 93 → aI h' 129 i = aI h 129 i) ∧ (∀ i : Int, 0 ≤ i → i < 220 * fI h 64 92 + fI h 64 93 → aI h' 130 i = aI h 130 i) ∧ (0 ≤ fI h' 64 90 ∨ Zs h' (220 * fI h 64 92 + fI h 64 93) (fI h' 64 93 - fI h 64 93)) ∧ TH E τ h' ∧ Fr τ W263 h h') → Q v h') : MR (mex Ln xs) d 263 0 [some (.ref 64), none, none] [] h Q := by
  have hF := Fr_rf τ W263 h
  have e1 := fI_bd (q := 64) hT (tf hT rfl rfl) fd_8_86
  have e2 := fI_bd (q := 64) hT (tf hT rfl rfl) fd_8_87
  have e3 := fI_bd (q := 64) hT (tf hT rfl rfl) fd_8_77
  have e4 := fI_bd (q := 64) hT (tf hT rfl rfl) fd_8_93
  have e5 := fI_bd (q := 64) hT (tf hT rfl rfl) fd_8_91
  refine st_aload c263_0 rfl ?_
  refine st_lconst c263_1 ?_
  have e6 := fI_bd (q := 64) hT (tf hT rfl rfl) fd_8_88
  refine st_callt (as := [.long (Int64.ofInt 131638)]) c263_4 cm_253 hT (tf hT rfl rfl) fd_8_0 rfl rfl rfl rfl (by omega) (K253 hT (Int64.ofInt 131638) (d - 1) (by omega) _ (fun v h0 H => H)) (fun v1 h1 H => ?_)
  rcases H with ⟨rfl, rfl⟩ | ⟨rfl, pf7, rfl⟩
  refine st_if_eq c263_7 (by omega) (fun k8 => ?_) (fun k9 => False.elim (by omega))
  refine st_aload c263_88 rfl ?_
  have e10 := fI_bd (q := 64) hT (tf hT rfl rfl) fd_8_86
  have e11 := fI_bd (q := 64) hT (tf hT rfl rfl) fd_8_77
  have e12 := fI_bd (q := 64) hT (tf hT rfl rfl) fd_8_90
  have e13 := fI_bd (q := 64) hT (tf hT rfl rfl) fd_8_93
  have e14 := fI_bd (q := 64) hT (tf hT rfl rfl) fd_8_91
  have e15 := fI_bd (q := 64) hT (tf hT rfl rfl) fd_8_92
  have e16 := fI_bd (q := 64) hT (tf hT rfl rfl) fd_8_87
  refine st_callt (as := []) c263_89 cm_262 hT (tf hT rfl rfl) fd_8_0 rfl rfl rfl rfl (by omega) (K262z hT (Stb_mono hS (by decide +kernel)) (by omega) (by omega) (by omega) (by omega) (by omega) (d - 1) (by omega) _ (fun v h0 H => H)) (fun v1 h17 H => ?_)
  obtain ⟨rfl, pf20, pf21, pf22, pf23, pf24, pf25, pf26, pf27, pf28, pf29, pf30, hT18, hF19⟩ := H
  have hF31 := Fr_cp hF hF19 (by decide +kernel : Wsub Wp12 W263 = true)
  have e32 := fI_bd (q := 64) hT18 (tf hT18 rfl rfl) fd_8_86
  have e33 := fI_bd (q := 64) hT18 (tf hT18 rfl rfl) fd_8_87
  have e34 := fI_bd (q := 64) hT18 (tf hT18 rfl rfl) fd_8_88
  have e35 := fI_bd (q := 64) hT18 (tf hT18 rfl rfl) fd_8_90
  have e36 := fI_bd (q := 64) hT18 (tf hT18 rfl rfl) fd_8_93
  have e37 := fI_bd (q := 64) hT18 (tf hT18 rfl rfl) fd_8_91
  refine st_aload c263_92 rfl ?_
  refine st_iconst c263_93 ?_
  refine st_iconst c263_94 ?_
  refine st_iconst c263_95 ?_
  have e38 := fI_bd (q := 64) hT18 (tf hT18 rfl rfl) fd_8_92
  have q39 : fI h17 64 92 = fI h 64 92 := Fr_fI hF19 (tf hT rfl rfl) (by decide +kernel)
  refine st_callt (as := [vI 4, vI 0, vI 0]) c263_96 cm_255 hT18 (tf hT18 rfl rfl) fd_8_0 rfl rfl rfl rfl (by omega) (K255 hT18 (Stb_mono hS (by decide +kernel)) 4 (by omega) 0 (by omega) 0 (by omega) (by omega) (d - 1) (by omega) _ (fun v h0 H => H)) (fun v1 h40 H => ?_)
  obtain ⟨rfl, pf43, pf44, pf45, pf46, pf47, hT41, hF42⟩ := H
  have hF48 := Fr_cp hF31 hF42 (by decide +kernel : Wsub W255 W263 = true)
  have e49 := fI_bd (q := 64) hT41 (tf hT41 rfl rfl) fd_8_93
  refine st_return c263_99 ?_
  have e50 := fI_bd (q := 64) hT41 (tf hT41 rfl rfl) fd_8_86
  have q51 : fI h40 64 86 = fI h17 64 86 := Fr_fI hF42 (tf hT18 rfl rfl) (by decide +kernel)
  have e52 := fI_bd (q := 64) hT41 (tf hT41 rfl rfl) fd_8_87
  have q53 : fI h40 64 87 = fI h17 64 87 := Fr_fI hF42 (tf hT18 rfl rfl) (by decide +kernel)
  have e54 := fI_bd (q := 64) hT41 (tf hT41 rfl rfl) fd_8_88
  have q55 : fI h40 64 88 = fI h17 64 88 := Fr_fI hF42 (tf hT18 rfl rfl) (by decide +kernel)
  have e56 := fI_bd (q := 64) hT41 (tf hT41 rfl rfl) fd_8_90
  have q57 : fI h40 64 90 = fI h17 64 90 := Fr_fI hF42 (tf hT18 rfl rfl) (by decide +kernel)
  have e58 := fI_bd (q := 64) hT41 (tf hT41 rfl rfl) fd_8_91
  have q59 : fI h40 64 91 = fI h17 64 91 := Fr_fI hF42 (tf hT18 rfl rfl) (by decide +kernel)
  have fr60 : ∀ i : Int, 0 ≤ i → i < 220 * fI h 64 92 + fI h 64 93 → aI h40 129 i = aI h 129 i := fun i a b => ((pf46 i a (by omega))).trans ((pf28 i a (by omega)))
  have fr61 : ∀ i : Int, 0 ≤ i → i < 220 * fI h 64 92 + fI h 64 93 → aI h40 130 i = aI h 130 i := fun i a b => ((pf47 i a (by omega))).trans ((pf29 i a (by omega)))
  have e62 := fI_bd (q := 64) hT41 (tf hT41 rfl rfl) fd_8_92
  have q63 : fI h40 64 92 = fI h17 64 92 := Fr_fI hF42 (tf hT18 rfl rfl) (by decide +kernel)
  have sg64 : 0 ≤ fI h40 64 90 ∨ Zs h40 (220 * fI h 64 92 + fI h 64 93) (fI h40 64 93 - fI h 64 93) := by
    rcases pf30 with q | q
    · exact Or.inl (by omega)
    · refine Or.inr ?_
      have fr65 : ∀ i : Int, 0 ≤ i → i < 220 * fI h 64 92 + fI h 64 93 + (fI h17 64 93 - fI h 64 93) → aI h40 129 i = aI h17 129 i := fun i a b => (pf46 i a (by omega))
      have fr66 : ∀ i : Int, 0 ≤ i → i < 220 * fI h 64 92 + fI h 64 93 + (fI h17 64 93 - fI h 64 93) → aI h40 130 i = aI h17 130 i := fun i a b => (pf47 i a (by omega))
      have g67 : Sg h40 (220 * fI h 64 92 + fI h 64 93) (fI h17 64 93 - fI h 64 93) := Sg_mv q (fun i a b => ⟨fr65 i (by omega) (by omega), fr66 i (by omega) (by omega)⟩)
      have a1 : aI h40 129 (220 * fI h17 64 92 + fI h17 64 93) = 4 := (rfl).trans pf44
      have k1 : Zs h40 (220 * fI h 64 92 + fI h 64 93) ((fI h17 64 93 - fI h 64 93) + 1) := Zs_sum g67 (by rw [show 220 * fI h 64 92 + fI h 64 93 + (fI h17 64 93 - fI h 64 93) = 220 * fI h17 64 92 + fI h17 64 93 by omega]; exact a1)
      rw [show fI h40 64 93 - fI h 64 93 = (fI h17 64 93 - fI h 64 93) + 1 by omega, show 220 * fI h 64 92 + fI h 64 93 = 220 * fI h 64 92 + fI h 64 93 by omega]
      exact k1
  exact hQ _ _ ⟨rfl, by omega, by omega, by omega, by omega, by omega, by omega, by omega, fr60, fr61, sg64, hT41, hF48⟩
  refine st_if_eq c263_7 (by omega) (fun k68 => False.elim (by omega)) (fun k69 => ?_)
  refine st_aload c263_10 rfl ?_
  have e70 := fI_bd (q := 64) hT (tf hT rfl rfl) fd_8_87
  have e71 := fI_bd (q := 64) hT (tf hT rfl rfl) fd_8_77
  refine st_callt (as := []) c263_11 cm_252 hT (tf hT rfl rfl) fd_8_0 rfl rfl rfl rfl (by omega) (K252 hT (Stb_mono hS (by decide +kernel)) (by omega) (d - 1) (by omega) _ (fun v h0 H => H)) (fun v1 h72 H => ?_)
  obtain ⟨rfl, pf75, pf76, pf77, pf78, hT73, hF74⟩ := H
  have hF79 := Fr_cp hF hF74 (by decide +kernel : Wsub W252 W263 = true)
  have e80 := fI_bd (q := 64) hT73 (tf hT73 rfl rfl) fd_8_86
  have e81 := fI_bd (q := 64) hT73 (tf hT73 rfl rfl) fd_8_87
  have e82 := fI_bd (q := 64) hT73 (tf hT73 rfl rfl) fd_8_88
  refine st_aload c263_14 rfl ?_
  refine st_getI c263_15 hT73 (tf hT73 rfl rfl) fd_8_89 (fun e83 e84 => ?_)
  refine st_istore (L' := [some (.ref 64), some (vI (fI h72 64 89)), none]) c263_18 rfl rfl ?_
  refine st_aload c263_19 rfl ?_
  refine st_iconst c263_20 ?_
  have e85 := fI_bd (q := 64) hT73 (tf hT73 rfl rfl) fd_8_90
  have q86 : fI h72 64 90 = fI h 64 90 := Fr_fI hF74 (tf hT rfl rfl) (by decide +kernel)
  have e87 := fI_bd (q := 64) hT73 (tf hT73 rfl rfl) fd_8_77
  have q88 : fI h72 64 77 = fI h 64 77 := Fr_fI hF74 (tf hT rfl rfl) (by decide +kernel)
  refine st_callt (as := [vI 2]) c263_21 cm_256 hT73 (tf hT73 rfl rfl) fd_8_0 rfl rfl rfl rfl (by omega) (K256 hT73 (Stb_mono hS (by decide +kernel)) 2 (by omega) (by omega) (d - 1) (by omega) _ (fun v h0 H => H)) (fun v1 h89 H => ?_)
  rcases H with ⟨rfl, pf92, pf93, pf94, pf95, hT90, hF91⟩ | ⟨rfl, pf96, pf97, pf98, pf99, pf100, pf101, hT90, hF91⟩
  have hF102 := Fr_cp hF79 hF91 (by decide +kernel : Wsub W256 W263 = true)
  have e103 := fI_bd (q := 64) hT90 (tf hT90 rfl rfl) fd_8_90
  have e104 := fI_bd (q := 64) hT90 (tf hT90 rfl rfl) fd_8_86
  have e105 := fI_bd (q := 64) hT90 (tf hT90 rfl rfl) fd_8_87
  have e106 := fI_bd (q := 64) hT90 (tf hT90 rfl rfl) fd_8_88
  refine st_if_ne c263_24 (by omega) (fun k107 => False.elim (by omega)) (fun k108 => ?_)
  refine st_return c263_27 ?_
  have e109 := fI_bd (q := 64) hT90 (tf hT90 rfl rfl) fd_8_93
  have q110 : fI h89 64 93 = fI h 64 93 := (Fr_fI hF91 (tf hT73 rfl rfl) (by decide +kernel)).trans (Fr_fI hF74 (tf hT rfl rfl) (by decide +kernel))
  have e111 := fI_bd (q := 64) hT90 (tf hT90 rfl rfl) fd_8_91
  have q112 : fI h89 64 91 = fI h 64 91 := (Fr_fI hF91 (tf hT73 rfl rfl) (by decide +kernel)).trans (Fr_fI hF74 (tf hT rfl rfl) (by decide +kernel))
  have fr113 : ∀ i : Int, 0 ≤ i → i < 220 * fI h 64 92 + fI h 64 93 → aI h89 129 i = aI h 129 i := fun i a b => ((Fr_aI hF91 (tf hT73 rfl rfl) (by decide +kernel) i)).trans ((Fr_aI hF74 (tf hT rfl rfl) (by decide +kernel) i))
  have fr114 : ∀ i : Int, 0 ≤ i → i < 220 * fI h 64 92 + fI h 64 93 → aI h89 130 i = aI h 130 i := fun i a b => ((Fr_aI hF91 (tf hT73 rfl rfl) (by decide +kernel) i)).trans ((Fr_aI hF74 (tf hT rfl rfl) (by decide +kernel) i))
  have e115 := fI_bd (q := 64) hT90 (tf hT90 rfl rfl) fd_8_92
  have q116 : fI h89 64 92 = fI h 64 92 := (Fr_fI hF91 (tf hT73 rfl rfl) (by decide +kernel)).trans (Fr_fI hF74 (tf hT rfl rfl) (by decide +kernel))
  exact hQ _ _ ⟨rfl, by omega, by omega, by omega, by omega, by omega, by omega, by omega, fr113, fr114, (Or.inl (by omega)), hT90, hF102⟩
  have hF117 := Fr_cp hF79 hF91 (by decide +kernel : Wsub W256 W263 = true)
  have e118 := fI_bd (q := 64) hT90 (tf hT90 rfl rfl) fd_8_90
  have e119 := fI_bd (q := 64) hT90 (tf hT90 rfl rfl) fd_8_86
  have e120 := fI_bd (q := 64) hT90 (tf hT90 rfl rfl) fd_8_87
  refine st_if_ne c263_24 (by omega) (fun k121 => ?_) (fun k122 => False.elim (by omega))
  refine st_iconst c263_28 ?_
  refine st_istore (L' := [some (.ref 64), some (vI (fI h72 64 89)), some (vI 1000000)]) c263_30 rfl rfl ?_
  refine st_aload c263_31 rfl ?_
  refine st_lconst c263_32 ?_
  have e123 := fI_bd (q := 64) hT90 (tf hT90 rfl rfl) fd_8_88
  refine st_callt (as := [.long (Int64.ofInt 583)]) c263_35 cm_253 hT90 (tf hT90 rfl rfl) fd_8_0 rfl rfl rfl rfl (by omega) (K253 hT90 (Int64.ofInt 583) (d - 1) (by omega) _ (fun v h0 H => H)) (fun v1 h1 H => ?_)
  rcases H with ⟨rfl, rfl⟩ | ⟨rfl, pf124, rfl⟩
  refine st_if_eq c263_38 (by omega) (fun k125 => ?_) (fun k126 => False.elim (by omega))
  refine st_aload c263_48 rfl ?_
  refine st_lconst c263_49 ?_
  refine st_callt (as := [.long (Int64.ofInt 555)]) c263_52 cm_253 hT90 (tf hT90 rfl rfl) fd_8_0 rfl rfl rfl rfl (by omega) (K253 hT90 (Int64.ofInt 555) (d - 1) (by omega) _ (fun v h0 H => H)) (fun v1 h1 H => ?_)
  rcases H with ⟨rfl, rfl⟩ | ⟨rfl, pf127, rfl⟩
  refine st_if_eq c263_55 (by omega) (fun k128 => ?_) (fun k129 => False.elim (by omega))
  refine st_aload c263_76 rfl ?_
  refine st_callt (as := []) c263_77 cm_254 hT90 (tf hT90 rfl rfl) fd_8_0 rfl rfl rfl rfl (by omega) (K254 hT90 (Stb_mono hS (by decide +kernel)) (d - 1) (by omega) _ (fun v h0 H => H)) (fun v1 h130 H => ?_)
  obtain ⟨rfl, pf133, pf134, hT131, hF132⟩ := H
  have hF135 := Fr_cp hF117 hF132 (by decide +kernel : Wsub W254 W263 = true)
  have e136 := fI_bd (q := 64) hT131 (tf hT131 rfl rfl) fd_8_90
  refine st_return c263_80 ?_
  have e137 := fI_bd (q := 64) hT131 (tf hT131 rfl rfl) fd_8_86
  have q138 : fI h130 64 86 = fI h89 64 86 := Fr_fI hF132 (tf hT90 rfl rfl) (by decide +kernel)
  have e139 := fI_bd (q := 64) hT131 (tf hT131 rfl rfl) fd_8_87
  have q140 : fI h130 64 87 = fI h89 64 87 := Fr_fI hF132 (tf hT90 rfl rfl) (by decide +kernel)
  have e141 := fI_bd (q := 64) hT131 (tf hT131 rfl rfl) fd_8_88
  have q142 : fI h130 64 88 = fI h89 64 88 := Fr_fI hF132 (tf hT90 rfl rfl) (by decide +kernel)
  have e143 := fI_bd (q := 64) hT131 (tf hT131 rfl rfl) fd_8_93
  have q144 : fI h130 64 93 = fI h 64 93 := (Fr_fI hF132 (tf hT90 rfl rfl) (by decide +kernel)).trans ((Fr_fI hF91 (tf hT73 rfl rfl) (by decide +kernel)).trans (Fr_fI hF74 (tf hT rfl rfl) (by decide +kernel)))
  have e145 := fI_bd (q := 64) hT131 (tf hT131 rfl rfl) fd_8_91
  have q146 : fI h130 64 91 = fI h 64 91 := (Fr_fI hF132 (tf hT90 rfl rfl) (by decide +kernel)).trans ((Fr_fI hF91 (tf hT73 rfl rfl) (by decide +kernel)).trans (Fr_fI hF74 (tf hT rfl rfl) (by decide +kernel)))
  have fr147 : ∀ i : Int, 0 ≤ i → i < 220 * fI h 64 92 + fI h 64 93 → aI h130 129 i = aI h 129 i := fun i a b => ((Fr_aI hF132 (tf hT90 rfl rfl) (by decide +kernel) i)).trans (((Fr_aI hF91 (tf hT73 rfl rfl) (by decide +kernel) i)).trans ((Fr_aI hF74 (tf hT rfl rfl) (by decide +kernel) i)))
  have fr148 : ∀ i : Int, 0 ≤ i → i < 220 * fI h 64 92 + fI h 64 93 → aI h130 130 i = aI h 130 i := fun i a b => ((Fr_aI hF132 (tf hT90 rfl rfl) (by decide +kernel) i)).trans (((Fr_aI hF91 (tf hT73 rfl rfl) (by decide +kernel) i)).trans ((Fr_aI hF74 (tf hT rfl rfl) (by decide +kernel) i)))
  have e149 := fI_bd (q := 64) hT131 (tf hT131 rfl rfl) fd_8_92
  have q150 : fI h130 64 92 = fI h 64 92 := (Fr_fI hF132 (tf hT90 rfl rfl) (by decide +kernel)).trans ((Fr_fI hF91 (tf hT73 rfl rfl) (by decide +kernel)).trans (Fr_fI hF74 (tf hT rfl rfl) (by decide +kernel)))
  exact hQ _ _ ⟨rfl, by omega, by omega, by omega, by omega, by omega, by omega, by omega, fr147, fr148, (Or.inl (by omega)), hT131, hF135⟩
  refine st_if_eq c263_55 (by omega) (fun k151 => False.elim (by omega)) (fun k152 => ?_)
  refine st_aload c263_58 rfl ?_
  have e153 := fI_bd (q := 64) hT90 (tf hT90 rfl rfl) fd_8_77
  have q154 : fI h89 64 77 = fI h72 64 77 := Fr_fI hF91 (tf hT73 rfl rfl) (by decide +kernel)
  refine st_callt (as := []) c263_59 cm_252 hT90 (tf hT90 rfl rfl) fd_8_0 rfl rfl rfl rfl (by omega) (K252 hT90 (Stb_mono hS (by decide +kernel)) (by omega) (d - 1) (by omega) _ (fun v h0 H => H)) (fun v1 h155 H => ?_)
  obtain ⟨rfl, pf158, pf159, pf160, pf161, hT156, hF157⟩ := H
  have hF162 := Fr_cp hF117 hF157 (by decide +kernel : Wsub W252 W263 = true)
  have e163 := fI_bd (q := 64) hT156 (tf hT156 rfl rfl) fd_8_86
  have e164 := fI_bd (q := 64) hT156 (tf hT156 rfl rfl) fd_8_87
  have e165 := fI_bd (q := 64) hT156 (tf hT156 rfl rfl) fd_8_88
  refine st_aload c263_62 rfl ?_
  refine st_getI c263_63 hT156 (tf hT156 rfl rfl) fd_8_89 (fun e166 e167 => ?_)
  refine st_istore (L' := [some (.ref 64), some (vI (fI h72 64 89)), some (vI (fI h155 64 89))]) c263_66 rfl rfl ?_
  refine st_aload c263_67 rfl ?_
  refine st_iconst c263_68 ?_
  have e168 := fI_bd (q := 64) hT156 (tf hT156 rfl rfl) fd_8_90
  have q169 : fI h155 64 90 = fI h89 64 90 := Fr_fI hF157 (tf hT90 rfl rfl) (by decide +kernel)
  have e170 := fI_bd (q := 64) hT156 (tf hT156 rfl rfl) fd_8_77
  have q171 : fI h155 64 77 = fI h89 64 77 := Fr_fI hF157 (tf hT90 rfl rfl) (by decide +kernel)
  refine st_callt (as := [vI 2]) c263_69 cm_256 hT156 (tf hT156 rfl rfl) fd_8_0 rfl rfl rfl rfl (by omega) (K256 hT156 (Stb_mono hS (by decide +kernel)) 2 (by omega) (by omega) (d - 1) (by omega) _ (fun v h0 H => H)) (fun v1 h172 H => ?_)
  rcases H with ⟨rfl, pf175, pf176, pf177, pf178, hT173, hF174⟩ | ⟨rfl, pf179, pf180, pf181, pf182, pf183, pf184, hT173, hF174⟩
  have hF185 := Fr_cp hF162 hF174 (by decide +kernel : Wsub W256 W263 = true)
  have e186 := fI_bd (q := 64) hT173 (tf hT173 rfl rfl) fd_8_90
  have e187 := fI_bd (q := 64) hT173 (tf hT173 rfl rfl) fd_8_86
  have e188 := fI_bd (q := 64) hT173 (tf hT173 rfl rfl) fd_8_87
  have e189 := fI_bd (q := 64) hT173 (tf hT173 rfl rfl) fd_8_88
  refine st_if_ne c263_72 (by omega) (fun k190 => False.elim (by omega)) (fun k191 => ?_)
  refine st_return c263_75 ?_
  have e192 := fI_bd (q := 64) hT173 (tf hT173 rfl rfl) fd_8_93
  have q193 : fI h172 64 93 = fI h 64 93 := (Fr_fI hF174 (tf hT156 rfl rfl) (by decide +kernel)).trans ((Fr_fI hF157 (tf hT90 rfl rfl) (by decide +kernel)).trans ((Fr_fI hF91 (tf hT73 rfl rfl) (by decide +kernel)).trans (Fr_fI hF74 (tf hT rfl rfl) (by decide +kernel))))
  have e194 := fI_bd (q := 64) hT173 (tf hT173 rfl rfl) fd_8_91
  have q195 : fI h172 64 91 = fI h 64 91 := (Fr_fI hF174 (tf hT156 rfl rfl) (by decide +kernel)).trans ((Fr_fI hF157 (tf hT90 rfl rfl) (by decide +kernel)).trans ((Fr_fI hF91 (tf hT73 rfl rfl) (by decide +kernel)).trans (Fr_fI hF74 (tf hT rfl rfl) (by decide +kernel))))
  have fr196 : ∀ i : Int, 0 ≤ i → i < 220 * fI h 64 92 + fI h 64 93 → aI h172 129 i = aI h 129 i := fun i a b => ((Fr_aI hF174 (tf hT156 rfl rfl) (by decide +kernel) i)).trans (((Fr_aI hF157 (tf hT90 rfl rfl) (by decide +kernel) i)).trans (((Fr_aI hF91 (tf hT73 rfl rfl) (by decide +kernel) i)).trans ((Fr_aI hF74 (tf hT rfl rfl) (by decide +kernel) i))))
  have fr197 : ∀ i : Int, 0 ≤ i → i < 220 * fI h 64 92 + fI h 64 93 → aI h172 130 i = aI h 130 i := fun i a b => ((Fr_aI hF174 (tf hT156 rfl rfl) (by decide +kernel) i)).trans (((Fr_aI hF157 (tf hT90 rfl rfl) (by decide +kernel) i)).trans (((Fr_aI hF91 (tf hT73 rfl rfl) (by decide +kernel) i)).trans ((Fr_aI hF74 (tf hT rfl rfl) (by decide +kernel) i))))
  have e198 := fI_bd (q := 64) hT173 (tf hT173 rfl rfl) fd_8_92
  have q199 : fI h172 64 92 = fI h 64 92 := (Fr_fI hF174 (tf hT156 rfl rfl) (by decide +kernel)).trans ((Fr_fI hF157 (tf hT90 rfl rfl) (by decide +kernel)).trans ((Fr_fI hF91 (tf hT73 rfl rfl) (by decide +kernel)).trans (Fr_fI hF74 (tf hT rfl rfl) (by decide +kernel))))
  exact hQ _ _ ⟨rfl, by omega, by omega, by omega, by omega, by omega, by omega, by omega, fr196, fr197, (Or.inl (by omega)), hT173, hF185⟩
  have hF200 := Fr_cp hF162 hF174 (by decide +kernel : Wsub W256 W263 = true)
  have e201 := fI_bd (q := 64) hT173 (tf hT173 rfl rfl) fd_8_90
  have e202 := fI_bd (q := 64) hT173 (tf hT173 rfl rfl) fd_8_86
  have e203 := fI_bd (q := 64) hT173 (tf hT173 rfl rfl) fd_8_87
  refine st_if_ne c263_72 (by omega) (fun k204 => ?_) (fun k205 => False.elim (by omega))
  refine st_aload c263_81 rfl ?_
  refine st_iconst c263_82 ?_
  refine st_iload c263_83 rfl ?_
  refine st_iload c263_84 rfl ?_
  have e206 := fI_bd (q := 64) hT173 (tf hT173 rfl rfl) fd_8_93
  have q207 : fI h172 64 93 = fI h 64 93 := (Fr_fI hF174 (tf hT156 rfl rfl) (by decide +kernel)).trans ((Fr_fI hF157 (tf hT90 rfl rfl) (by decide +kernel)).trans ((Fr_fI hF91 (tf hT73 rfl rfl) (by decide +kernel)).trans (Fr_fI hF74 (tf hT rfl rfl) (by decide +kernel))))
  have e208 := fI_bd (q := 64) hT173 (tf hT173 rfl rfl) fd_8_92
  have q209 : fI h172 64 92 = fI h 64 92 := (Fr_fI hF174 (tf hT156 rfl rfl) (by decide +kernel)).trans ((Fr_fI hF157 (tf hT90 rfl rfl) (by decide +kernel)).trans ((Fr_fI hF91 (tf hT73 rfl rfl) (by decide +kernel)).trans (Fr_fI hF74 (tf hT rfl rfl) (by decide +kernel))))
  refine st_callt (as := [vI 3, vI (fI h72 64 89), vI (fI h155 64 89)]) c263_85 cm_255 hT173 (tf hT173 rfl rfl) fd_8_0 rfl rfl rfl rfl (by omega) (K255 hT173 (Stb_mono hS (by decide +kernel)) 3 (by omega) (fI h72 64 89) (by omega) (fI h155 64 89) (by omega) (by omega) (d - 1) (by omega) _ (fun v h0 H => H)) (fun v1 h210 H => ?_)
  obtain ⟨rfl, pf213, pf214, pf215, pf216, pf217, hT211, hF212⟩ := H
  have hF218 := Fr_cp hF200 hF212 (by decide +kernel : Wsub W255 W263 = true)
  have e219 := fI_bd (q := 64) hT211 (tf hT211 rfl rfl) fd_8_93
  refine st_aload c263_88 rfl ?_
  have e220 := fI_bd (q := 64) hT211 (tf hT211 rfl rfl) fd_8_86
  have q221 : fI h210 64 86 = fI h172 64 86 := Fr_fI hF212 (tf hT173 rfl rfl) (by decide +kernel)
  have e222 := fI_bd (q := 64) hT211 (tf hT211 rfl rfl) fd_8_77
  have q223 : fI h210 64 77 = fI h155 64 77 := (Fr_fI hF212 (tf hT173 rfl rfl) (by decide +kernel)).trans (Fr_fI hF174 (tf hT156 rfl rfl) (by decide +kernel))
  have e224 := fI_bd (q := 64) hT211 (tf hT211 rfl rfl) fd_8_90
  have q225 : fI h210 64 90 = fI h172 64 90 := Fr_fI hF212 (tf hT173 rfl rfl) (by decide +kernel)
  have e226 := fI_bd (q := 64) hT211 (tf hT211 rfl rfl) fd_8_91
  have q227 : fI h210 64 91 = fI h 64 91 := (Fr_fI hF212 (tf hT173 rfl rfl) (by decide +kernel)).trans ((Fr_fI hF174 (tf hT156 rfl rfl) (by decide +kernel)).trans ((Fr_fI hF157 (tf hT90 rfl rfl) (by decide +kernel)).trans ((Fr_fI hF91 (tf hT73 rfl rfl) (by decide +kernel)).trans (Fr_fI hF74 (tf hT rfl rfl) (by decide +kernel)))))
  have e228 := fI_bd (q := 64) hT211 (tf hT211 rfl rfl) fd_8_92
  have q229 : fI h210 64 92 = fI h172 64 92 := Fr_fI hF212 (tf hT173 rfl rfl) (by decide +kernel)
  have e230 := fI_bd (q := 64) hT211 (tf hT211 rfl rfl) fd_8_87
  have q231 : fI h210 64 87 = fI h172 64 87 := Fr_fI hF212 (tf hT173 rfl rfl) (by decide +kernel)
  have e232 := fI_bd (q := 64) hT211 (tf hT211 rfl rfl) fd_8_88
  have q233 : fI h210 64 88 = fI h172 64 88 := Fr_fI hF212 (tf hT173 rfl rfl) (by decide +kernel)
  refine st_callt (as := []) c263_89 cm_262 hT211 (tf hT211 rfl rfl) fd_8_0 rfl rfl rfl rfl (by omega) (K262z hT211 (Stb_mono hS (by decide +kernel)) (by omega) (by omega) (by omega) (by omega) (by omega) (d - 1) (by omega) _ (fun v h0 H => H)) (fun v1 h234 H => ?_)
  obtain ⟨rfl, pf237, pf238, pf239, pf240, pf241, pf242, pf243, pf244, pf245, pf246, pf247, hT235, hF236⟩ := H
  have hF248 := Fr_cp hF218 hF236 (by decide +kernel : Wsub Wp12 W263 = true)
  have e249 := fI_bd (q := 64) hT235 (tf hT235 rfl rfl) fd_8_86
  have e250 := fI_bd (q := 64) hT235 (tf hT235 rfl rfl) fd_8_87
  have e251 := fI_bd (q := 64) hT235 (tf hT235 rfl rfl) fd_8_88
  have e252 := fI_bd (q := 64) hT235 (tf hT235 rfl rfl) fd_8_90
  have e253 := fI_bd (q := 64) hT235 (tf hT235 rfl rfl) fd_8_93
  have e254 := fI_bd (q := 64) hT235 (tf hT235 rfl rfl) fd_8_91
  refine st_aload c263_92 rfl ?_
  refine st_iconst c263_93 ?_
  refine st_iconst c263_94 ?_
  refine st_iconst c263_95 ?_
  have e255 := fI_bd (q := 64) hT235 (tf hT235 rfl rfl) fd_8_92
  have q256 : fI h234 64 92 = fI h210 64 92 := Fr_fI hF236 (tf hT211 rfl rfl) (by decide +kernel)
  refine st_callt (as := [vI 4, vI 0, vI 0]) c263_96 cm_255 hT235 (tf hT235 rfl rfl) fd_8_0 rfl rfl rfl rfl (by omega) (K255 hT235 (Stb_mono hS (by decide +kernel)) 4 (by omega) 0 (by omega) 0 (by omega) (by omega) (d - 1) (by omega) _ (fun v h0 H => H)) (fun v1 h257 H => ?_)
  obtain ⟨rfl, pf260, pf261, pf262, pf263, pf264, hT258, hF259⟩ := H
  have hF265 := Fr_cp hF248 hF259 (by decide +kernel : Wsub W255 W263 = true)
  have e266 := fI_bd (q := 64) hT258 (tf hT258 rfl rfl) fd_8_93
  refine st_return c263_99 ?_
  have e267 := fI_bd (q := 64) hT258 (tf hT258 rfl rfl) fd_8_86
  have q268 : fI h257 64 86 = fI h234 64 86 := Fr_fI hF259 (tf hT235 rfl rfl) (by decide +kernel)
  have e269 := fI_bd (q := 64) hT258 (tf hT258 rfl rfl) fd_8_87
  have q270 : fI h257 64 87 = fI h234 64 87 := Fr_fI hF259 (tf hT235 rfl rfl) (by decide +kernel)
  have e271 := fI_bd (q := 64) hT258 (tf hT258 rfl rfl) fd_8_88
  have q272 : fI h257 64 88 = fI h234 64 88 := Fr_fI hF259 (tf hT235 rfl rfl) (by decide +kernel)
  have e273 := fI_bd (q := 64) hT258 (tf hT258 rfl rfl) fd_8_90
  have q274 : fI h257 64 90 = fI h234 64 90 := Fr_fI hF259 (tf hT235 rfl rfl) (by decide +kernel)
  have e275 := fI_bd (q := 64) hT258 (tf hT258 rfl rfl) fd_8_91
  have q276 : fI h257 64 91 = fI h234 64 91 := Fr_fI hF259 (tf hT235 rfl rfl) (by decide +kernel)
  have fr277 : ∀ i : Int, 0 ≤ i → i < 220 * fI h 64 92 + fI h 64 93 → aI h257 129 i = aI h 129 i := fun i a b => ((pf263 i a (by omega))).trans (((pf245 i a (by omega))).trans (((pf216 i a (by omega))).trans (((Fr_aI hF174 (tf hT156 rfl rfl) (by decide +kernel) i)).trans (((Fr_aI hF157 (tf hT90 rfl rfl) (by decide +kernel) i)).trans (((Fr_aI hF91 (tf hT73 rfl rfl) (by decide +kernel) i)).trans ((Fr_aI hF74 (tf hT rfl rfl) (by decide +kernel) i)))))))
  have fr278 : ∀ i : Int, 0 ≤ i → i < 220 * fI h 64 92 + fI h 64 93 → aI h257 130 i = aI h 130 i := fun i a b => ((pf264 i a (by omega))).trans (((pf246 i a (by omega))).trans (((pf217 i a (by omega))).trans (((Fr_aI hF174 (tf hT156 rfl rfl) (by decide +kernel) i)).trans (((Fr_aI hF157 (tf hT90 rfl rfl) (by decide +kernel) i)).trans (((Fr_aI hF91 (tf hT73 rfl rfl) (by decide +kernel) i)).trans ((Fr_aI hF74 (tf hT rfl rfl) (by decide +kernel) i)))))))
  have e279 := fI_bd (q := 64) hT258 (tf hT258 rfl rfl) fd_8_92
  have q280 : fI h257 64 92 = fI h234 64 92 := Fr_fI hF259 (tf hT235 rfl rfl) (by decide +kernel)
  have sg281 : 0 ≤ fI h257 64 90 ∨ Zs h257 (220 * fI h 64 92 + fI h 64 93) (fI h257 64 93 - fI h 64 93) := by
    rcases pf247 with q | q
    · exact Or.inl (by omega)
    · refine Or.inr ?_
      have fr282 : ∀ i : Int, 0 ≤ i → i < 220 * fI h210 64 92 + fI h210 64 93 + (fI h234 64 93 - fI h210 64 93) → aI h257 129 i = aI h234 129 i := fun i a b => (pf263 i a (by omega))
      have fr283 : ∀ i : Int, 0 ≤ i → i < 220 * fI h210 64 92 + fI h210 64 93 + (fI h234 64 93 - fI h210 64 93) → aI h257 130 i = aI h234 130 i := fun i a b => (pf264 i a (by omega))
      have g284 : Sg h257 (220 * fI h210 64 92 + fI h210 64 93) (fI h234 64 93 - fI h210 64 93) := Sg_mv q (fun i a b => ⟨fr282 i (by omega) (by omega), fr283 i (by omega) (by omega)⟩)
      have a1 : aI h257 129 (220 * fI h234 64 92 + fI h234 64 93) = 4 := (rfl).trans pf261
      have k1 : Zs h257 (220 * fI h210 64 92 + fI h210 64 93) ((fI h234 64 93 - fI h210 64 93) + 1) := Zs_sum g284 (by rw [show 220 * fI h210 64 92 + fI h210 64 93 + (fI h234 64 93 - fI h210 64 93) = 220 * fI h234 64 92 + fI h234 64 93 by omega]; exact a1)
      have fr285 : ∀ i : Int, 0 ≤ i → i < 220 * fI h172 64 92 + fI h172 64 93 + 1 → aI h257 129 i = aI h210 129 i := fun i a b => ((pf263 i a (by omega))).trans ((pf245 i a (by omega)))
      have a3 : aI h257 129 (220 * fI h172 64 92 + fI h172 64 93) = 3 := (fr285 (220 * fI h172 64 92 + fI h172 64 93) (by omega) (by omega)).trans pf214
      rw [show fI h257 64 93 - fI h 64 93 = 1 + ((fI h234 64 93 - fI h210 64 93) + 1) by omega, show 220 * fI h 64 92 + fI h 64 93 = 220 * fI h172 64 92 + fI h172 64 93 by omega]
      exact Zs_with a3 (by rw [show 220 * fI h172 64 92 + fI h172 64 93 + 1 = 220 * fI h210 64 92 + fI h210 64 93 by omega]; exact k1)
  exact hQ _ _ ⟨rfl, by omega, by omega, by omega, by omega, by omega, by omega, by omega, fr277, fr278, sg281, hT258, hF265⟩
  refine st_if_eq c263_38 (by omega) (fun k286 => False.elim (by omega)) (fun k287 => ?_)
  refine st_aload c263_41 rfl ?_
  have e288 := fI_bd (q := 64) hT90 (tf hT90 rfl rfl) fd_8_77
  have q289 : fI h89 64 77 = fI h72 64 77 := Fr_fI hF91 (tf hT73 rfl rfl) (by decide +kernel)
  refine st_callt (as := []) c263_42 cm_252 hT90 (tf hT90 rfl rfl) fd_8_0 rfl rfl rfl rfl (by omega) (K252 hT90 (Stb_mono hS (by decide +kernel)) (by omega) (d - 1) (by omega) _ (fun v h0 H => H)) (fun v1 h290 H => ?_)
  obtain ⟨rfl, pf293, pf294, pf295, pf296, hT291, hF292⟩ := H
  have hF297 := Fr_cp hF117 hF292 (by decide +kernel : Wsub W252 W263 = true)
  have e298 := fI_bd (q := 64) hT291 (tf hT291 rfl rfl) fd_8_86
  have e299 := fI_bd (q := 64) hT291 (tf hT291 rfl rfl) fd_8_87
  have e300 := fI_bd (q := 64) hT291 (tf hT291 rfl rfl) fd_8_88
  refine st_goto c263_45 ?_
  refine st_aload c263_81 rfl ?_
  refine st_iconst c263_82 ?_
  refine st_iload c263_83 rfl ?_
  refine st_iload c263_84 rfl ?_
  have e301 := fI_bd (q := 64) hT291 (tf hT291 rfl rfl) fd_8_93
  have q302 : fI h290 64 93 = fI h 64 93 := (Fr_fI hF292 (tf hT90 rfl rfl) (by decide +kernel)).trans ((Fr_fI hF91 (tf hT73 rfl rfl) (by decide +kernel)).trans (Fr_fI hF74 (tf hT rfl rfl) (by decide +kernel)))
  have e303 := fI_bd (q := 64) hT291 (tf hT291 rfl rfl) fd_8_92
  have q304 : fI h290 64 92 = fI h 64 92 := (Fr_fI hF292 (tf hT90 rfl rfl) (by decide +kernel)).trans ((Fr_fI hF91 (tf hT73 rfl rfl) (by decide +kernel)).trans (Fr_fI hF74 (tf hT rfl rfl) (by decide +kernel)))
  refine st_callt (as := [vI 3, vI (fI h72 64 89), vI 1000000]) c263_85 cm_255 hT291 (tf hT291 rfl rfl) fd_8_0 rfl rfl rfl rfl (by omega) (K255 hT291 (Stb_mono hS (by decide +kernel)) 3 (by omega) (fI h72 64 89) (by omega) 1000000 (by omega) (by omega) (d - 1) (by omega) _ (fun v h0 H => H)) (fun v1 h305 H => ?_)
  obtain ⟨rfl, pf308, pf309, pf310, pf311, pf312, hT306, hF307⟩ := H
  have hF313 := Fr_cp hF297 hF307 (by decide +kernel : Wsub W255 W263 = true)
  have e314 := fI_bd (q := 64) hT306 (tf hT306 rfl rfl) fd_8_93
  refine st_aload c263_88 rfl ?_
  have e315 := fI_bd (q := 64) hT306 (tf hT306 rfl rfl) fd_8_86
  have q316 : fI h305 64 86 = fI h290 64 86 := Fr_fI hF307 (tf hT291 rfl rfl) (by decide +kernel)
  have e317 := fI_bd (q := 64) hT306 (tf hT306 rfl rfl) fd_8_77
  have q318 : fI h305 64 77 = fI h89 64 77 := (Fr_fI hF307 (tf hT291 rfl rfl) (by decide +kernel)).trans (Fr_fI hF292 (tf hT90 rfl rfl) (by decide +kernel))
  have e319 := fI_bd (q := 64) hT306 (tf hT306 rfl rfl) fd_8_90
  have q320 : fI h305 64 90 = fI h89 64 90 := (Fr_fI hF307 (tf hT291 rfl rfl) (by decide +kernel)).trans (Fr_fI hF292 (tf hT90 rfl rfl) (by decide +kernel))
  have e321 := fI_bd (q := 64) hT306 (tf hT306 rfl rfl) fd_8_91
  have q322 : fI h305 64 91 = fI h 64 91 := (Fr_fI hF307 (tf hT291 rfl rfl) (by decide +kernel)).trans ((Fr_fI hF292 (tf hT90 rfl rfl) (by decide +kernel)).trans ((Fr_fI hF91 (tf hT73 rfl rfl) (by decide +kernel)).trans (Fr_fI hF74 (tf hT rfl rfl) (by decide +kernel))))
  have e323 := fI_bd (q := 64) hT306 (tf hT306 rfl rfl) fd_8_92
  have q324 : fI h305 64 92 = fI h290 64 92 := Fr_fI hF307 (tf hT291 rfl rfl) (by decide +kernel)
  have e325 := fI_bd (q := 64) hT306 (tf hT306 rfl rfl) fd_8_87
  have q326 : fI h305 64 87 = fI h290 64 87 := Fr_fI hF307 (tf hT291 rfl rfl) (by decide +kernel)
  have e327 := fI_bd (q := 64) hT306 (tf hT306 rfl rfl) fd_8_88
  have q328 : fI h305 64 88 = fI h290 64 88 := Fr_fI hF307 (tf hT291 rfl rfl) (by decide +kernel)
  refine st_callt (as := []) c263_89 cm_262 hT306 (tf hT306 rfl rfl) fd_8_0 rfl rfl rfl rfl (by omega) (K262z hT306 (Stb_mono hS (by decide +kernel)) (by omega) (by omega) (by omega) (by omega) (by omega) (d - 1) (by omega) _ (fun v h0 H => H)) (fun v1 h329 H => ?_)
  obtain ⟨rfl, pf332, pf333, pf334, pf335, pf336, pf337, pf338, pf339, pf340, pf341, pf342, hT330, hF331⟩ := H
  have hF343 := Fr_cp hF313 hF331 (by decide +kernel : Wsub Wp12 W263 = true)
  have e344 := fI_bd (q := 64) hT330 (tf hT330 rfl rfl) fd_8_86
  have e345 := fI_bd (q := 64) hT330 (tf hT330 rfl rfl) fd_8_87
  have e346 := fI_bd (q := 64) hT330 (tf hT330 rfl rfl) fd_8_88
  have e347 := fI_bd (q := 64) hT330 (tf hT330 rfl rfl) fd_8_90
  have e348 := fI_bd (q := 64) hT330 (tf hT330 rfl rfl) fd_8_93
  have e349 := fI_bd (q := 64) hT330 (tf hT330 rfl rfl) fd_8_91
  refine st_aload c263_92 rfl ?_
  refine st_iconst c263_93 ?_
  refine st_iconst c263_94 ?_
  refine st_iconst c263_95 ?_
  have e350 := fI_bd (q := 64) hT330 (tf hT330 rfl rfl) fd_8_92
  have q351 : fI h329 64 92 = fI h305 64 92 := Fr_fI hF331 (tf hT306 rfl rfl) (by decide +kernel)
  refine st_callt (as := [vI 4, vI 0, vI 0]) c263_96 cm_255 hT330 (tf hT330 rfl rfl) fd_8_0 rfl rfl rfl rfl (by omega) (K255 hT330 (Stb_mono hS (by decide +kernel)) 4 (by omega) 0 (by omega) 0 (by omega) (by omega) (d - 1) (by omega) _ (fun v h0 H => H)) (fun v1 h352 H => ?_)
  obtain ⟨rfl, pf355, pf356, pf357, pf358, pf359, hT353, hF354⟩ := H
  have hF360 := Fr_cp hF343 hF354 (by decide +kernel : Wsub W255 W263 = true)
  have e361 := fI_bd (q := 64) hT353 (tf hT353 rfl rfl) fd_8_93
  refine st_return c263_99 ?_
  have e362 := fI_bd (q := 64) hT353 (tf hT353 rfl rfl) fd_8_86
  have q363 : fI h352 64 86 = fI h329 64 86 := Fr_fI hF354 (tf hT330 rfl rfl) (by decide +kernel)
  have e364 := fI_bd (q := 64) hT353 (tf hT353 rfl rfl) fd_8_87
  have q365 : fI h352 64 87 = fI h329 64 87 := Fr_fI hF354 (tf hT330 rfl rfl) (by decide +kernel)
  have e366 := fI_bd (q := 64) hT353 (tf hT353 rfl rfl) fd_8_88
  have q367 : fI h352 64 88 = fI h329 64 88 := Fr_fI hF354 (tf hT330 rfl rfl) (by decide +kernel)
  have e368 := fI_bd (q := 64) hT353 (tf hT353 rfl rfl) fd_8_90
  have q369 : fI h352 64 90 = fI h329 64 90 := Fr_fI hF354 (tf hT330 rfl rfl) (by decide +kernel)
  have e370 := fI_bd (q := 64) hT353 (tf hT353 rfl rfl) fd_8_91
  have q371 : fI h352 64 91 = fI h329 64 91 := Fr_fI hF354 (tf hT330 rfl rfl) (by decide +kernel)
  have fr372 : ∀ i : Int, 0 ≤ i → i < 220 * fI h 64 92 + fI h 64 93 → aI h352 129 i = aI h 129 i := fun i a b => ((pf358 i a (by omega))).trans (((pf340 i a (by omega))).trans (((pf311 i a (by omega))).trans (((Fr_aI hF292 (tf hT90 rfl rfl) (by decide +kernel) i)).trans (((Fr_aI hF91 (tf hT73 rfl rfl) (by decide +kernel) i)).trans ((Fr_aI hF74 (tf hT rfl rfl) (by decide +kernel) i))))))
  have fr373 : ∀ i : Int, 0 ≤ i → i < 220 * fI h 64 92 + fI h 64 93 → aI h352 130 i = aI h 130 i := fun i a b => ((pf359 i a (by omega))).trans (((pf341 i a (by omega))).trans (((pf312 i a (by omega))).trans (((Fr_aI hF292 (tf hT90 rfl rfl) (by decide +kernel) i)).trans (((Fr_aI hF91 (tf hT73 rfl rfl) (by decide +kernel) i)).trans ((Fr_aI hF74 (tf hT rfl rfl) (by decide +kernel) i))))))
  have e374 := fI_bd (q := 64) hT353 (tf hT353 rfl rfl) fd_8_92
  have q375 : fI h352 64 92 = fI h329 64 92 := Fr_fI hF354 (tf hT330 rfl rfl) (by decide +kernel)
  have sg376 : 0 ≤ fI h352 64 90 ∨ Zs h352 (220 * fI h 64 92 + fI h 64 93) (fI h352 64 93 - fI h 64 93) := by
    rcases pf342 with q | q
    · exact Or.inl (by omega)
    · refine Or.inr ?_
      have fr377 : ∀ i : Int, 0 ≤ i → i < 220 * fI h305 64 92 + fI h305 64 93 + (fI h329 64 93 - fI h305 64 93) → aI h352 129 i = aI h329 129 i := fun i a b => (pf358 i a (by omega))
      have fr378 : ∀ i : Int, 0 ≤ i → i < 220 * fI h305 64 92 + fI h305 64 93 + (fI h329 64 93 - fI h305 64 93) → aI h352 130 i = aI h329 130 i := fun i a b => (pf359 i a (by omega))
      have g379 : Sg h352 (220 * fI h305 64 92 + fI h305 64 93) (fI h329 64 93 - fI h305 64 93) := Sg_mv q (fun i a b => ⟨fr377 i (by omega) (by omega), fr378 i (by omega) (by omega)⟩)
      have a1 : aI h352 129 (220 * fI h329 64 92 + fI h329 64 93) = 4 := (rfl).trans pf356
      have k1 : Zs h352 (220 * fI h305 64 92 + fI h305 64 93) ((fI h329 64 93 - fI h305 64 93) + 1) := Zs_sum g379 (by rw [show 220 * fI h305 64 92 + fI h305 64 93 + (fI h329 64 93 - fI h305 64 93) = 220 * fI h329 64 92 + fI h329 64 93 by omega]; exact a1)
      have fr380 : ∀ i : Int, 0 ≤ i → i < 220 * fI h290 64 92 + fI h290 64 93 + 1 → aI h352 129 i = aI h305 129 i := fun i a b => ((pf358 i a (by omega))).trans ((pf340 i a (by omega)))
      have a3 : aI h352 129 (220 * fI h290 64 92 + fI h290 64 93) = 3 := (fr380 (220 * fI h290 64 92 + fI h290 64 93) (by omega) (by omega)).trans pf309
      rw [show fI h352 64 93 - fI h 64 93 = 1 + ((fI h329 64 93 - fI h305 64 93) + 1) by omega, show 220 * fI h 64 92 + fI h 64 93 = 220 * fI h290 64 92 + fI h290 64 93 by omega]
      exact Zs_with a3 (by rw [show 220 * fI h290 64 92 + fI h290 64 93 + 1 = 220 * fI h305 64 92 + fI h305 64 93 by omega]; exact k1)
  exact hQ _ _ ⟨rfl, by omega, by omega, by omega, by omega, by omega, by omega, by omega, fr372, fr373, sg376, hT353, hF360⟩
