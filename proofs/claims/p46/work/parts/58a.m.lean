def Wp12 : List (Nat × Nat) := [(8, 86), (8, 87), (8, 88), (8, 89), (8, 90), (8, 91), (8, 93), (107, 0), (108, 0), (109, 0)]
abbrev C262 (k : Int) : Prop := ∀ {S F P : Int → Int} {a : Int} {Ln : Nat} {xs : Nat → Int32} {τ : List Nat} {h : List mE} {E : EP} (hT : TH E τ h) (hS : Stb E Wp12) (pre0 : fI h 64 86≤fI h 64 87) (pre1 : fI h 64 87≤fI h 64 77) (pre2 : fI h 64 88 = 0 ∨ fI h 64 86 + 1 ≤ fI h 64 87) (pre3 : fI h 64 93≤fI h 64 86+1) (pre4 : fI h 64 91 = k ∧ 0 ≤ k ∧ k ≤ 8) (pre5 : fI h 64 90<0) (pre6 : CU S F P h a) (d : Nat) (hd : 84 - 7 * k ≤ (d : Int)) (Q : Option Value → List mE → Prop) (hQ : ∀ v h', (v = none ∧ (fI h 64 86≤fI h' 64 86) ∧ (fI h' 64 86≤fI h' 64 87) ∧ (fI h' 64 87≤fI h 64 77) ∧ (fI h' 64 88 = 0 ∨ fI h' 64 86 + 1 ≤ fI h' 64 87) ∧ (fI h 64 90 < 0 ∨ 0 ≤ fI h' 64 90) ∧ (fI h' 64 93 - fI h' 64 86 ≤ fI h 64 93 - fI h 64 86) ∧ (fI h 64 93≤fI h' 64 93) ∧ (0 ≤ fI h' 64 90 ∨ fI h' 64 91 = fI h 64 91) ∧ (∀ i : Int, 0 ≤ i → i < 220 * fI h 64 92 + fI h 64 93 → aI h' 129 i = aI h 129 i) ∧ (∀ i : Int, 0 ≤ i → i < 220 * fI h 64 92 + fI h 64 93 → aI h' 130 i = aI h 130 i) ∧ (0 ≤ fI h' 64 90 ∨ Sg h' (220 * fI h 64 92 + fI h 64 93) (fI h' 64 93 - fI h 64 93)) ∧ (RMx S F P 0 k h h' a) ∧ TH E τ h' ∧ Fr τ Wp12 h h') → Q v h'), MR (mex Ln xs) d 262 0 [some (.ref 64), none] [] h Q
set_option maxHeartbeats 0 in
theorem K260 {k : Int} {S F P : Int → Int} {a : Int} {Ln : Nat} {xs : Nat → Int32} {τ : List Nat} {h : List mE} {E : EP} (hT : TH E τ h) (hS : Stb E Wp12) (pre0 : fI h 64 86≤fI h 64 87) (pre1 : fI h 64 87≤fI h 64 77) (pre2 : fI h 64 88 = 0 ∨ fI h 64 86 + 1 ≤ fI h 64 87) (pre3 : fI h 64 93≤fI h 64 86+1) (pre4 : fI h 64 91 = k ∧ 0 ≤ k ∧ k ≤ 8) (pre5 : k < 8 → C262 (k + 1)) (pre6 : fI h 64 90<0) (pre7 : CU S F P h a) (d : Nat) (hd : 82 - 7 * k ≤ (d : Int)) (Q : Option Value → List mE → Prop) (hQ : ∀ v h', (v = none ∧ (fI h 64 86≤fI h' 64 86) ∧ (fI h' 64 86≤fI h' 64 87) ∧ (fI h' 64 87≤fI h 64 77) ∧ (fI h' 64 88 = 0 ∨ fI h' 64 86 + 1 ≤ fI h' 64 87) ∧ (fI h 64 90 < 0 ∨ 0 ≤ fI h' 64 90) ∧ (fI h' 64 93 - fI h' 64 86 ≤ fI h 64 93 - fI h 64 86) ∧ (fI h 64 93≤fI h' 64 93) ∧ (0 ≤ fI h' 64 90 ∨ fI h' 64 91 = fI h 64 91) ∧ (∀ i : Int, 0 ≤ i → i < 220 * fI h 64 92 + fI h 64 93 → aI h' 129 i = aI h 129 i) ∧ (∀ i : Int, 0 ≤ i → i < 220 * fI h 64 92 + fI h 64 93 → aI h' 130 i = aI h 130 i) ∧ (0 ≤ fI h' 64 90 ∨ Sg h' (220 * fI h 64 92 + fI h 64 93) (fI h' 64 93 - fI h 64 93)) ∧ (RMx S F P 2 k h h' a) ∧ TH E τ h' ∧ Fr τ Wp12 h h') → Q v h') : MR (mex Ln xs) d 260 0 [some (.ref 64), none] [] h Q := by
  have hF := Fr_rf τ Wp12 h
  have e1 := fI_bd (q := 64) hT (tf hT rfl rfl) fd_8_86
  have e2 := fI_bd (q := 64) hT (tf hT rfl rfl) fd_8_87
  have e3 := fI_bd (q := 64) hT (tf hT rfl rfl) fd_8_77
  have e4 := fI_bd (q := 64) hT (tf hT rfl rfl) fd_8_93
  have e5 := fI_bd (q := 64) hT (tf hT rfl rfl) fd_8_90
  have cf := CU_F pre7
  have c2 := CU_2 pre7
  have c40 := CU_t pre7 (c := 40) (by decide) (by decide) (by decide)
  refine st_aload c260_0 rfl ?_
  refine st_getI c260_1 hT (tf hT rfl rfl) fd_8_88 (fun e6 e7 => ?_)
  refine st_iconst c260_4 ?_
  refine st_icmp_ne c260_5 (by omega) (by omega) (fun k8 => ?_) (fun k9 => ?_)
  refine st_aload c260_23 rfl ?_
  have e10 := fI_bd (q := 64) hT (tf hT rfl rfl) fd_8_86
  have e11 := fI_bd (q := 64) hT (tf hT rfl rfl) fd_8_87
  refine st_callt (as := []) c260_24 cm_259 hT (tf hT rfl rfl) fd_8_0 rfl rfl rfl rfl (by omega) (MR_det (K259 hT (by omega) pre7 (d - 1) (by omega) _ (fun v h0 H => H))) (fun v1 h1 H => ?_)
  obtain ⟨H, rb1⟩ := H
  obtain ⟨z14, rfl, b15, pf12, pf13, rfl⟩ := H
  refine st_if_lt c260_27 (by omega) (fun k16 => ?_) (fun k17 => ?_)
  refine st_aload c260_45 rfl ?_
  refine st_lconst c260_46 ?_
  refine st_callt (as := [.long (Int64.ofInt 6476969)]) c260_49 cm_253 hT (tf hT rfl rfl) fd_8_0 rfl rfl rfl rfl (by omega) (K253 hT (Int64.ofInt 6476969) (by omega) (d - 1) (by omega) _ (fun v h0 H => H)) (fun v1 h1 H => ?_)
  rcases H with ⟨rfl, pf18, rfl⟩ | ⟨rfl, pf19, pf20, rfl⟩
  have wq21 := mt (WH_c (v := Int64.ofInt 6476969) (k := 17) (by decide +kernel) hT pre7 (by decide)).mpr pf18
  refine st_if_ne c260_52 (by omega) (fun k22 => False.elim (by omega)) (fun k23 => ?_)
  refine st_aload c260_55 rfl ?_
  refine st_lconst c260_56 ?_
  refine st_callt (as := [.long (Int64.ofInt 267347)]) c260_59 cm_253 hT (tf hT rfl rfl) fd_8_0 rfl rfl rfl rfl (by omega) (K253 hT (Int64.ofInt 267347) (by omega) (d - 1) (by omega) _ (fun v h0 H => H)) (fun v1 h1 H => ?_)
  rcases H with ⟨rfl, pf24, rfl⟩ | ⟨rfl, pf25, pf26, rfl⟩
  have wq27 := mt (WH_c (v := Int64.ofInt 267347) (k := 18) (by decide +kernel) hT pre7 (by decide)).mpr pf24
  refine st_if_eq c260_62 (by omega) (fun k28 => ?_) (fun k29 => False.elim (by omega))
  refine st_aload c260_142 rfl ?_
  have e30 := fI_bd (q := 64) hT (tf hT rfl rfl) fd_8_91
  have e31 := fI_bd (q := 64) hT (tf hT rfl rfl) fd_8_90
  have e32 := fI_bd (q := 64) hT (tf hT rfl rfl) fd_8_77
  refine st_callt (as := []) c260_143 cm_257 hT (tf hT rfl rfl) fd_8_0 rfl rfl rfl rfl (by omega) (K257 hT (Stb_mono hS (by decide +kernel)) (by omega) pre7 (d - 1) (by omega) _ (fun v h0 H => H)) (fun v1 h33 H => ?_)
  rcases H with ⟨rfl, pf36, pf37, pf38, pf39, pf40, pf41, pf42, hT34, hF35⟩ | ⟨rfl, pf43, pf44, pf45, pf46, pf47, pf48, pf49, pf50, pf51, hT34, hF35⟩
  have hF52 := Fr_cp hF hF35 (by decide +kernel : Wsub W257 Wp12 = true)
  have e53 := fI_bd (q := 64) hT34 (tf hT34 rfl rfl) fd_8_90
  have e54 := fI_bd (q := 64) hT34 (tf hT34 rfl rfl) fd_8_91
  have e55 := fI_bd (q := 64) hT34 (tf hT34 rfl rfl) fd_8_86
  have e56 := fI_bd (q := 64) hT34 (tf hT34 rfl rfl) fd_8_87
  have e57 := fI_bd (q := 64) hT34 (tf hT34 rfl rfl) fd_8_88
  refine st_if_ne c260_146 (by omega) (fun k58 => False.elim (by omega)) (fun k59 => ?_)
  refine st_return c260_149 ?_
  have e60 := fI_bd (q := 64) hT34 (tf hT34 rfl rfl) fd_8_93
  have q61 : fI h33 64 93 = fI h 64 93 := Fr_fI hF35 (tf hT rfl rfl) (by decide +kernel)
  have fr62 : ∀ i : Int, 0 ≤ i → i < 220 * fI h 64 92 + fI h 64 93 → aI h33 129 i = aI h 129 i := fun i a b => (Fr_aI hF35 (tf hT rfl rfl) (by decide +kernel) i)
  have fr63 : ∀ i : Int, 0 ≤ i → i < 220 * fI h 64 92 + fI h 64 93 → aI h33 130 i = aI h 130 i := fun i a b => (Fr_aI hF35 (tf hT rfl rfl) (by decide +kernel) i)
  have e64 := fI_bd (q := 64) hT34 (tf hT34 rfl rfl) fd_8_92
  have q65 : fI h33 64 92 = fI h 64 92 := Fr_fI hF35 (tf hT rfl rfl) (by decide +kernel)
  exact hQ _ _ ⟨rfl, by omega, by omega, by omega, by omega, by omega, by omega, by omega, by omega, fr62, fr63, (Or.inl (by omega)), RM_no (P2_nf (by omega) (by omega) (by omega)) (by omega) (by omega), hT34, hF52⟩
  have hF67 := Fr_cp hF hF35 (by decide +kernel : Wsub W257 Wp12 = true)
  have e68 := fI_bd (q := 64) hT34 (tf hT34 rfl rfl) fd_8_90
  have e69 := fI_bd (q := 64) hT34 (tf hT34 rfl rfl) fd_8_91
  have e70 := fI_bd (q := 64) hT34 (tf hT34 rfl rfl) fd_8_86
  have e71 := fI_bd (q := 64) hT34 (tf hT34 rfl rfl) fd_8_87
  refine st_if_ne c260_146 (by omega) (fun k72 => ?_) (fun k73 => False.elim (by omega))
  refine st_aload c260_150 rfl ?_
  have e74 := fI_bd (q := 64) hT34 (tf hT34 rfl rfl) fd_8_77
  have q75 : fI h33 64 77 = fI h 64 77 := Fr_fI hF35 (tf hT rfl rfl) (by decide +kernel)
  have e76 := fI_bd (q := 64) hT34 (tf hT34 rfl rfl) fd_8_93
  have q77 : fI h33 64 93 = fI h 64 93 := Fr_fI hF35 (tf hT rfl rfl) (by decide +kernel)
  have e78 := fI_bd (q := 64) hT34 (tf hT34 rfl rfl) fd_8_92
  have q79 : fI h33 64 92 = fI h 64 92 := Fr_fI hF35 (tf hT rfl rfl) (by decide +kernel)
  have e80 := fI_bd (q := 64) hT34 (tf hT34 rfl rfl) fd_8_88
  refine st_callt (as := []) c260_151 cm_262 hT34 (tf hT34 rfl rfl) fd_8_0 rfl rfl rfl rfl (by omega) ((pre5 (by omega)) hT34 (Stb_mono hS (by decide +kernel)) (by omega) (by omega) (by omega) (by omega) (by omega) (by omega) pf51 (d - 1) (by omega) _ (fun v h0 H => H)) (fun v1 h81 H => ?_)
  obtain ⟨rfl, pf84, pf85, pf86, pf87, pf88, pf89, pf90, pf91, pf92, pf93, pf94, pf95, hT82, hF83⟩ := H
  have hF96 := Fr_cp hF67 hF83 (by decide +kernel : Wsub Wp12 Wp12 = true)
  have e97 := fI_bd (q := 64) hT82 (tf hT82 rfl rfl) fd_8_86
  have e98 := fI_bd (q := 64) hT82 (tf hT82 rfl rfl) fd_8_87
  have e99 := fI_bd (q := 64) hT82 (tf hT82 rfl rfl) fd_8_88
  have e100 := fI_bd (q := 64) hT82 (tf hT82 rfl rfl) fd_8_90
  have e101 := fI_bd (q := 64) hT82 (tf hT82 rfl rfl) fd_8_93
  have e102 := fI_bd (q := 64) hT82 (tf hT82 rfl rfl) fd_8_91
  rcases pf95 with ⟨b103, pr104, e105, cu106⟩ | ⟨i107, pr108, e109, g110⟩
  have cf111 := CU_F cu106
  have ct112 := CU_t cu106 (c := 41) (by decide) (by decide) (by decide)
  refine st_aload c260_154 rfl ?_
  refine st_getI c260_155 hT82 (tf hT82 rfl rfl) fd_8_90 (fun e113 e114 => ?_)
  refine st_if_lt c260_158 (by omega) (fun k115 => ?_) (fun k116 => False.elim (by omega))
  refine st_aload c260_162 rfl ?_
  have e117 := fI_bd (q := 64) hT82 (tf hT82 rfl rfl) fd_8_77
  have q118 : fI h81 64 77 = fI h33 64 77 := Fr_fI hF83 (tf hT34 rfl rfl) (by decide +kernel)
  refine st_callt (as := []) c260_163 cm_258 hT82 (tf hT82 rfl rfl) fd_8_0 rfl rfl rfl rfl (by omega) (K258 hT82 (Stb_mono hS (by decide +kernel)) (by omega) (by omega) cu106 (d - 1) (by omega) _ (fun v h0 H => H)) (fun v1 h119 H => ?_)
  rcases H with ⟨rfl, pf122, pf123, pf124, pf125, pf126, pf127, pf128, hT120, hF121⟩ | ⟨rfl, pf129, pf130, pf131, pf132, pf133, pf134, pf135, pf136, hT120, hF121⟩
  have hF137 := Fr_cp hF96 hF121 (by decide +kernel : Wsub W258 Wp12 = true)
  have e138 := fI_bd (q := 64) hT120 (tf hT120 rfl rfl) fd_8_90
  have e139 := fI_bd (q := 64) hT120 (tf hT120 rfl rfl) fd_8_91
  have e140 := fI_bd (q := 64) hT120 (tf hT120 rfl rfl) fd_8_86
  have e141 := fI_bd (q := 64) hT120 (tf hT120 rfl rfl) fd_8_87
  have e142 := fI_bd (q := 64) hT120 (tf hT120 rfl rfl) fd_8_88
  refine st_if_eq c260_166 (by omega) (fun k143 => ?_) (fun k144 => False.elim (by omega))
  refine st_return c260_170 ?_
  have e145 := fI_bd (q := 64) hT120 (tf hT120 rfl rfl) fd_8_93
  have q146 : fI h119 64 93 = fI h81 64 93 := Fr_fI hF121 (tf hT82 rfl rfl) (by decide +kernel)
  have fr147 : ∀ i : Int, 0 ≤ i → i < 220 * fI h 64 92 + fI h 64 93 → aI h119 129 i = aI h 129 i := fun i a b => ((Fr_aI hF121 (tf hT82 rfl rfl) (by decide +kernel) i)).trans (((pf92 i a (by omega))).trans ((Fr_aI hF35 (tf hT rfl rfl) (by decide +kernel) i)))
  have fr148 : ∀ i : Int, 0 ≤ i → i < 220 * fI h 64 92 + fI h 64 93 → aI h119 130 i = aI h 130 i := fun i a b => ((Fr_aI hF121 (tf hT82 rfl rfl) (by decide +kernel) i)).trans (((pf93 i a (by omega))).trans ((Fr_aI hF35 (tf hT rfl rfl) (by decide +kernel) i)))
  have e149 := fI_bd (q := 64) hT120 (tf hT120 rfl rfl) fd_8_92
  have q150 : fI h119 64 92 = fI h33 64 92 := (Fr_fI hF121 (tf hT82 rfl rfl) (by decide +kernel)).trans (Fr_fI hF83 (tf hT34 rfl rfl) (by decide +kernel))
  have g152 := (pf94).resolve_left (by omega)
  have fr153 : ∀ i : Int, 0 ≤ i → i < 220 * fI h33 64 92 + fI h33 64 93 + (fI h81 64 93 - fI h33 64 93) → aI h119 129 i = aI h81 129 i := fun i a b => (Fr_aI hF121 (tf hT82 rfl rfl) (by decide +kernel) i)
  have fr154 : ∀ i : Int, 0 ≤ i → i < 220 * fI h33 64 92 + fI h33 64 93 + (fI h81 64 93 - fI h33 64 93) → aI h119 130 i = aI h81 130 i := fun i a b => (Fr_aI hF121 (tf hT82 rfl rfl) (by decide +kernel) i)
  have g155 : Sg h119 (220 * fI h33 64 92 + fI h33 64 93) (fI h81 64 93 - fI h33 64 93) := Sg_mv g152 (fun i a b => ⟨fr153 i (by omega) (by omega), fr154 i (by omega) (by omega)⟩)
  have sg151 : 0 ≤ fI h119 64 90 ∨ Sg h119 (220 * fI h 64 92 + fI h 64 93) (fI h119 64 93 - fI h 64 93) := Or.inr (by
    rw [show 220 * fI h 64 92 + fI h 64 93 = 220 * fI h33 64 92 + fI h33 64 93 by omega, show fI h119 64 93 - fI h 64 93 = fI h81 64 93 - fI h33 64 93 by omega]
    exact g155)
  exact hQ _ _ ⟨rfl, by omega, by omega, by omega, by omega, by omega, by omega, by omega, by omega, fr147, fr148, sg151, RM_no (P2_n2 (by omega) (by omega) pr104 (by omega)) (by omega) (by omega), hT120, hF137⟩
  have hF156 := Fr_cp hF96 hF121 (by decide +kernel : Wsub W258 Wp12 = true)
  have e157 := fI_bd (q := 64) hT120 (tf hT120 rfl rfl) fd_8_90
  have e158 := fI_bd (q := 64) hT120 (tf hT120 rfl rfl) fd_8_91
  have e159 := fI_bd (q := 64) hT120 (tf hT120 rfl rfl) fd_8_86
  have e160 := fI_bd (q := 64) hT120 (tf hT120 rfl rfl) fd_8_87
  refine st_if_eq c260_166 (by omega) (fun k161 => False.elim (by omega)) (fun k162 => ?_)
  refine st_return c260_169 ?_
  have e163 := fI_bd (q := 64) hT120 (tf hT120 rfl rfl) fd_8_88
  have e164 := fI_bd (q := 64) hT120 (tf hT120 rfl rfl) fd_8_93
  have q165 : fI h119 64 93 = fI h81 64 93 := Fr_fI hF121 (tf hT82 rfl rfl) (by decide +kernel)
  have fr166 : ∀ i : Int, 0 ≤ i → i < 220 * fI h 64 92 + fI h 64 93 → aI h119 129 i = aI h 129 i := fun i a b => ((Fr_aI hF121 (tf hT82 rfl rfl) (by decide +kernel) i)).trans (((pf92 i a (by omega))).trans ((Fr_aI hF35 (tf hT rfl rfl) (by decide +kernel) i)))
  have fr167 : ∀ i : Int, 0 ≤ i → i < 220 * fI h 64 92 + fI h 64 93 → aI h119 130 i = aI h 130 i := fun i a b => ((Fr_aI hF121 (tf hT82 rfl rfl) (by decide +kernel) i)).trans (((pf93 i a (by omega))).trans ((Fr_aI hF35 (tf hT rfl rfl) (by decide +kernel) i)))
  have e168 := fI_bd (q := 64) hT120 (tf hT120 rfl rfl) fd_8_92
  have q169 : fI h119 64 92 = fI h33 64 92 := (Fr_fI hF121 (tf hT82 rfl rfl) (by decide +kernel)).trans (Fr_fI hF83 (tf hT34 rfl rfl) (by decide +kernel))
  have g171 := (pf94).resolve_left (by omega)
  have fr172 : ∀ i : Int, 0 ≤ i → i < 220 * fI h33 64 92 + fI h33 64 93 + (fI h81 64 93 - fI h33 64 93) → aI h119 129 i = aI h81 129 i := fun i a b => (Fr_aI hF121 (tf hT82 rfl rfl) (by decide +kernel) i)
  have fr173 : ∀ i : Int, 0 ≤ i → i < 220 * fI h33 64 92 + fI h33 64 93 + (fI h81 64 93 - fI h33 64 93) → aI h119 130 i = aI h81 130 i := fun i a b => (Fr_aI hF121 (tf hT82 rfl rfl) (by decide +kernel) i)
  have g174 : Sg h119 (220 * fI h33 64 92 + fI h33 64 93) (fI h81 64 93 - fI h33 64 93) := Sg_mv g171 (fun i a b => ⟨fr172 i (by omega) (by omega), fr173 i (by omega) (by omega)⟩)
  have sg170 : 0 ≤ fI h119 64 90 ∨ Sg h119 (220 * fI h 64 92 + fI h 64 93) (fI h119 64 93 - fI h 64 93) := Or.inr (by
    rw [show 220 * fI h 64 92 + fI h 64 93 = 220 * fI h33 64 92 + fI h33 64 93 by omega, show fI h119 64 93 - fI h 64 93 = fI h81 64 93 - fI h33 64 93 by omega]
    exact g174)
  exact hQ _ _ ⟨rfl, by omega, by omega, by omega, by omega, by omega, by omega, by omega, by omega, fr166, fr167, sg170, RM_ok (P2_n3 (by omega) (by omega) pr104 (by omega)) (by omega) pf136, hT120, hF156⟩
  refine st_aload c260_154 rfl ?_
  refine st_getI c260_155 hT82 (tf hT82 rfl rfl) fd_8_90 (fun e175 e176 => ?_)
  refine st_if_lt c260_158 (by omega) (fun k177 => False.elim (by omega)) (fun k178 => ?_)
  refine st_return c260_161 ?_
  have fr179 : ∀ i : Int, 0 ≤ i → i < 220 * fI h 64 92 + fI h 64 93 → aI h81 129 i = aI h 129 i := fun i a b => ((pf92 i a (by omega))).trans ((Fr_aI hF35 (tf hT rfl rfl) (by decide +kernel) i))
  have fr180 : ∀ i : Int, 0 ≤ i → i < 220 * fI h 64 92 + fI h 64 93 → aI h81 130 i = aI h 130 i := fun i a b => ((pf93 i a (by omega))).trans ((Fr_aI hF35 (tf hT rfl rfl) (by decide +kernel) i))
  have e181 := fI_bd (q := 64) hT82 (tf hT82 rfl rfl) fd_8_92
  have q182 : fI h81 64 92 = fI h33 64 92 := Fr_fI hF83 (tf hT34 rfl rfl) (by decide +kernel)
  exact hQ _ _ ⟨rfl, by omega, by omega, by omega, by omega, by omega, by omega, by omega, by omega, fr179, fr180, (Or.inl (by omega)), RM_no (P2_n1 (by omega) (by omega) pr108) (by omega) g110, hT82, hF96⟩
  have wq184 := (WH_c (v := Int64.ofInt 267347) (k := 18) (by decide +kernel) hT pre7 (by decide)).mp pf26
  refine st_if_eq c260_62 (by omega) (fun k185 => False.elim (by omega)) (fun k186 => ?_)
  refine st_aload c260_65 rfl ?_
  refine st_lconst c260_66 ?_
  refine st_callt (as := [.long (Int64.ofInt 6476969)]) c260_69 cm_253 hT (tf hT rfl rfl) fd_8_0 rfl rfl rfl rfl (by omega) (K253 hT (Int64.ofInt 6476969) (by omega) (d - 1) (by omega) _ (fun v h0 H => H)) (fun v1 h1 H => ?_)
  rcases H with ⟨rfl, pf187, rfl⟩ | ⟨rfl, pf188, pf189, rfl⟩
  have wq190 := mt (WH_c (v := Int64.ofInt 6476969) (k := 17) (by decide +kernel) hT pre7 (by decide)).mpr pf187
  refine st_if_eq c260_72 (by omega) (fun k191 => ?_) (fun k192 => False.elim (by omega))
  refine st_iconst c260_79 ?_
  refine st_istore (L' := [some (.ref 64), some (vI 6)]) c260_81 rfl rfl ?_
  refine st_aload c260_82 rfl ?_
  have e193 := fI_bd (q := 64) hT (tf hT rfl rfl) fd_8_77
  refine st_callt (as := []) c260_83 cm_252 hT (tf hT rfl rfl) fd_8_0 rfl rfl rfl rfl (by omega) (K252 hT (Stb_mono hS (by decide +kernel)) (by omega) (CU_nx pre7) (d - 1) (by omega) _ (fun v h0 H => H)) (fun v1 h194 H => ?_)
  obtain ⟨rfl, pf197, pf198, pf199, pf200, pf201, hT195, hF196⟩ := H
  have hF202 := Fr_cp hF hF196 (by decide +kernel : Wsub W252 Wp12 = true)
  have e203 := fI_bd (q := 64) hT195 (tf hT195 rfl rfl) fd_8_86
  have e204 := fI_bd (q := 64) hT195 (tf hT195 rfl rfl) fd_8_87
  have e205 := fI_bd (q := 64) hT195 (tf hT195 rfl rfl) fd_8_88
  refine st_aload c260_86 rfl ?_
  have cf206 := CU_F pf201
  have ct207 := CU_t pf201 (c := 40) (by decide) (by decide) (by decide)
  have e208 := fI_bd (q := 64) hT195 (tf hT195 rfl rfl) fd_8_91
  have q209 : fI h194 64 91 = fI h 64 91 := Fr_fI hF196 (tf hT rfl rfl) (by decide +kernel)
  have e210 := fI_bd (q := 64) hT195 (tf hT195 rfl rfl) fd_8_90
  have q211 : fI h194 64 90 = fI h 64 90 := Fr_fI hF196 (tf hT rfl rfl) (by decide +kernel)
  have e212 := fI_bd (q := 64) hT195 (tf hT195 rfl rfl) fd_8_77
  have q213 : fI h194 64 77 = fI h 64 77 := Fr_fI hF196 (tf hT rfl rfl) (by decide +kernel)
  refine st_callt (as := []) c260_87 cm_257 hT195 (tf hT195 rfl rfl) fd_8_0 rfl rfl rfl rfl (by omega) (K257 hT195 (Stb_mono hS (by decide +kernel)) (by omega) pf201 (d - 1) (by omega) _ (fun v h0 H => H)) (fun v1 h214 H => ?_)
  rcases H with ⟨rfl, pf217, pf218, pf219, pf220, pf221, pf222, pf223, hT215, hF216⟩ | ⟨rfl, pf224, pf225, pf226, pf227, pf228, pf229, pf230, pf231, pf232, hT215, hF216⟩
  have hF233 := Fr_cp hF202 hF216 (by decide +kernel : Wsub W257 Wp12 = true)
  have e234 := fI_bd (q := 64) hT215 (tf hT215 rfl rfl) fd_8_90
  have e235 := fI_bd (q := 64) hT215 (tf hT215 rfl rfl) fd_8_91
  have e236 := fI_bd (q := 64) hT215 (tf hT215 rfl rfl) fd_8_86
  have e237 := fI_bd (q := 64) hT215 (tf hT215 rfl rfl) fd_8_87
  have e238 := fI_bd (q := 64) hT215 (tf hT215 rfl rfl) fd_8_88
  refine st_if_ne c260_90 (by omega) (fun k239 => False.elim (by omega)) (fun k240 => ?_)
  refine st_return c260_93 ?_
  have e241 := fI_bd (q := 64) hT215 (tf hT215 rfl rfl) fd_8_93
  have q242 : fI h214 64 93 = fI h 64 93 := (Fr_fI hF216 (tf hT195 rfl rfl) (by decide +kernel)).trans (Fr_fI hF196 (tf hT rfl rfl) (by decide +kernel))
  have fr243 : ∀ i : Int, 0 ≤ i → i < 220 * fI h 64 92 + fI h 64 93 → aI h214 129 i = aI h 129 i := fun i a b => ((Fr_aI hF216 (tf hT195 rfl rfl) (by decide +kernel) i)).trans ((Fr_aI hF196 (tf hT rfl rfl) (by decide +kernel) i))
  have fr244 : ∀ i : Int, 0 ≤ i → i < 220 * fI h 64 92 + fI h 64 93 → aI h214 130 i = aI h 130 i := fun i a b => ((Fr_aI hF216 (tf hT195 rfl rfl) (by decide +kernel) i)).trans ((Fr_aI hF196 (tf hT rfl rfl) (by decide +kernel) i))
  have e245 := fI_bd (q := 64) hT215 (tf hT215 rfl rfl) fd_8_92
  have q246 : fI h214 64 92 = fI h 64 92 := (Fr_fI hF216 (tf hT195 rfl rfl) (by decide +kernel)).trans (Fr_fI hF196 (tf hT rfl rfl) (by decide +kernel))
  have e248 := fI_bd (q := 64) hT (tf hT rfl rfl) fd_8_90
  have e249 := fI_bd (q := 64) hT (tf hT rfl rfl) fd_8_91
  exact hQ _ _ ⟨rfl, by omega, by omega, by omega, by omega, by omega, by omega, by omega, by omega, fr243, fr244, (Or.inl (by omega)), RM_no (P2_pf (by omega) (by omega)) (by omega) (by omega), hT215, hF233⟩
  have hF250 := Fr_cp hF202 hF216 (by decide +kernel : Wsub W257 Wp12 = true)
  have e251 := fI_bd (q := 64) hT215 (tf hT215 rfl rfl) fd_8_90
  have e252 := fI_bd (q := 64) hT215 (tf hT215 rfl rfl) fd_8_91
  have e253 := fI_bd (q := 64) hT215 (tf hT215 rfl rfl) fd_8_86
  have e254 := fI_bd (q := 64) hT215 (tf hT215 rfl rfl) fd_8_87
  refine st_if_ne c260_90 (by omega) (fun k255 => ?_) (fun k256 => False.elim (by omega))
  refine st_aload c260_94 rfl ?_
  have e257 := fI_bd (q := 64) hT215 (tf hT215 rfl rfl) fd_8_77
  have q258 : fI h214 64 77 = fI h194 64 77 := Fr_fI hF216 (tf hT195 rfl rfl) (by decide +kernel)
  have e259 := fI_bd (q := 64) hT215 (tf hT215 rfl rfl) fd_8_93
  have q260 : fI h214 64 93 = fI h 64 93 := (Fr_fI hF216 (tf hT195 rfl rfl) (by decide +kernel)).trans (Fr_fI hF196 (tf hT rfl rfl) (by decide +kernel))
  have e261 := fI_bd (q := 64) hT215 (tf hT215 rfl rfl) fd_8_92
  have q262 : fI h214 64 92 = fI h 64 92 := (Fr_fI hF216 (tf hT195 rfl rfl) (by decide +kernel)).trans (Fr_fI hF196 (tf hT rfl rfl) (by decide +kernel))
  have e263 := fI_bd (q := 64) hT215 (tf hT215 rfl rfl) fd_8_88
  refine st_callt (as := []) c260_95 cm_262 hT215 (tf hT215 rfl rfl) fd_8_0 rfl rfl rfl rfl (by omega) ((pre5 (by omega)) hT215 (Stb_mono hS (by decide +kernel)) (by omega) (by omega) (by omega) (by omega) (by omega) (by omega) pf232 (d - 1) (by omega) _ (fun v h0 H => H)) (fun v1 h264 H => ?_)
  obtain ⟨rfl, pf267, pf268, pf269, pf270, pf271, pf272, pf273, pf274, pf275, pf276, pf277, pf278, hT265, hF266⟩ := H
  have hF279 := Fr_cp hF250 hF266 (by decide +kernel : Wsub Wp12 Wp12 = true)
  have e280 := fI_bd (q := 64) hT265 (tf hT265 rfl rfl) fd_8_86
  have e281 := fI_bd (q := 64) hT265 (tf hT265 rfl rfl) fd_8_87
  have e282 := fI_bd (q := 64) hT265 (tf hT265 rfl rfl) fd_8_88
  have e283 := fI_bd (q := 64) hT265 (tf hT265 rfl rfl) fd_8_90
  have e284 := fI_bd (q := 64) hT265 (tf hT265 rfl rfl) fd_8_93
  have e285 := fI_bd (q := 64) hT265 (tf hT265 rfl rfl) fd_8_91
  rcases pf278 with ⟨b286, pr287, e288, cu289⟩ | ⟨i290, pr291, e292, g293⟩
  have cf294 := CU_F cu289
  have ct295 := CU_t cu289 (c := 44) (by decide) (by decide) (by decide)
  refine st_aload c260_98 rfl ?_
  refine st_getI c260_99 hT265 (tf hT265 rfl rfl) fd_8_90 (fun e296 e297 => ?_)
  refine st_if_ge c260_102 (by omega) (fun k298 => False.elim (by omega)) (fun k299 => ?_)
  refine st_aload c260_105 rfl ?_
  refine st_iconst c260_106 ?_
  have e300 := fI_bd (q := 64) hT265 (tf hT265 rfl rfl) fd_8_77
  have q301 : fI h264 64 77 = fI h214 64 77 := Fr_fI hF266 (tf hT215 rfl rfl) (by decide +kernel)
  refine st_callt (as := [vI 44]) c260_108 cm_256 hT265 (tf hT265 rfl rfl) fd_8_0 rfl rfl rfl rfl (by omega) (K256 hT265 (Stb_mono hS (by decide +kernel)) 44 (by omega) (by omega) cu289 (d - 1) (by omega) _ (fun v h0 H => H)) (fun v1 h302 H => ?_)
  rcases H with ⟨rfl, pf305, pf306, pf307, pf308, pf309, pf310, hT303, hF304⟩ | ⟨rfl, pf311, pf312, pf313, pf314, pf315, pf316, pf317, hT303, hF304⟩
  have hF318 := Fr_cp hF279 hF304 (by decide +kernel : Wsub W256 Wp12 = true)
  have e319 := fI_bd (q := 64) hT303 (tf hT303 rfl rfl) fd_8_90
  have e320 := fI_bd (q := 64) hT303 (tf hT303 rfl rfl) fd_8_86
  have e321 := fI_bd (q := 64) hT303 (tf hT303 rfl rfl) fd_8_87
  have e322 := fI_bd (q := 64) hT303 (tf hT303 rfl rfl) fd_8_88
  refine st_if_ne c260_111 (by omega) (fun k323 => False.elim (by omega)) (fun k324 => ?_)
  refine st_return c260_114 ?_
  have e325 := fI_bd (q := 64) hT303 (tf hT303 rfl rfl) fd_8_93
  have q326 : fI h302 64 93 = fI h264 64 93 := Fr_fI hF304 (tf hT265 rfl rfl) (by decide +kernel)
  have e327 := fI_bd (q := 64) hT303 (tf hT303 rfl rfl) fd_8_91
  have q328 : fI h302 64 91 = fI h264 64 91 := Fr_fI hF304 (tf hT265 rfl rfl) (by decide +kernel)
  have fr329 : ∀ i : Int, 0 ≤ i → i < 220 * fI h 64 92 + fI h 64 93 → aI h302 129 i = aI h 129 i := fun i a b => ((Fr_aI hF304 (tf hT265 rfl rfl) (by decide +kernel) i)).trans (((pf275 i a (by omega))).trans (((Fr_aI hF216 (tf hT195 rfl rfl) (by decide +kernel) i)).trans ((Fr_aI hF196 (tf hT rfl rfl) (by decide +kernel) i))))
  have fr330 : ∀ i : Int, 0 ≤ i → i < 220 * fI h 64 92 + fI h 64 93 → aI h302 130 i = aI h 130 i := fun i a b => ((Fr_aI hF304 (tf hT265 rfl rfl) (by decide +kernel) i)).trans (((pf276 i a (by omega))).trans (((Fr_aI hF216 (tf hT195 rfl rfl) (by decide +kernel) i)).trans ((Fr_aI hF196 (tf hT rfl rfl) (by decide +kernel) i))))
  have e331 := fI_bd (q := 64) hT303 (tf hT303 rfl rfl) fd_8_92
  have q332 : fI h302 64 92 = fI h214 64 92 := (Fr_fI hF304 (tf hT265 rfl rfl) (by decide +kernel)).trans (Fr_fI hF266 (tf hT215 rfl rfl) (by decide +kernel))
  have e334 := fI_bd (q := 64) hT (tf hT rfl rfl) fd_8_90
  have e335 := fI_bd (q := 64) hT (tf hT rfl rfl) fd_8_91
  exact hQ _ _ ⟨rfl, by omega, by omega, by omega, by omega, by omega, by omega, by omega, by omega, fr329, fr330, (Or.inl (by omega)), RM_no (P2_p2 (by omega) (by omega) (by omega) pr287 (by omega)) (by omega) (by omega), hT303, hF318⟩
  have hF336 := Fr_cp hF279 hF304 (by decide +kernel : Wsub W256 Wp12 = true)
  have e337 := fI_bd (q := 64) hT303 (tf hT303 rfl rfl) fd_8_90
  have e338 := fI_bd (q := 64) hT303 (tf hT303 rfl rfl) fd_8_86
  have e339 := fI_bd (q := 64) hT303 (tf hT303 rfl rfl) fd_8_87
  refine st_if_ne c260_111 (by omega) (fun k340 => ?_) (fun k341 => False.elim (by omega))
  refine st_aload c260_115 rfl ?_
  have e342 := fI_bd (q := 64) hT303 (tf hT303 rfl rfl) fd_8_77
  have q343 : fI h302 64 77 = fI h264 64 77 := Fr_fI hF304 (tf hT265 rfl rfl) (by decide +kernel)
  have e344 := fI_bd (q := 64) hT303 (tf hT303 rfl rfl) fd_8_93
  have q345 : fI h302 64 93 = fI h264 64 93 := Fr_fI hF304 (tf hT265 rfl rfl) (by decide +kernel)
  have e346 := fI_bd (q := 64) hT303 (tf hT303 rfl rfl) fd_8_91
  have q347 : fI h302 64 91 = fI h264 64 91 := Fr_fI hF304 (tf hT265 rfl rfl) (by decide +kernel)
  have e348 := fI_bd (q := 64) hT303 (tf hT303 rfl rfl) fd_8_92
  have q349 : fI h302 64 92 = fI h214 64 92 := (Fr_fI hF304 (tf hT265 rfl rfl) (by decide +kernel)).trans (Fr_fI hF266 (tf hT215 rfl rfl) (by decide +kernel))
  have e350 := fI_bd (q := 64) hT303 (tf hT303 rfl rfl) fd_8_88
  refine st_callt (as := []) c260_116 cm_262 hT303 (tf hT303 rfl rfl) fd_8_0 rfl rfl rfl rfl (by omega) ((pre5 (by omega)) hT303 (Stb_mono hS (by decide +kernel)) (by omega) (by omega) (by omega) (by omega) (by omega) (by omega) pf317 (d - 1) (by omega) _ (fun v h0 H => H)) (fun v1 h351 H => ?_)
  obtain ⟨rfl, pf354, pf355, pf356, pf357, pf358, pf359, pf360, pf361, pf362, pf363, pf364, pf365, hT352, hF353⟩ := H
  have hF366 := Fr_cp hF336 hF353 (by decide +kernel : Wsub Wp12 Wp12 = true)
  have e367 := fI_bd (q := 64) hT352 (tf hT352 rfl rfl) fd_8_86
  have e368 := fI_bd (q := 64) hT352 (tf hT352 rfl rfl) fd_8_87
  have e369 := fI_bd (q := 64) hT352 (tf hT352 rfl rfl) fd_8_88
  have e370 := fI_bd (q := 64) hT352 (tf hT352 rfl rfl) fd_8_90
  have e371 := fI_bd (q := 64) hT352 (tf hT352 rfl rfl) fd_8_93
  have e372 := fI_bd (q := 64) hT352 (tf hT352 rfl rfl) fd_8_91
  rcases pf365 with ⟨b373, pr374, e375, cu376⟩ | ⟨i377, pr378, e379, g380⟩
  have cf381 := CU_F cu376
  have ct382 := CU_t cu376 (c := 41) (by decide) (by decide) (by decide)
  refine st_aload c260_119 rfl ?_
  refine st_getI c260_120 hT352 (tf hT352 rfl rfl) fd_8_90 (fun e383 e384 => ?_)
  refine st_if_ge c260_123 (by omega) (fun k385 => False.elim (by omega)) (fun k386 => ?_)
  refine st_aload c260_126 rfl ?_
  have e387 := fI_bd (q := 64) hT352 (tf hT352 rfl rfl) fd_8_77
  have q388 : fI h351 64 77 = fI h302 64 77 := Fr_fI hF353 (tf hT303 rfl rfl) (by decide +kernel)
  refine st_callt (as := []) c260_127 cm_258 hT352 (tf hT352 rfl rfl) fd_8_0 rfl rfl rfl rfl (by omega) (K258 hT352 (Stb_mono hS (by decide +kernel)) (by omega) (by omega) cu376 (d - 1) (by omega) _ (fun v h0 H => H)) (fun v1 h389 H => ?_)
  rcases H with ⟨rfl, pf392, pf393, pf394, pf395, pf396, pf397, pf398, hT390, hF391⟩ | ⟨rfl, pf399, pf400, pf401, pf402, pf403, pf404, pf405, pf406, hT390, hF391⟩
  have hF407 := Fr_cp hF366 hF391 (by decide +kernel : Wsub W258 Wp12 = true)
  have e408 := fI_bd (q := 64) hT390 (tf hT390 rfl rfl) fd_8_90
  have e409 := fI_bd (q := 64) hT390 (tf hT390 rfl rfl) fd_8_91
  have e410 := fI_bd (q := 64) hT390 (tf hT390 rfl rfl) fd_8_86
  have e411 := fI_bd (q := 64) hT390 (tf hT390 rfl rfl) fd_8_87
  have e412 := fI_bd (q := 64) hT390 (tf hT390 rfl rfl) fd_8_88
  refine st_if_ne c260_130 (by omega) (fun k413 => False.elim (by omega)) (fun k414 => ?_)
  refine st_return c260_133 ?_
  have e415 := fI_bd (q := 64) hT390 (tf hT390 rfl rfl) fd_8_93
  have q416 : fI h389 64 93 = fI h351 64 93 := Fr_fI hF391 (tf hT352 rfl rfl) (by decide +kernel)
  have fr417 : ∀ i : Int, 0 ≤ i → i < 220 * fI h 64 92 + fI h 64 93 → aI h389 129 i = aI h 129 i := fun i a b => ((Fr_aI hF391 (tf hT352 rfl rfl) (by decide +kernel) i)).trans (((pf362 i a (by omega))).trans (((Fr_aI hF304 (tf hT265 rfl rfl) (by decide +kernel) i)).trans (((pf275 i a (by omega))).trans (((Fr_aI hF216 (tf hT195 rfl rfl) (by decide +kernel) i)).trans ((Fr_aI hF196 (tf hT rfl rfl) (by decide +kernel) i))))))
  have fr418 : ∀ i : Int, 0 ≤ i → i < 220 * fI h 64 92 + fI h 64 93 → aI h389 130 i = aI h 130 i := fun i a b => ((Fr_aI hF391 (tf hT352 rfl rfl) (by decide +kernel) i)).trans (((pf363 i a (by omega))).trans (((Fr_aI hF304 (tf hT265 rfl rfl) (by decide +kernel) i)).trans (((pf276 i a (by omega))).trans (((Fr_aI hF216 (tf hT195 rfl rfl) (by decide +kernel) i)).trans ((Fr_aI hF196 (tf hT rfl rfl) (by decide +kernel) i))))))
  have e419 := fI_bd (q := 64) hT390 (tf hT390 rfl rfl) fd_8_92
  have q420 : fI h389 64 92 = fI h302 64 92 := (Fr_fI hF391 (tf hT352 rfl rfl) (by decide +kernel)).trans (Fr_fI hF353 (tf hT303 rfl rfl) (by decide +kernel))
  have e422 := fI_bd (q := 64) hT (tf hT rfl rfl) fd_8_90
  have e423 := fI_bd (q := 64) hT (tf hT rfl rfl) fd_8_91
  exact hQ _ _ ⟨rfl, by omega, by omega, by omega, by omega, by omega, by omega, by omega, by omega, fr417, fr418, (Or.inl (by omega)), RM_no (P2_p4 (by omega) (by omega) (by omega) pr287 (by omega) pr374 (by omega)) (by omega) (by omega), hT390, hF407⟩
  have hF424 := Fr_cp hF366 hF391 (by decide +kernel : Wsub W258 Wp12 = true)
  have e425 := fI_bd (q := 64) hT390 (tf hT390 rfl rfl) fd_8_90
  have e426 := fI_bd (q := 64) hT390 (tf hT390 rfl rfl) fd_8_91
  have e427 := fI_bd (q := 64) hT390 (tf hT390 rfl rfl) fd_8_86
  have e428 := fI_bd (q := 64) hT390 (tf hT390 rfl rfl) fd_8_87
  refine st_if_ne c260_130 (by omega) (fun k429 => ?_) (fun k430 => False.elim (by omega))
  refine st_aload c260_134 rfl ?_
  refine st_iload c260_135 rfl ?_
  refine st_iconst c260_136 ?_
  refine st_iconst c260_137 ?_
  have e431 := fI_bd (q := 64) hT390 (tf hT390 rfl rfl) fd_8_93
  have q432 : fI h389 64 93 = fI h351 64 93 := Fr_fI hF391 (tf hT352 rfl rfl) (by decide +kernel)
  have e433 := fI_bd (q := 64) hT390 (tf hT390 rfl rfl) fd_8_92
  have q434 : fI h389 64 92 = fI h302 64 92 := (Fr_fI hF391 (tf hT352 rfl rfl) (by decide +kernel)).trans (Fr_fI hF353 (tf hT303 rfl rfl) (by decide +kernel))
  refine st_callt (as := [vI 6, vI 0, vI 0]) c260_138 cm_255 hT390 (tf hT390 rfl rfl) fd_8_0 rfl rfl rfl rfl (by omega) (K255 hT390 (Stb_mono hS (by decide +kernel)) 6 (by omega) 0 (by omega) 0 (by omega) (by omega) (d - 1) (by omega) _ (fun v h0 H => H)) (fun v1 h435 H => ?_)
  obtain ⟨rfl, pf438, pf439, pf440, pf441, pf442, hT436, hF437⟩ := H
  have hF443 := Fr_cp hF424 hF437 (by decide +kernel : Wsub W255 Wp12 = true)
  have e444 := fI_bd (q := 64) hT436 (tf hT436 rfl rfl) fd_8_93
  refine st_return c260_141 ?_
  have e445 := fI_bd (q := 64) hT436 (tf hT436 rfl rfl) fd_8_86
  have q446 : fI h435 64 86 = fI h389 64 86 := Fr_fI hF437 (tf hT390 rfl rfl) (by decide +kernel)
  have e447 := fI_bd (q := 64) hT436 (tf hT436 rfl rfl) fd_8_87
  have q448 : fI h435 64 87 = fI h389 64 87 := Fr_fI hF437 (tf hT390 rfl rfl) (by decide +kernel)
  have e449 := fI_bd (q := 64) hT436 (tf hT436 rfl rfl) fd_8_88
  have q450 : fI h435 64 88 = fI h389 64 88 := Fr_fI hF437 (tf hT390 rfl rfl) (by decide +kernel)
  have e451 := fI_bd (q := 64) hT436 (tf hT436 rfl rfl) fd_8_90
  have q452 : fI h435 64 90 = fI h389 64 90 := Fr_fI hF437 (tf hT390 rfl rfl) (by decide +kernel)
  have e453 := fI_bd (q := 64) hT436 (tf hT436 rfl rfl) fd_8_91
  have q454 : fI h435 64 91 = fI h389 64 91 := Fr_fI hF437 (tf hT390 rfl rfl) (by decide +kernel)
  have fr455 : ∀ i : Int, 0 ≤ i → i < 220 * fI h 64 92 + fI h 64 93 → aI h435 129 i = aI h 129 i := fun i a b => ((pf441 i a (by omega))).trans (((Fr_aI hF391 (tf hT352 rfl rfl) (by decide +kernel) i)).trans (((pf362 i a (by omega))).trans (((Fr_aI hF304 (tf hT265 rfl rfl) (by decide +kernel) i)).trans (((pf275 i a (by omega))).trans (((Fr_aI hF216 (tf hT195 rfl rfl) (by decide +kernel) i)).trans ((Fr_aI hF196 (tf hT rfl rfl) (by decide +kernel) i)))))))
  have fr456 : ∀ i : Int, 0 ≤ i → i < 220 * fI h 64 92 + fI h 64 93 → aI h435 130 i = aI h 130 i := fun i a b => ((pf442 i a (by omega))).trans (((Fr_aI hF391 (tf hT352 rfl rfl) (by decide +kernel) i)).trans (((pf363 i a (by omega))).trans (((Fr_aI hF304 (tf hT265 rfl rfl) (by decide +kernel) i)).trans (((pf276 i a (by omega))).trans (((Fr_aI hF216 (tf hT195 rfl rfl) (by decide +kernel) i)).trans ((Fr_aI hF196 (tf hT rfl rfl) (by decide +kernel) i)))))))
  have e457 := fI_bd (q := 64) hT436 (tf hT436 rfl rfl) fd_8_92
  have q458 : fI h435 64 92 = fI h389 64 92 := Fr_fI hF437 (tf hT390 rfl rfl) (by decide +kernel)
  have g460 := (pf277).resolve_left (by omega)
  have fr461 : ∀ i : Int, 0 ≤ i → i < 220 * fI h214 64 92 + fI h214 64 93 + (fI h264 64 93 - fI h214 64 93) → aI h435 129 i = aI h264 129 i := fun i a b => ((pf441 i a (by omega))).trans (((Fr_aI hF391 (tf hT352 rfl rfl) (by decide +kernel) i)).trans (((pf362 i a (by omega))).trans ((Fr_aI hF304 (tf hT265 rfl rfl) (by decide +kernel) i))))
  have fr462 : ∀ i : Int, 0 ≤ i → i < 220 * fI h214 64 92 + fI h214 64 93 + (fI h264 64 93 - fI h214 64 93) → aI h435 130 i = aI h264 130 i := fun i a b => ((pf442 i a (by omega))).trans (((Fr_aI hF391 (tf hT352 rfl rfl) (by decide +kernel) i)).trans (((pf363 i a (by omega))).trans ((Fr_aI hF304 (tf hT265 rfl rfl) (by decide +kernel) i))))
  have g463 : Sg h435 (220 * fI h214 64 92 + fI h214 64 93) (fI h264 64 93 - fI h214 64 93) := Sg_mv g460 (fun i a b => ⟨fr461 i (by omega) (by omega), fr462 i (by omega) (by omega)⟩)
  have g464 := (pf364).resolve_left (by omega)
  have fr465 : ∀ i : Int, 0 ≤ i → i < 220 * fI h302 64 92 + fI h302 64 93 + (fI h351 64 93 - fI h302 64 93) → aI h435 129 i = aI h351 129 i := fun i a b => ((pf441 i a (by omega))).trans ((Fr_aI hF391 (tf hT352 rfl rfl) (by decide +kernel) i))
  have fr466 : ∀ i : Int, 0 ≤ i → i < 220 * fI h302 64 92 + fI h302 64 93 + (fI h351 64 93 - fI h302 64 93) → aI h435 130 i = aI h351 130 i := fun i a b => ((pf442 i a (by omega))).trans ((Fr_aI hF391 (tf hT352 rfl rfl) (by decide +kernel) i))
  have g467 : Sg h435 (220 * fI h302 64 92 + fI h302 64 93) (fI h351 64 93 - fI h302 64 93) := Sg_mv g464 (fun i a b => ⟨fr465 i (by omega) (by omega), fr466 i (by omega) (by omega)⟩)
  have a1 : aI h435 129 (220 * fI h389 64 92 + fI h389 64 93) = 6 := (rfl).trans pf439
  have k1 : Sg h435 (220 * fI h 64 92 + fI h 64 93) (fI h264 64 93 - fI h214 64 93) := by rw [show 220 * fI h 64 92 + fI h 64 93 = 220 * fI h214 64 92 + fI h214 64 93 by omega]; exact g463
  have k2 : Sg h435 (220 * fI h 64 92 + fI h 64 93 + (fI h264 64 93 - fI h214 64 93)) (fI h351 64 93 - fI h302 64 93) := by rw [show 220 * fI h 64 92 + fI h 64 93 + (fI h264 64 93 - fI h214 64 93) = 220 * fI h302 64 92 + fI h302 64 93 by omega]; exact g467
  have sg459 : 0 ≤ fI h435 64 90 ∨ Sg h435 (220 * fI h 64 92 + fI h 64 93) (fI h435 64 93 - fI h 64 93) := Or.inr (by
    rw [show fI h435 64 93 - fI h 64 93 = (fI h264 64 93 - fI h214 64 93) + (fI h351 64 93 - fI h302 64 93) + 1 by omega]
    exact Sg_op k1 k2 (by rw [show 220 * fI h 64 92 + fI h 64 93 + (fI h264 64 93 - fI h214 64 93) + (fI h351 64 93 - fI h302 64 93) = 220 * fI h389 64 92 + fI h389 64 93 by omega, a1]; omega))
  have e468 := fI_bd (q := 64) hT (tf hT rfl rfl) fd_8_90
  have e469 := fI_bd (q := 64) hT (tf hT rfl rfl) fd_8_91
  exact hQ _ _ ⟨rfl, by omega, by omega, by omega, by omega, by omega, by omega, by omega, by omega, fr455, fr456, sg459, RM_ok (P2_p5 (by omega) (by omega) (by omega) pr287 (by omega) pr374 (by omega)) (by omega) (CU_fr pf406 hT390 hF437 (by decide +kernel)), hT436, hF443⟩
  refine st_aload c260_119 rfl ?_
  refine st_getI c260_120 hT352 (tf hT352 rfl rfl) fd_8_90 (fun e470 e471 => ?_)
  refine st_if_ge c260_123 (by omega) (fun k472 => ?_) (fun k473 => False.elim (by omega))
  refine st_return c260_133 ?_
  have fr474 : ∀ i : Int, 0 ≤ i → i < 220 * fI h 64 92 + fI h 64 93 → aI h351 129 i = aI h 129 i := fun i a b => ((pf362 i a (by omega))).trans (((Fr_aI hF304 (tf hT265 rfl rfl) (by decide +kernel) i)).trans (((pf275 i a (by omega))).trans (((Fr_aI hF216 (tf hT195 rfl rfl) (by decide +kernel) i)).trans ((Fr_aI hF196 (tf hT rfl rfl) (by decide +kernel) i)))))
  have fr475 : ∀ i : Int, 0 ≤ i → i < 220 * fI h 64 92 + fI h 64 93 → aI h351 130 i = aI h 130 i := fun i a b => ((pf363 i a (by omega))).trans (((Fr_aI hF304 (tf hT265 rfl rfl) (by decide +kernel) i)).trans (((pf276 i a (by omega))).trans (((Fr_aI hF216 (tf hT195 rfl rfl) (by decide +kernel) i)).trans ((Fr_aI hF196 (tf hT rfl rfl) (by decide +kernel) i)))))
  have e476 := fI_bd (q := 64) hT352 (tf hT352 rfl rfl) fd_8_92
  have q477 : fI h351 64 92 = fI h302 64 92 := Fr_fI hF353 (tf hT303 rfl rfl) (by decide +kernel)
  have e479 := fI_bd (q := 64) hT (tf hT rfl rfl) fd_8_90
  have e480 := fI_bd (q := 64) hT (tf hT rfl rfl) fd_8_91
  exact hQ _ _ ⟨rfl, by omega, by omega, by omega, by omega, by omega, by omega, by omega, by omega, fr474, fr475, (Or.inl (by omega)), RM_no (P2_p3 (by omega) (by omega) (by omega) pr287 (by omega) pr378) (by omega) g380, hT352, hF366⟩
  refine st_aload c260_98 rfl ?_
  refine st_getI c260_99 hT265 (tf hT265 rfl rfl) fd_8_90 (fun e481 e482 => ?_)
  refine st_if_ge c260_102 (by omega) (fun k483 => ?_) (fun k484 => False.elim (by omega))
  refine st_return c260_114 ?_
  have fr485 : ∀ i : Int, 0 ≤ i → i < 220 * fI h 64 92 + fI h 64 93 → aI h264 129 i = aI h 129 i := fun i a b => ((pf275 i a (by omega))).trans (((Fr_aI hF216 (tf hT195 rfl rfl) (by decide +kernel) i)).trans ((Fr_aI hF196 (tf hT rfl rfl) (by decide +kernel) i)))
  have fr486 : ∀ i : Int, 0 ≤ i → i < 220 * fI h 64 92 + fI h 64 93 → aI h264 130 i = aI h 130 i := fun i a b => ((pf276 i a (by omega))).trans (((Fr_aI hF216 (tf hT195 rfl rfl) (by decide +kernel) i)).trans ((Fr_aI hF196 (tf hT rfl rfl) (by decide +kernel) i)))
  have e487 := fI_bd (q := 64) hT265 (tf hT265 rfl rfl) fd_8_92
  have q488 : fI h264 64 92 = fI h214 64 92 := Fr_fI hF266 (tf hT215 rfl rfl) (by decide +kernel)
  have e490 := fI_bd (q := 64) hT (tf hT rfl rfl) fd_8_90
  have e491 := fI_bd (q := 64) hT (tf hT rfl rfl) fd_8_91
  exact hQ _ _ ⟨rfl, by omega, by omega, by omega, by omega, by omega, by omega, by omega, by omega, fr485, fr486, (Or.inl (by omega)), RM_no (P2_p1 (by omega) (by omega) (by omega) pr291) (by omega) g293, hT265, hF279⟩
  have wq492 := (WH_c (v := Int64.ofInt 6476969) (k := 17) (by decide +kernel) hT pre7 (by decide)).mp pf189
  refine st_if_eq c260_72 (by omega) (fun k493 => False.elim (by omega)) (fun k494 => ?_)
  refine st_iconst c260_75 ?_
  refine st_goto c260_76 ?_
  refine st_istore (L' := [some (.ref 64), some (vI 5)]) c260_81 rfl rfl ?_
  refine st_aload c260_82 rfl ?_
  have e495 := fI_bd (q := 64) hT (tf hT rfl rfl) fd_8_77
  refine st_callt (as := []) c260_83 cm_252 hT (tf hT rfl rfl) fd_8_0 rfl rfl rfl rfl (by omega) (K252 hT (Stb_mono hS (by decide +kernel)) (by omega) (CU_nx pre7) (d - 1) (by omega) _ (fun v h0 H => H)) (fun v1 h496 H => ?_)
  obtain ⟨rfl, pf499, pf500, pf501, pf502, pf503, hT497, hF498⟩ := H
  have hF504 := Fr_cp hF hF498 (by decide +kernel : Wsub W252 Wp12 = true)
  have e505 := fI_bd (q := 64) hT497 (tf hT497 rfl rfl) fd_8_86
  have e506 := fI_bd (q := 64) hT497 (tf hT497 rfl rfl) fd_8_87
  have e507 := fI_bd (q := 64) hT497 (tf hT497 rfl rfl) fd_8_88
  refine st_aload c260_86 rfl ?_
  have cf508 := CU_F pf503
  have ct509 := CU_t pf503 (c := 40) (by decide) (by decide) (by decide)
  have e510 := fI_bd (q := 64) hT497 (tf hT497 rfl rfl) fd_8_91
  have q511 : fI h496 64 91 = fI h 64 91 := Fr_fI hF498 (tf hT rfl rfl) (by decide +kernel)
  have e512 := fI_bd (q := 64) hT497 (tf hT497 rfl rfl) fd_8_90
  have q513 : fI h496 64 90 = fI h 64 90 := Fr_fI hF498 (tf hT rfl rfl) (by decide +kernel)
  have e514 := fI_bd (q := 64) hT497 (tf hT497 rfl rfl) fd_8_77
  have q515 : fI h496 64 77 = fI h 64 77 := Fr_fI hF498 (tf hT rfl rfl) (by decide +kernel)
  refine st_callt (as := []) c260_87 cm_257 hT497 (tf hT497 rfl rfl) fd_8_0 rfl rfl rfl rfl (by omega) (K257 hT497 (Stb_mono hS (by decide +kernel)) (by omega) pf503 (d - 1) (by omega) _ (fun v h0 H => H)) (fun v1 h516 H => ?_)
  rcases H with ⟨rfl, pf519, pf520, pf521, pf522, pf523, pf524, pf525, hT517, hF518⟩ | ⟨rfl, pf526, pf527, pf528, pf529, pf530, pf531, pf532, pf533, pf534, hT517, hF518⟩
  have hF535 := Fr_cp hF504 hF518 (by decide +kernel : Wsub W257 Wp12 = true)
  have e536 := fI_bd (q := 64) hT517 (tf hT517 rfl rfl) fd_8_90
  have e537 := fI_bd (q := 64) hT517 (tf hT517 rfl rfl) fd_8_91
  have e538 := fI_bd (q := 64) hT517 (tf hT517 rfl rfl) fd_8_86
  have e539 := fI_bd (q := 64) hT517 (tf hT517 rfl rfl) fd_8_87
  have e540 := fI_bd (q := 64) hT517 (tf hT517 rfl rfl) fd_8_88
  refine st_if_ne c260_90 (by omega) (fun k541 => False.elim (by omega)) (fun k542 => ?_)
  refine st_return c260_93 ?_
  have e543 := fI_bd (q := 64) hT517 (tf hT517 rfl rfl) fd_8_93
  have q544 : fI h516 64 93 = fI h 64 93 := (Fr_fI hF518 (tf hT497 rfl rfl) (by decide +kernel)).trans (Fr_fI hF498 (tf hT rfl rfl) (by decide +kernel))
  have fr545 : ∀ i : Int, 0 ≤ i → i < 220 * fI h 64 92 + fI h 64 93 → aI h516 129 i = aI h 129 i := fun i a b => ((Fr_aI hF518 (tf hT497 rfl rfl) (by decide +kernel) i)).trans ((Fr_aI hF498 (tf hT rfl rfl) (by decide +kernel) i))
  have fr546 : ∀ i : Int, 0 ≤ i → i < 220 * fI h 64 92 + fI h 64 93 → aI h516 130 i = aI h 130 i := fun i a b => ((Fr_aI hF518 (tf hT497 rfl rfl) (by decide +kernel) i)).trans ((Fr_aI hF498 (tf hT rfl rfl) (by decide +kernel) i))
  have e547 := fI_bd (q := 64) hT517 (tf hT517 rfl rfl) fd_8_92
  have q548 : fI h516 64 92 = fI h 64 92 := (Fr_fI hF518 (tf hT497 rfl rfl) (by decide +kernel)).trans (Fr_fI hF498 (tf hT rfl rfl) (by decide +kernel))
  have e550 := fI_bd (q := 64) hT (tf hT rfl rfl) fd_8_90
  have e551 := fI_bd (q := 64) hT (tf hT rfl rfl) fd_8_91
  exact hQ _ _ ⟨rfl, by omega, by omega, by omega, by omega, by omega, by omega, by omega, by omega, fr545, fr546, (Or.inl (by omega)), RM_no (P2_pf (by omega) (by omega)) (by omega) (by omega), hT517, hF535⟩
  have hF552 := Fr_cp hF504 hF518 (by decide +kernel : Wsub W257 Wp12 = true)
  have e553 := fI_bd (q := 64) hT517 (tf hT517 rfl rfl) fd_8_90
  have e554 := fI_bd (q := 64) hT517 (tf hT517 rfl rfl) fd_8_91
  have e555 := fI_bd (q := 64) hT517 (tf hT517 rfl rfl) fd_8_86
  have e556 := fI_bd (q := 64) hT517 (tf hT517 rfl rfl) fd_8_87
  refine st_if_ne c260_90 (by omega) (fun k557 => ?_) (fun k558 => False.elim (by omega))
  refine st_aload c260_94 rfl ?_
  have e559 := fI_bd (q := 64) hT517 (tf hT517 rfl rfl) fd_8_77
  have q560 : fI h516 64 77 = fI h496 64 77 := Fr_fI hF518 (tf hT497 rfl rfl) (by decide +kernel)
  have e561 := fI_bd (q := 64) hT517 (tf hT517 rfl rfl) fd_8_93
  have q562 : fI h516 64 93 = fI h 64 93 := (Fr_fI hF518 (tf hT497 rfl rfl) (by decide +kernel)).trans (Fr_fI hF498 (tf hT rfl rfl) (by decide +kernel))
  have e563 := fI_bd (q := 64) hT517 (tf hT517 rfl rfl) fd_8_92
  have q564 : fI h516 64 92 = fI h 64 92 := (Fr_fI hF518 (tf hT497 rfl rfl) (by decide +kernel)).trans (Fr_fI hF498 (tf hT rfl rfl) (by decide +kernel))
  have e565 := fI_bd (q := 64) hT517 (tf hT517 rfl rfl) fd_8_88
  refine st_callt (as := []) c260_95 cm_262 hT517 (tf hT517 rfl rfl) fd_8_0 rfl rfl rfl rfl (by omega) ((pre5 (by omega)) hT517 (Stb_mono hS (by decide +kernel)) (by omega) (by omega) (by omega) (by omega) (by omega) (by omega) pf534 (d - 1) (by omega) _ (fun v h0 H => H)) (fun v1 h566 H => ?_)
  obtain ⟨rfl, pf569, pf570, pf571, pf572, pf573, pf574, pf575, pf576, pf577, pf578, pf579, pf580, hT567, hF568⟩ := H
  have hF581 := Fr_cp hF552 hF568 (by decide +kernel : Wsub Wp12 Wp12 = true)
  have e582 := fI_bd (q := 64) hT567 (tf hT567 rfl rfl) fd_8_86
  have e583 := fI_bd (q := 64) hT567 (tf hT567 rfl rfl) fd_8_87
  have e584 := fI_bd (q := 64) hT567 (tf hT567 rfl rfl) fd_8_88
  have e585 := fI_bd (q := 64) hT567 (tf hT567 rfl rfl) fd_8_90
  have e586 := fI_bd (q := 64) hT567 (tf hT567 rfl rfl) fd_8_93
  have e587 := fI_bd (q := 64) hT567 (tf hT567 rfl rfl) fd_8_91
  rcases pf580 with ⟨b588, pr589, e590, cu591⟩ | ⟨i592, pr593, e594, g595⟩
  have cf596 := CU_F cu591
  have ct597 := CU_t cu591 (c := 44) (by decide) (by decide) (by decide)
  refine st_aload c260_98 rfl ?_
  refine st_getI c260_99 hT567 (tf hT567 rfl rfl) fd_8_90 (fun e598 e599 => ?_)
  refine st_if_ge c260_102 (by omega) (fun k600 => False.elim (by omega)) (fun k601 => ?_)
  refine st_aload c260_105 rfl ?_
  refine st_iconst c260_106 ?_
  have e602 := fI_bd (q := 64) hT567 (tf hT567 rfl rfl) fd_8_77
  have q603 : fI h566 64 77 = fI h516 64 77 := Fr_fI hF568 (tf hT517 rfl rfl) (by decide +kernel)
  refine st_callt (as := [vI 44]) c260_108 cm_256 hT567 (tf hT567 rfl rfl) fd_8_0 rfl rfl rfl rfl (by omega) (K256 hT567 (Stb_mono hS (by decide +kernel)) 44 (by omega) (by omega) cu591 (d - 1) (by omega) _ (fun v h0 H => H)) (fun v1 h604 H => ?_)
  rcases H with ⟨rfl, pf607, pf608, pf609, pf610, pf611, pf612, hT605, hF606⟩ | ⟨rfl, pf613, pf614, pf615, pf616, pf617, pf618, pf619, hT605, hF606⟩
  have hF620 := Fr_cp hF581 hF606 (by decide +kernel : Wsub W256 Wp12 = true)
  have e621 := fI_bd (q := 64) hT605 (tf hT605 rfl rfl) fd_8_90
  have e622 := fI_bd (q := 64) hT605 (tf hT605 rfl rfl) fd_8_86
  have e623 := fI_bd (q := 64) hT605 (tf hT605 rfl rfl) fd_8_87
  have e624 := fI_bd (q := 64) hT605 (tf hT605 rfl rfl) fd_8_88
  refine st_if_ne c260_111 (by omega) (fun k625 => False.elim (by omega)) (fun k626 => ?_)
  refine st_return c260_114 ?_
  have e627 := fI_bd (q := 64) hT605 (tf hT605 rfl rfl) fd_8_93
  have q628 : fI h604 64 93 = fI h566 64 93 := Fr_fI hF606 (tf hT567 rfl rfl) (by decide +kernel)
  have e629 := fI_bd (q := 64) hT605 (tf hT605 rfl rfl) fd_8_91
  have q630 : fI h604 64 91 = fI h566 64 91 := Fr_fI hF606 (tf hT567 rfl rfl) (by decide +kernel)
  have fr631 : ∀ i : Int, 0 ≤ i → i < 220 * fI h 64 92 + fI h 64 93 → aI h604 129 i = aI h 129 i := fun i a b => ((Fr_aI hF606 (tf hT567 rfl rfl) (by decide +kernel) i)).trans (((pf577 i a (by omega))).trans (((Fr_aI hF518 (tf hT497 rfl rfl) (by decide +kernel) i)).trans ((Fr_aI hF498 (tf hT rfl rfl) (by decide +kernel) i))))
  have fr632 : ∀ i : Int, 0 ≤ i → i < 220 * fI h 64 92 + fI h 64 93 → aI h604 130 i = aI h 130 i := fun i a b => ((Fr_aI hF606 (tf hT567 rfl rfl) (by decide +kernel) i)).trans (((pf578 i a (by omega))).trans (((Fr_aI hF518 (tf hT497 rfl rfl) (by decide +kernel) i)).trans ((Fr_aI hF498 (tf hT rfl rfl) (by decide +kernel) i))))
  have e633 := fI_bd (q := 64) hT605 (tf hT605 rfl rfl) fd_8_92
  have q634 : fI h604 64 92 = fI h516 64 92 := (Fr_fI hF606 (tf hT567 rfl rfl) (by decide +kernel)).trans (Fr_fI hF568 (tf hT517 rfl rfl) (by decide +kernel))
  have e636 := fI_bd (q := 64) hT (tf hT rfl rfl) fd_8_90
  have e637 := fI_bd (q := 64) hT (tf hT rfl rfl) fd_8_91
  exact hQ _ _ ⟨rfl, by omega, by omega, by omega, by omega, by omega, by omega, by omega, by omega, fr631, fr632, (Or.inl (by omega)), RM_no (P2_p2 (by omega) (by omega) (by omega) pr589 (by omega)) (by omega) (by omega), hT605, hF620⟩
  have hF638 := Fr_cp hF581 hF606 (by decide +kernel : Wsub W256 Wp12 = true)
  have e639 := fI_bd (q := 64) hT605 (tf hT605 rfl rfl) fd_8_90
  have e640 := fI_bd (q := 64) hT605 (tf hT605 rfl rfl) fd_8_86
  have e641 := fI_bd (q := 64) hT605 (tf hT605 rfl rfl) fd_8_87
  refine st_if_ne c260_111 (by omega) (fun k642 => ?_) (fun k643 => False.elim (by omega))
  refine st_aload c260_115 rfl ?_
  have e644 := fI_bd (q := 64) hT605 (tf hT605 rfl rfl) fd_8_77
  have q645 : fI h604 64 77 = fI h566 64 77 := Fr_fI hF606 (tf hT567 rfl rfl) (by decide +kernel)
  have e646 := fI_bd (q := 64) hT605 (tf hT605 rfl rfl) fd_8_93
  have q647 : fI h604 64 93 = fI h566 64 93 := Fr_fI hF606 (tf hT567 rfl rfl) (by decide +kernel)
  have e648 := fI_bd (q := 64) hT605 (tf hT605 rfl rfl) fd_8_91
  have q649 : fI h604 64 91 = fI h566 64 91 := Fr_fI hF606 (tf hT567 rfl rfl) (by decide +kernel)
  have e650 := fI_bd (q := 64) hT605 (tf hT605 rfl rfl) fd_8_92
  have q651 : fI h604 64 92 = fI h516 64 92 := (Fr_fI hF606 (tf hT567 rfl rfl) (by decide +kernel)).trans (Fr_fI hF568 (tf hT517 rfl rfl) (by decide +kernel))
  have e652 := fI_bd (q := 64) hT605 (tf hT605 rfl rfl) fd_8_88
  refine st_callt (as := []) c260_116 cm_262 hT605 (tf hT605 rfl rfl) fd_8_0 rfl rfl rfl rfl (by omega) ((pre5 (by omega)) hT605 (Stb_mono hS (by decide +kernel)) (by omega) (by omega) (by omega) (by omega) (by omega) (by omega) pf619 (d - 1) (by omega) _ (fun v h0 H => H)) (fun v1 h653 H => ?_)
  obtain ⟨rfl, pf656, pf657, pf658, pf659, pf660, pf661, pf662, pf663, pf664, pf665, pf666, pf667, hT654, hF655⟩ := H
  have hF668 := Fr_cp hF638 hF655 (by decide +kernel : Wsub Wp12 Wp12 = true)
  have e669 := fI_bd (q := 64) hT654 (tf hT654 rfl rfl) fd_8_86
  have e670 := fI_bd (q := 64) hT654 (tf hT654 rfl rfl) fd_8_87
  have e671 := fI_bd (q := 64) hT654 (tf hT654 rfl rfl) fd_8_88
  have e672 := fI_bd (q := 64) hT654 (tf hT654 rfl rfl) fd_8_90
  have e673 := fI_bd (q := 64) hT654 (tf hT654 rfl rfl) fd_8_93
  have e674 := fI_bd (q := 64) hT654 (tf hT654 rfl rfl) fd_8_91
  rcases pf667 with ⟨b675, pr676, e677, cu678⟩ | ⟨i679, pr680, e681, g682⟩
  have cf683 := CU_F cu678
  have ct684 := CU_t cu678 (c := 41) (by decide) (by decide) (by decide)
  refine st_aload c260_119 rfl ?_
  refine st_getI c260_120 hT654 (tf hT654 rfl rfl) fd_8_90 (fun e685 e686 => ?_)
  refine st_if_ge c260_123 (by omega) (fun k687 => False.elim (by omega)) (fun k688 => ?_)
  refine st_aload c260_126 rfl ?_
  have e689 := fI_bd (q := 64) hT654 (tf hT654 rfl rfl) fd_8_77
  have q690 : fI h653 64 77 = fI h604 64 77 := Fr_fI hF655 (tf hT605 rfl rfl) (by decide +kernel)
  refine st_callt (as := []) c260_127 cm_258 hT654 (tf hT654 rfl rfl) fd_8_0 rfl rfl rfl rfl (by omega) (K258 hT654 (Stb_mono hS (by decide +kernel)) (by omega) (by omega) cu678 (d - 1) (by omega) _ (fun v h0 H => H)) (fun v1 h691 H => ?_)
  rcases H with ⟨rfl, pf694, pf695, pf696, pf697, pf698, pf699, pf700, hT692, hF693⟩ | ⟨rfl, pf701, pf702, pf703, pf704, pf705, pf706, pf707, pf708, hT692, hF693⟩
  have hF709 := Fr_cp hF668 hF693 (by decide +kernel : Wsub W258 Wp12 = true)
  have e710 := fI_bd (q := 64) hT692 (tf hT692 rfl rfl) fd_8_90
  have e711 := fI_bd (q := 64) hT692 (tf hT692 rfl rfl) fd_8_91
  have e712 := fI_bd (q := 64) hT692 (tf hT692 rfl rfl) fd_8_86
  have e713 := fI_bd (q := 64) hT692 (tf hT692 rfl rfl) fd_8_87
  have e714 := fI_bd (q := 64) hT692 (tf hT692 rfl rfl) fd_8_88
  refine st_if_ne c260_130 (by omega) (fun k715 => False.elim (by omega)) (fun k716 => ?_)
  refine st_return c260_133 ?_
  have e717 := fI_bd (q := 64) hT692 (tf hT692 rfl rfl) fd_8_93
  have q718 : fI h691 64 93 = fI h653 64 93 := Fr_fI hF693 (tf hT654 rfl rfl) (by decide +kernel)
  have fr719 : ∀ i : Int, 0 ≤ i → i < 220 * fI h 64 92 + fI h 64 93 → aI h691 129 i = aI h 129 i := fun i a b => ((Fr_aI hF693 (tf hT654 rfl rfl) (by decide +kernel) i)).trans (((pf664 i a (by omega))).trans (((Fr_aI hF606 (tf hT567 rfl rfl) (by decide +kernel) i)).trans (((pf577 i a (by omega))).trans (((Fr_aI hF518 (tf hT497 rfl rfl) (by decide +kernel) i)).trans ((Fr_aI hF498 (tf hT rfl rfl) (by decide +kernel) i))))))
  have fr720 : ∀ i : Int, 0 ≤ i → i < 220 * fI h 64 92 + fI h 64 93 → aI h691 130 i = aI h 130 i := fun i a b => ((Fr_aI hF693 (tf hT654 rfl rfl) (by decide +kernel) i)).trans (((pf665 i a (by omega))).trans (((Fr_aI hF606 (tf hT567 rfl rfl) (by decide +kernel) i)).trans (((pf578 i a (by omega))).trans (((Fr_aI hF518 (tf hT497 rfl rfl) (by decide +kernel) i)).trans ((Fr_aI hF498 (tf hT rfl rfl) (by decide +kernel) i))))))
  have e721 := fI_bd (q := 64) hT692 (tf hT692 rfl rfl) fd_8_92
  have q722 : fI h691 64 92 = fI h604 64 92 := (Fr_fI hF693 (tf hT654 rfl rfl) (by decide +kernel)).trans (Fr_fI hF655 (tf hT605 rfl rfl) (by decide +kernel))
  have e724 := fI_bd (q := 64) hT (tf hT rfl rfl) fd_8_90
  have e725 := fI_bd (q := 64) hT (tf hT rfl rfl) fd_8_91
  exact hQ _ _ ⟨rfl, by omega, by omega, by omega, by omega, by omega, by omega, by omega, by omega, fr719, fr720, (Or.inl (by omega)), RM_no (P2_p4 (by omega) (by omega) (by omega) pr589 (by omega) pr676 (by omega)) (by omega) (by omega), hT692, hF709⟩
  have hF726 := Fr_cp hF668 hF693 (by decide +kernel : Wsub W258 Wp12 = true)
  have e727 := fI_bd (q := 64) hT692 (tf hT692 rfl rfl) fd_8_90
  have e728 := fI_bd (q := 64) hT692 (tf hT692 rfl rfl) fd_8_91
  have e729 := fI_bd (q := 64) hT692 (tf hT692 rfl rfl) fd_8_86
  have e730 := fI_bd (q := 64) hT692 (tf hT692 rfl rfl) fd_8_87
  refine st_if_ne c260_130 (by omega) (fun k731 => ?_) (fun k732 => False.elim (by omega))
  refine st_aload c260_134 rfl ?_
  refine st_iload c260_135 rfl ?_
  refine st_iconst c260_136 ?_
  refine st_iconst c260_137 ?_
  have e733 := fI_bd (q := 64) hT692 (tf hT692 rfl rfl) fd_8_93
  have q734 : fI h691 64 93 = fI h653 64 93 := Fr_fI hF693 (tf hT654 rfl rfl) (by decide +kernel)
  have e735 := fI_bd (q := 64) hT692 (tf hT692 rfl rfl) fd_8_92
  have q736 : fI h691 64 92 = fI h604 64 92 := (Fr_fI hF693 (tf hT654 rfl rfl) (by decide +kernel)).trans (Fr_fI hF655 (tf hT605 rfl rfl) (by decide +kernel))
  refine st_callt (as := [vI 5, vI 0, vI 0]) c260_138 cm_255 hT692 (tf hT692 rfl rfl) fd_8_0 rfl rfl rfl rfl (by omega) (K255 hT692 (Stb_mono hS (by decide +kernel)) 5 (by omega) 0 (by omega) 0 (by omega) (by omega) (d - 1) (by omega) _ (fun v h0 H => H)) (fun v1 h737 H => ?_)
  obtain ⟨rfl, pf740, pf741, pf742, pf743, pf744, hT738, hF739⟩ := H
  have hF745 := Fr_cp hF726 hF739 (by decide +kernel : Wsub W255 Wp12 = true)
  have e746 := fI_bd (q := 64) hT738 (tf hT738 rfl rfl) fd_8_93
  refine st_return c260_141 ?_
  have e747 := fI_bd (q := 64) hT738 (tf hT738 rfl rfl) fd_8_86
  have q748 : fI h737 64 86 = fI h691 64 86 := Fr_fI hF739 (tf hT692 rfl rfl) (by decide +kernel)
  have e749 := fI_bd (q := 64) hT738 (tf hT738 rfl rfl) fd_8_87
  have q750 : fI h737 64 87 = fI h691 64 87 := Fr_fI hF739 (tf hT692 rfl rfl) (by decide +kernel)
  have e751 := fI_bd (q := 64) hT738 (tf hT738 rfl rfl) fd_8_88
  have q752 : fI h737 64 88 = fI h691 64 88 := Fr_fI hF739 (tf hT692 rfl rfl) (by decide +kernel)
  have e753 := fI_bd (q := 64) hT738 (tf hT738 rfl rfl) fd_8_90
  have q754 : fI h737 64 90 = fI h691 64 90 := Fr_fI hF739 (tf hT692 rfl rfl) (by decide +kernel)
  have e755 := fI_bd (q := 64) hT738 (tf hT738 rfl rfl) fd_8_91
  have q756 : fI h737 64 91 = fI h691 64 91 := Fr_fI hF739 (tf hT692 rfl rfl) (by decide +kernel)
  have fr757 : ∀ i : Int, 0 ≤ i → i < 220 * fI h 64 92 + fI h 64 93 → aI h737 129 i = aI h 129 i := fun i a b => ((pf743 i a (by omega))).trans (((Fr_aI hF693 (tf hT654 rfl rfl) (by decide +kernel) i)).trans (((pf664 i a (by omega))).trans (((Fr_aI hF606 (tf hT567 rfl rfl) (by decide +kernel) i)).trans (((pf577 i a (by omega))).trans (((Fr_aI hF518 (tf hT497 rfl rfl) (by decide +kernel) i)).trans ((Fr_aI hF498 (tf hT rfl rfl) (by decide +kernel) i)))))))
  have fr758 : ∀ i : Int, 0 ≤ i → i < 220 * fI h 64 92 + fI h 64 93 → aI h737 130 i = aI h 130 i := fun i a b => ((pf744 i a (by omega))).trans (((Fr_aI hF693 (tf hT654 rfl rfl) (by decide +kernel) i)).trans (((pf665 i a (by omega))).trans (((Fr_aI hF606 (tf hT567 rfl rfl) (by decide +kernel) i)).trans (((pf578 i a (by omega))).trans (((Fr_aI hF518 (tf hT497 rfl rfl) (by decide +kernel) i)).trans ((Fr_aI hF498 (tf hT rfl rfl) (by decide +kernel) i)))))))
  have e759 := fI_bd (q := 64) hT738 (tf hT738 rfl rfl) fd_8_92
  have q760 : fI h737 64 92 = fI h691 64 92 := Fr_fI hF739 (tf hT692 rfl rfl) (by decide +kernel)
  have g762 := (pf579).resolve_left (by omega)
  have fr763 : ∀ i : Int, 0 ≤ i → i < 220 * fI h516 64 92 + fI h516 64 93 + (fI h566 64 93 - fI h516 64 93) → aI h737 129 i = aI h566 129 i := fun i a b => ((pf743 i a (by omega))).trans (((Fr_aI hF693 (tf hT654 rfl rfl) (by decide +kernel) i)).trans (((pf664 i a (by omega))).trans ((Fr_aI hF606 (tf hT567 rfl rfl) (by decide +kernel) i))))
  have fr764 : ∀ i : Int, 0 ≤ i → i < 220 * fI h516 64 92 + fI h516 64 93 + (fI h566 64 93 - fI h516 64 93) → aI h737 130 i = aI h566 130 i := fun i a b => ((pf744 i a (by omega))).trans (((Fr_aI hF693 (tf hT654 rfl rfl) (by decide +kernel) i)).trans (((pf665 i a (by omega))).trans ((Fr_aI hF606 (tf hT567 rfl rfl) (by decide +kernel) i))))
  have g765 : Sg h737 (220 * fI h516 64 92 + fI h516 64 93) (fI h566 64 93 - fI h516 64 93) := Sg_mv g762 (fun i a b => ⟨fr763 i (by omega) (by omega), fr764 i (by omega) (by omega)⟩)
  have g766 := (pf666).resolve_left (by omega)
  have fr767 : ∀ i : Int, 0 ≤ i → i < 220 * fI h604 64 92 + fI h604 64 93 + (fI h653 64 93 - fI h604 64 93) → aI h737 129 i = aI h653 129 i := fun i a b => ((pf743 i a (by omega))).trans ((Fr_aI hF693 (tf hT654 rfl rfl) (by decide +kernel) i))
  have fr768 : ∀ i : Int, 0 ≤ i → i < 220 * fI h604 64 92 + fI h604 64 93 + (fI h653 64 93 - fI h604 64 93) → aI h737 130 i = aI h653 130 i := fun i a b => ((pf744 i a (by omega))).trans ((Fr_aI hF693 (tf hT654 rfl rfl) (by decide +kernel) i))
  have g769 : Sg h737 (220 * fI h604 64 92 + fI h604 64 93) (fI h653 64 93 - fI h604 64 93) := Sg_mv g766 (fun i a b => ⟨fr767 i (by omega) (by omega), fr768 i (by omega) (by omega)⟩)
  have a1 : aI h737 129 (220 * fI h691 64 92 + fI h691 64 93) = 5 := (rfl).trans pf741
  have k1 : Sg h737 (220 * fI h 64 92 + fI h 64 93) (fI h566 64 93 - fI h516 64 93) := by rw [show 220 * fI h 64 92 + fI h 64 93 = 220 * fI h516 64 92 + fI h516 64 93 by omega]; exact g765
  have k2 : Sg h737 (220 * fI h 64 92 + fI h 64 93 + (fI h566 64 93 - fI h516 64 93)) (fI h653 64 93 - fI h604 64 93) := by rw [show 220 * fI h 64 92 + fI h 64 93 + (fI h566 64 93 - fI h516 64 93) = 220 * fI h604 64 92 + fI h604 64 93 by omega]; exact g769
  have sg761 : 0 ≤ fI h737 64 90 ∨ Sg h737 (220 * fI h 64 92 + fI h 64 93) (fI h737 64 93 - fI h 64 93) := Or.inr (by
    rw [show fI h737 64 93 - fI h 64 93 = (fI h566 64 93 - fI h516 64 93) + (fI h653 64 93 - fI h604 64 93) + 1 by omega]
    exact Sg_op k1 k2 (by rw [show 220 * fI h 64 92 + fI h 64 93 + (fI h566 64 93 - fI h516 64 93) + (fI h653 64 93 - fI h604 64 93) = 220 * fI h691 64 92 + fI h691 64 93 by omega, a1]; omega))
  have e770 := fI_bd (q := 64) hT (tf hT rfl rfl) fd_8_90
  have e771 := fI_bd (q := 64) hT (tf hT rfl rfl) fd_8_91
  exact hQ _ _ ⟨rfl, by omega, by omega, by omega, by omega, by omega, by omega, by omega, by omega, fr757, fr758, sg761, RM_ok (P2_p5 (by omega) (by omega) (by omega) pr589 (by omega) pr676 (by omega)) (by omega) (CU_fr pf708 hT692 hF739 (by decide +kernel)), hT738, hF745⟩
  refine st_aload c260_119 rfl ?_
  refine st_getI c260_120 hT654 (tf hT654 rfl rfl) fd_8_90 (fun e772 e773 => ?_)
  refine st_if_ge c260_123 (by omega) (fun k774 => ?_) (fun k775 => False.elim (by omega))
  refine st_return c260_133 ?_
  have fr776 : ∀ i : Int, 0 ≤ i → i < 220 * fI h 64 92 + fI h 64 93 → aI h653 129 i = aI h 129 i := fun i a b => ((pf664 i a (by omega))).trans (((Fr_aI hF606 (tf hT567 rfl rfl) (by decide +kernel) i)).trans (((pf577 i a (by omega))).trans (((Fr_aI hF518 (tf hT497 rfl rfl) (by decide +kernel) i)).trans ((Fr_aI hF498 (tf hT rfl rfl) (by decide +kernel) i)))))
  have fr777 : ∀ i : Int, 0 ≤ i → i < 220 * fI h 64 92 + fI h 64 93 → aI h653 130 i = aI h 130 i := fun i a b => ((pf665 i a (by omega))).trans (((Fr_aI hF606 (tf hT567 rfl rfl) (by decide +kernel) i)).trans (((pf578 i a (by omega))).trans (((Fr_aI hF518 (tf hT497 rfl rfl) (by decide +kernel) i)).trans ((Fr_aI hF498 (tf hT rfl rfl) (by decide +kernel) i)))))
  have e778 := fI_bd (q := 64) hT654 (tf hT654 rfl rfl) fd_8_92
  have q779 : fI h653 64 92 = fI h604 64 92 := Fr_fI hF655 (tf hT605 rfl rfl) (by decide +kernel)
  have e781 := fI_bd (q := 64) hT (tf hT rfl rfl) fd_8_90
  have e782 := fI_bd (q := 64) hT (tf hT rfl rfl) fd_8_91
  exact hQ _ _ ⟨rfl, by omega, by omega, by omega, by omega, by omega, by omega, by omega, by omega, fr776, fr777, (Or.inl (by omega)), RM_no (P2_p3 (by omega) (by omega) (by omega) pr589 (by omega) pr680) (by omega) g682, hT654, hF668⟩
  refine st_aload c260_98 rfl ?_
  refine st_getI c260_99 hT567 (tf hT567 rfl rfl) fd_8_90 (fun e783 e784 => ?_)
  refine st_if_ge c260_102 (by omega) (fun k785 => ?_) (fun k786 => False.elim (by omega))
  refine st_return c260_114 ?_
  have fr787 : ∀ i : Int, 0 ≤ i → i < 220 * fI h 64 92 + fI h 64 93 → aI h566 129 i = aI h 129 i := fun i a b => ((pf577 i a (by omega))).trans (((Fr_aI hF518 (tf hT497 rfl rfl) (by decide +kernel) i)).trans ((Fr_aI hF498 (tf hT rfl rfl) (by decide +kernel) i)))
  have fr788 : ∀ i : Int, 0 ≤ i → i < 220 * fI h 64 92 + fI h 64 93 → aI h566 130 i = aI h 130 i := fun i a b => ((pf578 i a (by omega))).trans (((Fr_aI hF518 (tf hT497 rfl rfl) (by decide +kernel) i)).trans ((Fr_aI hF498 (tf hT rfl rfl) (by decide +kernel) i)))
  have e789 := fI_bd (q := 64) hT567 (tf hT567 rfl rfl) fd_8_92
  have q790 : fI h566 64 92 = fI h516 64 92 := Fr_fI hF568 (tf hT517 rfl rfl) (by decide +kernel)
  have e792 := fI_bd (q := 64) hT (tf hT rfl rfl) fd_8_90
  have e793 := fI_bd (q := 64) hT (tf hT rfl rfl) fd_8_91
  exact hQ _ _ ⟨rfl, by omega, by omega, by omega, by omega, by omega, by omega, by omega, by omega, fr787, fr788, (Or.inl (by omega)), RM_no (P2_p1 (by omega) (by omega) (by omega) pr593) (by omega) g595, hT567, hF581⟩
  have wq794 := (WH_c (v := Int64.ofInt 6476969) (k := 17) (by decide +kernel) hT pre7 (by decide)).mp pf20
  refine st_if_ne c260_52 (by omega) (fun k795 => ?_) (fun k796 => False.elim (by omega))
  refine st_aload c260_65 rfl ?_
  refine st_lconst c260_66 ?_
  refine st_callt (as := [.long (Int64.ofInt 6476969)]) c260_69 cm_253 hT (tf hT rfl rfl) fd_8_0 rfl rfl rfl rfl (by omega) (K253 hT (Int64.ofInt 6476969) (by omega) (d - 1) (by omega) _ (fun v h0 H => H)) (fun v1 h1 H => ?_)
  rcases H with ⟨rfl, pf797, rfl⟩ | ⟨rfl, pf798, pf799, rfl⟩
  have wq800 := mt (WH_c (v := Int64.ofInt 6476969) (k := 17) (by decide +kernel) hT pre7 (by decide)).mpr pf797
  refine st_if_eq c260_72 (by omega) (fun k801 => ?_) (fun k802 => False.elim (by omega))
  refine st_iconst c260_79 ?_
  refine st_istore (L' := [some (.ref 64), some (vI 6)]) c260_81 rfl rfl ?_
  refine st_aload c260_82 rfl ?_
  have e803 := fI_bd (q := 64) hT (tf hT rfl rfl) fd_8_77
  refine st_callt (as := []) c260_83 cm_252 hT (tf hT rfl rfl) fd_8_0 rfl rfl rfl rfl (by omega) (K252 hT (Stb_mono hS (by decide +kernel)) (by omega) (CU_nx pre7) (d - 1) (by omega) _ (fun v h0 H => H)) (fun v1 h804 H => ?_)
  obtain ⟨rfl, pf807, pf808, pf809, pf810, pf811, hT805, hF806⟩ := H
  have hF812 := Fr_cp hF hF806 (by decide +kernel : Wsub W252 Wp12 = true)
  have e813 := fI_bd (q := 64) hT805 (tf hT805 rfl rfl) fd_8_86
  have e814 := fI_bd (q := 64) hT805 (tf hT805 rfl rfl) fd_8_87
  have e815 := fI_bd (q := 64) hT805 (tf hT805 rfl rfl) fd_8_88
  refine st_aload c260_86 rfl ?_
  have cf816 := CU_F pf811
  have ct817 := CU_t pf811 (c := 40) (by decide) (by decide) (by decide)
  have e818 := fI_bd (q := 64) hT805 (tf hT805 rfl rfl) fd_8_91
  have q819 : fI h804 64 91 = fI h 64 91 := Fr_fI hF806 (tf hT rfl rfl) (by decide +kernel)
  have e820 := fI_bd (q := 64) hT805 (tf hT805 rfl rfl) fd_8_90
  have q821 : fI h804 64 90 = fI h 64 90 := Fr_fI hF806 (tf hT rfl rfl) (by decide +kernel)
  have e822 := fI_bd (q := 64) hT805 (tf hT805 rfl rfl) fd_8_77
  have q823 : fI h804 64 77 = fI h 64 77 := Fr_fI hF806 (tf hT rfl rfl) (by decide +kernel)
  refine st_callt (as := []) c260_87 cm_257 hT805 (tf hT805 rfl rfl) fd_8_0 rfl rfl rfl rfl (by omega) (K257 hT805 (Stb_mono hS (by decide +kernel)) (by omega) pf811 (d - 1) (by omega) _ (fun v h0 H => H)) (fun v1 h824 H => ?_)
  rcases H with ⟨rfl, pf827, pf828, pf829, pf830, pf831, pf832, pf833, hT825, hF826⟩ | ⟨rfl, pf834, pf835, pf836, pf837, pf838, pf839, pf840, pf841, pf842, hT825, hF826⟩
  have hF843 := Fr_cp hF812 hF826 (by decide +kernel : Wsub W257 Wp12 = true)
  have e844 := fI_bd (q := 64) hT825 (tf hT825 rfl rfl) fd_8_90
  have e845 := fI_bd (q := 64) hT825 (tf hT825 rfl rfl) fd_8_91
  have e846 := fI_bd (q := 64) hT825 (tf hT825 rfl rfl) fd_8_86
  have e847 := fI_bd (q := 64) hT825 (tf hT825 rfl rfl) fd_8_87
  have e848 := fI_bd (q := 64) hT825 (tf hT825 rfl rfl) fd_8_88
  refine st_if_ne c260_90 (by omega) (fun k849 => False.elim (by omega)) (fun k850 => ?_)
  refine st_return c260_93 ?_
  have e851 := fI_bd (q := 64) hT825 (tf hT825 rfl rfl) fd_8_93
  have q852 : fI h824 64 93 = fI h 64 93 := (Fr_fI hF826 (tf hT805 rfl rfl) (by decide +kernel)).trans (Fr_fI hF806 (tf hT rfl rfl) (by decide +kernel))
  have fr853 : ∀ i : Int, 0 ≤ i → i < 220 * fI h 64 92 + fI h 64 93 → aI h824 129 i = aI h 129 i := fun i a b => ((Fr_aI hF826 (tf hT805 rfl rfl) (by decide +kernel) i)).trans ((Fr_aI hF806 (tf hT rfl rfl) (by decide +kernel) i))
  have fr854 : ∀ i : Int, 0 ≤ i → i < 220 * fI h 64 92 + fI h 64 93 → aI h824 130 i = aI h 130 i := fun i a b => ((Fr_aI hF826 (tf hT805 rfl rfl) (by decide +kernel) i)).trans ((Fr_aI hF806 (tf hT rfl rfl) (by decide +kernel) i))
  have e855 := fI_bd (q := 64) hT825 (tf hT825 rfl rfl) fd_8_92
  have q856 : fI h824 64 92 = fI h 64 92 := (Fr_fI hF826 (tf hT805 rfl rfl) (by decide +kernel)).trans (Fr_fI hF806 (tf hT rfl rfl) (by decide +kernel))
  have e858 := fI_bd (q := 64) hT (tf hT rfl rfl) fd_8_90
  have e859 := fI_bd (q := 64) hT (tf hT rfl rfl) fd_8_91
  exact hQ _ _ ⟨rfl, by omega, by omega, by omega, by omega, by omega, by omega, by omega, by omega, fr853, fr854, (Or.inl (by omega)), RM_no (P2_pf (by omega) (by omega)) (by omega) (by omega), hT825, hF843⟩
  have hF860 := Fr_cp hF812 hF826 (by decide +kernel : Wsub W257 Wp12 = true)
  have e861 := fI_bd (q := 64) hT825 (tf hT825 rfl rfl) fd_8_90
  have e862 := fI_bd (q := 64) hT825 (tf hT825 rfl rfl) fd_8_91
  have e863 := fI_bd (q := 64) hT825 (tf hT825 rfl rfl) fd_8_86
  have e864 := fI_bd (q := 64) hT825 (tf hT825 rfl rfl) fd_8_87
  refine st_if_ne c260_90 (by omega) (fun k865 => ?_) (fun k866 => False.elim (by omega))
  refine st_aload c260_94 rfl ?_
  have e867 := fI_bd (q := 64) hT825 (tf hT825 rfl rfl) fd_8_77
  have q868 : fI h824 64 77 = fI h804 64 77 := Fr_fI hF826 (tf hT805 rfl rfl) (by decide +kernel)
  have e869 := fI_bd (q := 64) hT825 (tf hT825 rfl rfl) fd_8_93
  have q870 : fI h824 64 93 = fI h 64 93 := (Fr_fI hF826 (tf hT805 rfl rfl) (by decide +kernel)).trans (Fr_fI hF806 (tf hT rfl rfl) (by decide +kernel))
  have e871 := fI_bd (q := 64) hT825 (tf hT825 rfl rfl) fd_8_92
  have q872 : fI h824 64 92 = fI h 64 92 := (Fr_fI hF826 (tf hT805 rfl rfl) (by decide +kernel)).trans (Fr_fI hF806 (tf hT rfl rfl) (by decide +kernel))
  have e873 := fI_bd (q := 64) hT825 (tf hT825 rfl rfl) fd_8_88
  refine st_callt (as := []) c260_95 cm_262 hT825 (tf hT825 rfl rfl) fd_8_0 rfl rfl rfl rfl (by omega) ((pre5 (by omega)) hT825 (Stb_mono hS (by decide +kernel)) (by omega) (by omega) (by omega) (by omega) (by omega) (by omega) pf842 (d - 1) (by omega) _ (fun v h0 H => H)) (fun v1 h874 H => ?_)
  obtain ⟨rfl, pf877, pf878, pf879, pf880, pf881, pf882, pf883, pf884, pf885, pf886, pf887, pf888, hT875, hF876⟩ := H
  have hF889 := Fr_cp hF860 hF876 (by decide +kernel : Wsub Wp12 Wp12 = true)
  have e890 := fI_bd (q := 64) hT875 (tf hT875 rfl rfl) fd_8_86
  have e891 := fI_bd (q := 64) hT875 (tf hT875 rfl rfl) fd_8_87
  have e892 := fI_bd (q := 64) hT875 (tf hT875 rfl rfl) fd_8_88
  have e893 := fI_bd (q := 64) hT875 (tf hT875 rfl rfl) fd_8_90
  have e894 := fI_bd (q := 64) hT875 (tf hT875 rfl rfl) fd_8_93
  have e895 := fI_bd (q := 64) hT875 (tf hT875 rfl rfl) fd_8_91
  rcases pf888 with ⟨b896, pr897, e898, cu899⟩ | ⟨i900, pr901, e902, g903⟩
  have cf904 := CU_F cu899
  have ct905 := CU_t cu899 (c := 44) (by decide) (by decide) (by decide)
  refine st_aload c260_98 rfl ?_
  refine st_getI c260_99 hT875 (tf hT875 rfl rfl) fd_8_90 (fun e906 e907 => ?_)
  refine st_if_ge c260_102 (by omega) (fun k908 => False.elim (by omega)) (fun k909 => ?_)
  refine st_aload c260_105 rfl ?_
  refine st_iconst c260_106 ?_
  have e910 := fI_bd (q := 64) hT875 (tf hT875 rfl rfl) fd_8_77
  have q911 : fI h874 64 77 = fI h824 64 77 := Fr_fI hF876 (tf hT825 rfl rfl) (by decide +kernel)
  refine st_callt (as := [vI 44]) c260_108 cm_256 hT875 (tf hT875 rfl rfl) fd_8_0 rfl rfl rfl rfl (by omega) (K256 hT875 (Stb_mono hS (by decide +kernel)) 44 (by omega) (by omega) cu899 (d - 1) (by omega) _ (fun v h0 H => H)) (fun v1 h912 H => ?_)
  rcases H with ⟨rfl, pf915, pf916, pf917, pf918, pf919, pf920, hT913, hF914⟩ | ⟨rfl, pf921, pf922, pf923, pf924, pf925, pf926, pf927, hT913, hF914⟩
  have hF928 := Fr_cp hF889 hF914 (by decide +kernel : Wsub W256 Wp12 = true)
  have e929 := fI_bd (q := 64) hT913 (tf hT913 rfl rfl) fd_8_90
  have e930 := fI_bd (q := 64) hT913 (tf hT913 rfl rfl) fd_8_86
  have e931 := fI_bd (q := 64) hT913 (tf hT913 rfl rfl) fd_8_87
  have e932 := fI_bd (q := 64) hT913 (tf hT913 rfl rfl) fd_8_88
  refine st_if_ne c260_111 (by omega) (fun k933 => False.elim (by omega)) (fun k934 => ?_)
  refine st_return c260_114 ?_
  have e935 := fI_bd (q := 64) hT913 (tf hT913 rfl rfl) fd_8_93
  have q936 : fI h912 64 93 = fI h874 64 93 := Fr_fI hF914 (tf hT875 rfl rfl) (by decide +kernel)
  have e937 := fI_bd (q := 64) hT913 (tf hT913 rfl rfl) fd_8_91
  have q938 : fI h912 64 91 = fI h874 64 91 := Fr_fI hF914 (tf hT875 rfl rfl) (by decide +kernel)
  have fr939 : ∀ i : Int, 0 ≤ i → i < 220 * fI h 64 92 + fI h 64 93 → aI h912 129 i = aI h 129 i := fun i a b => ((Fr_aI hF914 (tf hT875 rfl rfl) (by decide +kernel) i)).trans (((pf885 i a (by omega))).trans (((Fr_aI hF826 (tf hT805 rfl rfl) (by decide +kernel) i)).trans ((Fr_aI hF806 (tf hT rfl rfl) (by decide +kernel) i))))
  have fr940 : ∀ i : Int, 0 ≤ i → i < 220 * fI h 64 92 + fI h 64 93 → aI h912 130 i = aI h 130 i := fun i a b => ((Fr_aI hF914 (tf hT875 rfl rfl) (by decide +kernel) i)).trans (((pf886 i a (by omega))).trans (((Fr_aI hF826 (tf hT805 rfl rfl) (by decide +kernel) i)).trans ((Fr_aI hF806 (tf hT rfl rfl) (by decide +kernel) i))))
  have e941 := fI_bd (q := 64) hT913 (tf hT913 rfl rfl) fd_8_92
  have q942 : fI h912 64 92 = fI h824 64 92 := (Fr_fI hF914 (tf hT875 rfl rfl) (by decide +kernel)).trans (Fr_fI hF876 (tf hT825 rfl rfl) (by decide +kernel))
  have e944 := fI_bd (q := 64) hT (tf hT rfl rfl) fd_8_90
  have e945 := fI_bd (q := 64) hT (tf hT rfl rfl) fd_8_91
  exact hQ _ _ ⟨rfl, by omega, by omega, by omega, by omega, by omega, by omega, by omega, by omega, fr939, fr940, (Or.inl (by omega)), RM_no (P2_p2 (by omega) (by omega) (by omega) pr897 (by omega)) (by omega) (by omega), hT913, hF928⟩
  have hF946 := Fr_cp hF889 hF914 (by decide +kernel : Wsub W256 Wp12 = true)
  have e947 := fI_bd (q := 64) hT913 (tf hT913 rfl rfl) fd_8_90
  have e948 := fI_bd (q := 64) hT913 (tf hT913 rfl rfl) fd_8_86
  have e949 := fI_bd (q := 64) hT913 (tf hT913 rfl rfl) fd_8_87
  refine st_if_ne c260_111 (by omega) (fun k950 => ?_) (fun k951 => False.elim (by omega))
  refine st_aload c260_115 rfl ?_
  have e952 := fI_bd (q := 64) hT913 (tf hT913 rfl rfl) fd_8_77
  have q953 : fI h912 64 77 = fI h874 64 77 := Fr_fI hF914 (tf hT875 rfl rfl) (by decide +kernel)
  have e954 := fI_bd (q := 64) hT913 (tf hT913 rfl rfl) fd_8_93
  have q955 : fI h912 64 93 = fI h874 64 93 := Fr_fI hF914 (tf hT875 rfl rfl) (by decide +kernel)
  have e956 := fI_bd (q := 64) hT913 (tf hT913 rfl rfl) fd_8_91
  have q957 : fI h912 64 91 = fI h874 64 91 := Fr_fI hF914 (tf hT875 rfl rfl) (by decide +kernel)
  have e958 := fI_bd (q := 64) hT913 (tf hT913 rfl rfl) fd_8_92
  have q959 : fI h912 64 92 = fI h824 64 92 := (Fr_fI hF914 (tf hT875 rfl rfl) (by decide +kernel)).trans (Fr_fI hF876 (tf hT825 rfl rfl) (by decide +kernel))
  have e960 := fI_bd (q := 64) hT913 (tf hT913 rfl rfl) fd_8_88
  refine st_callt (as := []) c260_116 cm_262 hT913 (tf hT913 rfl rfl) fd_8_0 rfl rfl rfl rfl (by omega) ((pre5 (by omega)) hT913 (Stb_mono hS (by decide +kernel)) (by omega) (by omega) (by omega) (by omega) (by omega) (by omega) pf927 (d - 1) (by omega) _ (fun v h0 H => H)) (fun v1 h961 H => ?_)
  obtain ⟨rfl, pf964, pf965, pf966, pf967, pf968, pf969, pf970, pf971, pf972, pf973, pf974, pf975, hT962, hF963⟩ := H
  have hF976 := Fr_cp hF946 hF963 (by decide +kernel : Wsub Wp12 Wp12 = true)
  have e977 := fI_bd (q := 64) hT962 (tf hT962 rfl rfl) fd_8_86
  have e978 := fI_bd (q := 64) hT962 (tf hT962 rfl rfl) fd_8_87
  have e979 := fI_bd (q := 64) hT962 (tf hT962 rfl rfl) fd_8_88
  have e980 := fI_bd (q := 64) hT962 (tf hT962 rfl rfl) fd_8_90
  have e981 := fI_bd (q := 64) hT962 (tf hT962 rfl rfl) fd_8_93
  have e982 := fI_bd (q := 64) hT962 (tf hT962 rfl rfl) fd_8_91
  rcases pf975 with ⟨b983, pr984, e985, cu986⟩ | ⟨i987, pr988, e989, g990⟩
  have cf991 := CU_F cu986
  have ct992 := CU_t cu986 (c := 41) (by decide) (by decide) (by decide)
  refine st_aload c260_119 rfl ?_
  refine st_getI c260_120 hT962 (tf hT962 rfl rfl) fd_8_90 (fun e993 e994 => ?_)
  refine st_if_ge c260_123 (by omega) (fun k995 => False.elim (by omega)) (fun k996 => ?_)
  refine st_aload c260_126 rfl ?_
  have e997 := fI_bd (q := 64) hT962 (tf hT962 rfl rfl) fd_8_77
  have q998 : fI h961 64 77 = fI h912 64 77 := Fr_fI hF963 (tf hT913 rfl rfl) (by decide +kernel)
  refine st_callt (as := []) c260_127 cm_258 hT962 (tf hT962 rfl rfl) fd_8_0 rfl rfl rfl rfl (by omega) (K258 hT962 (Stb_mono hS (by decide +kernel)) (by omega) (by omega) cu986 (d - 1) (by omega) _ (fun v h0 H => H)) (fun v1 h999 H => ?_)
  rcases H with ⟨rfl, pf1002, pf1003, pf1004, pf1005, pf1006, pf1007, pf1008, hT1000, hF1001⟩ | ⟨rfl, pf1009, pf1010, pf1011, pf1012, pf1013, pf1014, pf1015, pf1016, hT1000, hF1001⟩
  have hF1017 := Fr_cp hF976 hF1001 (by decide +kernel : Wsub W258 Wp12 = true)
  have e1018 := fI_bd (q := 64) hT1000 (tf hT1000 rfl rfl) fd_8_90
  have e1019 := fI_bd (q := 64) hT1000 (tf hT1000 rfl rfl) fd_8_91
  have e1020 := fI_bd (q := 64) hT1000 (tf hT1000 rfl rfl) fd_8_86
  have e1021 := fI_bd (q := 64) hT1000 (tf hT1000 rfl rfl) fd_8_87
  have e1022 := fI_bd (q := 64) hT1000 (tf hT1000 rfl rfl) fd_8_88
  refine st_if_ne c260_130 (by omega) (fun k1023 => False.elim (by omega)) (fun k1024 => ?_)
  refine st_return c260_133 ?_
  have e1025 := fI_bd (q := 64) hT1000 (tf hT1000 rfl rfl) fd_8_93
  have q1026 : fI h999 64 93 = fI h961 64 93 := Fr_fI hF1001 (tf hT962 rfl rfl) (by decide +kernel)
  have fr1027 : ∀ i : Int, 0 ≤ i → i < 220 * fI h 64 92 + fI h 64 93 → aI h999 129 i = aI h 129 i := fun i a b => ((Fr_aI hF1001 (tf hT962 rfl rfl) (by decide +kernel) i)).trans (((pf972 i a (by omega))).trans (((Fr_aI hF914 (tf hT875 rfl rfl) (by decide +kernel) i)).trans (((pf885 i a (by omega))).trans (((Fr_aI hF826 (tf hT805 rfl rfl) (by decide +kernel) i)).trans ((Fr_aI hF806 (tf hT rfl rfl) (by decide +kernel) i))))))
  have fr1028 : ∀ i : Int, 0 ≤ i → i < 220 * fI h 64 92 + fI h 64 93 → aI h999 130 i = aI h 130 i := fun i a b => ((Fr_aI hF1001 (tf hT962 rfl rfl) (by decide +kernel) i)).trans (((pf973 i a (by omega))).trans (((Fr_aI hF914 (tf hT875 rfl rfl) (by decide +kernel) i)).trans (((pf886 i a (by omega))).trans (((Fr_aI hF826 (tf hT805 rfl rfl) (by decide +kernel) i)).trans ((Fr_aI hF806 (tf hT rfl rfl) (by decide +kernel) i))))))
  have e1029 := fI_bd (q := 64) hT1000 (tf hT1000 rfl rfl) fd_8_92
  have q1030 : fI h999 64 92 = fI h912 64 92 := (Fr_fI hF1001 (tf hT962 rfl rfl) (by decide +kernel)).trans (Fr_fI hF963 (tf hT913 rfl rfl) (by decide +kernel))
  have e1032 := fI_bd (q := 64) hT (tf hT rfl rfl) fd_8_90
  have e1033 := fI_bd (q := 64) hT (tf hT rfl rfl) fd_8_91
  exact hQ _ _ ⟨rfl, by omega, by omega, by omega, by omega, by omega, by omega, by omega, by omega, fr1027, fr1028, (Or.inl (by omega)), RM_no (P2_p4 (by omega) (by omega) (by omega) pr897 (by omega) pr984 (by omega)) (by omega) (by omega), hT1000, hF1017⟩
  have hF1034 := Fr_cp hF976 hF1001 (by decide +kernel : Wsub W258 Wp12 = true)
  have e1035 := fI_bd (q := 64) hT1000 (tf hT1000 rfl rfl) fd_8_90
  have e1036 := fI_bd (q := 64) hT1000 (tf hT1000 rfl rfl) fd_8_91
  have e1037 := fI_bd (q := 64) hT1000 (tf hT1000 rfl rfl) fd_8_86
  have e1038 := fI_bd (q := 64) hT1000 (tf hT1000 rfl rfl) fd_8_87
  refine st_if_ne c260_130 (by omega) (fun k1039 => ?_) (fun k1040 => False.elim (by omega))
  refine st_aload c260_134 rfl ?_
  refine st_iload c260_135 rfl ?_
  refine st_iconst c260_136 ?_
  refine st_iconst c260_137 ?_
  have e1041 := fI_bd (q := 64) hT1000 (tf hT1000 rfl rfl) fd_8_93
  have q1042 : fI h999 64 93 = fI h961 64 93 := Fr_fI hF1001 (tf hT962 rfl rfl) (by decide +kernel)
  have e1043 := fI_bd (q := 64) hT1000 (tf hT1000 rfl rfl) fd_8_92
  have q1044 : fI h999 64 92 = fI h912 64 92 := (Fr_fI hF1001 (tf hT962 rfl rfl) (by decide +kernel)).trans (Fr_fI hF963 (tf hT913 rfl rfl) (by decide +kernel))
  refine st_callt (as := [vI 6, vI 0, vI 0]) c260_138 cm_255 hT1000 (tf hT1000 rfl rfl) fd_8_0 rfl rfl rfl rfl (by omega) (K255 hT1000 (Stb_mono hS (by decide +kernel)) 6 (by omega) 0 (by omega) 0 (by omega) (by omega) (d - 1) (by omega) _ (fun v h0 H => H)) (fun v1 h1045 H => ?_)
  obtain ⟨rfl, pf1048, pf1049, pf1050, pf1051, pf1052, hT1046, hF1047⟩ := H
  have hF1053 := Fr_cp hF1034 hF1047 (by decide +kernel : Wsub W255 Wp12 = true)
  have e1054 := fI_bd (q := 64) hT1046 (tf hT1046 rfl rfl) fd_8_93
  refine st_return c260_141 ?_
  have e1055 := fI_bd (q := 64) hT1046 (tf hT1046 rfl rfl) fd_8_86
  have q1056 : fI h1045 64 86 = fI h999 64 86 := Fr_fI hF1047 (tf hT1000 rfl rfl) (by decide +kernel)
  have e1057 := fI_bd (q := 64) hT1046 (tf hT1046 rfl rfl) fd_8_87
  have q1058 : fI h1045 64 87 = fI h999 64 87 := Fr_fI hF1047 (tf hT1000 rfl rfl) (by decide +kernel)
  have e1059 := fI_bd (q := 64) hT1046 (tf hT1046 rfl rfl) fd_8_88
  have q1060 : fI h1045 64 88 = fI h999 64 88 := Fr_fI hF1047 (tf hT1000 rfl rfl) (by decide +kernel)
  have e1061 := fI_bd (q := 64) hT1046 (tf hT1046 rfl rfl) fd_8_90
  have q1062 : fI h1045 64 90 = fI h999 64 90 := Fr_fI hF1047 (tf hT1000 rfl rfl) (by decide +kernel)
  have e1063 := fI_bd (q := 64) hT1046 (tf hT1046 rfl rfl) fd_8_91
  have q1064 : fI h1045 64 91 = fI h999 64 91 := Fr_fI hF1047 (tf hT1000 rfl rfl) (by decide +kernel)
  have fr1065 : ∀ i : Int, 0 ≤ i → i < 220 * fI h 64 92 + fI h 64 93 → aI h1045 129 i = aI h 129 i := fun i a b => ((pf1051 i a (by omega))).trans (((Fr_aI hF1001 (tf hT962 rfl rfl) (by decide +kernel) i)).trans (((pf972 i a (by omega))).trans (((Fr_aI hF914 (tf hT875 rfl rfl) (by decide +kernel) i)).trans (((pf885 i a (by omega))).trans (((Fr_aI hF826 (tf hT805 rfl rfl) (by decide +kernel) i)).trans ((Fr_aI hF806 (tf hT rfl rfl) (by decide +kernel) i)))))))
  have fr1066 : ∀ i : Int, 0 ≤ i → i < 220 * fI h 64 92 + fI h 64 93 → aI h1045 130 i = aI h 130 i := fun i a b => ((pf1052 i a (by omega))).trans (((Fr_aI hF1001 (tf hT962 rfl rfl) (by decide +kernel) i)).trans (((pf973 i a (by omega))).trans (((Fr_aI hF914 (tf hT875 rfl rfl) (by decide +kernel) i)).trans (((pf886 i a (by omega))).trans (((Fr_aI hF826 (tf hT805 rfl rfl) (by decide +kernel) i)).trans ((Fr_aI hF806 (tf hT rfl rfl) (by decide +kernel) i)))))))
  have e1067 := fI_bd (q := 64) hT1046 (tf hT1046 rfl rfl) fd_8_92
  have q1068 : fI h1045 64 92 = fI h999 64 92 := Fr_fI hF1047 (tf hT1000 rfl rfl) (by decide +kernel)
  have g1070 := (pf887).resolve_left (by omega)
  have fr1071 : ∀ i : Int, 0 ≤ i → i < 220 * fI h824 64 92 + fI h824 64 93 + (fI h874 64 93 - fI h824 64 93) → aI h1045 129 i = aI h874 129 i := fun i a b => ((pf1051 i a (by omega))).trans (((Fr_aI hF1001 (tf hT962 rfl rfl) (by decide +kernel) i)).trans (((pf972 i a (by omega))).trans ((Fr_aI hF914 (tf hT875 rfl rfl) (by decide +kernel) i))))
  have fr1072 : ∀ i : Int, 0 ≤ i → i < 220 * fI h824 64 92 + fI h824 64 93 + (fI h874 64 93 - fI h824 64 93) → aI h1045 130 i = aI h874 130 i := fun i a b => ((pf1052 i a (by omega))).trans (((Fr_aI hF1001 (tf hT962 rfl rfl) (by decide +kernel) i)).trans (((pf973 i a (by omega))).trans ((Fr_aI hF914 (tf hT875 rfl rfl) (by decide +kernel) i))))
  have g1073 : Sg h1045 (220 * fI h824 64 92 + fI h824 64 93) (fI h874 64 93 - fI h824 64 93) := Sg_mv g1070 (fun i a b => ⟨fr1071 i (by omega) (by omega), fr1072 i (by omega) (by omega)⟩)
  have g1074 := (pf974).resolve_left (by omega)
  have fr1075 : ∀ i : Int, 0 ≤ i → i < 220 * fI h912 64 92 + fI h912 64 93 + (fI h961 64 93 - fI h912 64 93) → aI h1045 129 i = aI h961 129 i := fun i a b => ((pf1051 i a (by omega))).trans ((Fr_aI hF1001 (tf hT962 rfl rfl) (by decide +kernel) i))
  have fr1076 : ∀ i : Int, 0 ≤ i → i < 220 * fI h912 64 92 + fI h912 64 93 + (fI h961 64 93 - fI h912 64 93) → aI h1045 130 i = aI h961 130 i := fun i a b => ((pf1052 i a (by omega))).trans ((Fr_aI hF1001 (tf hT962 rfl rfl) (by decide +kernel) i))
  have g1077 : Sg h1045 (220 * fI h912 64 92 + fI h912 64 93) (fI h961 64 93 - fI h912 64 93) := Sg_mv g1074 (fun i a b => ⟨fr1075 i (by omega) (by omega), fr1076 i (by omega) (by omega)⟩)
  have a1 : aI h1045 129 (220 * fI h999 64 92 + fI h999 64 93) = 6 := (rfl).trans pf1049
  have k1 : Sg h1045 (220 * fI h 64 92 + fI h 64 93) (fI h874 64 93 - fI h824 64 93) := by rw [show 220 * fI h 64 92 + fI h 64 93 = 220 * fI h824 64 92 + fI h824 64 93 by omega]; exact g1073
  have k2 : Sg h1045 (220 * fI h 64 92 + fI h 64 93 + (fI h874 64 93 - fI h824 64 93)) (fI h961 64 93 - fI h912 64 93) := by rw [show 220 * fI h 64 92 + fI h 64 93 + (fI h874 64 93 - fI h824 64 93) = 220 * fI h912 64 92 + fI h912 64 93 by omega]; exact g1077
  have sg1069 : 0 ≤ fI h1045 64 90 ∨ Sg h1045 (220 * fI h 64 92 + fI h 64 93) (fI h1045 64 93 - fI h 64 93) := Or.inr (by
    rw [show fI h1045 64 93 - fI h 64 93 = (fI h874 64 93 - fI h824 64 93) + (fI h961 64 93 - fI h912 64 93) + 1 by omega]
    exact Sg_op k1 k2 (by rw [show 220 * fI h 64 92 + fI h 64 93 + (fI h874 64 93 - fI h824 64 93) + (fI h961 64 93 - fI h912 64 93) = 220 * fI h999 64 92 + fI h999 64 93 by omega, a1]; omega))
  have e1078 := fI_bd (q := 64) hT (tf hT rfl rfl) fd_8_90
  have e1079 := fI_bd (q := 64) hT (tf hT rfl rfl) fd_8_91
  exact hQ _ _ ⟨rfl, by omega, by omega, by omega, by omega, by omega, by omega, by omega, by omega, fr1065, fr1066, sg1069, RM_ok (P2_p5 (by omega) (by omega) (by omega) pr897 (by omega) pr984 (by omega)) (by omega) (CU_fr pf1016 hT1000 hF1047 (by decide +kernel)), hT1046, hF1053⟩
  refine st_aload c260_119 rfl ?_
  refine st_getI c260_120 hT962 (tf hT962 rfl rfl) fd_8_90 (fun e1080 e1081 => ?_)
  refine st_if_ge c260_123 (by omega) (fun k1082 => ?_) (fun k1083 => False.elim (by omega))
  refine st_return c260_133 ?_
  have fr1084 : ∀ i : Int, 0 ≤ i → i < 220 * fI h 64 92 + fI h 64 93 → aI h961 129 i = aI h 129 i := fun i a b => ((pf972 i a (by omega))).trans (((Fr_aI hF914 (tf hT875 rfl rfl) (by decide +kernel) i)).trans (((pf885 i a (by omega))).trans (((Fr_aI hF826 (tf hT805 rfl rfl) (by decide +kernel) i)).trans ((Fr_aI hF806 (tf hT rfl rfl) (by decide +kernel) i)))))
  have fr1085 : ∀ i : Int, 0 ≤ i → i < 220 * fI h 64 92 + fI h 64 93 → aI h961 130 i = aI h 130 i := fun i a b => ((pf973 i a (by omega))).trans (((Fr_aI hF914 (tf hT875 rfl rfl) (by decide +kernel) i)).trans (((pf886 i a (by omega))).trans (((Fr_aI hF826 (tf hT805 rfl rfl) (by decide +kernel) i)).trans ((Fr_aI hF806 (tf hT rfl rfl) (by decide +kernel) i)))))
  have e1086 := fI_bd (q := 64) hT962 (tf hT962 rfl rfl) fd_8_92
  have q1087 : fI h961 64 92 = fI h912 64 92 := Fr_fI hF963 (tf hT913 rfl rfl) (by decide +kernel)
  have e1089 := fI_bd (q := 64) hT (tf hT rfl rfl) fd_8_90
  have e1090 := fI_bd (q := 64) hT (tf hT rfl rfl) fd_8_91
  exact hQ _ _ ⟨rfl, by omega, by omega, by omega, by omega, by omega, by omega, by omega, by omega, fr1084, fr1085, (Or.inl (by omega)), RM_no (P2_p3 (by omega) (by omega) (by omega) pr897 (by omega) pr988) (by omega) g990, hT962, hF976⟩
  refine st_aload c260_98 rfl ?_
  refine st_getI c260_99 hT875 (tf hT875 rfl rfl) fd_8_90 (fun e1091 e1092 => ?_)
  refine st_if_ge c260_102 (by omega) (fun k1093 => ?_) (fun k1094 => False.elim (by omega))
  refine st_return c260_114 ?_
  have fr1095 : ∀ i : Int, 0 ≤ i → i < 220 * fI h 64 92 + fI h 64 93 → aI h874 129 i = aI h 129 i := fun i a b => ((pf885 i a (by omega))).trans (((Fr_aI hF826 (tf hT805 rfl rfl) (by decide +kernel) i)).trans ((Fr_aI hF806 (tf hT rfl rfl) (by decide +kernel) i)))
  have fr1096 : ∀ i : Int, 0 ≤ i → i < 220 * fI h 64 92 + fI h 64 93 → aI h874 130 i = aI h 130 i := fun i a b => ((pf886 i a (by omega))).trans (((Fr_aI hF826 (tf hT805 rfl rfl) (by decide +kernel) i)).trans ((Fr_aI hF806 (tf hT rfl rfl) (by decide +kernel) i)))
  have e1097 := fI_bd (q := 64) hT875 (tf hT875 rfl rfl) fd_8_92
  have q1098 : fI h874 64 92 = fI h824 64 92 := Fr_fI hF876 (tf hT825 rfl rfl) (by decide +kernel)
  have e1100 := fI_bd (q := 64) hT (tf hT rfl rfl) fd_8_90
  have e1101 := fI_bd (q := 64) hT (tf hT rfl rfl) fd_8_91
  exact hQ _ _ ⟨rfl, by omega, by omega, by omega, by omega, by omega, by omega, by omega, by omega, fr1095, fr1096, (Or.inl (by omega)), RM_no (P2_p1 (by omega) (by omega) (by omega) pr901) (by omega) g903, hT875, hF889⟩
  have wq1102 := (WH_c (v := Int64.ofInt 6476969) (k := 17) (by decide +kernel) hT pre7 (by decide)).mp pf799
  refine st_if_eq c260_72 (by omega) (fun k1103 => False.elim (by omega)) (fun k1104 => ?_)
  refine st_iconst c260_75 ?_
  refine st_goto c260_76 ?_
  refine st_istore (L' := [some (.ref 64), some (vI 5)]) c260_81 rfl rfl ?_
  refine st_aload c260_82 rfl ?_
  have e1105 := fI_bd (q := 64) hT (tf hT rfl rfl) fd_8_77
  refine st_callt (as := []) c260_83 cm_252 hT (tf hT rfl rfl) fd_8_0 rfl rfl rfl rfl (by omega) (K252 hT (Stb_mono hS (by decide +kernel)) (by omega) (CU_nx pre7) (d - 1) (by omega) _ (fun v h0 H => H)) (fun v1 h1106 H => ?_)
  obtain ⟨rfl, pf1109, pf1110, pf1111, pf1112, pf1113, hT1107, hF1108⟩ := H
  have hF1114 := Fr_cp hF hF1108 (by decide +kernel : Wsub W252 Wp12 = true)
  have e1115 := fI_bd (q := 64) hT1107 (tf hT1107 rfl rfl) fd_8_86
  have e1116 := fI_bd (q := 64) hT1107 (tf hT1107 rfl rfl) fd_8_87
  have e1117 := fI_bd (q := 64) hT1107 (tf hT1107 rfl rfl) fd_8_88
  refine st_aload c260_86 rfl ?_
  have cf1118 := CU_F pf1113
  have ct1119 := CU_t pf1113 (c := 40) (by decide) (by decide) (by decide)
  have e1120 := fI_bd (q := 64) hT1107 (tf hT1107 rfl rfl) fd_8_91
  have q1121 : fI h1106 64 91 = fI h 64 91 := Fr_fI hF1108 (tf hT rfl rfl) (by decide +kernel)
  have e1122 := fI_bd (q := 64) hT1107 (tf hT1107 rfl rfl) fd_8_90
  have q1123 : fI h1106 64 90 = fI h 64 90 := Fr_fI hF1108 (tf hT rfl rfl) (by decide +kernel)
  have e1124 := fI_bd (q := 64) hT1107 (tf hT1107 rfl rfl) fd_8_77
  have q1125 : fI h1106 64 77 = fI h 64 77 := Fr_fI hF1108 (tf hT rfl rfl) (by decide +kernel)
  refine st_callt (as := []) c260_87 cm_257 hT1107 (tf hT1107 rfl rfl) fd_8_0 rfl rfl rfl rfl (by omega) (K257 hT1107 (Stb_mono hS (by decide +kernel)) (by omega) pf1113 (d - 1) (by omega) _ (fun v h0 H => H)) (fun v1 h1126 H => ?_)
  rcases H with ⟨rfl, pf1129, pf1130, pf1131, pf1132, pf1133, pf1134, pf1135, hT1127, hF1128⟩ | ⟨rfl, pf1136, pf1137, pf1138, pf1139, pf1140, pf1141, pf1142, pf1143, pf1144, hT1127, hF1128⟩
  have hF1145 := Fr_cp hF1114 hF1128 (by decide +kernel : Wsub W257 Wp12 = true)
  have e1146 := fI_bd (q := 64) hT1127 (tf hT1127 rfl rfl) fd_8_90
  have e1147 := fI_bd (q := 64) hT1127 (tf hT1127 rfl rfl) fd_8_91
  have e1148 := fI_bd (q := 64) hT1127 (tf hT1127 rfl rfl) fd_8_86
  have e1149 := fI_bd (q := 64) hT1127 (tf hT1127 rfl rfl) fd_8_87
  have e1150 := fI_bd (q := 64) hT1127 (tf hT1127 rfl rfl) fd_8_88
  refine st_if_ne c260_90 (by omega) (fun k1151 => False.elim (by omega)) (fun k1152 => ?_)
  refine st_return c260_93 ?_
  have e1153 := fI_bd (q := 64) hT1127 (tf hT1127 rfl rfl) fd_8_93
  have q1154 : fI h1126 64 93 = fI h 64 93 := (Fr_fI hF1128 (tf hT1107 rfl rfl) (by decide +kernel)).trans (Fr_fI hF1108 (tf hT rfl rfl) (by decide +kernel))
  have fr1155 : ∀ i : Int, 0 ≤ i → i < 220 * fI h 64 92 + fI h 64 93 → aI h1126 129 i = aI h 129 i := fun i a b => ((Fr_aI hF1128 (tf hT1107 rfl rfl) (by decide +kernel) i)).trans ((Fr_aI hF1108 (tf hT rfl rfl) (by decide +kernel) i))
  have fr1156 : ∀ i : Int, 0 ≤ i → i < 220 * fI h 64 92 + fI h 64 93 → aI h1126 130 i = aI h 130 i := fun i a b => ((Fr_aI hF1128 (tf hT1107 rfl rfl) (by decide +kernel) i)).trans ((Fr_aI hF1108 (tf hT rfl rfl) (by decide +kernel) i))
  have e1157 := fI_bd (q := 64) hT1127 (tf hT1127 rfl rfl) fd_8_92
  have q1158 : fI h1126 64 92 = fI h 64 92 := (Fr_fI hF1128 (tf hT1107 rfl rfl) (by decide +kernel)).trans (Fr_fI hF1108 (tf hT rfl rfl) (by decide +kernel))
  have e1160 := fI_bd (q := 64) hT (tf hT rfl rfl) fd_8_90
  have e1161 := fI_bd (q := 64) hT (tf hT rfl rfl) fd_8_91
  exact hQ _ _ ⟨rfl, by omega, by omega, by omega, by omega, by omega, by omega, by omega, by omega, fr1155, fr1156, (Or.inl (by omega)), RM_no (P2_pf (by omega) (by omega)) (by omega) (by omega), hT1127, hF1145⟩
  have hF1162 := Fr_cp hF1114 hF1128 (by decide +kernel : Wsub W257 Wp12 = true)
  have e1163 := fI_bd (q := 64) hT1127 (tf hT1127 rfl rfl) fd_8_90
  have e1164 := fI_bd (q := 64) hT1127 (tf hT1127 rfl rfl) fd_8_91
  have e1165 := fI_bd (q := 64) hT1127 (tf hT1127 rfl rfl) fd_8_86
  have e1166 := fI_bd (q := 64) hT1127 (tf hT1127 rfl rfl) fd_8_87
  refine st_if_ne c260_90 (by omega) (fun k1167 => ?_) (fun k1168 => False.elim (by omega))
  refine st_aload c260_94 rfl ?_
  have e1169 := fI_bd (q := 64) hT1127 (tf hT1127 rfl rfl) fd_8_77
  have q1170 : fI h1126 64 77 = fI h1106 64 77 := Fr_fI hF1128 (tf hT1107 rfl rfl) (by decide +kernel)
  have e1171 := fI_bd (q := 64) hT1127 (tf hT1127 rfl rfl) fd_8_93
  have q1172 : fI h1126 64 93 = fI h 64 93 := (Fr_fI hF1128 (tf hT1107 rfl rfl) (by decide +kernel)).trans (Fr_fI hF1108 (tf hT rfl rfl) (by decide +kernel))
  have e1173 := fI_bd (q := 64) hT1127 (tf hT1127 rfl rfl) fd_8_92
  have q1174 : fI h1126 64 92 = fI h 64 92 := (Fr_fI hF1128 (tf hT1107 rfl rfl) (by decide +kernel)).trans (Fr_fI hF1108 (tf hT rfl rfl) (by decide +kernel))
  have e1175 := fI_bd (q := 64) hT1127 (tf hT1127 rfl rfl) fd_8_88
  refine st_callt (as := []) c260_95 cm_262 hT1127 (tf hT1127 rfl rfl) fd_8_0 rfl rfl rfl rfl (by omega) ((pre5 (by omega)) hT1127 (Stb_mono hS (by decide +kernel)) (by omega) (by omega) (by omega) (by omega) (by omega) (by omega) pf1144 (d - 1) (by omega) _ (fun v h0 H => H)) (fun v1 h1176 H => ?_)
  obtain ⟨rfl, pf1179, pf1180, pf1181, pf1182, pf1183, pf1184, pf1185, pf1186, pf1187, pf1188, pf1189, pf1190, hT1177, hF1178⟩ := H
  have hF1191 := Fr_cp hF1162 hF1178 (by decide +kernel : Wsub Wp12 Wp12 = true)
  have e1192 := fI_bd (q := 64) hT1177 (tf hT1177 rfl rfl) fd_8_86
  have e1193 := fI_bd (q := 64) hT1177 (tf hT1177 rfl rfl) fd_8_87
  have e1194 := fI_bd (q := 64) hT1177 (tf hT1177 rfl rfl) fd_8_88
  have e1195 := fI_bd (q := 64) hT1177 (tf hT1177 rfl rfl) fd_8_90
  have e1196 := fI_bd (q := 64) hT1177 (tf hT1177 rfl rfl) fd_8_93
  have e1197 := fI_bd (q := 64) hT1177 (tf hT1177 rfl rfl) fd_8_91
  rcases pf1190 with ⟨b1198, pr1199, e1200, cu1201⟩ | ⟨i1202, pr1203, e1204, g1205⟩
  have cf1206 := CU_F cu1201
  have ct1207 := CU_t cu1201 (c := 44) (by decide) (by decide) (by decide)
  refine st_aload c260_98 rfl ?_
  refine st_getI c260_99 hT1177 (tf hT1177 rfl rfl) fd_8_90 (fun e1208 e1209 => ?_)
  refine st_if_ge c260_102 (by omega) (fun k1210 => False.elim (by omega)) (fun k1211 => ?_)
  refine st_aload c260_105 rfl ?_
  refine st_iconst c260_106 ?_
  have e1212 := fI_bd (q := 64) hT1177 (tf hT1177 rfl rfl) fd_8_77
  have q1213 : fI h1176 64 77 = fI h1126 64 77 := Fr_fI hF1178 (tf hT1127 rfl rfl) (by decide +kernel)
  refine st_callt (as := [vI 44]) c260_108 cm_256 hT1177 (tf hT1177 rfl rfl) fd_8_0 rfl rfl rfl rfl (by omega) (K256 hT1177 (Stb_mono hS (by decide +kernel)) 44 (by omega) (by omega) cu1201 (d - 1) (by omega) _ (fun v h0 H => H)) (fun v1 h1214 H => ?_)
  rcases H with ⟨rfl, pf1217, pf1218, pf1219, pf1220, pf1221, pf1222, hT1215, hF1216⟩ | ⟨rfl, pf1223, pf1224, pf1225, pf1226, pf1227, pf1228, pf1229, hT1215, hF1216⟩
  have hF1230 := Fr_cp hF1191 hF1216 (by decide +kernel : Wsub W256 Wp12 = true)
  have e1231 := fI_bd (q := 64) hT1215 (tf hT1215 rfl rfl) fd_8_90
  have e1232 := fI_bd (q := 64) hT1215 (tf hT1215 rfl rfl) fd_8_86
  have e1233 := fI_bd (q := 64) hT1215 (tf hT1215 rfl rfl) fd_8_87
  have e1234 := fI_bd (q := 64) hT1215 (tf hT1215 rfl rfl) fd_8_88
  refine st_if_ne c260_111 (by omega) (fun k1235 => False.elim (by omega)) (fun k1236 => ?_)
  refine st_return c260_114 ?_
  have e1237 := fI_bd (q := 64) hT1215 (tf hT1215 rfl rfl) fd_8_93
  have q1238 : fI h1214 64 93 = fI h1176 64 93 := Fr_fI hF1216 (tf hT1177 rfl rfl) (by decide +kernel)
  have e1239 := fI_bd (q := 64) hT1215 (tf hT1215 rfl rfl) fd_8_91
  have q1240 : fI h1214 64 91 = fI h1176 64 91 := Fr_fI hF1216 (tf hT1177 rfl rfl) (by decide +kernel)
  have fr1241 : ∀ i : Int, 0 ≤ i → i < 220 * fI h 64 92 + fI h 64 93 → aI h1214 129 i = aI h 129 i := fun i a b => ((Fr_aI hF1216 (tf hT1177 rfl rfl) (by decide +kernel) i)).trans (((pf1187 i a (by omega))).trans (((Fr_aI hF1128 (tf hT1107 rfl rfl) (by decide +kernel) i)).trans ((Fr_aI hF1108 (tf hT rfl rfl) (by decide +kernel) i))))
  have fr1242 : ∀ i : Int, 0 ≤ i → i < 220 * fI h 64 92 + fI h 64 93 → aI h1214 130 i = aI h 130 i := fun i a b => ((Fr_aI hF1216 (tf hT1177 rfl rfl) (by decide +kernel) i)).trans (((pf1188 i a (by omega))).trans (((Fr_aI hF1128 (tf hT1107 rfl rfl) (by decide +kernel) i)).trans ((Fr_aI hF1108 (tf hT rfl rfl) (by decide +kernel) i))))
  have e1243 := fI_bd (q := 64) hT1215 (tf hT1215 rfl rfl) fd_8_92
  have q1244 : fI h1214 64 92 = fI h1126 64 92 := (Fr_fI hF1216 (tf hT1177 rfl rfl) (by decide +kernel)).trans (Fr_fI hF1178 (tf hT1127 rfl rfl) (by decide +kernel))
  have e1246 := fI_bd (q := 64) hT (tf hT rfl rfl) fd_8_90
  have e1247 := fI_bd (q := 64) hT (tf hT rfl rfl) fd_8_91
  exact hQ _ _ ⟨rfl, by omega, by omega, by omega, by omega, by omega, by omega, by omega, by omega, fr1241, fr1242, (Or.inl (by omega)), RM_no (P2_p2 (by omega) (by omega) (by omega) pr1199 (by omega)) (by omega) (by omega), hT1215, hF1230⟩
  have hF1248 := Fr_cp hF1191 hF1216 (by decide +kernel : Wsub W256 Wp12 = true)
  have e1249 := fI_bd (q := 64) hT1215 (tf hT1215 rfl rfl) fd_8_90
  have e1250 := fI_bd (q := 64) hT1215 (tf hT1215 rfl rfl) fd_8_86
  have e1251 := fI_bd (q := 64) hT1215 (tf hT1215 rfl rfl) fd_8_87
  refine st_if_ne c260_111 (by omega) (fun k1252 => ?_) (fun k1253 => False.elim (by omega))
  refine st_aload c260_115 rfl ?_
  have e1254 := fI_bd (q := 64) hT1215 (tf hT1215 rfl rfl) fd_8_77
  have q1255 : fI h1214 64 77 = fI h1176 64 77 := Fr_fI hF1216 (tf hT1177 rfl rfl) (by decide +kernel)
  have e1256 := fI_bd (q := 64) hT1215 (tf hT1215 rfl rfl) fd_8_93
  have q1257 : fI h1214 64 93 = fI h1176 64 93 := Fr_fI hF1216 (tf hT1177 rfl rfl) (by decide +kernel)
  have e1258 := fI_bd (q := 64) hT1215 (tf hT1215 rfl rfl) fd_8_91
  have q1259 : fI h1214 64 91 = fI h1176 64 91 := Fr_fI hF1216 (tf hT1177 rfl rfl) (by decide +kernel)
  have e1260 := fI_bd (q := 64) hT1215 (tf hT1215 rfl rfl) fd_8_92
  have q1261 : fI h1214 64 92 = fI h1126 64 92 := (Fr_fI hF1216 (tf hT1177 rfl rfl) (by decide +kernel)).trans (Fr_fI hF1178 (tf hT1127 rfl rfl) (by decide +kernel))
  have e1262 := fI_bd (q := 64) hT1215 (tf hT1215 rfl rfl) fd_8_88
  refine st_callt (as := []) c260_116 cm_262 hT1215 (tf hT1215 rfl rfl) fd_8_0 rfl rfl rfl rfl (by omega) ((pre5 (by omega)) hT1215 (Stb_mono hS (by decide +kernel)) (by omega) (by omega) (by omega) (by omega) (by omega) (by omega) pf1229 (d - 1) (by omega) _ (fun v h0 H => H)) (fun v1 h1263 H => ?_)
  obtain ⟨rfl, pf1266, pf1267, pf1268, pf1269, pf1270, pf1271, pf1272, pf1273, pf1274, pf1275, pf1276, pf1277, hT1264, hF1265⟩ := H
  have hF1278 := Fr_cp hF1248 hF1265 (by decide +kernel : Wsub Wp12 Wp12 = true)
  have e1279 := fI_bd (q := 64) hT1264 (tf hT1264 rfl rfl) fd_8_86
  have e1280 := fI_bd (q := 64) hT1264 (tf hT1264 rfl rfl) fd_8_87
  have e1281 := fI_bd (q := 64) hT1264 (tf hT1264 rfl rfl) fd_8_88
  have e1282 := fI_bd (q := 64) hT1264 (tf hT1264 rfl rfl) fd_8_90
  have e1283 := fI_bd (q := 64) hT1264 (tf hT1264 rfl rfl) fd_8_93
  have e1284 := fI_bd (q := 64) hT1264 (tf hT1264 rfl rfl) fd_8_91
  rcases pf1277 with ⟨b1285, pr1286, e1287, cu1288⟩ | ⟨i1289, pr1290, e1291, g1292⟩
  have cf1293 := CU_F cu1288
  have ct1294 := CU_t cu1288 (c := 41) (by decide) (by decide) (by decide)
  refine st_aload c260_119 rfl ?_
  refine st_getI c260_120 hT1264 (tf hT1264 rfl rfl) fd_8_90 (fun e1295 e1296 => ?_)
  refine st_if_ge c260_123 (by omega) (fun k1297 => False.elim (by omega)) (fun k1298 => ?_)
  refine st_aload c260_126 rfl ?_
  have e1299 := fI_bd (q := 64) hT1264 (tf hT1264 rfl rfl) fd_8_77
  have q1300 : fI h1263 64 77 = fI h1214 64 77 := Fr_fI hF1265 (tf hT1215 rfl rfl) (by decide +kernel)
  refine st_callt (as := []) c260_127 cm_258 hT1264 (tf hT1264 rfl rfl) fd_8_0 rfl rfl rfl rfl (by omega) (K258 hT1264 (Stb_mono hS (by decide +kernel)) (by omega) (by omega) cu1288 (d - 1) (by omega) _ (fun v h0 H => H)) (fun v1 h1301 H => ?_)
  rcases H with ⟨rfl, pf1304, pf1305, pf1306, pf1307, pf1308, pf1309, pf1310, hT1302, hF1303⟩ | ⟨rfl, pf1311, pf1312, pf1313, pf1314, pf1315, pf1316, pf1317, pf1318, hT1302, hF1303⟩
  have hF1319 := Fr_cp hF1278 hF1303 (by decide +kernel : Wsub W258 Wp12 = true)
  have e1320 := fI_bd (q := 64) hT1302 (tf hT1302 rfl rfl) fd_8_90
  have e1321 := fI_bd (q := 64) hT1302 (tf hT1302 rfl rfl) fd_8_91
  have e1322 := fI_bd (q := 64) hT1302 (tf hT1302 rfl rfl) fd_8_86
  have e1323 := fI_bd (q := 64) hT1302 (tf hT1302 rfl rfl) fd_8_87
  have e1324 := fI_bd (q := 64) hT1302 (tf hT1302 rfl rfl) fd_8_88
  refine st_if_ne c260_130 (by omega) (fun k1325 => False.elim (by omega)) (fun k1326 => ?_)
  refine st_return c260_133 ?_
  have e1327 := fI_bd (q := 64) hT1302 (tf hT1302 rfl rfl) fd_8_93
  have q1328 : fI h1301 64 93 = fI h1263 64 93 := Fr_fI hF1303 (tf hT1264 rfl rfl) (by decide +kernel)
  have fr1329 : ∀ i : Int, 0 ≤ i → i < 220 * fI h 64 92 + fI h 64 93 → aI h1301 129 i = aI h 129 i := fun i a b => ((Fr_aI hF1303 (tf hT1264 rfl rfl) (by decide +kernel) i)).trans (((pf1274 i a (by omega))).trans (((Fr_aI hF1216 (tf hT1177 rfl rfl) (by decide +kernel) i)).trans (((pf1187 i a (by omega))).trans (((Fr_aI hF1128 (tf hT1107 rfl rfl) (by decide +kernel) i)).trans ((Fr_aI hF1108 (tf hT rfl rfl) (by decide +kernel) i))))))
  have fr1330 : ∀ i : Int, 0 ≤ i → i < 220 * fI h 64 92 + fI h 64 93 → aI h1301 130 i = aI h 130 i := fun i a b => ((Fr_aI hF1303 (tf hT1264 rfl rfl) (by decide +kernel) i)).trans (((pf1275 i a (by omega))).trans (((Fr_aI hF1216 (tf hT1177 rfl rfl) (by decide +kernel) i)).trans (((pf1188 i a (by omega))).trans (((Fr_aI hF1128 (tf hT1107 rfl rfl) (by decide +kernel) i)).trans ((Fr_aI hF1108 (tf hT rfl rfl) (by decide +kernel) i))))))
  have e1331 := fI_bd (q := 64) hT1302 (tf hT1302 rfl rfl) fd_8_92
  have q1332 : fI h1301 64 92 = fI h1214 64 92 := (Fr_fI hF1303 (tf hT1264 rfl rfl) (by decide +kernel)).trans (Fr_fI hF1265 (tf hT1215 rfl rfl) (by decide +kernel))
  have e1334 := fI_bd (q := 64) hT (tf hT rfl rfl) fd_8_90
  have e1335 := fI_bd (q := 64) hT (tf hT rfl rfl) fd_8_91
  exact hQ _ _ ⟨rfl, by omega, by omega, by omega, by omega, by omega, by omega, by omega, by omega, fr1329, fr1330, (Or.inl (by omega)), RM_no (P2_p4 (by omega) (by omega) (by omega) pr1199 (by omega) pr1286 (by omega)) (by omega) (by omega), hT1302, hF1319⟩
  have hF1336 := Fr_cp hF1278 hF1303 (by decide +kernel : Wsub W258 Wp12 = true)
  have e1337 := fI_bd (q := 64) hT1302 (tf hT1302 rfl rfl) fd_8_90
  have e1338 := fI_bd (q := 64) hT1302 (tf hT1302 rfl rfl) fd_8_91
  have e1339 := fI_bd (q := 64) hT1302 (tf hT1302 rfl rfl) fd_8_86
  have e1340 := fI_bd (q := 64) hT1302 (tf hT1302 rfl rfl) fd_8_87
  refine st_if_ne c260_130 (by omega) (fun k1341 => ?_) (fun k1342 => False.elim (by omega))
  refine st_aload c260_134 rfl ?_
  refine st_iload c260_135 rfl ?_
  refine st_iconst c260_136 ?_
  refine st_iconst c260_137 ?_
  have e1343 := fI_bd (q := 64) hT1302 (tf hT1302 rfl rfl) fd_8_93
  have q1344 : fI h1301 64 93 = fI h1263 64 93 := Fr_fI hF1303 (tf hT1264 rfl rfl) (by decide +kernel)
  have e1345 := fI_bd (q := 64) hT1302 (tf hT1302 rfl rfl) fd_8_92
  have q1346 : fI h1301 64 92 = fI h1214 64 92 := (Fr_fI hF1303 (tf hT1264 rfl rfl) (by decide +kernel)).trans (Fr_fI hF1265 (tf hT1215 rfl rfl) (by decide +kernel))
  refine st_callt (as := [vI 5, vI 0, vI 0]) c260_138 cm_255 hT1302 (tf hT1302 rfl rfl) fd_8_0 rfl rfl rfl rfl (by omega) (K255 hT1302 (Stb_mono hS (by decide +kernel)) 5 (by omega) 0 (by omega) 0 (by omega) (by omega) (d - 1) (by omega) _ (fun v h0 H => H)) (fun v1 h1347 H => ?_)
  obtain ⟨rfl, pf1350, pf1351, pf1352, pf1353, pf1354, hT1348, hF1349⟩ := H
  have hF1355 := Fr_cp hF1336 hF1349 (by decide +kernel : Wsub W255 Wp12 = true)
  have e1356 := fI_bd (q := 64) hT1348 (tf hT1348 rfl rfl) fd_8_93
  refine st_return c260_141 ?_
  have e1357 := fI_bd (q := 64) hT1348 (tf hT1348 rfl rfl) fd_8_86
  have q1358 : fI h1347 64 86 = fI h1301 64 86 := Fr_fI hF1349 (tf hT1302 rfl rfl) (by decide +kernel)
  have e1359 := fI_bd (q := 64) hT1348 (tf hT1348 rfl rfl) fd_8_87
  have q1360 : fI h1347 64 87 = fI h1301 64 87 := Fr_fI hF1349 (tf hT1302 rfl rfl) (by decide +kernel)
  have e1361 := fI_bd (q := 64) hT1348 (tf hT1348 rfl rfl) fd_8_88
  have q1362 : fI h1347 64 88 = fI h1301 64 88 := Fr_fI hF1349 (tf hT1302 rfl rfl) (by decide +kernel)
  have e1363 := fI_bd (q := 64) hT1348 (tf hT1348 rfl rfl) fd_8_90
  have q1364 : fI h1347 64 90 = fI h1301 64 90 := Fr_fI hF1349 (tf hT1302 rfl rfl) (by decide +kernel)
  have e1365 := fI_bd (q := 64) hT1348 (tf hT1348 rfl rfl) fd_8_91
  have q1366 : fI h1347 64 91 = fI h1301 64 91 := Fr_fI hF1349 (tf hT1302 rfl rfl) (by decide +kernel)
  have fr1367 : ∀ i : Int, 0 ≤ i → i < 220 * fI h 64 92 + fI h 64 93 → aI h1347 129 i = aI h 129 i := fun i a b => ((pf1353 i a (by omega))).trans (((Fr_aI hF1303 (tf hT1264 rfl rfl) (by decide +kernel) i)).trans (((pf1274 i a (by omega))).trans (((Fr_aI hF1216 (tf hT1177 rfl rfl) (by decide +kernel) i)).trans (((pf1187 i a (by omega))).trans (((Fr_aI hF1128 (tf hT1107 rfl rfl) (by decide +kernel) i)).trans ((Fr_aI hF1108 (tf hT rfl rfl) (by decide +kernel) i)))))))
  have fr1368 : ∀ i : Int, 0 ≤ i → i < 220 * fI h 64 92 + fI h 64 93 → aI h1347 130 i = aI h 130 i := fun i a b => ((pf1354 i a (by omega))).trans (((Fr_aI hF1303 (tf hT1264 rfl rfl) (by decide +kernel) i)).trans (((pf1275 i a (by omega))).trans (((Fr_aI hF1216 (tf hT1177 rfl rfl) (by decide +kernel) i)).trans (((pf1188 i a (by omega))).trans (((Fr_aI hF1128 (tf hT1107 rfl rfl) (by decide +kernel) i)).trans ((Fr_aI hF1108 (tf hT rfl rfl) (by decide +kernel) i)))))))
  have e1369 := fI_bd (q := 64) hT1348 (tf hT1348 rfl rfl) fd_8_92
  have q1370 : fI h1347 64 92 = fI h1301 64 92 := Fr_fI hF1349 (tf hT1302 rfl rfl) (by decide +kernel)
  have g1372 := (pf1189).resolve_left (by omega)
  have fr1373 : ∀ i : Int, 0 ≤ i → i < 220 * fI h1126 64 92 + fI h1126 64 93 + (fI h1176 64 93 - fI h1126 64 93) → aI h1347 129 i = aI h1176 129 i := fun i a b => ((pf1353 i a (by omega))).trans (((Fr_aI hF1303 (tf hT1264 rfl rfl) (by decide +kernel) i)).trans (((pf1274 i a (by omega))).trans ((Fr_aI hF1216 (tf hT1177 rfl rfl) (by decide +kernel) i))))
  have fr1374 : ∀ i : Int, 0 ≤ i → i < 220 * fI h1126 64 92 + fI h1126 64 93 + (fI h1176 64 93 - fI h1126 64 93) → aI h1347 130 i = aI h1176 130 i := fun i a b => ((pf1354 i a (by omega))).trans (((Fr_aI hF1303 (tf hT1264 rfl rfl) (by decide +kernel) i)).trans (((pf1275 i a (by omega))).trans ((Fr_aI hF1216 (tf hT1177 rfl rfl) (by decide +kernel) i))))
  have g1375 : Sg h1347 (220 * fI h1126 64 92 + fI h1126 64 93) (fI h1176 64 93 - fI h1126 64 93) := Sg_mv g1372 (fun i a b => ⟨fr1373 i (by omega) (by omega), fr1374 i (by omega) (by omega)⟩)
  have g1376 := (pf1276).resolve_left (by omega)
  have fr1377 : ∀ i : Int, 0 ≤ i → i < 220 * fI h1214 64 92 + fI h1214 64 93 + (fI h1263 64 93 - fI h1214 64 93) → aI h1347 129 i = aI h1263 129 i := fun i a b => ((pf1353 i a (by omega))).trans ((Fr_aI hF1303 (tf hT1264 rfl rfl) (by decide +kernel) i))
  have fr1378 : ∀ i : Int, 0 ≤ i → i < 220 * fI h1214 64 92 + fI h1214 64 93 + (fI h1263 64 93 - fI h1214 64 93) → aI h1347 130 i = aI h1263 130 i := fun i a b => ((pf1354 i a (by omega))).trans ((Fr_aI hF1303 (tf hT1264 rfl rfl) (by decide +kernel) i))
  have g1379 : Sg h1347 (220 * fI h1214 64 92 + fI h1214 64 93) (fI h1263 64 93 - fI h1214 64 93) := Sg_mv g1376 (fun i a b => ⟨fr1377 i (by omega) (by omega), fr1378 i (by omega) (by omega)⟩)
  have a1 : aI h1347 129 (220 * fI h1301 64 92 + fI h1301 64 93) = 5 := (rfl).trans pf1351
  have k1 : Sg h1347 (220 * fI h 64 92 + fI h 64 93) (fI h1176 64 93 - fI h1126 64 93) := by rw [show 220 * fI h 64 92 + fI h 64 93 = 220 * fI h1126 64 92 + fI h1126 64 93 by omega]; exact g1375
  have k2 : Sg h1347 (220 * fI h 64 92 + fI h 64 93 + (fI h1176 64 93 - fI h1126 64 93)) (fI h1263 64 93 - fI h1214 64 93) := by rw [show 220 * fI h 64 92 + fI h 64 93 + (fI h1176 64 93 - fI h1126 64 93) = 220 * fI h1214 64 92 + fI h1214 64 93 by omega]; exact g1379
  have sg1371 : 0 ≤ fI h1347 64 90 ∨ Sg h1347 (220 * fI h 64 92 + fI h 64 93) (fI h1347 64 93 - fI h 64 93) := Or.inr (by
    rw [show fI h1347 64 93 - fI h 64 93 = (fI h1176 64 93 - fI h1126 64 93) + (fI h1263 64 93 - fI h1214 64 93) + 1 by omega]
    exact Sg_op k1 k2 (by rw [show 220 * fI h 64 92 + fI h 64 93 + (fI h1176 64 93 - fI h1126 64 93) + (fI h1263 64 93 - fI h1214 64 93) = 220 * fI h1301 64 92 + fI h1301 64 93 by omega, a1]; omega))
  have e1380 := fI_bd (q := 64) hT (tf hT rfl rfl) fd_8_90
  have e1381 := fI_bd (q := 64) hT (tf hT rfl rfl) fd_8_91
  exact hQ _ _ ⟨rfl, by omega, by omega, by omega, by omega, by omega, by omega, by omega, by omega, fr1367, fr1368, sg1371, RM_ok (P2_p5 (by omega) (by omega) (by omega) pr1199 (by omega) pr1286 (by omega)) (by omega) (CU_fr pf1318 hT1302 hF1349 (by decide +kernel)), hT1348, hF1355⟩
  refine st_aload c260_119 rfl ?_
  refine st_getI c260_120 hT1264 (tf hT1264 rfl rfl) fd_8_90 (fun e1382 e1383 => ?_)
  refine st_if_ge c260_123 (by omega) (fun k1384 => ?_) (fun k1385 => False.elim (by omega))
  refine st_return c260_133 ?_
  have fr1386 : ∀ i : Int, 0 ≤ i → i < 220 * fI h 64 92 + fI h 64 93 → aI h1263 129 i = aI h 129 i := fun i a b => ((pf1274 i a (by omega))).trans (((Fr_aI hF1216 (tf hT1177 rfl rfl) (by decide +kernel) i)).trans (((pf1187 i a (by omega))).trans (((Fr_aI hF1128 (tf hT1107 rfl rfl) (by decide +kernel) i)).trans ((Fr_aI hF1108 (tf hT rfl rfl) (by decide +kernel) i)))))
  have fr1387 : ∀ i : Int, 0 ≤ i → i < 220 * fI h 64 92 + fI h 64 93 → aI h1263 130 i = aI h 130 i := fun i a b => ((pf1275 i a (by omega))).trans (((Fr_aI hF1216 (tf hT1177 rfl rfl) (by decide +kernel) i)).trans (((pf1188 i a (by omega))).trans (((Fr_aI hF1128 (tf hT1107 rfl rfl) (by decide +kernel) i)).trans ((Fr_aI hF1108 (tf hT rfl rfl) (by decide +kernel) i)))))
  have e1388 := fI_bd (q := 64) hT1264 (tf hT1264 rfl rfl) fd_8_92
  have q1389 : fI h1263 64 92 = fI h1214 64 92 := Fr_fI hF1265 (tf hT1215 rfl rfl) (by decide +kernel)
  have e1391 := fI_bd (q := 64) hT (tf hT rfl rfl) fd_8_90
  have e1392 := fI_bd (q := 64) hT (tf hT rfl rfl) fd_8_91
  exact hQ _ _ ⟨rfl, by omega, by omega, by omega, by omega, by omega, by omega, by omega, by omega, fr1386, fr1387, (Or.inl (by omega)), RM_no (P2_p3 (by omega) (by omega) (by omega) pr1199 (by omega) pr1290) (by omega) g1292, hT1264, hF1278⟩
  refine st_aload c260_98 rfl ?_
  refine st_getI c260_99 hT1177 (tf hT1177 rfl rfl) fd_8_90 (fun e1393 e1394 => ?_)
  refine st_if_ge c260_102 (by omega) (fun k1395 => ?_) (fun k1396 => False.elim (by omega))
  refine st_return c260_114 ?_
  have fr1397 : ∀ i : Int, 0 ≤ i → i < 220 * fI h 64 92 + fI h 64 93 → aI h1176 129 i = aI h 129 i := fun i a b => ((pf1187 i a (by omega))).trans (((Fr_aI hF1128 (tf hT1107 rfl rfl) (by decide +kernel) i)).trans ((Fr_aI hF1108 (tf hT rfl rfl) (by decide +kernel) i)))
  have fr1398 : ∀ i : Int, 0 ≤ i → i < 220 * fI h 64 92 + fI h 64 93 → aI h1176 130 i = aI h 130 i := fun i a b => ((pf1188 i a (by omega))).trans (((Fr_aI hF1128 (tf hT1107 rfl rfl) (by decide +kernel) i)).trans ((Fr_aI hF1108 (tf hT rfl rfl) (by decide +kernel) i)))
  have e1399 := fI_bd (q := 64) hT1177 (tf hT1177 rfl rfl) fd_8_92
  have q1400 : fI h1176 64 92 = fI h1126 64 92 := Fr_fI hF1178 (tf hT1127 rfl rfl) (by decide +kernel)
  have e1402 := fI_bd (q := 64) hT (tf hT rfl rfl) fd_8_90
  have e1403 := fI_bd (q := 64) hT (tf hT rfl rfl) fd_8_91
  exact hQ _ _ ⟨rfl, by omega, by omega, by omega, by omega, by omega, by omega, by omega, by omega, fr1397, fr1398, (Or.inl (by omega)), RM_no (P2_p1 (by omega) (by omega) (by omega) pr1203) (by omega) g1205, hT1177, hF1191⟩
  refine st_aload c260_30 rfl ?_
  refine st_iconst c260_31 ?_
  refine st_aload c260_32 rfl ?_
  refine st_callt (as := []) c260_33 cm_259 hT (tf hT rfl rfl) fd_8_0 rfl rfl rfl rfl (by omega) (MR_det (K259 hT (by omega) pre7 (d - 1) (by omega) _ (fun v h0 H => H))) (fun v1 h1 H => ?_)
  obtain ⟨H, rb2⟩ := H
  obtain ⟨z1406, rfl, b1407, pf1404, pf1405, rfl⟩ := H
  have e1408 : z1406 = z14 := vI_inj (by omega) (by omega) (RB_det rb2 rb1)
  refine st_iconst c260_36 ?_
  have e1409 := fI_bd (q := 64) hT (tf hT rfl rfl) fd_8_93
  have e1410 := fI_bd (q := 64) hT (tf hT rfl rfl) fd_8_92
  refine st_callt (as := [vI 2, vI z1406, vI 0]) c260_37 cm_255 hT (tf hT rfl rfl) fd_8_0 rfl rfl rfl rfl (by omega) (K255 hT (Stb_mono hS (by decide +kernel)) 2 (by omega) z1406 (by omega) 0 (by omega) (by omega) (d - 1) (by omega) _ (fun v h0 H => H)) (fun v1 h1411 H => ?_)
  obtain ⟨rfl, pf1414, pf1415, pf1416, pf1417, pf1418, hT1412, hF1413⟩ := H
  have hF1419 := Fr_cp hF hF1413 (by decide +kernel : Wsub W255 Wp12 = true)
  have e1420 := fI_bd (q := 64) hT1412 (tf hT1412 rfl rfl) fd_8_93
  refine st_aload c260_40 rfl ?_
  have e1421 := fI_bd (q := 64) hT1412 (tf hT1412 rfl rfl) fd_8_87
  have q1422 : fI h1411 64 87 = fI h 64 87 := Fr_fI hF1413 (tf hT rfl rfl) (by decide +kernel)
  have e1423 := fI_bd (q := 64) hT1412 (tf hT1412 rfl rfl) fd_8_77
  have q1424 : fI h1411 64 77 = fI h 64 77 := Fr_fI hF1413 (tf hT rfl rfl) (by decide +kernel)
  refine st_callt (as := []) c260_41 cm_252 hT1412 (tf hT1412 rfl rfl) fd_8_0 rfl rfl rfl rfl (by omega) (K252 hT1412 (Stb_mono hS (by decide +kernel)) (by omega) (CU_nx (CU_fr pre7 hT hF1413 (by decide +kernel))) (d - 1) (by omega) _ (fun v h0 H => H)) (fun v1 h1425 H => ?_)
  obtain ⟨rfl, pf1428, pf1429, pf1430, pf1431, pf1432, hT1426, hF1427⟩ := H
  have hF1433 := Fr_cp hF1419 hF1427 (by decide +kernel : Wsub W252 Wp12 = true)
  have e1434 := fI_bd (q := 64) hT1426 (tf hT1426 rfl rfl) fd_8_86
  have e1435 := fI_bd (q := 64) hT1426 (tf hT1426 rfl rfl) fd_8_87
  have e1436 := fI_bd (q := 64) hT1426 (tf hT1426 rfl rfl) fd_8_88
  refine st_return c260_44 ?_
  have e1437 := fI_bd (q := 64) hT1426 (tf hT1426 rfl rfl) fd_8_90
  have q1438 : fI h1425 64 90 = fI h 64 90 := (Fr_fI hF1427 (tf hT1412 rfl rfl) (by decide +kernel)).trans (Fr_fI hF1413 (tf hT rfl rfl) (by decide +kernel))
  have e1439 := fI_bd (q := 64) hT1426 (tf hT1426 rfl rfl) fd_8_93
  have q1440 : fI h1425 64 93 = fI h1411 64 93 := Fr_fI hF1427 (tf hT1412 rfl rfl) (by decide +kernel)
  have e1441 := fI_bd (q := 64) hT1426 (tf hT1426 rfl rfl) fd_8_91
  have q1442 : fI h1425 64 91 = fI h 64 91 := (Fr_fI hF1427 (tf hT1412 rfl rfl) (by decide +kernel)).trans (Fr_fI hF1413 (tf hT rfl rfl) (by decide +kernel))
  have fr1443 : ∀ i : Int, 0 ≤ i → i < 220 * fI h 64 92 + fI h 64 93 → aI h1425 129 i = aI h 129 i := fun i a b => ((Fr_aI hF1427 (tf hT1412 rfl rfl) (by decide +kernel) i)).trans ((pf1417 i a (by omega)))
  have fr1444 : ∀ i : Int, 0 ≤ i → i < 220 * fI h 64 92 + fI h 64 93 → aI h1425 130 i = aI h 130 i := fun i a b => ((Fr_aI hF1427 (tf hT1412 rfl rfl) (by decide +kernel) i)).trans ((pf1418 i a (by omega)))
  have e1445 := fI_bd (q := 64) hT1426 (tf hT1426 rfl rfl) fd_8_92
  have q1446 : fI h1425 64 92 = fI h 64 92 := (Fr_fI hF1427 (tf hT1412 rfl rfl) (by decide +kernel)).trans (Fr_fI hF1413 (tf hT rfl rfl) (by decide +kernel))
  have a1 : aI h1425 129 (220 * fI h 64 92 + fI h 64 93) = 2 := (Fr_aI hF1427 (tf hT1412 rfl rfl) (by decide +kernel) (220 * fI h 64 92 + fI h 64 93)).trans pf1415
  have a2 : aI h1425 130 (220 * fI h 64 92 + fI h 64 93) = z1406 := (Fr_aI hF1427 (tf hT1412 rfl rfl) (by decide +kernel) (220 * fI h 64 92 + fI h 64 93)).trans pf1416
  have sg1447 : 0 ≤ fI h1425 64 90 ∨ Sg h1425 (220 * fI h 64 92 + fI h 64 93) (fI h1425 64 93 - fI h 64 93) := Or.inr (by
    rw [show fI h1425 64 93 - fI h 64 93 = 1 by omega]
    exact Sg_name a1 (by rw [a2]; omega))
  have e1448 := fI_bd (q := 64) hT (tf hT rfl rfl) fd_8_90
  have e1449 := fI_bd (q := 64) hT (tf hT rfl rfl) fd_8_91
  exact hQ _ _ ⟨rfl, by omega, by omega, by omega, by omega, by omega, by omega, by omega, by omega, fr1443, fr1444, sg1447, RM_ok (P2_one (by omega)) (by omega) pf1432, hT1426, hF1433⟩
  refine st_aload c260_8 rfl ?_
  refine st_iconst c260_9 ?_
  refine st_aload c260_10 rfl ?_
  refine st_getI c260_11 hT (tf hT rfl rfl) fd_8_89 (fun e1450 e1451 => ?_)
  refine st_iconst c260_14 ?_
  have e1452 := fI_bd (q := 64) hT (tf hT rfl rfl) fd_8_93
  have e1453 := fI_bd (q := 64) hT (tf hT rfl rfl) fd_8_92
  refine st_callt (as := [vI 1, vI (fI h 64 89), vI 0]) c260_15 cm_255 hT (tf hT rfl rfl) fd_8_0 rfl rfl rfl rfl (by omega) (K255 hT (Stb_mono hS (by decide +kernel)) 1 (by omega) (fI h 64 89) (by omega) 0 (by omega) (by omega) (d - 1) (by omega) _ (fun v h0 H => H)) (fun v1 h1454 H => ?_)
  obtain ⟨rfl, pf1457, pf1458, pf1459, pf1460, pf1461, hT1455, hF1456⟩ := H
  have hF1462 := Fr_cp hF hF1456 (by decide +kernel : Wsub W255 Wp12 = true)
  have e1463 := fI_bd (q := 64) hT1455 (tf hT1455 rfl rfl) fd_8_93
  refine st_aload c260_18 rfl ?_
  have e1464 := fI_bd (q := 64) hT1455 (tf hT1455 rfl rfl) fd_8_87
  have q1465 : fI h1454 64 87 = fI h 64 87 := Fr_fI hF1456 (tf hT rfl rfl) (by decide +kernel)
  have e1466 := fI_bd (q := 64) hT1455 (tf hT1455 rfl rfl) fd_8_77
  have q1467 : fI h1454 64 77 = fI h 64 77 := Fr_fI hF1456 (tf hT rfl rfl) (by decide +kernel)
  refine st_callt (as := []) c260_19 cm_252 hT1455 (tf hT1455 rfl rfl) fd_8_0 rfl rfl rfl rfl (by omega) (K252 hT1455 (Stb_mono hS (by decide +kernel)) (by omega) (CU_nx (CU_fr pre7 hT hF1456 (by decide +kernel))) (d - 1) (by omega) _ (fun v h0 H => H)) (fun v1 h1468 H => ?_)
  obtain ⟨rfl, pf1471, pf1472, pf1473, pf1474, pf1475, hT1469, hF1470⟩ := H
  have hF1476 := Fr_cp hF1462 hF1470 (by decide +kernel : Wsub W252 Wp12 = true)
  have e1477 := fI_bd (q := 64) hT1469 (tf hT1469 rfl rfl) fd_8_86
  have e1478 := fI_bd (q := 64) hT1469 (tf hT1469 rfl rfl) fd_8_87
  have e1479 := fI_bd (q := 64) hT1469 (tf hT1469 rfl rfl) fd_8_88
  refine st_return c260_22 ?_
  have e1480 := fI_bd (q := 64) hT1469 (tf hT1469 rfl rfl) fd_8_90
  have q1481 : fI h1468 64 90 = fI h 64 90 := (Fr_fI hF1470 (tf hT1455 rfl rfl) (by decide +kernel)).trans (Fr_fI hF1456 (tf hT rfl rfl) (by decide +kernel))
  have e1482 := fI_bd (q := 64) hT1469 (tf hT1469 rfl rfl) fd_8_93
  have q1483 : fI h1468 64 93 = fI h1454 64 93 := Fr_fI hF1470 (tf hT1455 rfl rfl) (by decide +kernel)
  have e1484 := fI_bd (q := 64) hT1469 (tf hT1469 rfl rfl) fd_8_91
  have q1485 : fI h1468 64 91 = fI h 64 91 := (Fr_fI hF1470 (tf hT1455 rfl rfl) (by decide +kernel)).trans (Fr_fI hF1456 (tf hT rfl rfl) (by decide +kernel))
  have fr1486 : ∀ i : Int, 0 ≤ i → i < 220 * fI h 64 92 + fI h 64 93 → aI h1468 129 i = aI h 129 i := fun i a b => ((Fr_aI hF1470 (tf hT1455 rfl rfl) (by decide +kernel) i)).trans ((pf1460 i a (by omega)))
  have fr1487 : ∀ i : Int, 0 ≤ i → i < 220 * fI h 64 92 + fI h 64 93 → aI h1468 130 i = aI h 130 i := fun i a b => ((Fr_aI hF1470 (tf hT1455 rfl rfl) (by decide +kernel) i)).trans ((pf1461 i a (by omega)))
  have e1488 := fI_bd (q := 64) hT1469 (tf hT1469 rfl rfl) fd_8_92
  have q1489 : fI h1468 64 92 = fI h 64 92 := (Fr_fI hF1470 (tf hT1455 rfl rfl) (by decide +kernel)).trans (Fr_fI hF1456 (tf hT rfl rfl) (by decide +kernel))
  have a1 : aI h1468 129 (220 * fI h 64 92 + fI h 64 93) = 1 := (Fr_aI hF1470 (tf hT1455 rfl rfl) (by decide +kernel) (220 * fI h 64 92 + fI h 64 93)).trans pf1458
  have sg1490 : 0 ≤ fI h1468 64 90 ∨ Sg h1468 (220 * fI h 64 92 + fI h 64 93) (fI h1468 64 93 - fI h 64 93) := Or.inr (by
    rw [show fI h1468 64 93 - fI h 64 93 = 1 by omega]
    exact Sg_push a1)
  have e1491 := fI_bd (q := 64) hT (tf hT rfl rfl) fd_8_90
  have e1492 := fI_bd (q := 64) hT (tf hT rfl rfl) fd_8_91
  exact hQ _ _ ⟨rfl, by omega, by omega, by omega, by omega, by omega, by omega, by omega, by omega, fr1486, fr1487, sg1490, RM_ok (P2_one (by omega)) (by omega) pf1475, hT1469, hF1476⟩
