def W263 : List (Nat × Nat) := [(8, 86), (8, 87), (8, 88), (8, 89), (8, 90), (8, 91), (8, 93), (107, 0), (108, 0), (109, 0)]
set_option maxHeartbeats 0 in
theorem K263 {S F P : Int → Int} {a : Int} {Ln : Nat} {xs : Nat → Int32} {τ : List Nat} {h : List mE} {E : EP} (hT : TH E τ h) (hS : Stb E W263) (pre0 : fI h 64 86≤fI h 64 87) (pre1 : fI h 64 87≤fI h 64 77) (pre2 : fI h 64 88 = 0 ∨ fI h 64 86 + 1 ≤ fI h 64 87) (pre3 : fI h 64 93≤fI h 64 86) (pre4 : fI h 64 91=0) (pre5 : fI h 64 90<0) (pre6 : CU S F P h a) (d : Nat) (hd : 86 ≤ d) (Q : Option Value → List mE → Prop) (hQ : ∀ v h', (v = none ∧ (RMx S F P 5 0 h h' a) ∧ (fI h 64 86≤fI h' 64 86) ∧ (fI h' 64 86≤fI h' 64 87) ∧ (fI h' 64 87≤fI h 64 77) ∧ (fI h' 64 88 = 0 ∨ fI h' 64 86 + 1 ≤ fI h' 64 87) ∧ (fI h' 64 93 ≤ fI h' 64 86 + 1) ∧ (fI h 64 93≤fI h' 64 93) ∧ (0 ≤ fI h' 64 90 ∨ fI h' 64 91 = fI h 64 91) ∧ (∀ i : Int, 0 ≤ i → i < 220 * fI h 64 92 + fI h 64 93 → aI h' 129 i = aI h 129 i) ∧ (∀ i : Int, 0 ≤ i → i < 220 * fI h 64 92 + fI h 64 93 → aI h' 130 i = aI h 130 i) ∧ (0 ≤ fI h' 64 90 ∨ Zs h' (220 * fI h 64 92 + fI h 64 93) (fI h' 64 93 - fI h 64 93)) ∧ TH E τ h' ∧ Fr τ W263 h h') → Q v h') : MR (mex Ln xs) d 263 0 [some (.ref 64), none, none] [] h Q := by
  have hF := Fr_rf τ W263 h
  have e1 := fI_bd (q := 64) hT (tf hT rfl rfl) fd_8_86
  have e2 := fI_bd (q := 64) hT (tf hT rfl rfl) fd_8_87
  have e3 := fI_bd (q := 64) hT (tf hT rfl rfl) fd_8_77
  have e4 := fI_bd (q := 64) hT (tf hT rfl rfl) fd_8_93
  have e5 := fI_bd (q := 64) hT (tf hT rfl rfl) fd_8_91
  have e6 := fI_bd (q := 64) hT (tf hT rfl rfl) fd_8_90
  have cf := CU_F pre6
  refine st_aload c263_0 rfl ?_
  refine st_lconst c263_1 ?_
  have e7 := fI_bd (q := 64) hT (tf hT rfl rfl) fd_8_88
  have e8 := fI_bd (q := 64) hT (tf hT rfl rfl) fd_8_86
  have e9 := fI_bd (q := 64) hT (tf hT rfl rfl) fd_8_87
  refine st_callt (as := [.long (Int64.ofInt 131638)]) c263_4 cm_253 hT (tf hT rfl rfl) fd_8_0 rfl rfl rfl rfl (by omega) (K253 hT (Int64.ofInt 131638) (by omega) (d - 1) (by omega) _ (fun v h0 H => H)) (fun v1 h1 H => ?_)
  rcases H with ⟨rfl, pf10, rfl⟩ | ⟨rfl, pf11, pf12, rfl⟩
  have wq13 := mt (WH_c (v := Int64.ofInt 131638) (k := 14) (by decide +kernel) hT pre6 (by decide)).mpr pf10
  refine st_if_eq c263_7 (by omega) (fun k14 => ?_) (fun k15 => False.elim (by omega))
  refine st_aload c263_88 rfl ?_
  have e16 := fI_bd (q := 64) hT (tf hT rfl rfl) fd_8_77
  have e17 := fI_bd (q := 64) hT (tf hT rfl rfl) fd_8_90
  have e18 := fI_bd (q := 64) hT (tf hT rfl rfl) fd_8_93
  have e19 := fI_bd (q := 64) hT (tf hT rfl rfl) fd_8_91
  have e20 := fI_bd (q := 64) hT (tf hT rfl rfl) fd_8_92
  refine st_callt (as := []) c263_89 cm_262 hT (tf hT rfl rfl) fd_8_0 rfl rfl rfl rfl (by omega) (K262z hT (Stb_mono hS (by decide +kernel)) (by omega) (by omega) (by omega) (by omega) (by omega) (by omega) pre6 (d - 1) (by omega) _ (fun v h0 H => H)) (fun v1 h21 H => ?_)
  obtain ⟨rfl, pf24, pf25, pf26, pf27, pf28, pf29, pf30, pf31, pf32, pf33, pf34, pf35, hT22, hF23⟩ := H
  have hF36 := Fr_cp hF hF23 (by decide +kernel : Wsub Wp12 W263 = true)
  have e37 := fI_bd (q := 64) hT22 (tf hT22 rfl rfl) fd_8_86
  have e38 := fI_bd (q := 64) hT22 (tf hT22 rfl rfl) fd_8_87
  have e39 := fI_bd (q := 64) hT22 (tf hT22 rfl rfl) fd_8_88
  have e40 := fI_bd (q := 64) hT22 (tf hT22 rfl rfl) fd_8_90
  have e41 := fI_bd (q := 64) hT22 (tf hT22 rfl rfl) fd_8_93
  have e42 := fI_bd (q := 64) hT22 (tf hT22 rfl rfl) fd_8_91
  refine st_aload c263_92 rfl ?_
  refine st_iconst c263_93 ?_
  refine st_iconst c263_94 ?_
  refine st_iconst c263_95 ?_
  have e43 := fI_bd (q := 64) hT22 (tf hT22 rfl rfl) fd_8_92
  have q44 : fI h21 64 92 = fI h 64 92 := Fr_fI hF23 (tf hT rfl rfl) (by decide +kernel)
  refine st_callt (as := [vI 4, vI 0, vI 0]) c263_96 cm_255 hT22 (tf hT22 rfl rfl) fd_8_0 rfl rfl rfl rfl (by omega) (K255 hT22 (Stb_mono hS (by decide +kernel)) 4 (by omega) 0 (by omega) 0 (by omega) (by omega) (d - 1) (by omega) _ (fun v h0 H => H)) (fun v1 h45 H => ?_)
  obtain ⟨rfl, pf48, pf49, pf50, pf51, pf52, hT46, hF47⟩ := H
  have hF53 := Fr_cp hF36 hF47 (by decide +kernel : Wsub W255 W263 = true)
  have e54 := fI_bd (q := 64) hT46 (tf hT46 rfl rfl) fd_8_93
  refine st_return c263_99 ?_
  have e55 := fI_bd (q := 64) hT46 (tf hT46 rfl rfl) fd_8_86
  have q56 : fI h45 64 86 = fI h21 64 86 := Fr_fI hF47 (tf hT22 rfl rfl) (by decide +kernel)
  have e57 := fI_bd (q := 64) hT46 (tf hT46 rfl rfl) fd_8_87
  have q58 : fI h45 64 87 = fI h21 64 87 := Fr_fI hF47 (tf hT22 rfl rfl) (by decide +kernel)
  have e59 := fI_bd (q := 64) hT46 (tf hT46 rfl rfl) fd_8_88
  have q60 : fI h45 64 88 = fI h21 64 88 := Fr_fI hF47 (tf hT22 rfl rfl) (by decide +kernel)
  have e61 := fI_bd (q := 64) hT46 (tf hT46 rfl rfl) fd_8_90
  have q62 : fI h45 64 90 = fI h21 64 90 := Fr_fI hF47 (tf hT22 rfl rfl) (by decide +kernel)
  have e63 := fI_bd (q := 64) hT46 (tf hT46 rfl rfl) fd_8_91
  have q64 : fI h45 64 91 = fI h21 64 91 := Fr_fI hF47 (tf hT22 rfl rfl) (by decide +kernel)
  have fr65 : ∀ i : Int, 0 ≤ i → i < 220 * fI h 64 92 + fI h 64 93 → aI h45 129 i = aI h 129 i := fun i a b => ((pf51 i a (by omega))).trans ((pf32 i a (by omega)))
  have fr66 : ∀ i : Int, 0 ≤ i → i < 220 * fI h 64 92 + fI h 64 93 → aI h45 130 i = aI h 130 i := fun i a b => ((pf52 i a (by omega))).trans ((pf33 i a (by omega)))
  have e67 := fI_bd (q := 64) hT46 (tf hT46 rfl rfl) fd_8_92
  have q68 : fI h45 64 92 = fI h21 64 92 := Fr_fI hF47 (tf hT22 rfl rfl) (by decide +kernel)
  have sg69 : 0 ≤ fI h45 64 90 ∨ Zs h45 (220 * fI h 64 92 + fI h 64 93) (fI h45 64 93 - fI h 64 93) := by
    rcases pf34 with q | q
    · exact Or.inl (by omega)
    · refine Or.inr ?_
      have fr70 : ∀ i : Int, 0 ≤ i → i < 220 * fI h 64 92 + fI h 64 93 + (fI h21 64 93 - fI h 64 93) → aI h45 129 i = aI h21 129 i := fun i a b => (pf51 i a (by omega))
      have fr71 : ∀ i : Int, 0 ≤ i → i < 220 * fI h 64 92 + fI h 64 93 + (fI h21 64 93 - fI h 64 93) → aI h45 130 i = aI h21 130 i := fun i a b => (pf52 i a (by omega))
      have g72 : Sg h45 (220 * fI h 64 92 + fI h 64 93) (fI h21 64 93 - fI h 64 93) := Sg_mv q (fun i a b => ⟨fr70 i (by omega) (by omega), fr71 i (by omega) (by omega)⟩)
      have a1 : aI h45 129 (220 * fI h21 64 92 + fI h21 64 93) = 4 := (rfl).trans pf49
      have k1 : Zs h45 (220 * fI h 64 92 + fI h 64 93) ((fI h21 64 93 - fI h 64 93) + 1) := Zs_sum g72 (by rw [show 220 * fI h 64 92 + fI h 64 93 + (fI h21 64 93 - fI h 64 93) = 220 * fI h21 64 92 + fI h21 64 93 by omega]; exact a1)
      rw [show fI h45 64 93 - fI h 64 93 = (fI h21 64 93 - fI h 64 93) + 1 by omega, show 220 * fI h 64 92 + fI h 64 93 = 220 * fI h 64 92 + fI h 64 93 by omega]
      exact k1
  exact hQ _ _ ⟨rfl, RM_5 (fun r hr => P5_n (by omega) hr) pf35 (by omega) (by omega) (fun b c => CU_fr c hT22 hF47 (by decide +kernel)), by omega, by omega, by omega, by omega, by omega, by omega, by omega, fr65, fr66, sg69, hT46, hF53⟩
  have wq73 := (WH_c (v := Int64.ofInt 131638) (k := 14) (by decide +kernel) hT pre6 (by decide)).mp pf12
  refine st_if_eq c263_7 (by omega) (fun k74 => False.elim (by omega)) (fun k75 => ?_)
  refine st_aload c263_10 rfl ?_
  have e76 := fI_bd (q := 64) hT (tf hT rfl rfl) fd_8_77
  refine st_callt (as := []) c263_11 cm_252 hT (tf hT rfl rfl) fd_8_0 rfl rfl rfl rfl (by omega) (K252 hT (Stb_mono hS (by decide +kernel)) (by omega) (CU_nx pre6) (d - 1) (by omega) _ (fun v h0 H => H)) (fun v1 h77 H => ?_)
  obtain ⟨rfl, pf80, pf81, pf82, pf83, pf84, hT78, hF79⟩ := H
  have hF85 := Fr_cp hF hF79 (by decide +kernel : Wsub W252 W263 = true)
  have e86 := fI_bd (q := 64) hT78 (tf hT78 rfl rfl) fd_8_86
  have e87 := fI_bd (q := 64) hT78 (tf hT78 rfl rfl) fd_8_87
  have e88 := fI_bd (q := 64) hT78 (tf hT78 rfl rfl) fd_8_88
  refine st_aload c263_14 rfl ?_
  refine st_getI c263_15 hT78 (tf hT78 rfl rfl) fd_8_89 (fun e89 e90 => ?_)
  refine st_istore (L' := [some (.ref 64), some (vI (fI h77 64 89)), none]) c263_18 rfl rfl ?_
  refine st_aload c263_19 rfl ?_
  refine st_iconst c263_20 ?_
  have cf91 := CU_F pf84
  have c292 := CU_2 pf84
  have e93 := fI_bd (q := 64) hT78 (tf hT78 rfl rfl) fd_8_90
  have q94 : fI h77 64 90 = fI h 64 90 := Fr_fI hF79 (tf hT rfl rfl) (by decide +kernel)
  have e95 := fI_bd (q := 64) hT78 (tf hT78 rfl rfl) fd_8_77
  have q96 : fI h77 64 77 = fI h 64 77 := Fr_fI hF79 (tf hT rfl rfl) (by decide +kernel)
  refine st_callt (as := [vI 2]) c263_21 cm_256 hT78 (tf hT78 rfl rfl) fd_8_0 rfl rfl rfl rfl (by omega) (K256 hT78 (Stb_mono hS (by decide +kernel)) 2 (by omega) (by omega) pf84 (d - 1) (by omega) _ (fun v h0 H => H)) (fun v1 h97 H => ?_)
  rcases H with ⟨rfl, pf100, pf101, pf102, pf103, pf104, pf105, hT98, hF99⟩ | ⟨rfl, pf106, pf107, pf108, pf109, pf110, pf111, pf112, hT98, hF99⟩
  have hF113 := Fr_cp hF85 hF99 (by decide +kernel : Wsub W256 W263 = true)
  have e114 := fI_bd (q := 64) hT98 (tf hT98 rfl rfl) fd_8_90
  have e115 := fI_bd (q := 64) hT98 (tf hT98 rfl rfl) fd_8_86
  have e116 := fI_bd (q := 64) hT98 (tf hT98 rfl rfl) fd_8_87
  have e117 := fI_bd (q := 64) hT98 (tf hT98 rfl rfl) fd_8_88
  refine st_if_ne c263_24 (by omega) (fun k118 => False.elim (by omega)) (fun k119 => ?_)
  refine st_return c263_27 ?_
  have e120 := fI_bd (q := 64) hT98 (tf hT98 rfl rfl) fd_8_93
  have q121 : fI h97 64 93 = fI h 64 93 := (Fr_fI hF99 (tf hT78 rfl rfl) (by decide +kernel)).trans (Fr_fI hF79 (tf hT rfl rfl) (by decide +kernel))
  have e122 := fI_bd (q := 64) hT98 (tf hT98 rfl rfl) fd_8_91
  have q123 : fI h97 64 91 = fI h 64 91 := (Fr_fI hF99 (tf hT78 rfl rfl) (by decide +kernel)).trans (Fr_fI hF79 (tf hT rfl rfl) (by decide +kernel))
  have e124 := fI_bd (q := 64) hT (tf hT rfl rfl) fd_8_90
  have e125 := fI_bd (q := 64) hT (tf hT rfl rfl) fd_8_91
  have fr126 : ∀ i : Int, 0 ≤ i → i < 220 * fI h 64 92 + fI h 64 93 → aI h97 129 i = aI h 129 i := fun i a b => ((Fr_aI hF99 (tf hT78 rfl rfl) (by decide +kernel) i)).trans ((Fr_aI hF79 (tf hT rfl rfl) (by decide +kernel) i))
  have fr127 : ∀ i : Int, 0 ≤ i → i < 220 * fI h 64 92 + fI h 64 93 → aI h97 130 i = aI h 130 i := fun i a b => ((Fr_aI hF99 (tf hT78 rfl rfl) (by decide +kernel) i)).trans ((Fr_aI hF79 (tf hT rfl rfl) (by decide +kernel) i))
  have e128 := fI_bd (q := 64) hT98 (tf hT98 rfl rfl) fd_8_92
  have q129 : fI h97 64 92 = fI h 64 92 := (Fr_fI hF99 (tf hT78 rfl rfl) (by decide +kernel)).trans (Fr_fI hF79 (tf hT rfl rfl) (by decide +kernel))
  exact hQ _ _ ⟨rfl, RM_no (P5_1 (by omega) (by omega)) (by omega) (by omega), by omega, by omega, by omega, by omega, by omega, by omega, by omega, fr126, fr127, (Or.inl (by omega)), hT98, hF113⟩
  have hF130 := Fr_cp hF85 hF99 (by decide +kernel : Wsub W256 W263 = true)
  have e131 := fI_bd (q := 64) hT98 (tf hT98 rfl rfl) fd_8_90
  have e132 := fI_bd (q := 64) hT98 (tf hT98 rfl rfl) fd_8_86
  have e133 := fI_bd (q := 64) hT98 (tf hT98 rfl rfl) fd_8_87
  refine st_if_ne c263_24 (by omega) (fun k134 => ?_) (fun k135 => False.elim (by omega))
  refine st_iconst c263_28 ?_
  refine st_istore (L' := [some (.ref 64), some (vI (fI h77 64 89)), some (vI 1000000)]) c263_30 rfl rfl ?_
  refine st_aload c263_31 rfl ?_
  refine st_lconst c263_32 ?_
  have e136 := fI_bd (q := 64) hT98 (tf hT98 rfl rfl) fd_8_88
  refine st_callt (as := [.long (Int64.ofInt 583)]) c263_35 cm_253 hT98 (tf hT98 rfl rfl) fd_8_0 rfl rfl rfl rfl (by omega) (K253 hT98 (Int64.ofInt 583) (by omega) (d - 1) (by omega) _ (fun v h0 H => H)) (fun v1 h1 H => ?_)
  rcases H with ⟨rfl, pf137, rfl⟩ | ⟨rfl, pf138, pf139, rfl⟩
  have wq140 := mt (WH_c (v := Int64.ofInt 583) (k := 15) (by decide +kernel) hT98 pf112 (by decide)).mpr pf137
  refine st_if_eq c263_38 (by omega) (fun k141 => ?_) (fun k142 => False.elim (by omega))
  refine st_aload c263_48 rfl ?_
  refine st_lconst c263_49 ?_
  refine st_callt (as := [.long (Int64.ofInt 555)]) c263_52 cm_253 hT98 (tf hT98 rfl rfl) fd_8_0 rfl rfl rfl rfl (by omega) (K253 hT98 (Int64.ofInt 555) (by omega) (d - 1) (by omega) _ (fun v h0 H => H)) (fun v1 h1 H => ?_)
  rcases H with ⟨rfl, pf143, rfl⟩ | ⟨rfl, pf144, pf145, rfl⟩
  have wq146 := mt (WH_c (v := Int64.ofInt 555) (k := 16) (by decide +kernel) hT98 pf112 (by decide)).mpr pf143
  refine st_if_eq c263_55 (by omega) (fun k147 => ?_) (fun k148 => False.elim (by omega))
  refine st_aload c263_76 rfl ?_
  have cf149 := CU_F pf112
  refine st_callt (as := []) c263_77 cm_254 hT98 (tf hT98 rfl rfl) fd_8_0 rfl rfl rfl rfl (by omega) (K254 hT98 (Stb_mono hS (by decide +kernel)) (d - 1) (by omega) _ (fun v h0 H => H)) (fun v1 h150 H => ?_)
  obtain ⟨rfl, pf153, pf154, pf155, hT151, hF152⟩ := H
  have hF156 := Fr_cp hF130 hF152 (by decide +kernel : Wsub W254 W263 = true)
  have e157 := fI_bd (q := 64) hT151 (tf hT151 rfl rfl) fd_8_90
  refine st_return c263_80 ?_
  have e158 := fI_bd (q := 64) hT151 (tf hT151 rfl rfl) fd_8_86
  have q159 : fI h150 64 86 = fI h97 64 86 := Fr_fI hF152 (tf hT98 rfl rfl) (by decide +kernel)
  have e160 := fI_bd (q := 64) hT151 (tf hT151 rfl rfl) fd_8_87
  have q161 : fI h150 64 87 = fI h97 64 87 := Fr_fI hF152 (tf hT98 rfl rfl) (by decide +kernel)
  have e162 := fI_bd (q := 64) hT151 (tf hT151 rfl rfl) fd_8_88
  have q163 : fI h150 64 88 = fI h97 64 88 := Fr_fI hF152 (tf hT98 rfl rfl) (by decide +kernel)
  have e164 := fI_bd (q := 64) hT151 (tf hT151 rfl rfl) fd_8_93
  have q165 : fI h150 64 93 = fI h 64 93 := (Fr_fI hF152 (tf hT98 rfl rfl) (by decide +kernel)).trans ((Fr_fI hF99 (tf hT78 rfl rfl) (by decide +kernel)).trans (Fr_fI hF79 (tf hT rfl rfl) (by decide +kernel)))
  have e166 := fI_bd (q := 64) hT151 (tf hT151 rfl rfl) fd_8_91
  have q167 : fI h150 64 91 = fI h 64 91 := (Fr_fI hF152 (tf hT98 rfl rfl) (by decide +kernel)).trans ((Fr_fI hF99 (tf hT78 rfl rfl) (by decide +kernel)).trans (Fr_fI hF79 (tf hT rfl rfl) (by decide +kernel)))
  have e168 := fI_bd (q := 64) hT (tf hT rfl rfl) fd_8_90
  have e169 := fI_bd (q := 64) hT (tf hT rfl rfl) fd_8_91
  have fr170 : ∀ i : Int, 0 ≤ i → i < 220 * fI h 64 92 + fI h 64 93 → aI h150 129 i = aI h 129 i := fun i a b => ((Fr_aI hF152 (tf hT98 rfl rfl) (by decide +kernel) i)).trans (((Fr_aI hF99 (tf hT78 rfl rfl) (by decide +kernel) i)).trans ((Fr_aI hF79 (tf hT rfl rfl) (by decide +kernel) i)))
  have fr171 : ∀ i : Int, 0 ≤ i → i < 220 * fI h 64 92 + fI h 64 93 → aI h150 130 i = aI h 130 i := fun i a b => ((Fr_aI hF152 (tf hT98 rfl rfl) (by decide +kernel) i)).trans (((Fr_aI hF99 (tf hT78 rfl rfl) (by decide +kernel) i)).trans ((Fr_aI hF79 (tf hT rfl rfl) (by decide +kernel) i)))
  have e172 := fI_bd (q := 64) hT151 (tf hT151 rfl rfl) fd_8_92
  have q173 : fI h150 64 92 = fI h 64 92 := (Fr_fI hF152 (tf hT98 rfl rfl) (by decide +kernel)).trans ((Fr_fI hF99 (tf hT78 rfl rfl) (by decide +kernel)).trans (Fr_fI hF79 (tf hT rfl rfl) (by decide +kernel)))
  exact hQ _ _ ⟨rfl, RM_no (P5_2 (by omega) (by omega) (by omega) (by omega)) (by omega) (by omega), by omega, by omega, by omega, by omega, by omega, by omega, by omega, fr170, fr171, (Or.inl (by omega)), hT151, hF156⟩
  have wq174 := (WH_c (v := Int64.ofInt 555) (k := 16) (by decide +kernel) hT98 pf112 (by decide)).mp pf145
  refine st_if_eq c263_55 (by omega) (fun k175 => False.elim (by omega)) (fun k176 => ?_)
  refine st_aload c263_58 rfl ?_
  have e177 := fI_bd (q := 64) hT98 (tf hT98 rfl rfl) fd_8_77
  have q178 : fI h97 64 77 = fI h77 64 77 := Fr_fI hF99 (tf hT78 rfl rfl) (by decide +kernel)
  refine st_callt (as := []) c263_59 cm_252 hT98 (tf hT98 rfl rfl) fd_8_0 rfl rfl rfl rfl (by omega) (K252 hT98 (Stb_mono hS (by decide +kernel)) (by omega) (CU_nx pf112) (d - 1) (by omega) _ (fun v h0 H => H)) (fun v1 h179 H => ?_)
  obtain ⟨rfl, pf182, pf183, pf184, pf185, pf186, hT180, hF181⟩ := H
  have hF187 := Fr_cp hF130 hF181 (by decide +kernel : Wsub W252 W263 = true)
  have e188 := fI_bd (q := 64) hT180 (tf hT180 rfl rfl) fd_8_86
  have e189 := fI_bd (q := 64) hT180 (tf hT180 rfl rfl) fd_8_87
  have e190 := fI_bd (q := 64) hT180 (tf hT180 rfl rfl) fd_8_88
  refine st_aload c263_62 rfl ?_
  refine st_getI c263_63 hT180 (tf hT180 rfl rfl) fd_8_89 (fun e191 e192 => ?_)
  refine st_istore (L' := [some (.ref 64), some (vI (fI h77 64 89)), some (vI (fI h179 64 89))]) c263_66 rfl rfl ?_
  refine st_aload c263_67 rfl ?_
  refine st_iconst c263_68 ?_
  have cf193 := CU_F pf186
  have c2194 := CU_2 pf186
  have e195 := fI_bd (q := 64) hT180 (tf hT180 rfl rfl) fd_8_90
  have q196 : fI h179 64 90 = fI h97 64 90 := Fr_fI hF181 (tf hT98 rfl rfl) (by decide +kernel)
  have e197 := fI_bd (q := 64) hT180 (tf hT180 rfl rfl) fd_8_77
  have q198 : fI h179 64 77 = fI h97 64 77 := Fr_fI hF181 (tf hT98 rfl rfl) (by decide +kernel)
  refine st_callt (as := [vI 2]) c263_69 cm_256 hT180 (tf hT180 rfl rfl) fd_8_0 rfl rfl rfl rfl (by omega) (K256 hT180 (Stb_mono hS (by decide +kernel)) 2 (by omega) (by omega) pf186 (d - 1) (by omega) _ (fun v h0 H => H)) (fun v1 h199 H => ?_)
  rcases H with ⟨rfl, pf202, pf203, pf204, pf205, pf206, pf207, hT200, hF201⟩ | ⟨rfl, pf208, pf209, pf210, pf211, pf212, pf213, pf214, hT200, hF201⟩
  have hF215 := Fr_cp hF187 hF201 (by decide +kernel : Wsub W256 W263 = true)
  have e216 := fI_bd (q := 64) hT200 (tf hT200 rfl rfl) fd_8_90
  have e217 := fI_bd (q := 64) hT200 (tf hT200 rfl rfl) fd_8_86
  have e218 := fI_bd (q := 64) hT200 (tf hT200 rfl rfl) fd_8_87
  have e219 := fI_bd (q := 64) hT200 (tf hT200 rfl rfl) fd_8_88
  refine st_if_ne c263_72 (by omega) (fun k220 => False.elim (by omega)) (fun k221 => ?_)
  refine st_return c263_75 ?_
  have e222 := fI_bd (q := 64) hT200 (tf hT200 rfl rfl) fd_8_93
  have q223 : fI h199 64 93 = fI h 64 93 := (Fr_fI hF201 (tf hT180 rfl rfl) (by decide +kernel)).trans ((Fr_fI hF181 (tf hT98 rfl rfl) (by decide +kernel)).trans ((Fr_fI hF99 (tf hT78 rfl rfl) (by decide +kernel)).trans (Fr_fI hF79 (tf hT rfl rfl) (by decide +kernel))))
  have e224 := fI_bd (q := 64) hT200 (tf hT200 rfl rfl) fd_8_91
  have q225 : fI h199 64 91 = fI h 64 91 := (Fr_fI hF201 (tf hT180 rfl rfl) (by decide +kernel)).trans ((Fr_fI hF181 (tf hT98 rfl rfl) (by decide +kernel)).trans ((Fr_fI hF99 (tf hT78 rfl rfl) (by decide +kernel)).trans (Fr_fI hF79 (tf hT rfl rfl) (by decide +kernel))))
  have e226 := fI_bd (q := 64) hT (tf hT rfl rfl) fd_8_90
  have e227 := fI_bd (q := 64) hT (tf hT rfl rfl) fd_8_91
  have fr228 : ∀ i : Int, 0 ≤ i → i < 220 * fI h 64 92 + fI h 64 93 → aI h199 129 i = aI h 129 i := fun i a b => ((Fr_aI hF201 (tf hT180 rfl rfl) (by decide +kernel) i)).trans (((Fr_aI hF181 (tf hT98 rfl rfl) (by decide +kernel) i)).trans (((Fr_aI hF99 (tf hT78 rfl rfl) (by decide +kernel) i)).trans ((Fr_aI hF79 (tf hT rfl rfl) (by decide +kernel) i))))
  have fr229 : ∀ i : Int, 0 ≤ i → i < 220 * fI h 64 92 + fI h 64 93 → aI h199 130 i = aI h 130 i := fun i a b => ((Fr_aI hF201 (tf hT180 rfl rfl) (by decide +kernel) i)).trans (((Fr_aI hF181 (tf hT98 rfl rfl) (by decide +kernel) i)).trans (((Fr_aI hF99 (tf hT78 rfl rfl) (by decide +kernel) i)).trans ((Fr_aI hF79 (tf hT rfl rfl) (by decide +kernel) i))))
  have e230 := fI_bd (q := 64) hT200 (tf hT200 rfl rfl) fd_8_92
  have q231 : fI h199 64 92 = fI h 64 92 := (Fr_fI hF201 (tf hT180 rfl rfl) (by decide +kernel)).trans ((Fr_fI hF181 (tf hT98 rfl rfl) (by decide +kernel)).trans ((Fr_fI hF99 (tf hT78 rfl rfl) (by decide +kernel)).trans (Fr_fI hF79 (tf hT rfl rfl) (by decide +kernel))))
  exact hQ _ _ ⟨rfl, RM_no (P5_3 (by omega) (by omega) (by omega) (by omega)) (by omega) (by omega), by omega, by omega, by omega, by omega, by omega, by omega, by omega, fr228, fr229, (Or.inl (by omega)), hT200, hF215⟩
  have hF232 := Fr_cp hF187 hF201 (by decide +kernel : Wsub W256 W263 = true)
  have e233 := fI_bd (q := 64) hT200 (tf hT200 rfl rfl) fd_8_90
  have e234 := fI_bd (q := 64) hT200 (tf hT200 rfl rfl) fd_8_86
  have e235 := fI_bd (q := 64) hT200 (tf hT200 rfl rfl) fd_8_87
  refine st_if_ne c263_72 (by omega) (fun k236 => ?_) (fun k237 => False.elim (by omega))
  refine st_aload c263_81 rfl ?_
  refine st_iconst c263_82 ?_
  refine st_iload c263_83 rfl ?_
  refine st_iload c263_84 rfl ?_
  have e238 := fI_bd (q := 64) hT200 (tf hT200 rfl rfl) fd_8_93
  have q239 : fI h199 64 93 = fI h 64 93 := (Fr_fI hF201 (tf hT180 rfl rfl) (by decide +kernel)).trans ((Fr_fI hF181 (tf hT98 rfl rfl) (by decide +kernel)).trans ((Fr_fI hF99 (tf hT78 rfl rfl) (by decide +kernel)).trans (Fr_fI hF79 (tf hT rfl rfl) (by decide +kernel))))
  have e240 := fI_bd (q := 64) hT200 (tf hT200 rfl rfl) fd_8_92
  have q241 : fI h199 64 92 = fI h 64 92 := (Fr_fI hF201 (tf hT180 rfl rfl) (by decide +kernel)).trans ((Fr_fI hF181 (tf hT98 rfl rfl) (by decide +kernel)).trans ((Fr_fI hF99 (tf hT78 rfl rfl) (by decide +kernel)).trans (Fr_fI hF79 (tf hT rfl rfl) (by decide +kernel))))
  refine st_callt (as := [vI 3, vI (fI h77 64 89), vI (fI h179 64 89)]) c263_85 cm_255 hT200 (tf hT200 rfl rfl) fd_8_0 rfl rfl rfl rfl (by omega) (K255 hT200 (Stb_mono hS (by decide +kernel)) 3 (by omega) (fI h77 64 89) (by omega) (fI h179 64 89) (by omega) (by omega) (d - 1) (by omega) _ (fun v h0 H => H)) (fun v1 h242 H => ?_)
  obtain ⟨rfl, pf245, pf246, pf247, pf248, pf249, hT243, hF244⟩ := H
  have hF250 := Fr_cp hF232 hF244 (by decide +kernel : Wsub W255 W263 = true)
  have e251 := fI_bd (q := 64) hT243 (tf hT243 rfl rfl) fd_8_93
  refine st_aload c263_88 rfl ?_
  have e252 := fI_bd (q := 64) hT243 (tf hT243 rfl rfl) fd_8_86
  have q253 : fI h242 64 86 = fI h199 64 86 := Fr_fI hF244 (tf hT200 rfl rfl) (by decide +kernel)
  have e254 := fI_bd (q := 64) hT243 (tf hT243 rfl rfl) fd_8_77
  have q255 : fI h242 64 77 = fI h179 64 77 := (Fr_fI hF244 (tf hT200 rfl rfl) (by decide +kernel)).trans (Fr_fI hF201 (tf hT180 rfl rfl) (by decide +kernel))
  have e256 := fI_bd (q := 64) hT243 (tf hT243 rfl rfl) fd_8_90
  have q257 : fI h242 64 90 = fI h199 64 90 := Fr_fI hF244 (tf hT200 rfl rfl) (by decide +kernel)
  have e258 := fI_bd (q := 64) hT243 (tf hT243 rfl rfl) fd_8_91
  have q259 : fI h242 64 91 = fI h 64 91 := (Fr_fI hF244 (tf hT200 rfl rfl) (by decide +kernel)).trans ((Fr_fI hF201 (tf hT180 rfl rfl) (by decide +kernel)).trans ((Fr_fI hF181 (tf hT98 rfl rfl) (by decide +kernel)).trans ((Fr_fI hF99 (tf hT78 rfl rfl) (by decide +kernel)).trans (Fr_fI hF79 (tf hT rfl rfl) (by decide +kernel)))))
  have e260 := fI_bd (q := 64) hT243 (tf hT243 rfl rfl) fd_8_92
  have q261 : fI h242 64 92 = fI h199 64 92 := Fr_fI hF244 (tf hT200 rfl rfl) (by decide +kernel)
  have e262 := fI_bd (q := 64) hT243 (tf hT243 rfl rfl) fd_8_87
  have q263 : fI h242 64 87 = fI h199 64 87 := Fr_fI hF244 (tf hT200 rfl rfl) (by decide +kernel)
  have e264 := fI_bd (q := 64) hT243 (tf hT243 rfl rfl) fd_8_88
  have q265 : fI h242 64 88 = fI h199 64 88 := Fr_fI hF244 (tf hT200 rfl rfl) (by decide +kernel)
  refine st_callt (as := []) c263_89 cm_262 hT243 (tf hT243 rfl rfl) fd_8_0 rfl rfl rfl rfl (by omega) (K262z hT243 (Stb_mono hS (by decide +kernel)) (by omega) (by omega) (by omega) (by omega) (by omega) (by omega) (CU_fr pf214 hT200 hF244 (by decide +kernel)) (d - 1) (by omega) _ (fun v h0 H => H)) (fun v1 h266 H => ?_)
  obtain ⟨rfl, pf269, pf270, pf271, pf272, pf273, pf274, pf275, pf276, pf277, pf278, pf279, pf280, hT267, hF268⟩ := H
  have hF281 := Fr_cp hF250 hF268 (by decide +kernel : Wsub Wp12 W263 = true)
  have e282 := fI_bd (q := 64) hT267 (tf hT267 rfl rfl) fd_8_86
  have e283 := fI_bd (q := 64) hT267 (tf hT267 rfl rfl) fd_8_87
  have e284 := fI_bd (q := 64) hT267 (tf hT267 rfl rfl) fd_8_88
  have e285 := fI_bd (q := 64) hT267 (tf hT267 rfl rfl) fd_8_90
  have e286 := fI_bd (q := 64) hT267 (tf hT267 rfl rfl) fd_8_93
  have e287 := fI_bd (q := 64) hT267 (tf hT267 rfl rfl) fd_8_91
  refine st_aload c263_92 rfl ?_
  refine st_iconst c263_93 ?_
  refine st_iconst c263_94 ?_
  refine st_iconst c263_95 ?_
  have e288 := fI_bd (q := 64) hT267 (tf hT267 rfl rfl) fd_8_92
  have q289 : fI h266 64 92 = fI h242 64 92 := Fr_fI hF268 (tf hT243 rfl rfl) (by decide +kernel)
  refine st_callt (as := [vI 4, vI 0, vI 0]) c263_96 cm_255 hT267 (tf hT267 rfl rfl) fd_8_0 rfl rfl rfl rfl (by omega) (K255 hT267 (Stb_mono hS (by decide +kernel)) 4 (by omega) 0 (by omega) 0 (by omega) (by omega) (d - 1) (by omega) _ (fun v h0 H => H)) (fun v1 h290 H => ?_)
  obtain ⟨rfl, pf293, pf294, pf295, pf296, pf297, hT291, hF292⟩ := H
  have hF298 := Fr_cp hF281 hF292 (by decide +kernel : Wsub W255 W263 = true)
  have e299 := fI_bd (q := 64) hT291 (tf hT291 rfl rfl) fd_8_93
  refine st_return c263_99 ?_
  have e300 := fI_bd (q := 64) hT291 (tf hT291 rfl rfl) fd_8_86
  have q301 : fI h290 64 86 = fI h266 64 86 := Fr_fI hF292 (tf hT267 rfl rfl) (by decide +kernel)
  have e302 := fI_bd (q := 64) hT291 (tf hT291 rfl rfl) fd_8_87
  have q303 : fI h290 64 87 = fI h266 64 87 := Fr_fI hF292 (tf hT267 rfl rfl) (by decide +kernel)
  have e304 := fI_bd (q := 64) hT291 (tf hT291 rfl rfl) fd_8_88
  have q305 : fI h290 64 88 = fI h266 64 88 := Fr_fI hF292 (tf hT267 rfl rfl) (by decide +kernel)
  have e306 := fI_bd (q := 64) hT291 (tf hT291 rfl rfl) fd_8_90
  have q307 : fI h290 64 90 = fI h266 64 90 := Fr_fI hF292 (tf hT267 rfl rfl) (by decide +kernel)
  have e308 := fI_bd (q := 64) hT291 (tf hT291 rfl rfl) fd_8_91
  have q309 : fI h290 64 91 = fI h266 64 91 := Fr_fI hF292 (tf hT267 rfl rfl) (by decide +kernel)
  have e310 := fI_bd (q := 64) hT (tf hT rfl rfl) fd_8_90
  have e311 := fI_bd (q := 64) hT (tf hT rfl rfl) fd_8_91
  have fr312 : ∀ i : Int, 0 ≤ i → i < 220 * fI h 64 92 + fI h 64 93 → aI h290 129 i = aI h 129 i := fun i a b => ((pf296 i a (by omega))).trans (((pf277 i a (by omega))).trans (((pf248 i a (by omega))).trans (((Fr_aI hF201 (tf hT180 rfl rfl) (by decide +kernel) i)).trans (((Fr_aI hF181 (tf hT98 rfl rfl) (by decide +kernel) i)).trans (((Fr_aI hF99 (tf hT78 rfl rfl) (by decide +kernel) i)).trans ((Fr_aI hF79 (tf hT rfl rfl) (by decide +kernel) i)))))))
  have fr313 : ∀ i : Int, 0 ≤ i → i < 220 * fI h 64 92 + fI h 64 93 → aI h290 130 i = aI h 130 i := fun i a b => ((pf297 i a (by omega))).trans (((pf278 i a (by omega))).trans (((pf249 i a (by omega))).trans (((Fr_aI hF201 (tf hT180 rfl rfl) (by decide +kernel) i)).trans (((Fr_aI hF181 (tf hT98 rfl rfl) (by decide +kernel) i)).trans (((Fr_aI hF99 (tf hT78 rfl rfl) (by decide +kernel) i)).trans ((Fr_aI hF79 (tf hT rfl rfl) (by decide +kernel) i)))))))
  have e314 := fI_bd (q := 64) hT291 (tf hT291 rfl rfl) fd_8_92
  have q315 : fI h290 64 92 = fI h266 64 92 := Fr_fI hF292 (tf hT267 rfl rfl) (by decide +kernel)
  have sg316 : 0 ≤ fI h290 64 90 ∨ Zs h290 (220 * fI h 64 92 + fI h 64 93) (fI h290 64 93 - fI h 64 93) := by
    rcases pf279 with q | q
    · exact Or.inl (by omega)
    · refine Or.inr ?_
      have fr317 : ∀ i : Int, 0 ≤ i → i < 220 * fI h242 64 92 + fI h242 64 93 + (fI h266 64 93 - fI h242 64 93) → aI h290 129 i = aI h266 129 i := fun i a b => (pf296 i a (by omega))
      have fr318 : ∀ i : Int, 0 ≤ i → i < 220 * fI h242 64 92 + fI h242 64 93 + (fI h266 64 93 - fI h242 64 93) → aI h290 130 i = aI h266 130 i := fun i a b => (pf297 i a (by omega))
      have g319 : Sg h290 (220 * fI h242 64 92 + fI h242 64 93) (fI h266 64 93 - fI h242 64 93) := Sg_mv q (fun i a b => ⟨fr317 i (by omega) (by omega), fr318 i (by omega) (by omega)⟩)
      have a1 : aI h290 129 (220 * fI h266 64 92 + fI h266 64 93) = 4 := (rfl).trans pf294
      have k1 : Zs h290 (220 * fI h242 64 92 + fI h242 64 93) ((fI h266 64 93 - fI h242 64 93) + 1) := Zs_sum g319 (by rw [show 220 * fI h242 64 92 + fI h242 64 93 + (fI h266 64 93 - fI h242 64 93) = 220 * fI h266 64 92 + fI h266 64 93 by omega]; exact a1)
      have fr320 : ∀ i : Int, 0 ≤ i → i < 220 * fI h199 64 92 + fI h199 64 93 + 1 → aI h290 129 i = aI h242 129 i := fun i a b => ((pf296 i a (by omega))).trans ((pf277 i a (by omega)))
      have a3 : aI h290 129 (220 * fI h199 64 92 + fI h199 64 93) = 3 := (fr320 (220 * fI h199 64 92 + fI h199 64 93) (by omega) (by omega)).trans pf246
      rw [show fI h290 64 93 - fI h 64 93 = 1 + ((fI h266 64 93 - fI h242 64 93) + 1) by omega, show 220 * fI h 64 92 + fI h 64 93 = 220 * fI h199 64 92 + fI h199 64 93 by omega]
      exact Zs_with a3 (by rw [show 220 * fI h199 64 92 + fI h199 64 93 + 1 = 220 * fI h242 64 92 + fI h242 64 93 by omega]; exact k1)
  exact hQ _ _ ⟨rfl, RM_5 (fun r hr => P5_to (by omega) (by omega) (by omega) (by omega) hr) pf280 (by omega) (by omega) (fun b c => CU_fr c hT267 hF292 (by decide +kernel)), by omega, by omega, by omega, by omega, by omega, by omega, by omega, fr312, fr313, sg316, hT291, hF298⟩
  have wq321 := (WH_c (v := Int64.ofInt 583) (k := 15) (by decide +kernel) hT98 pf112 (by decide)).mp pf139
  refine st_if_eq c263_38 (by omega) (fun k322 => False.elim (by omega)) (fun k323 => ?_)
  refine st_aload c263_41 rfl ?_
  have e324 := fI_bd (q := 64) hT98 (tf hT98 rfl rfl) fd_8_77
  have q325 : fI h97 64 77 = fI h77 64 77 := Fr_fI hF99 (tf hT78 rfl rfl) (by decide +kernel)
  refine st_callt (as := []) c263_42 cm_252 hT98 (tf hT98 rfl rfl) fd_8_0 rfl rfl rfl rfl (by omega) (K252 hT98 (Stb_mono hS (by decide +kernel)) (by omega) (CU_nx pf112) (d - 1) (by omega) _ (fun v h0 H => H)) (fun v1 h326 H => ?_)
  obtain ⟨rfl, pf329, pf330, pf331, pf332, pf333, hT327, hF328⟩ := H
  have hF334 := Fr_cp hF130 hF328 (by decide +kernel : Wsub W252 W263 = true)
  have e335 := fI_bd (q := 64) hT327 (tf hT327 rfl rfl) fd_8_86
  have e336 := fI_bd (q := 64) hT327 (tf hT327 rfl rfl) fd_8_87
  have e337 := fI_bd (q := 64) hT327 (tf hT327 rfl rfl) fd_8_88
  refine st_goto c263_45 ?_
  refine st_aload c263_81 rfl ?_
  refine st_iconst c263_82 ?_
  refine st_iload c263_83 rfl ?_
  refine st_iload c263_84 rfl ?_
  have e338 := fI_bd (q := 64) hT327 (tf hT327 rfl rfl) fd_8_93
  have q339 : fI h326 64 93 = fI h 64 93 := (Fr_fI hF328 (tf hT98 rfl rfl) (by decide +kernel)).trans ((Fr_fI hF99 (tf hT78 rfl rfl) (by decide +kernel)).trans (Fr_fI hF79 (tf hT rfl rfl) (by decide +kernel)))
  have e340 := fI_bd (q := 64) hT327 (tf hT327 rfl rfl) fd_8_92
  have q341 : fI h326 64 92 = fI h 64 92 := (Fr_fI hF328 (tf hT98 rfl rfl) (by decide +kernel)).trans ((Fr_fI hF99 (tf hT78 rfl rfl) (by decide +kernel)).trans (Fr_fI hF79 (tf hT rfl rfl) (by decide +kernel)))
  refine st_callt (as := [vI 3, vI (fI h77 64 89), vI 1000000]) c263_85 cm_255 hT327 (tf hT327 rfl rfl) fd_8_0 rfl rfl rfl rfl (by omega) (K255 hT327 (Stb_mono hS (by decide +kernel)) 3 (by omega) (fI h77 64 89) (by omega) 1000000 (by omega) (by omega) (d - 1) (by omega) _ (fun v h0 H => H)) (fun v1 h342 H => ?_)
  obtain ⟨rfl, pf345, pf346, pf347, pf348, pf349, hT343, hF344⟩ := H
  have hF350 := Fr_cp hF334 hF344 (by decide +kernel : Wsub W255 W263 = true)
  have e351 := fI_bd (q := 64) hT343 (tf hT343 rfl rfl) fd_8_93
  refine st_aload c263_88 rfl ?_
  have e352 := fI_bd (q := 64) hT343 (tf hT343 rfl rfl) fd_8_86
  have q353 : fI h342 64 86 = fI h326 64 86 := Fr_fI hF344 (tf hT327 rfl rfl) (by decide +kernel)
  have e354 := fI_bd (q := 64) hT343 (tf hT343 rfl rfl) fd_8_77
  have q355 : fI h342 64 77 = fI h97 64 77 := (Fr_fI hF344 (tf hT327 rfl rfl) (by decide +kernel)).trans (Fr_fI hF328 (tf hT98 rfl rfl) (by decide +kernel))
  have e356 := fI_bd (q := 64) hT343 (tf hT343 rfl rfl) fd_8_90
  have q357 : fI h342 64 90 = fI h97 64 90 := (Fr_fI hF344 (tf hT327 rfl rfl) (by decide +kernel)).trans (Fr_fI hF328 (tf hT98 rfl rfl) (by decide +kernel))
  have e358 := fI_bd (q := 64) hT343 (tf hT343 rfl rfl) fd_8_91
  have q359 : fI h342 64 91 = fI h 64 91 := (Fr_fI hF344 (tf hT327 rfl rfl) (by decide +kernel)).trans ((Fr_fI hF328 (tf hT98 rfl rfl) (by decide +kernel)).trans ((Fr_fI hF99 (tf hT78 rfl rfl) (by decide +kernel)).trans (Fr_fI hF79 (tf hT rfl rfl) (by decide +kernel))))
  have e360 := fI_bd (q := 64) hT343 (tf hT343 rfl rfl) fd_8_92
  have q361 : fI h342 64 92 = fI h326 64 92 := Fr_fI hF344 (tf hT327 rfl rfl) (by decide +kernel)
  have e362 := fI_bd (q := 64) hT343 (tf hT343 rfl rfl) fd_8_87
  have q363 : fI h342 64 87 = fI h326 64 87 := Fr_fI hF344 (tf hT327 rfl rfl) (by decide +kernel)
  have e364 := fI_bd (q := 64) hT343 (tf hT343 rfl rfl) fd_8_88
  have q365 : fI h342 64 88 = fI h326 64 88 := Fr_fI hF344 (tf hT327 rfl rfl) (by decide +kernel)
  refine st_callt (as := []) c263_89 cm_262 hT343 (tf hT343 rfl rfl) fd_8_0 rfl rfl rfl rfl (by omega) (K262z hT343 (Stb_mono hS (by decide +kernel)) (by omega) (by omega) (by omega) (by omega) (by omega) (by omega) (CU_fr pf333 hT327 hF344 (by decide +kernel)) (d - 1) (by omega) _ (fun v h0 H => H)) (fun v1 h366 H => ?_)
  obtain ⟨rfl, pf369, pf370, pf371, pf372, pf373, pf374, pf375, pf376, pf377, pf378, pf379, pf380, hT367, hF368⟩ := H
  have hF381 := Fr_cp hF350 hF368 (by decide +kernel : Wsub Wp12 W263 = true)
  have e382 := fI_bd (q := 64) hT367 (tf hT367 rfl rfl) fd_8_86
  have e383 := fI_bd (q := 64) hT367 (tf hT367 rfl rfl) fd_8_87
  have e384 := fI_bd (q := 64) hT367 (tf hT367 rfl rfl) fd_8_88
  have e385 := fI_bd (q := 64) hT367 (tf hT367 rfl rfl) fd_8_90
  have e386 := fI_bd (q := 64) hT367 (tf hT367 rfl rfl) fd_8_93
  have e387 := fI_bd (q := 64) hT367 (tf hT367 rfl rfl) fd_8_91
  refine st_aload c263_92 rfl ?_
  refine st_iconst c263_93 ?_
  refine st_iconst c263_94 ?_
  refine st_iconst c263_95 ?_
  have e388 := fI_bd (q := 64) hT367 (tf hT367 rfl rfl) fd_8_92
  have q389 : fI h366 64 92 = fI h342 64 92 := Fr_fI hF368 (tf hT343 rfl rfl) (by decide +kernel)
  refine st_callt (as := [vI 4, vI 0, vI 0]) c263_96 cm_255 hT367 (tf hT367 rfl rfl) fd_8_0 rfl rfl rfl rfl (by omega) (K255 hT367 (Stb_mono hS (by decide +kernel)) 4 (by omega) 0 (by omega) 0 (by omega) (by omega) (d - 1) (by omega) _ (fun v h0 H => H)) (fun v1 h390 H => ?_)
  obtain ⟨rfl, pf393, pf394, pf395, pf396, pf397, hT391, hF392⟩ := H
  have hF398 := Fr_cp hF381 hF392 (by decide +kernel : Wsub W255 W263 = true)
  have e399 := fI_bd (q := 64) hT391 (tf hT391 rfl rfl) fd_8_93
  refine st_return c263_99 ?_
  have e400 := fI_bd (q := 64) hT391 (tf hT391 rfl rfl) fd_8_86
  have q401 : fI h390 64 86 = fI h366 64 86 := Fr_fI hF392 (tf hT367 rfl rfl) (by decide +kernel)
  have e402 := fI_bd (q := 64) hT391 (tf hT391 rfl rfl) fd_8_87
  have q403 : fI h390 64 87 = fI h366 64 87 := Fr_fI hF392 (tf hT367 rfl rfl) (by decide +kernel)
  have e404 := fI_bd (q := 64) hT391 (tf hT391 rfl rfl) fd_8_88
  have q405 : fI h390 64 88 = fI h366 64 88 := Fr_fI hF392 (tf hT367 rfl rfl) (by decide +kernel)
  have e406 := fI_bd (q := 64) hT391 (tf hT391 rfl rfl) fd_8_90
  have q407 : fI h390 64 90 = fI h366 64 90 := Fr_fI hF392 (tf hT367 rfl rfl) (by decide +kernel)
  have e408 := fI_bd (q := 64) hT391 (tf hT391 rfl rfl) fd_8_91
  have q409 : fI h390 64 91 = fI h366 64 91 := Fr_fI hF392 (tf hT367 rfl rfl) (by decide +kernel)
  have e410 := fI_bd (q := 64) hT (tf hT rfl rfl) fd_8_90
  have e411 := fI_bd (q := 64) hT (tf hT rfl rfl) fd_8_91
  have fr412 : ∀ i : Int, 0 ≤ i → i < 220 * fI h 64 92 + fI h 64 93 → aI h390 129 i = aI h 129 i := fun i a b => ((pf396 i a (by omega))).trans (((pf377 i a (by omega))).trans (((pf348 i a (by omega))).trans (((Fr_aI hF328 (tf hT98 rfl rfl) (by decide +kernel) i)).trans (((Fr_aI hF99 (tf hT78 rfl rfl) (by decide +kernel) i)).trans ((Fr_aI hF79 (tf hT rfl rfl) (by decide +kernel) i))))))
  have fr413 : ∀ i : Int, 0 ≤ i → i < 220 * fI h 64 92 + fI h 64 93 → aI h390 130 i = aI h 130 i := fun i a b => ((pf397 i a (by omega))).trans (((pf378 i a (by omega))).trans (((pf349 i a (by omega))).trans (((Fr_aI hF328 (tf hT98 rfl rfl) (by decide +kernel) i)).trans (((Fr_aI hF99 (tf hT78 rfl rfl) (by decide +kernel) i)).trans ((Fr_aI hF79 (tf hT rfl rfl) (by decide +kernel) i))))))
  have e414 := fI_bd (q := 64) hT391 (tf hT391 rfl rfl) fd_8_92
  have q415 : fI h390 64 92 = fI h366 64 92 := Fr_fI hF392 (tf hT367 rfl rfl) (by decide +kernel)
  have sg416 : 0 ≤ fI h390 64 90 ∨ Zs h390 (220 * fI h 64 92 + fI h 64 93) (fI h390 64 93 - fI h 64 93) := by
    rcases pf379 with q | q
    · exact Or.inl (by omega)
    · refine Or.inr ?_
      have fr417 : ∀ i : Int, 0 ≤ i → i < 220 * fI h342 64 92 + fI h342 64 93 + (fI h366 64 93 - fI h342 64 93) → aI h390 129 i = aI h366 129 i := fun i a b => (pf396 i a (by omega))
      have fr418 : ∀ i : Int, 0 ≤ i → i < 220 * fI h342 64 92 + fI h342 64 93 + (fI h366 64 93 - fI h342 64 93) → aI h390 130 i = aI h366 130 i := fun i a b => (pf397 i a (by omega))
      have g419 : Sg h390 (220 * fI h342 64 92 + fI h342 64 93) (fI h366 64 93 - fI h342 64 93) := Sg_mv q (fun i a b => ⟨fr417 i (by omega) (by omega), fr418 i (by omega) (by omega)⟩)
      have a1 : aI h390 129 (220 * fI h366 64 92 + fI h366 64 93) = 4 := (rfl).trans pf394
      have k1 : Zs h390 (220 * fI h342 64 92 + fI h342 64 93) ((fI h366 64 93 - fI h342 64 93) + 1) := Zs_sum g419 (by rw [show 220 * fI h342 64 92 + fI h342 64 93 + (fI h366 64 93 - fI h342 64 93) = 220 * fI h366 64 92 + fI h366 64 93 by omega]; exact a1)
      have fr420 : ∀ i : Int, 0 ≤ i → i < 220 * fI h326 64 92 + fI h326 64 93 + 1 → aI h390 129 i = aI h342 129 i := fun i a b => ((pf396 i a (by omega))).trans ((pf377 i a (by omega)))
      have a3 : aI h390 129 (220 * fI h326 64 92 + fI h326 64 93) = 3 := (fr420 (220 * fI h326 64 92 + fI h326 64 93) (by omega) (by omega)).trans pf346
      rw [show fI h390 64 93 - fI h 64 93 = 1 + ((fI h366 64 93 - fI h342 64 93) + 1) by omega, show 220 * fI h 64 92 + fI h 64 93 = 220 * fI h326 64 92 + fI h326 64 93 by omega]
      exact Zs_with a3 (by rw [show 220 * fI h326 64 92 + fI h326 64 93 + 1 = 220 * fI h342 64 92 + fI h342 64 93 by omega]; exact k1)
  exact hQ _ _ ⟨rfl, RM_5 (fun r hr => P5_up (by omega) (by omega) (by omega) hr) pf380 (by omega) (by omega) (fun b c => CU_fr c hT367 hF392 (by decide +kernel)), by omega, by omega, by omega, by omega, by omega, by omega, by omega, fr412, fr413, sg416, hT391, hF398⟩
