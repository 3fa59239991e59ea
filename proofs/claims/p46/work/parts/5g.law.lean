def WL : List (Nat × Nat) := [(1, 0), (1, 1), (1, 5), (1, 7), (1, 10), (1, 12), (2, 3), (3, 3), (3, 7), (4, 1), (4, 2), (5, 1), (5, 3), (6, 1), (6, 5), (6, 6), (6, 7), (6, 9), (7, 1), (8, 1), (8, 2), (8, 7), (8, 15), (8, 32), (8, 33), (8, 37), (8, 41), (8, 45), (8, 48), (8, 62), (8, 64), (8, 65), (8, 70), (8, 73), (8, 74), (8, 77), (8, 78), (8, 86), (8, 87), (8, 88), (8, 89), (8, 90), (8, 91), (8, 92), (8, 93), (8, 96), (10, 3), (10, 4), (10, 5), (10, 6), (10, 7), (10, 8), (10, 9), (10, 10), (10, 11), (10, 12), (10, 15), (11, 0), (11, 1), (11, 2), (11, 3), (12, 6), (12, 7), (12, 8), (12, 9), (12, 10), (12, 11), (12, 12), (14, 0), (15, 0), (16, 0), (17, 0), (18, 0), (19, 0), (20, 0), (23, 0), (24, 0), (25, 0), (26, 0), (27, 0), (28, 0), (29, 0), (30, 0), (31, 0), (32, 0), (33, 0), (34, 0), (35, 0), (36, 0), (37, 0), (38, 0), (39, 0), (40, 0), (41, 0), (42, 0), (43, 0), (44, 0), (45, 0), (46, 0), (47, 0), (48, 0), (49, 0), (50, 0), (51, 0), (52, 0), (53, 0), (54, 0), (55, 0), (56, 0), (57, 0), (58, 0), (59, 0), (60, 0), (61, 0), (62, 0), (63, 0), (64, 0), (65, 0), (66, 0), (67, 0), (68, 0), (69, 0), (70, 0), (71, 0), (72, 0), (73, 0), (74, 0), (75, 0), (76, 0), (77, 0), (78, 0), (79, 0), (80, 0), (81, 0), (82, 0), (83, 0), (84, 0), (85, 0), (86, 0), (87, 0), (88, 0), (89, 0), (90, 0), (91, 0), (92, 0), (93, 0), (94, 0), (95, 0), (96, 0), (97, 0), (98, 0), (99, 0), (100, 0), (101, 0), (102, 0), (103, 0), (104, 0), (105, 0), (106, 0), (107, 0), (108, 0), (109, 0), (110, 0), (111, 0), (112, 0), (113, 0), (114, 0), (115, 0), (116, 0), (117, 0), (118, 0), (119, 0), (120, 0), (122, 0), (123, 0)]
set_option maxHeartbeats 0 in
theorem LC_0 {Ln : Nat} {xs : Nat → Int32} {τ : List Nat} {h : List mE} (hT : TH Tr τ h) (pre0 : I1 τ h) (pre1 : I2 τ h) (pre2 : I3 h) (pre3 : I4 h) (pre4 : I6 h) (pre5 : I8 h) (pre6 : I9 h) (pre7 : IA h) (pre8 : IB h) (pre9 : IC h) (pre10 : ID h) (pre11 : IE h) (pre12 : fI h 64 32≤fI h 64 15+fI h 64 33) (pre13 : fI h 6 3=fI h 64 2) (pre14 : fI h 4 0=fI h 64 1) (pre15 : fI h 4 5=fI h 64 7) (pre16 : fI h 4 10=fI h 64 45) (pre17 : fI h 4 12=fI h 64 48) (pre18 : fI h 4 7=fI h 64 15) (pre19 : fI h 39 3=fI h 64 41) (pre20 : fI h 54 1=fI h 64 77) (pre21 : fI h 60 1=fI h 64 78) (i : Int) (hi : 0 ≤ i ∧ i + 6 ≤ (Ln : Int) ∧ (Ln : Int) ≤ 3072) (d : Nat) (hd : 90 ≤ d) (Q : Option Value → List mE → Prop) (hQ : ∀ (τ' : List Nat) (h' : List mE), (∃ ts : List Nat, τ' = τ ++ ts ∧ gsT ts = true) → TH Tr τ' h' → I1 τ' h' → I2 τ' h' → I3 h' → I4 h' → I6 h' → I8 h' → I9 h' → IA h' → IB h' → IC h' → ID h' → IE h' → fI h' 64 32≤fI h' 64 15+fI h' 64 33 → fI h' 6 3=fI h' 64 2 → fI h' 4 0=fI h' 64 1 → fI h' 4 5=fI h' 64 7 → fI h' 4 10=fI h' 64 45 → fI h' 4 12=fI h' 64 48 → fI h' 4 7=fI h' 64 15 → fI h' 39 3=fI h' 64 41 → fI h' 54 1=fI h' 64 77 → fI h' 60 1=fI h' 64 78 → MR (mex Ln xs) d 292 1864 [some (.ref 0), some (.ref 4), some (.ref 64), some (vI i)] [] h' Q) : MR (mex Ln xs) d 292 240 [some (.ref 0), some (.ref 4), some (.ref 64), some (vI i)] [] h Q := by
  have hF := Fr_rf τ WL h
  have hE := Ext_rf τ
  have e1 := fI_bd (q := 64) hT (tf hT rfl rfl) fd_8_32
  have e2 := fI_bd (q := 64) hT (tf hT rfl rfl) fd_8_15
  have e3 := fI_bd (q := 64) hT (tf hT rfl rfl) fd_8_33
  have e4 := fI_bd (q := 6) hT (tf hT rfl rfl) fd_2_3
  have e5 := fI_bd (q := 64) hT (tf hT rfl rfl) fd_8_2
  have e6 := fI_bd (q := 4) hT (tf hT rfl rfl) fd_1_0
  have e7 := fI_bd (q := 64) hT (tf hT rfl rfl) fd_8_1
  have e8 := fI_bd (q := 4) hT (tf hT rfl rfl) fd_1_5
  have e9 := fI_bd (q := 64) hT (tf hT rfl rfl) fd_8_7
  have e10 := fI_bd (q := 4) hT (tf hT rfl rfl) fd_1_10
  have e11 := fI_bd (q := 64) hT (tf hT rfl rfl) fd_8_45
  have e12 := fI_bd (q := 4) hT (tf hT rfl rfl) fd_1_12
  have e13 := fI_bd (q := 64) hT (tf hT rfl rfl) fd_8_48
  have e14 := fI_bd (q := 4) hT (tf hT rfl rfl) fd_1_7
  have e15 := fI_bd (q := 39) hT (tf hT rfl rfl) fd_3_3
  have e16 := fI_bd (q := 64) hT (tf hT rfl rfl) fd_8_41
  have e17 := fI_bd (q := 54) hT (tf hT rfl rfl) fd_6_1
  have e18 := fI_bd (q := 64) hT (tf hT rfl rfl) fd_8_77
  have e19 := fI_bd (q := 60) hT (tf hT rfl rfl) fd_7_1
  have e20 := fI_bd (q := 64) hT (tf hT rfl rfl) fd_8_78
  refine st_aload c292_240 rfl ?_
  refine st_aload c292_241 rfl ?_
  refine st_iload c292_242 rfl ?_
  refine st_iconst c292_243 ?_
  refine st_iadd c292_244 ?_
  refine st_sld c292_245 (by omega) (fun e21 e22 => ?_)
  have e23 := fI_bd (q := 6) hT (tf hT rfl rfl) fd_2_3
  refine st_callt (as := [vI (sv xs (i + 1))]) c292_246 cm_118 hT (tf hT rfl rfl) fd_1_0 rfl rfl rfl rfl (by omega) (K118 hT Stb_T (sv xs (i + 1)) (by omega) pre10 (d - 1) (by omega) _ (fun v h0 H => H)) (fun v1 h24 H => ?_)
  obtain ⟨z30, rfl, b31, pf27, pf28, pf29, hT25, hF26⟩ := H
  have hF32 := Fr_cp hF hF26 (by decide +kernel : Wsub W118 WL = true)
  have e33 := fI_bd (q := 6) hT25 (tf hT25 rfl rfl) fd_2_3
  refine st_pop c292_249 rfl ?_
  refine st_aload c292_250 rfl ?_
  refine st_aload c292_251 rfl ?_
  refine st_iload c292_252 rfl ?_
  refine st_iconst c292_253 ?_
  refine st_iadd c292_254 ?_
  refine st_sld c292_255 (by omega) (fun e34 e35 => ?_)
  have e36 := fI_bd (q := 64) hT25 (tf hT25 rfl rfl) fd_8_2
  have q37 : fI h24 64 2 = fI h 64 2 := Fr_fI hF26 (tf hT rfl rfl) (by decide +kernel)
  refine st_callt (as := [vI (sv xs (i + 1))]) c292_256 cm_186 hT25 (tf hT25 rfl rfl) fd_8_0 rfl rfl rfl rfl (by omega) (K186 hT25 Stb_T (sv xs (i + 1)) (by omega) (d - 1) (by omega) _ (fun v h0 H => H)) (fun v1 h38 H => ?_)
  obtain ⟨z44, rfl, b45, pf41, pf42, pf43, hT39, hF40⟩ := H
  have hF46 := Fr_cp hF32 hF40 (by decide +kernel : Wsub W186 WL = true)
  have e47 := fI_bd (q := 64) hT39 (tf hT39 rfl rfl) fd_8_2
  have iv48 := S_town pre8 (fun i => Fr_aI hF26 (tf (q := 65) (t := 43) hT rfl rfl) (by decide +kernel) i) (fun i => Fr_aI hF40 (tf (q := 7) (t := 20) hT25 rfl rfl) (by decide +kernel) i) (by omega) pf28 pf42
  have iv50 := S_town4 pre10 hT hT25 hF26 (by decide +kernel) hF40 (by decide +kernel) pf29 pf43
  refine st_pop c292_259 rfl ?_
  refine st_goto c292_260 ?_
  have e51 := fI_bd (q := 64) hT39 (tf hT39 rfl rfl) fd_8_32
  have q52 : fI h38 64 32 = fI h 64 32 := (Fr_fI hF40 (tf hT25 rfl rfl) (by decide +kernel)).trans (Fr_fI hF26 (tf hT rfl rfl) (by decide +kernel))
  have e53 := fI_bd (q := 64) hT39 (tf hT39 rfl rfl) fd_8_15
  have q54 : fI h38 64 15 = fI h 64 15 := (Fr_fI hF40 (tf hT25 rfl rfl) (by decide +kernel)).trans (Fr_fI hF26 (tf hT rfl rfl) (by decide +kernel))
  have e55 := fI_bd (q := 64) hT39 (tf hT39 rfl rfl) fd_8_33
  have q56 : fI h38 64 33 = fI h 64 33 := (Fr_fI hF40 (tf hT25 rfl rfl) (by decide +kernel)).trans (Fr_fI hF26 (tf hT rfl rfl) (by decide +kernel))
  have e57 := fI_bd (q := 6) hT39 (tf hT39 rfl rfl) fd_2_3
  have q58 : fI h38 6 3 = fI h24 6 3 := Fr_fI hF40 (tf hT25 rfl rfl) (by decide +kernel)
  have e59 := fI_bd (q := 4) hT39 (tf hT39 rfl rfl) fd_1_0
  have q60 : fI h38 4 0 = fI h 4 0 := (Fr_fI hF40 (tf hT25 rfl rfl) (by decide +kernel)).trans (Fr_fI hF26 (tf hT rfl rfl) (by decide +kernel))
  have e61 := fI_bd (q := 64) hT39 (tf hT39 rfl rfl) fd_8_1
  have q62 : fI h38 64 1 = fI h 64 1 := (Fr_fI hF40 (tf hT25 rfl rfl) (by decide +kernel)).trans (Fr_fI hF26 (tf hT rfl rfl) (by decide +kernel))
  have e63 := fI_bd (q := 4) hT39 (tf hT39 rfl rfl) fd_1_5
  have q64 : fI h38 4 5 = fI h 4 5 := (Fr_fI hF40 (tf hT25 rfl rfl) (by decide +kernel)).trans (Fr_fI hF26 (tf hT rfl rfl) (by decide +kernel))
  have e65 := fI_bd (q := 64) hT39 (tf hT39 rfl rfl) fd_8_7
  have q66 : fI h38 64 7 = fI h 64 7 := (Fr_fI hF40 (tf hT25 rfl rfl) (by decide +kernel)).trans (Fr_fI hF26 (tf hT rfl rfl) (by decide +kernel))
  have e67 := fI_bd (q := 4) hT39 (tf hT39 rfl rfl) fd_1_10
  have q68 : fI h38 4 10 = fI h 4 10 := (Fr_fI hF40 (tf hT25 rfl rfl) (by decide +kernel)).trans (Fr_fI hF26 (tf hT rfl rfl) (by decide +kernel))
  have e69 := fI_bd (q := 64) hT39 (tf hT39 rfl rfl) fd_8_45
  have q70 : fI h38 64 45 = fI h 64 45 := (Fr_fI hF40 (tf hT25 rfl rfl) (by decide +kernel)).trans (Fr_fI hF26 (tf hT rfl rfl) (by decide +kernel))
  have e71 := fI_bd (q := 4) hT39 (tf hT39 rfl rfl) fd_1_12
  have q72 : fI h38 4 12 = fI h 4 12 := (Fr_fI hF40 (tf hT25 rfl rfl) (by decide +kernel)).trans (Fr_fI hF26 (tf hT rfl rfl) (by decide +kernel))
  have e73 := fI_bd (q := 64) hT39 (tf hT39 rfl rfl) fd_8_48
  have q74 : fI h38 64 48 = fI h 64 48 := (Fr_fI hF40 (tf hT25 rfl rfl) (by decide +kernel)).trans (Fr_fI hF26 (tf hT rfl rfl) (by decide +kernel))
  have e75 := fI_bd (q := 4) hT39 (tf hT39 rfl rfl) fd_1_7
  have q76 : fI h38 4 7 = fI h 4 7 := (Fr_fI hF40 (tf hT25 rfl rfl) (by decide +kernel)).trans (Fr_fI hF26 (tf hT rfl rfl) (by decide +kernel))
  have e77 := fI_bd (q := 39) hT39 (tf hT39 rfl rfl) fd_3_3
  have q78 : fI h38 39 3 = fI h 39 3 := (Fr_fI hF40 (tf hT25 rfl rfl) (by decide +kernel)).trans (Fr_fI hF26 (tf hT rfl rfl) (by decide +kernel))
  have e79 := fI_bd (q := 64) hT39 (tf hT39 rfl rfl) fd_8_41
  have q80 : fI h38 64 41 = fI h 64 41 := (Fr_fI hF40 (tf hT25 rfl rfl) (by decide +kernel)).trans (Fr_fI hF26 (tf hT rfl rfl) (by decide +kernel))
  have e81 := fI_bd (q := 54) hT39 (tf hT39 rfl rfl) fd_6_1
  have q82 : fI h38 54 1 = fI h 54 1 := (Fr_fI hF40 (tf hT25 rfl rfl) (by decide +kernel)).trans (Fr_fI hF26 (tf hT rfl rfl) (by decide +kernel))
  have e83 := fI_bd (q := 64) hT39 (tf hT39 rfl rfl) fd_8_77
  have q84 : fI h38 64 77 = fI h 64 77 := (Fr_fI hF40 (tf hT25 rfl rfl) (by decide +kernel)).trans (Fr_fI hF26 (tf hT rfl rfl) (by decide +kernel))
  have e85 := fI_bd (q := 60) hT39 (tf hT39 rfl rfl) fd_7_1
  have q86 : fI h38 60 1 = fI h 60 1 := (Fr_fI hF40 (tf hT25 rfl rfl) (by decide +kernel)).trans (Fr_fI hF26 (tf hT rfl rfl) (by decide +kernel))
  have e87 := fI_bd (q := 64) hT39 (tf hT39 rfl rfl) fd_8_78
  have q88 : fI h38 64 78 = fI h 64 78 := (Fr_fI hF40 (tf hT25 rfl rfl) (by decide +kernel)).trans (Fr_fI hF26 (tf hT rfl rfl) (by decide +kernel))
  exact hQ _ _ ⟨[], (List.append_nil τ).symm, rfl⟩ hT39 (I1_fr (I1_fr pre0 hT hF26 (by decide +kernel)) hT25 hF40 (by decide +kernel)) (I2_fr (I2_fr pre1 hF26 (by decide +kernel)) hF40 (by decide +kernel)) (I3_fr (I3_fr pre2 hT hF26 (by decide +kernel)) hT25 hF40 (by decide +kernel)) (I4_fr (I4_fr pre3 hT hF26 (by decide +kernel)) hT25 hF40 (by decide +kernel)) (I6_fr (I6_fr pre4 hT hF26 (by decide +kernel)) hT25 hF40 (by decide +kernel)) (I8_fr (I8_fr pre5 hT hF26 (by decide +kernel)) hT25 hF40 (by decide +kernel)) (I9_fr (I9_fr pre6 hT hF26 (by decide +kernel)) hT25 hF40 (by decide +kernel)) (IA_fr (IA_fr pre7 hT hF26 (by decide +kernel)) hT25 hF40 (by decide +kernel)) iv48 (IC_fr (IC_fr pre9 hT hF26 (by decide +kernel)) hT25 hF40 (by decide +kernel)) iv50 (IE_fr (IE_fr pre11 hT hF26 (by decide +kernel)) hT25 hF40 (by decide +kernel)) (by omega) (by omega) (by omega) (by omega) (by omega) (by omega) (by omega) (by omega) (by omega) (by omega)
set_option maxHeartbeats 0 in
theorem LC_1 {Ln : Nat} {xs : Nat → Int32} {τ : List Nat} {h : List mE} (hT : TH Tr τ h) (pre0 : I1 τ h) (pre1 : I2 τ h) (pre2 : I3 h) (pre3 : I4 h) (pre4 : I6 h) (pre5 : I8 h) (pre6 : I9 h) (pre7 : IA h) (pre8 : IB h) (pre9 : IC h) (pre10 : ID h) (pre11 : IE h) (pre12 : fI h 64 32≤fI h 64 15+fI h 64 33) (pre13 : fI h 6 3=fI h 64 2) (pre14 : fI h 4 0=fI h 64 1) (pre15 : fI h 4 5=fI h 64 7) (pre16 : fI h 4 10=fI h 64 45) (pre17 : fI h 4 12=fI h 64 48) (pre18 : fI h 4 7=fI h 64 15) (pre19 : fI h 39 3=fI h 64 41) (pre20 : fI h 54 1=fI h 64 77) (pre21 : fI h 60 1=fI h 64 78) (i : Int) (hi : 0 ≤ i ∧ i + 6 ≤ (Ln : Int) ∧ (Ln : Int) ≤ 3072) (d : Nat) (hd : 90 ≤ d) (Q : Option Value → List mE → Prop) (hQ : ∀ (τ' : List Nat) (h' : List mE), (∃ ts : List Nat, τ' = τ ++ ts ∧ gsT ts = true) → TH Tr τ' h' → I1 τ' h' → I2 τ' h' → I3 h' → I4 h' → I6 h' → I8 h' → I9 h' → IA h' → IB h' → IC h' → ID h' → IE h' → fI h' 64 32≤fI h' 64 15+fI h' 64 33 → fI h' 6 3=fI h' 64 2 → fI h' 4 0=fI h' 64 1 → fI h' 4 5=fI h' 64 7 → fI h' 4 10=fI h' 64 45 → fI h' 4 12=fI h' 64 48 → fI h' 4 7=fI h' 64 15 → fI h' 39 3=fI h' 64 41 → fI h' 54 1=fI h' 64 77 → fI h' 60 1=fI h' 64 78 → MR (mex Ln xs) d 292 1864 [some (.ref 0), some (.ref 4), some (.ref 64), some (vI i)] [] h' Q) : MR (mex Ln xs) d 292 263 [some (.ref 0), some (.ref 4), some (.ref 64), some (vI i)] [] h Q := by
  have hF := Fr_rf τ WL h
  have hE := Ext_rf τ
  have e1 := fI_bd (q := 64) hT (tf hT rfl rfl) fd_8_32
  have e2 := fI_bd (q := 64) hT (tf hT rfl rfl) fd_8_15
  have e3 := fI_bd (q := 64) hT (tf hT rfl rfl) fd_8_33
  have e4 := fI_bd (q := 6) hT (tf hT rfl rfl) fd_2_3
  have e5 := fI_bd (q := 64) hT (tf hT rfl rfl) fd_8_2
  have e6 := fI_bd (q := 4) hT (tf hT rfl rfl) fd_1_0
  have e7 := fI_bd (q := 64) hT (tf hT rfl rfl) fd_8_1
  have e8 := fI_bd (q := 4) hT (tf hT rfl rfl) fd_1_5
  have e9 := fI_bd (q := 64) hT (tf hT rfl rfl) fd_8_7
  have e10 := fI_bd (q := 4) hT (tf hT rfl rfl) fd_1_10
  have e11 := fI_bd (q := 64) hT (tf hT rfl rfl) fd_8_45
  have e12 := fI_bd (q := 4) hT (tf hT rfl rfl) fd_1_12
  have e13 := fI_bd (q := 64) hT (tf hT rfl rfl) fd_8_48
  have e14 := fI_bd (q := 4) hT (tf hT rfl rfl) fd_1_7
  have e15 := fI_bd (q := 39) hT (tf hT rfl rfl) fd_3_3
  have e16 := fI_bd (q := 64) hT (tf hT rfl rfl) fd_8_41
  have e17 := fI_bd (q := 54) hT (tf hT rfl rfl) fd_6_1
  have e18 := fI_bd (q := 64) hT (tf hT rfl rfl) fd_8_77
  have e19 := fI_bd (q := 60) hT (tf hT rfl rfl) fd_7_1
  have e20 := fI_bd (q := 64) hT (tf hT rfl rfl) fd_8_78
  refine st_aload c292_263 rfl ?_
  refine st_aload c292_264 rfl ?_
  refine st_iload c292_265 rfl ?_
  refine st_iconst c292_266 ?_
  refine st_iadd c292_267 ?_
  refine st_sld c292_268 (by omega) (fun e21 e22 => ?_)
  refine st_aload c292_269 rfl ?_
  refine st_iload c292_270 rfl ?_
  refine st_iconst c292_271 ?_
  refine st_iadd c292_272 ?_
  refine st_sld c292_273 (by omega) (fun e23 e24 => ?_)
  refine st_aload c292_274 rfl ?_
  refine st_iload c292_275 rfl ?_
  refine st_iconst c292_276 ?_
  refine st_iadd c292_277 ?_
  refine st_sld c292_278 (by omega) (fun e25 e26 => ?_)
  refine st_callt (as := [vI (sv xs (i + 1)), vI (sv xs (i + 2)), vI (sv xs (i + 3))]) c292_279 cm_119 hT (tf hT rfl rfl) fd_1_0 rfl rfl rfl rfl (by omega) (K119 hT Stb_T (sv xs (i + 1)) (by omega) (sv xs (i + 2)) (by omega) (sv xs (i + 3)) (by omega) pre10 (d - 1) (by omega) _ (fun v h0 H => H)) (fun v1 h27 H => ?_)
  obtain ⟨z31, rfl, b32, pf30, hT28, hF29⟩ := H
  have hF33 := Fr_cp hF hF29 (by decide +kernel : Wsub W119 WL = true)
  refine st_pop c292_282 rfl ?_
  refine st_aload c292_283 rfl ?_
  refine st_aload c292_284 rfl ?_
  refine st_iload c292_285 rfl ?_
  refine st_iconst c292_286 ?_
  refine st_iadd c292_287 ?_
  refine st_sld c292_288 (by omega) (fun e34 e35 => ?_)
  refine st_aload c292_289 rfl ?_
  refine st_iload c292_290 rfl ?_
  refine st_iconst c292_291 ?_
  refine st_iadd c292_292 ?_
  refine st_sld c292_293 (by omega) (fun e36 e37 => ?_)
  refine st_aload c292_294 rfl ?_
  refine st_iload c292_295 rfl ?_
  refine st_iconst c292_296 ?_
  refine st_iadd c292_297 ?_
  refine st_sld c292_298 (by omega) (fun e38 e39 => ?_)
  refine st_callt (as := [vI (sv xs (i + 1)), vI (sv xs (i + 2)), vI (sv xs (i + 3))]) c292_299 cm_187 hT28 (tf hT28 rfl rfl) fd_8_0 rfl rfl rfl rfl (by omega) (K187 hT28 Stb_T (sv xs (i + 1)) (by omega) (sv xs (i + 2)) (by omega) (sv xs (i + 3)) (by omega) (d - 1) (by omega) _ (fun v h0 H => H)) (fun v1 h40 H => ?_)
  obtain ⟨z44, rfl, b45, pf43, hT41, hF42⟩ := H
  have hF46 := Fr_cp hF33 hF42 (by decide +kernel : Wsub W187 WL = true)
  have e49 := fI_bd (q := 64) hT28 (tf hT28 rfl rfl) fd_8_2
  have q50 : fI h27 64 2 = fI h 64 2 := Fr_fI hF29 (tf hT rfl rfl) (by decide +kernel)
  obtain ⟨iv47, zq48⟩ := S_road pre9 hT hT28 (by omega) (by omega) hF29 (by decide +kernel) hF42 (by decide +kernel) pf30 pf43
  have iv51 := S_road4 pre10 pre9 hT hT28 (by omega) hF29 (by decide +kernel) hF42 (by decide +kernel) pf30 pf43 zq48
  refine st_pop c292_302 rfl ?_
  refine st_goto c292_303 ?_
  have e52 := fI_bd (q := 64) hT41 (tf hT41 rfl rfl) fd_8_32
  have q53 : fI h40 64 32 = fI h 64 32 := (Fr_fI hF42 (tf hT28 rfl rfl) (by decide +kernel)).trans (Fr_fI hF29 (tf hT rfl rfl) (by decide +kernel))
  have e54 := fI_bd (q := 64) hT41 (tf hT41 rfl rfl) fd_8_15
  have q55 : fI h40 64 15 = fI h 64 15 := (Fr_fI hF42 (tf hT28 rfl rfl) (by decide +kernel)).trans (Fr_fI hF29 (tf hT rfl rfl) (by decide +kernel))
  have e56 := fI_bd (q := 64) hT41 (tf hT41 rfl rfl) fd_8_33
  have q57 : fI h40 64 33 = fI h 64 33 := (Fr_fI hF42 (tf hT28 rfl rfl) (by decide +kernel)).trans (Fr_fI hF29 (tf hT rfl rfl) (by decide +kernel))
  have e58 := fI_bd (q := 6) hT41 (tf hT41 rfl rfl) fd_2_3
  have q59 : fI h40 6 3 = fI h 6 3 := (Fr_fI hF42 (tf hT28 rfl rfl) (by decide +kernel)).trans (Fr_fI hF29 (tf hT rfl rfl) (by decide +kernel))
  have e60 := fI_bd (q := 64) hT41 (tf hT41 rfl rfl) fd_8_2
  have q61 : fI h40 64 2 = fI h 64 2 := (Fr_fI hF42 (tf hT28 rfl rfl) (by decide +kernel)).trans (Fr_fI hF29 (tf hT rfl rfl) (by decide +kernel))
  have e62 := fI_bd (q := 4) hT41 (tf hT41 rfl rfl) fd_1_0
  have q63 : fI h40 4 0 = fI h 4 0 := (Fr_fI hF42 (tf hT28 rfl rfl) (by decide +kernel)).trans (Fr_fI hF29 (tf hT rfl rfl) (by decide +kernel))
  have e64 := fI_bd (q := 64) hT41 (tf hT41 rfl rfl) fd_8_1
  have q65 : fI h40 64 1 = fI h 64 1 := (Fr_fI hF42 (tf hT28 rfl rfl) (by decide +kernel)).trans (Fr_fI hF29 (tf hT rfl rfl) (by decide +kernel))
  have e66 := fI_bd (q := 4) hT41 (tf hT41 rfl rfl) fd_1_5
  have q67 : fI h40 4 5 = fI h 4 5 := (Fr_fI hF42 (tf hT28 rfl rfl) (by decide +kernel)).trans (Fr_fI hF29 (tf hT rfl rfl) (by decide +kernel))
  have e68 := fI_bd (q := 64) hT41 (tf hT41 rfl rfl) fd_8_7
  have q69 : fI h40 64 7 = fI h 64 7 := (Fr_fI hF42 (tf hT28 rfl rfl) (by decide +kernel)).trans (Fr_fI hF29 (tf hT rfl rfl) (by decide +kernel))
  have e70 := fI_bd (q := 4) hT41 (tf hT41 rfl rfl) fd_1_10
  have q71 : fI h40 4 10 = fI h 4 10 := (Fr_fI hF42 (tf hT28 rfl rfl) (by decide +kernel)).trans (Fr_fI hF29 (tf hT rfl rfl) (by decide +kernel))
  have e72 := fI_bd (q := 64) hT41 (tf hT41 rfl rfl) fd_8_45
  have q73 : fI h40 64 45 = fI h 64 45 := (Fr_fI hF42 (tf hT28 rfl rfl) (by decide +kernel)).trans (Fr_fI hF29 (tf hT rfl rfl) (by decide +kernel))
  have e74 := fI_bd (q := 4) hT41 (tf hT41 rfl rfl) fd_1_12
  have q75 : fI h40 4 12 = fI h 4 12 := (Fr_fI hF42 (tf hT28 rfl rfl) (by decide +kernel)).trans (Fr_fI hF29 (tf hT rfl rfl) (by decide +kernel))
  have e76 := fI_bd (q := 64) hT41 (tf hT41 rfl rfl) fd_8_48
  have q77 : fI h40 64 48 = fI h 64 48 := (Fr_fI hF42 (tf hT28 rfl rfl) (by decide +kernel)).trans (Fr_fI hF29 (tf hT rfl rfl) (by decide +kernel))
  have e78 := fI_bd (q := 4) hT41 (tf hT41 rfl rfl) fd_1_7
  have q79 : fI h40 4 7 = fI h 4 7 := (Fr_fI hF42 (tf hT28 rfl rfl) (by decide +kernel)).trans (Fr_fI hF29 (tf hT rfl rfl) (by decide +kernel))
  have e80 := fI_bd (q := 39) hT41 (tf hT41 rfl rfl) fd_3_3
  have q81 : fI h40 39 3 = fI h 39 3 := (Fr_fI hF42 (tf hT28 rfl rfl) (by decide +kernel)).trans (Fr_fI hF29 (tf hT rfl rfl) (by decide +kernel))
  have e82 := fI_bd (q := 64) hT41 (tf hT41 rfl rfl) fd_8_41
  have q83 : fI h40 64 41 = fI h 64 41 := (Fr_fI hF42 (tf hT28 rfl rfl) (by decide +kernel)).trans (Fr_fI hF29 (tf hT rfl rfl) (by decide +kernel))
  have e84 := fI_bd (q := 54) hT41 (tf hT41 rfl rfl) fd_6_1
  have q85 : fI h40 54 1 = fI h 54 1 := (Fr_fI hF42 (tf hT28 rfl rfl) (by decide +kernel)).trans (Fr_fI hF29 (tf hT rfl rfl) (by decide +kernel))
  have e86 := fI_bd (q := 64) hT41 (tf hT41 rfl rfl) fd_8_77
  have q87 : fI h40 64 77 = fI h 64 77 := (Fr_fI hF42 (tf hT28 rfl rfl) (by decide +kernel)).trans (Fr_fI hF29 (tf hT rfl rfl) (by decide +kernel))
  have e88 := fI_bd (q := 60) hT41 (tf hT41 rfl rfl) fd_7_1
  have q89 : fI h40 60 1 = fI h 60 1 := (Fr_fI hF42 (tf hT28 rfl rfl) (by decide +kernel)).trans (Fr_fI hF29 (tf hT rfl rfl) (by decide +kernel))
  have e90 := fI_bd (q := 64) hT41 (tf hT41 rfl rfl) fd_8_78
  have q91 : fI h40 64 78 = fI h 64 78 := (Fr_fI hF42 (tf hT28 rfl rfl) (by decide +kernel)).trans (Fr_fI hF29 (tf hT rfl rfl) (by decide +kernel))
  exact hQ _ _ ⟨[], (List.append_nil τ).symm, rfl⟩ hT41 (I1_fr (I1_fr pre0 hT hF29 (by decide +kernel)) hT28 hF42 (by decide +kernel)) (I2_fr (I2_fr pre1 hF29 (by decide +kernel)) hF42 (by decide +kernel)) (I3_fr (I3_fr pre2 hT hF29 (by decide +kernel)) hT28 hF42 (by decide +kernel)) (I4_fr (I4_fr pre3 hT hF29 (by decide +kernel)) hT28 hF42 (by decide +kernel)) (I6_fr (I6_fr pre4 hT hF29 (by decide +kernel)) hT28 hF42 (by decide +kernel)) (I8_fr (I8_fr pre5 hT hF29 (by decide +kernel)) hT28 hF42 (by decide +kernel)) (I9_fr (I9_fr pre6 hT hF29 (by decide +kernel)) hT28 hF42 (by decide +kernel)) (IA_fr (IA_fr pre7 hT hF29 (by decide +kernel)) hT28 hF42 (by decide +kernel)) (IB_fr (IB_fr pre8 hT hF29 (by decide +kernel)) hT28 hF42 (by decide +kernel)) iv47 iv51 (IE_fr (IE_fr pre11 hT hF29 (by decide +kernel)) hT28 hF42 (by decide +kernel)) (by omega) (by omega) (by omega) (by omega) (by omega) (by omega) (by omega) (by omega) (by omega) (by omega)
set_option maxHeartbeats 0 in
theorem LC_2 {Ln : Nat} {xs : Nat → Int32} {τ : List Nat} {h : List mE} (hT : TH Tr τ h) (pre0 : I1 τ h) (pre1 : I2 τ h) (pre2 : I3 h) (pre3 : I4 h) (pre4 : I6 h) (pre5 : I8 h) (pre6 : I9 h) (pre7 : IA h) (pre8 : IB h) (pre9 : IC h) (pre10 : ID h) (pre11 : IE h) (pre12 : fI h 64 32≤fI h 64 15+fI h 64 33) (pre13 : fI h 6 3=fI h 64 2) (pre14 : fI h 4 0=fI h 64 1) (pre15 : fI h 4 5=fI h 64 7) (pre16 : fI h 4 10=fI h 64 45) (pre17 : fI h 4 12=fI h 64 48) (pre18 : fI h 4 7=fI h 64 15) (pre19 : fI h 39 3=fI h 64 41) (pre20 : fI h 54 1=fI h 64 77) (pre21 : fI h 60 1=fI h 64 78) (i : Int) (hi : 0 ≤ i ∧ i + 6 ≤ (Ln : Int) ∧ (Ln : Int) ≤ 3072) (d : Nat) (hd : 90 ≤ d) (Q : Option Value → List mE → Prop) (hQ : ∀ (τ' : List Nat) (h' : List mE), (∃ ts : List Nat, τ' = τ ++ ts ∧ gsT ts = true) → TH Tr τ' h' → I1 τ' h' → I2 τ' h' → I3 h' → I4 h' → I6 h' → I8 h' → I9 h' → IA h' → IB h' → IC h' → ID h' → IE h' → fI h' 64 32≤fI h' 64 15+fI h' 64 33 → fI h' 6 3=fI h' 64 2 → fI h' 4 0=fI h' 64 1 → fI h' 4 5=fI h' 64 7 → fI h' 4 10=fI h' 64 45 → fI h' 4 12=fI h' 64 48 → fI h' 4 7=fI h' 64 15 → fI h' 39 3=fI h' 64 41 → fI h' 54 1=fI h' 64 77 → fI h' 60 1=fI h' 64 78 → MR (mex Ln xs) d 292 1864 [some (.ref 0), some (.ref 4), some (.ref 64), some (vI i)] [] h' Q) : MR (mex Ln xs) d 292 306 [some (.ref 0), some (.ref 4), some (.ref 64), some (vI i)] [] h Q := by
  have hF := Fr_rf τ WL h
  have hE := Ext_rf τ
  have e1 := fI_bd (q := 64) hT (tf hT rfl rfl) fd_8_32
  have e2 := fI_bd (q := 64) hT (tf hT rfl rfl) fd_8_15
  have e3 := fI_bd (q := 64) hT (tf hT rfl rfl) fd_8_33
  have e4 := fI_bd (q := 6) hT (tf hT rfl rfl) fd_2_3
  have e5 := fI_bd (q := 64) hT (tf hT rfl rfl) fd_8_2
  have e6 := fI_bd (q := 4) hT (tf hT rfl rfl) fd_1_0
  have e7 := fI_bd (q := 64) hT (tf hT rfl rfl) fd_8_1
  have e8 := fI_bd (q := 4) hT (tf hT rfl rfl) fd_1_5
  have e9 := fI_bd (q := 64) hT (tf hT rfl rfl) fd_8_7
  have e10 := fI_bd (q := 4) hT (tf hT rfl rfl) fd_1_10
  have e11 := fI_bd (q := 64) hT (tf hT rfl rfl) fd_8_45
  have e12 := fI_bd (q := 4) hT (tf hT rfl rfl) fd_1_12
  have e13 := fI_bd (q := 64) hT (tf hT rfl rfl) fd_8_48
  have e14 := fI_bd (q := 4) hT (tf hT rfl rfl) fd_1_7
  have e15 := fI_bd (q := 39) hT (tf hT rfl rfl) fd_3_3
  have e16 := fI_bd (q := 64) hT (tf hT rfl rfl) fd_8_41
  have e17 := fI_bd (q := 54) hT (tf hT rfl rfl) fd_6_1
  have e18 := fI_bd (q := 64) hT (tf hT rfl rfl) fd_8_77
  have e19 := fI_bd (q := 60) hT (tf hT rfl rfl) fd_7_1
  have e20 := fI_bd (q := 64) hT (tf hT rfl rfl) fd_8_78
  refine st_aload c292_306 rfl ?_
  refine st_aload c292_307 rfl ?_
  refine st_iload c292_308 rfl ?_
  refine st_iconst c292_309 ?_
  refine st_iadd c292_310 ?_
  refine st_sld c292_311 (by omega) (fun e21 e22 => ?_)
  refine st_aload c292_312 rfl ?_
  refine st_iload c292_313 rfl ?_
  refine st_iconst c292_314 ?_
  refine st_iadd c292_315 ?_
  refine st_sld c292_316 (by omega) (fun e23 e24 => ?_)
  refine st_callt (as := [vI (sv xs (i + 1)), vI (sv xs (i + 2))]) c292_317 cm_120 hT (tf hT rfl rfl) fd_1_0 rfl rfl rfl rfl (by omega) (K120 hT (sv xs (i + 1)) (by omega) (sv xs (i + 2)) (by omega) (d - 1) (by omega) _ (fun v h0 H => H)) (fun v1 h1 H => ?_)
  obtain ⟨z26, rfl, b27, pf25, rfl⟩ := H
  refine st_pop c292_320 rfl ?_
  refine st_aload c292_321 rfl ?_
  refine st_aload c292_322 rfl ?_
  refine st_iload c292_323 rfl ?_
  refine st_iconst c292_324 ?_
  refine st_iadd c292_325 ?_
  refine st_sld c292_326 (by omega) (fun e28 e29 => ?_)
  refine st_aload c292_327 rfl ?_
  refine st_iload c292_328 rfl ?_
  refine st_iconst c292_329 ?_
  refine st_iadd c292_330 ?_
  refine st_sld c292_331 (by omega) (fun e30 e31 => ?_)
  refine st_callt (as := [vI (sv xs (i + 1)), vI (sv xs (i + 2))]) c292_332 cm_188 hT (tf hT rfl rfl) fd_8_0 rfl rfl rfl rfl (by omega) (K188 hT (sv xs (i + 1)) (by omega) (sv xs (i + 2)) (by omega) (d - 1) (by omega) _ (fun v h0 H => H)) (fun v1 h1 H => ?_)
  obtain ⟨z33, rfl, b34, pf32, rfl⟩ := H
  refine st_pop c292_335 rfl ?_
  refine st_goto c292_336 ?_
  have e37 := fI_bd (q := 64) hT (tf hT rfl rfl) fd_8_32
  have e38 := fI_bd (q := 64) hT (tf hT rfl rfl) fd_8_15
  have e39 := fI_bd (q := 64) hT (tf hT rfl rfl) fd_8_33
  have e40 := fI_bd (q := 6) hT (tf hT rfl rfl) fd_2_3
  have e41 := fI_bd (q := 64) hT (tf hT rfl rfl) fd_8_2
  have e42 := fI_bd (q := 4) hT (tf hT rfl rfl) fd_1_0
  have e43 := fI_bd (q := 64) hT (tf hT rfl rfl) fd_8_1
  have e44 := fI_bd (q := 4) hT (tf hT rfl rfl) fd_1_5
  have e45 := fI_bd (q := 64) hT (tf hT rfl rfl) fd_8_7
  have e46 := fI_bd (q := 4) hT (tf hT rfl rfl) fd_1_10
  have e47 := fI_bd (q := 64) hT (tf hT rfl rfl) fd_8_45
  have e48 := fI_bd (q := 4) hT (tf hT rfl rfl) fd_1_12
  have e49 := fI_bd (q := 64) hT (tf hT rfl rfl) fd_8_48
  have e50 := fI_bd (q := 4) hT (tf hT rfl rfl) fd_1_7
  have e51 := fI_bd (q := 39) hT (tf hT rfl rfl) fd_3_3
  have e52 := fI_bd (q := 64) hT (tf hT rfl rfl) fd_8_41
  have e53 := fI_bd (q := 54) hT (tf hT rfl rfl) fd_6_1
  have e54 := fI_bd (q := 64) hT (tf hT rfl rfl) fd_8_77
  have e55 := fI_bd (q := 60) hT (tf hT rfl rfl) fd_7_1
  have e56 := fI_bd (q := 64) hT (tf hT rfl rfl) fd_8_78
  exact hQ _ _ ⟨[], (List.append_nil τ).symm, rfl⟩ hT pre0 pre1 pre2 pre3 pre4 pre5 pre6 pre7 pre8 pre9 pre10 pre11 (by omega) (by omega) (by omega) (by omega) (by omega) (by omega) (by omega) (by omega) (by omega) (by omega)
set_option maxHeartbeats 0 in
theorem LC_3 {Ln : Nat} {xs : Nat → Int32} {τ : List Nat} {h : List mE} (hT : TH Tr τ h) (pre0 : I1 τ h) (pre1 : I2 τ h) (pre2 : I3 h) (pre3 : I4 h) (pre4 : I6 h) (pre5 : I8 h) (pre6 : I9 h) (pre7 : IA h) (pre8 : IB h) (pre9 : IC h) (pre10 : ID h) (pre11 : IE h) (pre12 : fI h 64 32≤fI h 64 15+fI h 64 33) (pre13 : fI h 6 3=fI h 64 2) (pre14 : fI h 4 0=fI h 64 1) (pre15 : fI h 4 5=fI h 64 7) (pre16 : fI h 4 10=fI h 64 45) (pre17 : fI h 4 12=fI h 64 48) (pre18 : fI h 4 7=fI h 64 15) (pre19 : fI h 39 3=fI h 64 41) (pre20 : fI h 54 1=fI h 64 77) (pre21 : fI h 60 1=fI h 64 78) (i : Int) (hi : 0 ≤ i ∧ i + 6 ≤ (Ln : Int) ∧ (Ln : Int) ≤ 3072) (d : Nat) (hd : 90 ≤ d) (Q : Option Value → List mE → Prop) (hQ : ∀ (τ' : List Nat) (h' : List mE), (∃ ts : List Nat, τ' = τ ++ ts ∧ gsT ts = true) → TH Tr τ' h' → I1 τ' h' → I2 τ' h' → I3 h' → I4 h' → I6 h' → I8 h' → I9 h' → IA h' → IB h' → IC h' → ID h' → IE h' → fI h' 64 32≤fI h' 64 15+fI h' 64 33 → fI h' 6 3=fI h' 64 2 → fI h' 4 0=fI h' 64 1 → fI h' 4 5=fI h' 64 7 → fI h' 4 10=fI h' 64 45 → fI h' 4 12=fI h' 64 48 → fI h' 4 7=fI h' 64 15 → fI h' 39 3=fI h' 64 41 → fI h' 54 1=fI h' 64 77 → fI h' 60 1=fI h' 64 78 → MR (mex Ln xs) d 292 1864 [some (.ref 0), some (.ref 4), some (.ref 64), some (vI i)] [] h' Q) : MR (mex Ln xs) d 292 339 [some (.ref 0), some (.ref 4), some (.ref 64), some (vI i)] [] h Q := by
  have hF := Fr_rf τ WL h
  have hE := Ext_rf τ
  have e1 := fI_bd (q := 64) hT (tf hT rfl rfl) fd_8_32
  have e2 := fI_bd (q := 64) hT (tf hT rfl rfl) fd_8_15
  have e3 := fI_bd (q := 64) hT (tf hT rfl rfl) fd_8_33
  have e4 := fI_bd (q := 6) hT (tf hT rfl rfl) fd_2_3
  have e5 := fI_bd (q := 64) hT (tf hT rfl rfl) fd_8_2
  have e6 := fI_bd (q := 4) hT (tf hT rfl rfl) fd_1_0
  have e7 := fI_bd (q := 64) hT (tf hT rfl rfl) fd_8_1
  have e8 := fI_bd (q := 4) hT (tf hT rfl rfl) fd_1_5
  have e9 := fI_bd (q := 64) hT (tf hT rfl rfl) fd_8_7
  have e10 := fI_bd (q := 4) hT (tf hT rfl rfl) fd_1_10
  have e11 := fI_bd (q := 64) hT (tf hT rfl rfl) fd_8_45
  have e12 := fI_bd (q := 4) hT (tf hT rfl rfl) fd_1_12
  have e13 := fI_bd (q := 64) hT (tf hT rfl rfl) fd_8_48
  have e14 := fI_bd (q := 4) hT (tf hT rfl rfl) fd_1_7
  have e15 := fI_bd (q := 39) hT (tf hT rfl rfl) fd_3_3
  have e16 := fI_bd (q := 64) hT (tf hT rfl rfl) fd_8_41
  have e17 := fI_bd (q := 54) hT (tf hT rfl rfl) fd_6_1
  have e18 := fI_bd (q := 64) hT (tf hT rfl rfl) fd_8_77
  have e19 := fI_bd (q := 60) hT (tf hT rfl rfl) fd_7_1
  have e20 := fI_bd (q := 64) hT (tf hT rfl rfl) fd_8_78
  refine st_aload c292_339 rfl ?_
  refine st_aload c292_340 rfl ?_
  refine st_iload c292_341 rfl ?_
  refine st_iconst c292_342 ?_
  refine st_iadd c292_343 ?_
  refine st_sld c292_344 (by omega) (fun e21 e22 => ?_)
  have e23 := fI_bd (q := 4) hT (tf hT rfl rfl) fd_1_0
  refine st_callt (as := [vI (sv xs (i + 1))]) c292_345 cm_121 hT (tf hT rfl rfl) fd_1_0 rfl rfl rfl rfl (by omega) (K121 hT Stb_T (sv xs (i + 1)) (by omega) pre5 (d - 1) (by omega) _ (fun v h0 H => H)) (fun v1 h24 H => ?_)
  obtain ⟨z28, rfl, b29, pf27, hT25, hF26⟩ := H
  have hF30 := Fr_cp hF hF26 (by decide +kernel : Wsub W121 WL = true)
  have e31 := fI_bd (q := 4) hT25 (tf hT25 rfl rfl) fd_1_0
  refine st_pop c292_348 rfl ?_
  refine st_aload c292_349 rfl ?_
  refine st_aload c292_350 rfl ?_
  refine st_iload c292_351 rfl ?_
  refine st_iconst c292_352 ?_
  refine st_iadd c292_353 ?_
  refine st_sld c292_354 (by omega) (fun e32 e33 => ?_)
  have e34 := fI_bd (q := 64) hT25 (tf hT25 rfl rfl) fd_8_1
  have q35 : fI h24 64 1 = fI h 64 1 := Fr_fI hF26 (tf hT rfl rfl) (by decide +kernel)
  refine st_callt (as := [vI (sv xs (i + 1))]) c292_355 cm_212 hT25 (tf hT25 rfl rfl) fd_8_0 rfl rfl rfl rfl (by omega) (K212 hT25 Stb_T (sv xs (i + 1)) (by omega) (d - 1) (by omega) _ (fun v h0 H => H)) (fun v1 h36 H => ?_)
  obtain ⟨z40, rfl, b41, pf39, hT37, hF38⟩ := H
  have hF42 := Fr_cp hF30 hF38 (by decide +kernel : Wsub W212 WL = true)
  have e43 := fI_bd (q := 64) hT37 (tf hT37 rfl rfl) fd_8_1
  refine st_pop c292_358 rfl ?_
  refine st_goto c292_359 ?_
  have e44 := fI_bd (q := 64) hT37 (tf hT37 rfl rfl) fd_8_32
  have q45 : fI h36 64 32 = fI h 64 32 := (Fr_fI hF38 (tf hT25 rfl rfl) (by decide +kernel)).trans (Fr_fI hF26 (tf hT rfl rfl) (by decide +kernel))
  have e46 := fI_bd (q := 64) hT37 (tf hT37 rfl rfl) fd_8_15
  have q47 : fI h36 64 15 = fI h 64 15 := (Fr_fI hF38 (tf hT25 rfl rfl) (by decide +kernel)).trans (Fr_fI hF26 (tf hT rfl rfl) (by decide +kernel))
  have e48 := fI_bd (q := 64) hT37 (tf hT37 rfl rfl) fd_8_33
  have q49 : fI h36 64 33 = fI h 64 33 := (Fr_fI hF38 (tf hT25 rfl rfl) (by decide +kernel)).trans (Fr_fI hF26 (tf hT rfl rfl) (by decide +kernel))
  have e50 := fI_bd (q := 6) hT37 (tf hT37 rfl rfl) fd_2_3
  have q51 : fI h36 6 3 = fI h 6 3 := (Fr_fI hF38 (tf hT25 rfl rfl) (by decide +kernel)).trans (Fr_fI hF26 (tf hT rfl rfl) (by decide +kernel))
  have e52 := fI_bd (q := 64) hT37 (tf hT37 rfl rfl) fd_8_2
  have q53 : fI h36 64 2 = fI h 64 2 := (Fr_fI hF38 (tf hT25 rfl rfl) (by decide +kernel)).trans (Fr_fI hF26 (tf hT rfl rfl) (by decide +kernel))
  have e54 := fI_bd (q := 4) hT37 (tf hT37 rfl rfl) fd_1_0
  have q55 : fI h36 4 0 = fI h24 4 0 := Fr_fI hF38 (tf hT25 rfl rfl) (by decide +kernel)
  have e56 := fI_bd (q := 4) hT37 (tf hT37 rfl rfl) fd_1_5
  have q57 : fI h36 4 5 = fI h 4 5 := (Fr_fI hF38 (tf hT25 rfl rfl) (by decide +kernel)).trans (Fr_fI hF26 (tf hT rfl rfl) (by decide +kernel))
  have e58 := fI_bd (q := 64) hT37 (tf hT37 rfl rfl) fd_8_7
  have q59 : fI h36 64 7 = fI h 64 7 := (Fr_fI hF38 (tf hT25 rfl rfl) (by decide +kernel)).trans (Fr_fI hF26 (tf hT rfl rfl) (by decide +kernel))
  have e60 := fI_bd (q := 4) hT37 (tf hT37 rfl rfl) fd_1_10
  have q61 : fI h36 4 10 = fI h 4 10 := (Fr_fI hF38 (tf hT25 rfl rfl) (by decide +kernel)).trans (Fr_fI hF26 (tf hT rfl rfl) (by decide +kernel))
  have e62 := fI_bd (q := 64) hT37 (tf hT37 rfl rfl) fd_8_45
  have q63 : fI h36 64 45 = fI h 64 45 := (Fr_fI hF38 (tf hT25 rfl rfl) (by decide +kernel)).trans (Fr_fI hF26 (tf hT rfl rfl) (by decide +kernel))
  have e64 := fI_bd (q := 4) hT37 (tf hT37 rfl rfl) fd_1_12
  have q65 : fI h36 4 12 = fI h 4 12 := (Fr_fI hF38 (tf hT25 rfl rfl) (by decide +kernel)).trans (Fr_fI hF26 (tf hT rfl rfl) (by decide +kernel))
  have e66 := fI_bd (q := 64) hT37 (tf hT37 rfl rfl) fd_8_48
  have q67 : fI h36 64 48 = fI h 64 48 := (Fr_fI hF38 (tf hT25 rfl rfl) (by decide +kernel)).trans (Fr_fI hF26 (tf hT rfl rfl) (by decide +kernel))
  have e68 := fI_bd (q := 4) hT37 (tf hT37 rfl rfl) fd_1_7
  have q69 : fI h36 4 7 = fI h 4 7 := (Fr_fI hF38 (tf hT25 rfl rfl) (by decide +kernel)).trans (Fr_fI hF26 (tf hT rfl rfl) (by decide +kernel))
  have e70 := fI_bd (q := 39) hT37 (tf hT37 rfl rfl) fd_3_3
  have q71 : fI h36 39 3 = fI h 39 3 := (Fr_fI hF38 (tf hT25 rfl rfl) (by decide +kernel)).trans (Fr_fI hF26 (tf hT rfl rfl) (by decide +kernel))
  have e72 := fI_bd (q := 64) hT37 (tf hT37 rfl rfl) fd_8_41
  have q73 : fI h36 64 41 = fI h 64 41 := (Fr_fI hF38 (tf hT25 rfl rfl) (by decide +kernel)).trans (Fr_fI hF26 (tf hT rfl rfl) (by decide +kernel))
  have e74 := fI_bd (q := 54) hT37 (tf hT37 rfl rfl) fd_6_1
  have q75 : fI h36 54 1 = fI h 54 1 := (Fr_fI hF38 (tf hT25 rfl rfl) (by decide +kernel)).trans (Fr_fI hF26 (tf hT rfl rfl) (by decide +kernel))
  have e76 := fI_bd (q := 64) hT37 (tf hT37 rfl rfl) fd_8_77
  have q77 : fI h36 64 77 = fI h 64 77 := (Fr_fI hF38 (tf hT25 rfl rfl) (by decide +kernel)).trans (Fr_fI hF26 (tf hT rfl rfl) (by decide +kernel))
  have e78 := fI_bd (q := 60) hT37 (tf hT37 rfl rfl) fd_7_1
  have q79 : fI h36 60 1 = fI h 60 1 := (Fr_fI hF38 (tf hT25 rfl rfl) (by decide +kernel)).trans (Fr_fI hF26 (tf hT rfl rfl) (by decide +kernel))
  have e80 := fI_bd (q := 64) hT37 (tf hT37 rfl rfl) fd_8_78
  have q81 : fI h36 64 78 = fI h 64 78 := (Fr_fI hF38 (tf hT25 rfl rfl) (by decide +kernel)).trans (Fr_fI hF26 (tf hT rfl rfl) (by decide +kernel))
  exact hQ _ _ ⟨[], (List.append_nil τ).symm, rfl⟩ hT37 (I1_fr (I1_fr pre0 hT hF26 (by decide +kernel)) hT25 hF38 (by decide +kernel)) (I2_fr (I2_fr pre1 hF26 (by decide +kernel)) hF38 (by decide +kernel)) (I3_fr (I3_fr pre2 hT hF26 (by decide +kernel)) hT25 hF38 (by decide +kernel)) (I4_fr (I4_fr pre3 hT hF26 (by decide +kernel)) hT25 hF38 (by decide +kernel)) (I6_fr (I6_fr pre4 hT hF26 (by decide +kernel)) hT25 hF38 (by decide +kernel)) (I8_fr (I8_fr pre5 hT hF26 (by decide +kernel)) hT25 hF38 (by decide +kernel)) (I9_fr (I9_fr pre6 hT hF26 (by decide +kernel)) hT25 hF38 (by decide +kernel)) (IA_fr (IA_fr pre7 hT hF26 (by decide +kernel)) hT25 hF38 (by decide +kernel)) (IB_fr (IB_fr pre8 hT hF26 (by decide +kernel)) hT25 hF38 (by decide +kernel)) (IC_fr (IC_fr pre9 hT hF26 (by decide +kernel)) hT25 hF38 (by decide +kernel)) (ID_fr (ID_fr pre10 hT hF26 (by decide +kernel)) hT25 hF38 (by decide +kernel)) (IE_fr (IE_fr pre11 hT hF26 (by decide +kernel)) hT25 hF38 (by decide +kernel)) (by omega) (by omega) (by omega) (by omega) (by omega) (by omega) (by omega) (by omega) (by omega) (by omega)
set_option maxHeartbeats 0 in
theorem LC_4 {Ln : Nat} {xs : Nat → Int32} {τ : List Nat} {h : List mE} (hT : TH Tr τ h) (pre0 : I1 τ h) (pre1 : I2 τ h) (pre2 : I3 h) (pre3 : I4 h) (pre4 : I6 h) (pre5 : I8 h) (pre6 : I9 h) (pre7 : IA h) (pre8 : IB h) (pre9 : IC h) (pre10 : ID h) (pre11 : IE h) (pre12 : fI h 64 32≤fI h 64 15+fI h 64 33) (pre13 : fI h 6 3=fI h 64 2) (pre14 : fI h 4 0=fI h 64 1) (pre15 : fI h 4 5=fI h 64 7) (pre16 : fI h 4 10=fI h 64 45) (pre17 : fI h 4 12=fI h 64 48) (pre18 : fI h 4 7=fI h 64 15) (pre19 : fI h 39 3=fI h 64 41) (pre20 : fI h 54 1=fI h 64 77) (pre21 : fI h 60 1=fI h 64 78) (i : Int) (hi : 0 ≤ i ∧ i + 6 ≤ (Ln : Int) ∧ (Ln : Int) ≤ 3072) (d : Nat) (hd : 90 ≤ d) (Q : Option Value → List mE → Prop) (hQ : ∀ (τ' : List Nat) (h' : List mE), (∃ ts : List Nat, τ' = τ ++ ts ∧ gsT ts = true) → TH Tr τ' h' → I1 τ' h' → I2 τ' h' → I3 h' → I4 h' → I6 h' → I8 h' → I9 h' → IA h' → IB h' → IC h' → ID h' → IE h' → fI h' 64 32≤fI h' 64 15+fI h' 64 33 → fI h' 6 3=fI h' 64 2 → fI h' 4 0=fI h' 64 1 → fI h' 4 5=fI h' 64 7 → fI h' 4 10=fI h' 64 45 → fI h' 4 12=fI h' 64 48 → fI h' 4 7=fI h' 64 15 → fI h' 39 3=fI h' 64 41 → fI h' 54 1=fI h' 64 77 → fI h' 60 1=fI h' 64 78 → MR (mex Ln xs) d 292 1864 [some (.ref 0), some (.ref 4), some (.ref 64), some (vI i)] [] h' Q) : MR (mex Ln xs) d 292 362 [some (.ref 0), some (.ref 4), some (.ref 64), some (vI i)] [] h Q := by
  have hF := Fr_rf τ WL h
  have hE := Ext_rf τ
  have e1 := fI_bd (q := 64) hT (tf hT rfl rfl) fd_8_32
  have e2 := fI_bd (q := 64) hT (tf hT rfl rfl) fd_8_15
  have e3 := fI_bd (q := 64) hT (tf hT rfl rfl) fd_8_33
  have e4 := fI_bd (q := 6) hT (tf hT rfl rfl) fd_2_3
  have e5 := fI_bd (q := 64) hT (tf hT rfl rfl) fd_8_2
  have e6 := fI_bd (q := 4) hT (tf hT rfl rfl) fd_1_0
  have e7 := fI_bd (q := 64) hT (tf hT rfl rfl) fd_8_1
  have e8 := fI_bd (q := 4) hT (tf hT rfl rfl) fd_1_5
  have e9 := fI_bd (q := 64) hT (tf hT rfl rfl) fd_8_7
  have e10 := fI_bd (q := 4) hT (tf hT rfl rfl) fd_1_10
  have e11 := fI_bd (q := 64) hT (tf hT rfl rfl) fd_8_45
  have e12 := fI_bd (q := 4) hT (tf hT rfl rfl) fd_1_12
  have e13 := fI_bd (q := 64) hT (tf hT rfl rfl) fd_8_48
  have e14 := fI_bd (q := 4) hT (tf hT rfl rfl) fd_1_7
  have e15 := fI_bd (q := 39) hT (tf hT rfl rfl) fd_3_3
  have e16 := fI_bd (q := 64) hT (tf hT rfl rfl) fd_8_41
  have e17 := fI_bd (q := 54) hT (tf hT rfl rfl) fd_6_1
  have e18 := fI_bd (q := 64) hT (tf hT rfl rfl) fd_8_77
  have e19 := fI_bd (q := 60) hT (tf hT rfl rfl) fd_7_1
  have e20 := fI_bd (q := 64) hT (tf hT rfl rfl) fd_8_78
  refine st_aload c292_362 rfl ?_
  refine st_aload c292_363 rfl ?_
  refine st_iload c292_364 rfl ?_
  refine st_iconst c292_365 ?_
  refine st_iadd c292_366 ?_
  refine st_sld c292_367 (by omega) (fun e21 e22 => ?_)
  refine st_aload c292_368 rfl ?_
  refine st_iload c292_369 rfl ?_
  refine st_iconst c292_370 ?_
  refine st_iadd c292_371 ?_
  refine st_sld c292_372 (by omega) (fun e23 e24 => ?_)
  refine st_callt (as := [vI (sv xs (i + 1)), vI (sv xs (i + 2))]) c292_373 cm_122 hT (tf hT rfl rfl) fd_1_0 rfl rfl rfl rfl (by omega) (K122 hT Stb_T (sv xs (i + 1)) (by omega) (sv xs (i + 2)) (by omega) (d - 1) (by omega) _ (fun v h0 H => H)) (fun v1 h25 H => ?_)
  obtain ⟨z29, rfl, b30, pf28, hT26, hF27⟩ := H
  have hF31 := Fr_cp hF hF27 (by decide +kernel : Wsub W122 WL = true)
  refine st_pop c292_376 rfl ?_
  refine st_aload c292_377 rfl ?_
  refine st_aload c292_378 rfl ?_
  refine st_iload c292_379 rfl ?_
  refine st_iconst c292_380 ?_
  refine st_iadd c292_381 ?_
  refine st_sld c292_382 (by omega) (fun e32 e33 => ?_)
  refine st_aload c292_383 rfl ?_
  refine st_iload c292_384 rfl ?_
  refine st_iconst c292_385 ?_
  refine st_iadd c292_386 ?_
  refine st_sld c292_387 (by omega) (fun e34 e35 => ?_)
  refine st_callt (as := [vI (sv xs (i + 1)), vI (sv xs (i + 2))]) c292_388 cm_189 hT26 (tf hT26 rfl rfl) fd_8_0 rfl rfl rfl rfl (by omega) (K189 hT26 Stb_T (sv xs (i + 1)) (by omega) (sv xs (i + 2)) (by omega) (d - 1) (by omega) _ (fun v h0 H => H)) (fun v1 h36 H => ?_)
  obtain ⟨z40, rfl, b41, pf39, hT37, hF38⟩ := H
  have hF42 := Fr_cp hF31 hF38 (by decide +kernel : Wsub W189 WL = true)
  obtain ⟨iv43, zq44⟩ := S_rain pre7 (fun i => Fr_aI hF27 (tf (q := 68) (t := 46) hT rfl rfl) (by decide +kernel) i) (fun i => Fr_aI hF38 (tf (q := 5) (t := 14) hT26 rfl rfl) (by decide +kernel) i) pf28 pf39
  refine st_pop c292_391 rfl ?_
  refine st_goto c292_392 ?_
  have e45 := fI_bd (q := 64) hT37 (tf hT37 rfl rfl) fd_8_32
  have q46 : fI h36 64 32 = fI h 64 32 := (Fr_fI hF38 (tf hT26 rfl rfl) (by decide +kernel)).trans (Fr_fI hF27 (tf hT rfl rfl) (by decide +kernel))
  have e47 := fI_bd (q := 64) hT37 (tf hT37 rfl rfl) fd_8_15
  have q48 : fI h36 64 15 = fI h 64 15 := (Fr_fI hF38 (tf hT26 rfl rfl) (by decide +kernel)).trans (Fr_fI hF27 (tf hT rfl rfl) (by decide +kernel))
  have e49 := fI_bd (q := 64) hT37 (tf hT37 rfl rfl) fd_8_33
  have q50 : fI h36 64 33 = fI h 64 33 := (Fr_fI hF38 (tf hT26 rfl rfl) (by decide +kernel)).trans (Fr_fI hF27 (tf hT rfl rfl) (by decide +kernel))
  have e51 := fI_bd (q := 6) hT37 (tf hT37 rfl rfl) fd_2_3
  have q52 : fI h36 6 3 = fI h 6 3 := (Fr_fI hF38 (tf hT26 rfl rfl) (by decide +kernel)).trans (Fr_fI hF27 (tf hT rfl rfl) (by decide +kernel))
  have e53 := fI_bd (q := 64) hT37 (tf hT37 rfl rfl) fd_8_2
  have q54 : fI h36 64 2 = fI h 64 2 := (Fr_fI hF38 (tf hT26 rfl rfl) (by decide +kernel)).trans (Fr_fI hF27 (tf hT rfl rfl) (by decide +kernel))
  have e55 := fI_bd (q := 4) hT37 (tf hT37 rfl rfl) fd_1_0
  have q56 : fI h36 4 0 = fI h 4 0 := (Fr_fI hF38 (tf hT26 rfl rfl) (by decide +kernel)).trans (Fr_fI hF27 (tf hT rfl rfl) (by decide +kernel))
  have e57 := fI_bd (q := 64) hT37 (tf hT37 rfl rfl) fd_8_1
  have q58 : fI h36 64 1 = fI h 64 1 := (Fr_fI hF38 (tf hT26 rfl rfl) (by decide +kernel)).trans (Fr_fI hF27 (tf hT rfl rfl) (by decide +kernel))
  have e59 := fI_bd (q := 4) hT37 (tf hT37 rfl rfl) fd_1_5
  have q60 : fI h36 4 5 = fI h 4 5 := (Fr_fI hF38 (tf hT26 rfl rfl) (by decide +kernel)).trans (Fr_fI hF27 (tf hT rfl rfl) (by decide +kernel))
  have e61 := fI_bd (q := 64) hT37 (tf hT37 rfl rfl) fd_8_7
  have q62 : fI h36 64 7 = fI h 64 7 := (Fr_fI hF38 (tf hT26 rfl rfl) (by decide +kernel)).trans (Fr_fI hF27 (tf hT rfl rfl) (by decide +kernel))
  have e63 := fI_bd (q := 4) hT37 (tf hT37 rfl rfl) fd_1_10
  have q64 : fI h36 4 10 = fI h 4 10 := (Fr_fI hF38 (tf hT26 rfl rfl) (by decide +kernel)).trans (Fr_fI hF27 (tf hT rfl rfl) (by decide +kernel))
  have e65 := fI_bd (q := 64) hT37 (tf hT37 rfl rfl) fd_8_45
  have q66 : fI h36 64 45 = fI h 64 45 := (Fr_fI hF38 (tf hT26 rfl rfl) (by decide +kernel)).trans (Fr_fI hF27 (tf hT rfl rfl) (by decide +kernel))
  have e67 := fI_bd (q := 4) hT37 (tf hT37 rfl rfl) fd_1_12
  have q68 : fI h36 4 12 = fI h 4 12 := (Fr_fI hF38 (tf hT26 rfl rfl) (by decide +kernel)).trans (Fr_fI hF27 (tf hT rfl rfl) (by decide +kernel))
  have e69 := fI_bd (q := 64) hT37 (tf hT37 rfl rfl) fd_8_48
  have q70 : fI h36 64 48 = fI h 64 48 := (Fr_fI hF38 (tf hT26 rfl rfl) (by decide +kernel)).trans (Fr_fI hF27 (tf hT rfl rfl) (by decide +kernel))
  have e71 := fI_bd (q := 4) hT37 (tf hT37 rfl rfl) fd_1_7
  have q72 : fI h36 4 7 = fI h 4 7 := (Fr_fI hF38 (tf hT26 rfl rfl) (by decide +kernel)).trans (Fr_fI hF27 (tf hT rfl rfl) (by decide +kernel))
  have e73 := fI_bd (q := 39) hT37 (tf hT37 rfl rfl) fd_3_3
  have q74 : fI h36 39 3 = fI h 39 3 := (Fr_fI hF38 (tf hT26 rfl rfl) (by decide +kernel)).trans (Fr_fI hF27 (tf hT rfl rfl) (by decide +kernel))
  have e75 := fI_bd (q := 64) hT37 (tf hT37 rfl rfl) fd_8_41
  have q76 : fI h36 64 41 = fI h 64 41 := (Fr_fI hF38 (tf hT26 rfl rfl) (by decide +kernel)).trans (Fr_fI hF27 (tf hT rfl rfl) (by decide +kernel))
  have e77 := fI_bd (q := 54) hT37 (tf hT37 rfl rfl) fd_6_1
  have q78 : fI h36 54 1 = fI h 54 1 := (Fr_fI hF38 (tf hT26 rfl rfl) (by decide +kernel)).trans (Fr_fI hF27 (tf hT rfl rfl) (by decide +kernel))
  have e79 := fI_bd (q := 64) hT37 (tf hT37 rfl rfl) fd_8_77
  have q80 : fI h36 64 77 = fI h 64 77 := (Fr_fI hF38 (tf hT26 rfl rfl) (by decide +kernel)).trans (Fr_fI hF27 (tf hT rfl rfl) (by decide +kernel))
  have e81 := fI_bd (q := 60) hT37 (tf hT37 rfl rfl) fd_7_1
  have q82 : fI h36 60 1 = fI h 60 1 := (Fr_fI hF38 (tf hT26 rfl rfl) (by decide +kernel)).trans (Fr_fI hF27 (tf hT rfl rfl) (by decide +kernel))
  have e83 := fI_bd (q := 64) hT37 (tf hT37 rfl rfl) fd_8_78
  have q84 : fI h36 64 78 = fI h 64 78 := (Fr_fI hF38 (tf hT26 rfl rfl) (by decide +kernel)).trans (Fr_fI hF27 (tf hT rfl rfl) (by decide +kernel))
  exact hQ _ _ ⟨[], (List.append_nil τ).symm, rfl⟩ hT37 (I1_fr (I1_fr pre0 hT hF27 (by decide +kernel)) hT26 hF38 (by decide +kernel)) (I2_fr (I2_fr pre1 hF27 (by decide +kernel)) hF38 (by decide +kernel)) (I3_fr (I3_fr pre2 hT hF27 (by decide +kernel)) hT26 hF38 (by decide +kernel)) (I4_fr (I4_fr pre3 hT hF27 (by decide +kernel)) hT26 hF38 (by decide +kernel)) (I6_fr (I6_fr pre4 hT hF27 (by decide +kernel)) hT26 hF38 (by decide +kernel)) (I8_fr (I8_fr pre5 hT hF27 (by decide +kernel)) hT26 hF38 (by decide +kernel)) (I9_fr (I9_fr pre6 hT hF27 (by decide +kernel)) hT26 hF38 (by decide +kernel)) iv43 (IB_fr (IB_fr pre8 hT hF27 (by decide +kernel)) hT26 hF38 (by decide +kernel)) (IC_fr (IC_fr pre9 hT hF27 (by decide +kernel)) hT26 hF38 (by decide +kernel)) (ID_fr (ID_fr pre10 hT hF27 (by decide +kernel)) hT26 hF38 (by decide +kernel)) (IE_fr (IE_fr pre11 hT hF27 (by decide +kernel)) hT26 hF38 (by decide +kernel)) (by omega) (by omega) (by omega) (by omega) (by omega) (by omega) (by omega) (by omega) (by omega) (by omega)
set_option maxHeartbeats 0 in
theorem LC_5 {Ln : Nat} {xs : Nat → Int32} {τ : List Nat} {h : List mE} (hT : TH Tr τ h) (pre0 : I1 τ h) (pre1 : I2 τ h) (pre2 : I3 h) (pre3 : I4 h) (pre4 : I6 h) (pre5 : I8 h) (pre6 : I9 h) (pre7 : IA h) (pre8 : IB h) (pre9 : IC h) (pre10 : ID h) (pre11 : IE h) (pre12 : fI h 64 32≤fI h 64 15+fI h 64 33) (pre13 : fI h 6 3=fI h 64 2) (pre14 : fI h 4 0=fI h 64 1) (pre15 : fI h 4 5=fI h 64 7) (pre16 : fI h 4 10=fI h 64 45) (pre17 : fI h 4 12=fI h 64 48) (pre18 : fI h 4 7=fI h 64 15) (pre19 : fI h 39 3=fI h 64 41) (pre20 : fI h 54 1=fI h 64 77) (pre21 : fI h 60 1=fI h 64 78) (i : Int) (hi : 0 ≤ i ∧ i + 6 ≤ (Ln : Int) ∧ (Ln : Int) ≤ 3072) (d : Nat) (hd : 90 ≤ d) (Q : Option Value → List mE → Prop) (hQ : ∀ (τ' : List Nat) (h' : List mE), (∃ ts : List Nat, τ' = τ ++ ts ∧ gsT ts = true) → TH Tr τ' h' → I1 τ' h' → I2 τ' h' → I3 h' → I4 h' → I6 h' → I8 h' → I9 h' → IA h' → IB h' → IC h' → ID h' → IE h' → fI h' 64 32≤fI h' 64 15+fI h' 64 33 → fI h' 6 3=fI h' 64 2 → fI h' 4 0=fI h' 64 1 → fI h' 4 5=fI h' 64 7 → fI h' 4 10=fI h' 64 45 → fI h' 4 12=fI h' 64 48 → fI h' 4 7=fI h' 64 15 → fI h' 39 3=fI h' 64 41 → fI h' 54 1=fI h' 64 77 → fI h' 60 1=fI h' 64 78 → MR (mex Ln xs) d 292 1864 [some (.ref 0), some (.ref 4), some (.ref 64), some (vI i)] [] h' Q) : MR (mex Ln xs) d 292 395 [some (.ref 0), some (.ref 4), some (.ref 64), some (vI i)] [] h Q := by
  have hF := Fr_rf τ WL h
  have hE := Ext_rf τ
  have e1 := fI_bd (q := 64) hT (tf hT rfl rfl) fd_8_32
  have e2 := fI_bd (q := 64) hT (tf hT rfl rfl) fd_8_15
  have e3 := fI_bd (q := 64) hT (tf hT rfl rfl) fd_8_33
  have e4 := fI_bd (q := 6) hT (tf hT rfl rfl) fd_2_3
  have e5 := fI_bd (q := 64) hT (tf hT rfl rfl) fd_8_2
  have e6 := fI_bd (q := 4) hT (tf hT rfl rfl) fd_1_0
  have e7 := fI_bd (q := 64) hT (tf hT rfl rfl) fd_8_1
  have e8 := fI_bd (q := 4) hT (tf hT rfl rfl) fd_1_5
  have e9 := fI_bd (q := 64) hT (tf hT rfl rfl) fd_8_7
  have e10 := fI_bd (q := 4) hT (tf hT rfl rfl) fd_1_10
  have e11 := fI_bd (q := 64) hT (tf hT rfl rfl) fd_8_45
  have e12 := fI_bd (q := 4) hT (tf hT rfl rfl) fd_1_12
  have e13 := fI_bd (q := 64) hT (tf hT rfl rfl) fd_8_48
  have e14 := fI_bd (q := 4) hT (tf hT rfl rfl) fd_1_7
  have e15 := fI_bd (q := 39) hT (tf hT rfl rfl) fd_3_3
  have e16 := fI_bd (q := 64) hT (tf hT rfl rfl) fd_8_41
  have e17 := fI_bd (q := 54) hT (tf hT rfl rfl) fd_6_1
  have e18 := fI_bd (q := 64) hT (tf hT rfl rfl) fd_8_77
  have e19 := fI_bd (q := 60) hT (tf hT rfl rfl) fd_7_1
  have e20 := fI_bd (q := 64) hT (tf hT rfl rfl) fd_8_78
  refine st_aload c292_395 rfl ?_
  refine st_aload c292_396 rfl ?_
  refine st_iload c292_397 rfl ?_
  refine st_iconst c292_398 ?_
  refine st_iadd c292_399 ?_
  refine st_sld c292_400 (by omega) (fun e21 e22 => ?_)
  refine st_aload c292_401 rfl ?_
  refine st_iload c292_402 rfl ?_
  refine st_iconst c292_403 ?_
  refine st_iadd c292_404 ?_
  refine st_sld c292_405 (by omega) (fun e23 e24 => ?_)
  refine st_aload c292_406 rfl ?_
  refine st_iload c292_407 rfl ?_
  refine st_iconst c292_408 ?_
  refine st_iadd c292_409 ?_
  refine st_sld c292_410 (by omega) (fun e25 e26 => ?_)
  refine st_aload c292_411 rfl ?_
  refine st_iload c292_412 rfl ?_
  refine st_iconst c292_413 ?_
  refine st_iadd c292_414 ?_
  refine st_sld c292_415 (by omega) (fun e27 e28 => ?_)
  have e29 := fI_bd (q := 4) hT (tf hT rfl rfl) fd_1_5
  refine st_callt (as := [vI (sv xs (i + 1)), vI (sv xs (i + 2)), vI (sv xs (i + 3)), vI (sv xs (i + 4))]) c292_416 cm_123 hT (tf hT rfl rfl) fd_1_0 rfl rfl rfl rfl (by omega) (K123 hT (sv xs (i + 1)) (by omega) (sv xs (i + 2)) (by omega) (sv xs (i + 3)) (by omega) (sv xs (i + 4)) (by omega) pre0 pre1 pre5 (d - 1) (by omega) _ (fun v h0 H => H)) (fun v1 h30 H => ?_)
  obtain ⟨z34, rfl, b35, pf38, pf39, pf40, τ', ⟨ts, rfl, hg⟩, hT31, hF32, ix36, ix37⟩ := H
  have hF33 := Fr_cp hF hF32 (by decide +kernel : Wsub W123 WL = true)
  have hE := Ext_app (τ := τ) (ts := ts)
  have e41 := fI_bd (q := 4) hT31 (tf hT31 rfl rfl) fd_1_5
  refine st_pop c292_419 rfl ?_
  refine st_aload c292_420 rfl ?_
  refine st_aload c292_421 rfl ?_
  refine st_iload c292_422 rfl ?_
  refine st_iconst c292_423 ?_
  refine st_iadd c292_424 ?_
  refine st_sld c292_425 (by omega) (fun e42 e43 => ?_)
  refine st_aload c292_426 rfl ?_
  refine st_iload c292_427 rfl ?_
  refine st_iconst c292_428 ?_
  refine st_iadd c292_429 ?_
  refine st_sld c292_430 (by omega) (fun e44 e45 => ?_)
  refine st_aload c292_431 rfl ?_
  refine st_iload c292_432 rfl ?_
  refine st_iconst c292_433 ?_
  refine st_iadd c292_434 ?_
  refine st_sld c292_435 (by omega) (fun e46 e47 => ?_)
  refine st_aload c292_436 rfl ?_
  refine st_iload c292_437 rfl ?_
  refine st_iconst c292_438 ?_
  refine st_iadd c292_439 ?_
  refine st_sld c292_440 (by omega) (fun e48 e49 => ?_)
  have e50 := fI_bd (q := 64) hT31 (tf hT31 rfl rfl) fd_8_7
  have q51 : fI h30 64 7 = fI h 64 7 := Fr_fI hF32 (tf hT rfl rfl) (by decide +kernel)
  refine st_callt (as := [vI (sv xs (i + 1)), vI (sv xs (i + 2)), vI (sv xs (i + 3)), vI (sv xs (i + 4))]) c292_441 cm_192 hT31 (tf hT31 rfl rfl) fd_8_0 rfl rfl rfl rfl (by omega) (K192 hT31 Stb_T (sv xs (i + 1)) (by omega) (sv xs (i + 2)) (by omega) (sv xs (i + 3)) (by omega) (sv xs (i + 4)) (by omega) (d - 1) (by omega) _ (fun v h0 H => H)) (fun v1 h52 H => ?_)
  obtain ⟨z56, rfl, b57, pf55, hT53, hF54⟩ := H
  have hF58 := Fr_cp hF33 (Fr_dn hE hF54) (by decide +kernel : Wsub W192 WL = true)
  have e59 := fI_bd (q := 64) hT53 (tf hT53 rfl rfl) fd_8_7
  have iv60 := S_type pre6 pre5 hT (by omega) (by omega) hF32 (by decide +kernel) pf40
  refine st_pop c292_444 rfl ?_
  refine st_goto c292_445 ?_
  have e62 := fI_bd (q := 64) hT53 (tf hT53 rfl rfl) fd_8_32
  have q63 : fI h52 64 32 = fI h 64 32 := (Fr_fI hF54 (tf hT31 rfl rfl) (by decide +kernel)).trans (Fr_fI hF32 (tf hT rfl rfl) (by decide +kernel))
  have e64 := fI_bd (q := 64) hT53 (tf hT53 rfl rfl) fd_8_15
  have q65 : fI h52 64 15 = fI h 64 15 := (Fr_fI hF54 (tf hT31 rfl rfl) (by decide +kernel)).trans (Fr_fI hF32 (tf hT rfl rfl) (by decide +kernel))
  have e66 := fI_bd (q := 64) hT53 (tf hT53 rfl rfl) fd_8_33
  have q67 : fI h52 64 33 = fI h 64 33 := (Fr_fI hF54 (tf hT31 rfl rfl) (by decide +kernel)).trans (Fr_fI hF32 (tf hT rfl rfl) (by decide +kernel))
  have e68 := fI_bd (q := 6) hT53 (tf hT53 rfl rfl) fd_2_3
  have q69 : fI h52 6 3 = fI h 6 3 := (Fr_fI hF54 (tf hT31 rfl rfl) (by decide +kernel)).trans (Fr_fI hF32 (tf hT rfl rfl) (by decide +kernel))
  have e70 := fI_bd (q := 64) hT53 (tf hT53 rfl rfl) fd_8_2
  have q71 : fI h52 64 2 = fI h 64 2 := (Fr_fI hF54 (tf hT31 rfl rfl) (by decide +kernel)).trans (Fr_fI hF32 (tf hT rfl rfl) (by decide +kernel))
  have e72 := fI_bd (q := 4) hT53 (tf hT53 rfl rfl) fd_1_0
  have q73 : fI h52 4 0 = fI h 4 0 := (Fr_fI hF54 (tf hT31 rfl rfl) (by decide +kernel)).trans (Fr_fI hF32 (tf hT rfl rfl) (by decide +kernel))
  have e74 := fI_bd (q := 64) hT53 (tf hT53 rfl rfl) fd_8_1
  have q75 : fI h52 64 1 = fI h 64 1 := (Fr_fI hF54 (tf hT31 rfl rfl) (by decide +kernel)).trans (Fr_fI hF32 (tf hT rfl rfl) (by decide +kernel))
  have e76 := fI_bd (q := 4) hT53 (tf hT53 rfl rfl) fd_1_5
  have q77 : fI h52 4 5 = fI h30 4 5 := Fr_fI hF54 (tf hT31 rfl rfl) (by decide +kernel)
  have e78 := fI_bd (q := 4) hT53 (tf hT53 rfl rfl) fd_1_10
  have q79 : fI h52 4 10 = fI h 4 10 := (Fr_fI hF54 (tf hT31 rfl rfl) (by decide +kernel)).trans (Fr_fI hF32 (tf hT rfl rfl) (by decide +kernel))
  have e80 := fI_bd (q := 64) hT53 (tf hT53 rfl rfl) fd_8_45
  have q81 : fI h52 64 45 = fI h 64 45 := (Fr_fI hF54 (tf hT31 rfl rfl) (by decide +kernel)).trans (Fr_fI hF32 (tf hT rfl rfl) (by decide +kernel))
  have e82 := fI_bd (q := 4) hT53 (tf hT53 rfl rfl) fd_1_12
  have q83 : fI h52 4 12 = fI h 4 12 := (Fr_fI hF54 (tf hT31 rfl rfl) (by decide +kernel)).trans (Fr_fI hF32 (tf hT rfl rfl) (by decide +kernel))
  have e84 := fI_bd (q := 64) hT53 (tf hT53 rfl rfl) fd_8_48
  have q85 : fI h52 64 48 = fI h 64 48 := (Fr_fI hF54 (tf hT31 rfl rfl) (by decide +kernel)).trans (Fr_fI hF32 (tf hT rfl rfl) (by decide +kernel))
  have e86 := fI_bd (q := 4) hT53 (tf hT53 rfl rfl) fd_1_7
  have q87 : fI h52 4 7 = fI h 4 7 := (Fr_fI hF54 (tf hT31 rfl rfl) (by decide +kernel)).trans (Fr_fI hF32 (tf hT rfl rfl) (by decide +kernel))
  have e88 := fI_bd (q := 39) hT53 (tf hT53 rfl rfl) fd_3_3
  have q89 : fI h52 39 3 = fI h 39 3 := (Fr_fI hF54 (tf hT31 rfl rfl) (by decide +kernel)).trans (Fr_fI hF32 (tf hT rfl rfl) (by decide +kernel))
  have e90 := fI_bd (q := 64) hT53 (tf hT53 rfl rfl) fd_8_41
  have q91 : fI h52 64 41 = fI h 64 41 := (Fr_fI hF54 (tf hT31 rfl rfl) (by decide +kernel)).trans (Fr_fI hF32 (tf hT rfl rfl) (by decide +kernel))
  have e92 := fI_bd (q := 54) hT53 (tf hT53 rfl rfl) fd_6_1
  have q93 : fI h52 54 1 = fI h 54 1 := (Fr_fI hF54 (tf hT31 rfl rfl) (by decide +kernel)).trans (Fr_fI hF32 (tf hT rfl rfl) (by decide +kernel))
  have e94 := fI_bd (q := 64) hT53 (tf hT53 rfl rfl) fd_8_77
  have q95 : fI h52 64 77 = fI h 64 77 := (Fr_fI hF54 (tf hT31 rfl rfl) (by decide +kernel)).trans (Fr_fI hF32 (tf hT rfl rfl) (by decide +kernel))
  have e96 := fI_bd (q := 60) hT53 (tf hT53 rfl rfl) fd_7_1
  have q97 : fI h52 60 1 = fI h 60 1 := (Fr_fI hF54 (tf hT31 rfl rfl) (by decide +kernel)).trans (Fr_fI hF32 (tf hT rfl rfl) (by decide +kernel))
  have e98 := fI_bd (q := 64) hT53 (tf hT53 rfl rfl) fd_8_78
  have q99 : fI h52 64 78 = fI h 64 78 := (Fr_fI hF54 (tf hT31 rfl rfl) (by decide +kernel)).trans (Fr_fI hF32 (tf hT rfl rfl) (by decide +kernel))
  exact hQ _ _ ⟨ts, rfl, hg⟩ hT53 (I1_fr ix36 hT31 hF54 (by decide +kernel)) (I2_fr ix37 hF54 (by decide +kernel)) (I3_fr (I3_fr pre2 hT hF32 (by decide +kernel)) hT31 hF54 (by decide +kernel)) (I4_fr (I4_fr pre3 hT hF32 (by decide +kernel)) hT31 hF54 (by decide +kernel)) (I6_fr (I6_fr pre4 hT hF32 (by decide +kernel)) hT31 hF54 (by decide +kernel)) (I8_fr pf38 hT31 hF54 (by decide +kernel)) (I9_fr iv60 hT31 hF54 (by decide +kernel)) (IA_fr (IA_fr pre7 hT hF32 (by decide +kernel)) hT31 hF54 (by decide +kernel)) (IB_fr (IB_fr pre8 hT hF32 (by decide +kernel)) hT31 hF54 (by decide +kernel)) (IC_fr (IC_fr pre9 hT hF32 (by decide +kernel)) hT31 hF54 (by decide +kernel)) (ID_fr (ID_fr pre10 hT hF32 (by decide +kernel)) hT31 hF54 (by decide +kernel)) (IE_fr (IE_fr pre11 hT hF32 (by decide +kernel)) hT31 hF54 (by decide +kernel)) (by omega) (by omega) (by omega) (by omega) (by omega) (by omega) (by omega) (by omega) (by omega) (by omega)
set_option maxHeartbeats 0 in
theorem LC_6 {Ln : Nat} {xs : Nat → Int32} {τ : List Nat} {h : List mE} (hT : TH Tr τ h) (pre0 : I1 τ h) (pre1 : I2 τ h) (pre2 : I3 h) (pre3 : I4 h) (pre4 : I6 h) (pre5 : I8 h) (pre6 : I9 h) (pre7 : IA h) (pre8 : IB h) (pre9 : IC h) (pre10 : ID h) (pre11 : IE h) (pre12 : fI h 64 32≤fI h 64 15+fI h 64 33) (pre13 : fI h 6 3=fI h 64 2) (pre14 : fI h 4 0=fI h 64 1) (pre15 : fI h 4 5=fI h 64 7) (pre16 : fI h 4 10=fI h 64 45) (pre17 : fI h 4 12=fI h 64 48) (pre18 : fI h 4 7=fI h 64 15) (pre19 : fI h 39 3=fI h 64 41) (pre20 : fI h 54 1=fI h 64 77) (pre21 : fI h 60 1=fI h 64 78) (i : Int) (hi : 0 ≤ i ∧ i + 6 ≤ (Ln : Int) ∧ (Ln : Int) ≤ 3072) (d : Nat) (hd : 90 ≤ d) (Q : Option Value → List mE → Prop) (hQ : ∀ (τ' : List Nat) (h' : List mE), (∃ ts : List Nat, τ' = τ ++ ts ∧ gsT ts = true) → TH Tr τ' h' → I1 τ' h' → I2 τ' h' → I3 h' → I4 h' → I6 h' → I8 h' → I9 h' → IA h' → IB h' → IC h' → ID h' → IE h' → fI h' 64 32≤fI h' 64 15+fI h' 64 33 → fI h' 6 3=fI h' 64 2 → fI h' 4 0=fI h' 64 1 → fI h' 4 5=fI h' 64 7 → fI h' 4 10=fI h' 64 45 → fI h' 4 12=fI h' 64 48 → fI h' 4 7=fI h' 64 15 → fI h' 39 3=fI h' 64 41 → fI h' 54 1=fI h' 64 77 → fI h' 60 1=fI h' 64 78 → MR (mex Ln xs) d 292 1864 [some (.ref 0), some (.ref 4), some (.ref 64), some (vI i)] [] h' Q) : MR (mex Ln xs) d 292 448 [some (.ref 0), some (.ref 4), some (.ref 64), some (vI i)] [] h Q := by
  have hF := Fr_rf τ WL h
  have hE := Ext_rf τ
  have e1 := fI_bd (q := 64) hT (tf hT rfl rfl) fd_8_32
  have e2 := fI_bd (q := 64) hT (tf hT rfl rfl) fd_8_15
  have e3 := fI_bd (q := 64) hT (tf hT rfl rfl) fd_8_33
  have e4 := fI_bd (q := 6) hT (tf hT rfl rfl) fd_2_3
  have e5 := fI_bd (q := 64) hT (tf hT rfl rfl) fd_8_2
  have e6 := fI_bd (q := 4) hT (tf hT rfl rfl) fd_1_0
  have e7 := fI_bd (q := 64) hT (tf hT rfl rfl) fd_8_1
  have e8 := fI_bd (q := 4) hT (tf hT rfl rfl) fd_1_5
  have e9 := fI_bd (q := 64) hT (tf hT rfl rfl) fd_8_7
  have e10 := fI_bd (q := 4) hT (tf hT rfl rfl) fd_1_10
  have e11 := fI_bd (q := 64) hT (tf hT rfl rfl) fd_8_45
  have e12 := fI_bd (q := 4) hT (tf hT rfl rfl) fd_1_12
  have e13 := fI_bd (q := 64) hT (tf hT rfl rfl) fd_8_48
  have e14 := fI_bd (q := 4) hT (tf hT rfl rfl) fd_1_7
  have e15 := fI_bd (q := 39) hT (tf hT rfl rfl) fd_3_3
  have e16 := fI_bd (q := 64) hT (tf hT rfl rfl) fd_8_41
  have e17 := fI_bd (q := 54) hT (tf hT rfl rfl) fd_6_1
  have e18 := fI_bd (q := 64) hT (tf hT rfl rfl) fd_8_77
  have e19 := fI_bd (q := 60) hT (tf hT rfl rfl) fd_7_1
  have e20 := fI_bd (q := 64) hT (tf hT rfl rfl) fd_8_78
  refine st_aload c292_448 rfl ?_
  refine st_aload c292_449 rfl ?_
  refine st_iload c292_450 rfl ?_
  refine st_iconst c292_451 ?_
  refine st_iadd c292_452 ?_
  refine st_sld c292_453 (by omega) (fun e21 e22 => ?_)
  refine st_aload c292_454 rfl ?_
  refine st_iload c292_455 rfl ?_
  refine st_iconst c292_456 ?_
  refine st_iadd c292_457 ?_
  refine st_sld c292_458 (by omega) (fun e23 e24 => ?_)
  refine st_aload c292_459 rfl ?_
  refine st_iload c292_460 rfl ?_
  refine st_iconst c292_461 ?_
  refine st_iadd c292_462 ?_
  refine st_sld c292_463 (by omega) (fun e25 e26 => ?_)
  refine st_callt (as := [vI (sv xs (i + 1)), vI (sv xs (i + 2)), vI (sv xs (i + 3))]) c292_464 cm_124 hT (tf hT rfl rfl) fd_1_0 rfl rfl rfl rfl (by omega) (K124 hT Stb_T (sv xs (i + 1)) (by omega) (sv xs (i + 2)) (by omega) (sv xs (i + 3)) (by omega) pre5 (d - 1) (by omega) _ (fun v h0 H => H)) (fun v1 h27 H => ?_)
  obtain ⟨z31, rfl, b32, pf30, hT28, hF29⟩ := H
  have hF33 := Fr_cp hF hF29 (by decide +kernel : Wsub W124 WL = true)
  refine st_pop c292_467 rfl ?_
  refine st_aload c292_468 rfl ?_
  refine st_aload c292_469 rfl ?_
  refine st_iload c292_470 rfl ?_
  refine st_iconst c292_471 ?_
  refine st_iadd c292_472 ?_
  refine st_sld c292_473 (by omega) (fun e34 e35 => ?_)
  refine st_aload c292_474 rfl ?_
  refine st_iload c292_475 rfl ?_
  refine st_iconst c292_476 ?_
  refine st_iadd c292_477 ?_
  refine st_sld c292_478 (by omega) (fun e36 e37 => ?_)
  refine st_aload c292_479 rfl ?_
  refine st_iload c292_480 rfl ?_
  refine st_iconst c292_481 ?_
  refine st_iadd c292_482 ?_
  refine st_sld c292_483 (by omega) (fun e38 e39 => ?_)
  refine st_callt (as := [vI (sv xs (i + 1)), vI (sv xs (i + 2)), vI (sv xs (i + 3))]) c292_484 cm_193 hT28 (tf hT28 rfl rfl) fd_8_0 rfl rfl rfl rfl (by omega) (K193 hT28 Stb_T (sv xs (i + 1)) (by omega) (sv xs (i + 2)) (by omega) (sv xs (i + 3)) (by omega) (d - 1) (by omega) _ (fun v h0 H => H)) (fun v1 h40 H => ?_)
  obtain ⟨z44, rfl, b45, pf43, hT41, hF42⟩ := H
  have hF46 := Fr_cp hF33 hF42 (by decide +kernel : Wsub W193 WL = true)
  have e49 := fI_bd (q := 64) hT28 (tf hT28 rfl rfl) fd_8_7
  have q50 : fI h27 64 7 = fI h 64 7 := Fr_fI hF29 (tf hT rfl rfl) (by decide +kernel)
  obtain ⟨iv47, zq48⟩ := S_go pre6 hT hT28 (by omega) (by omega) hF42 (by decide +kernel) pf30 pf43
  refine st_pop c292_487 rfl ?_
  refine st_goto c292_488 ?_
  have e51 := fI_bd (q := 64) hT41 (tf hT41 rfl rfl) fd_8_32
  have q52 : fI h40 64 32 = fI h 64 32 := (Fr_fI hF42 (tf hT28 rfl rfl) (by decide +kernel)).trans (Fr_fI hF29 (tf hT rfl rfl) (by decide +kernel))
  have e53 := fI_bd (q := 64) hT41 (tf hT41 rfl rfl) fd_8_15
  have q54 : fI h40 64 15 = fI h 64 15 := (Fr_fI hF42 (tf hT28 rfl rfl) (by decide +kernel)).trans (Fr_fI hF29 (tf hT rfl rfl) (by decide +kernel))
  have e55 := fI_bd (q := 64) hT41 (tf hT41 rfl rfl) fd_8_33
  have q56 : fI h40 64 33 = fI h 64 33 := (Fr_fI hF42 (tf hT28 rfl rfl) (by decide +kernel)).trans (Fr_fI hF29 (tf hT rfl rfl) (by decide +kernel))
  have e57 := fI_bd (q := 6) hT41 (tf hT41 rfl rfl) fd_2_3
  have q58 : fI h40 6 3 = fI h 6 3 := (Fr_fI hF42 (tf hT28 rfl rfl) (by decide +kernel)).trans (Fr_fI hF29 (tf hT rfl rfl) (by decide +kernel))
  have e59 := fI_bd (q := 64) hT41 (tf hT41 rfl rfl) fd_8_2
  have q60 : fI h40 64 2 = fI h 64 2 := (Fr_fI hF42 (tf hT28 rfl rfl) (by decide +kernel)).trans (Fr_fI hF29 (tf hT rfl rfl) (by decide +kernel))
  have e61 := fI_bd (q := 4) hT41 (tf hT41 rfl rfl) fd_1_0
  have q62 : fI h40 4 0 = fI h 4 0 := (Fr_fI hF42 (tf hT28 rfl rfl) (by decide +kernel)).trans (Fr_fI hF29 (tf hT rfl rfl) (by decide +kernel))
  have e63 := fI_bd (q := 64) hT41 (tf hT41 rfl rfl) fd_8_1
  have q64 : fI h40 64 1 = fI h 64 1 := (Fr_fI hF42 (tf hT28 rfl rfl) (by decide +kernel)).trans (Fr_fI hF29 (tf hT rfl rfl) (by decide +kernel))
  have e65 := fI_bd (q := 4) hT41 (tf hT41 rfl rfl) fd_1_5
  have q66 : fI h40 4 5 = fI h 4 5 := (Fr_fI hF42 (tf hT28 rfl rfl) (by decide +kernel)).trans (Fr_fI hF29 (tf hT rfl rfl) (by decide +kernel))
  have e67 := fI_bd (q := 64) hT41 (tf hT41 rfl rfl) fd_8_7
  have q68 : fI h40 64 7 = fI h 64 7 := (Fr_fI hF42 (tf hT28 rfl rfl) (by decide +kernel)).trans (Fr_fI hF29 (tf hT rfl rfl) (by decide +kernel))
  have e69 := fI_bd (q := 4) hT41 (tf hT41 rfl rfl) fd_1_10
  have q70 : fI h40 4 10 = fI h 4 10 := (Fr_fI hF42 (tf hT28 rfl rfl) (by decide +kernel)).trans (Fr_fI hF29 (tf hT rfl rfl) (by decide +kernel))
  have e71 := fI_bd (q := 64) hT41 (tf hT41 rfl rfl) fd_8_45
  have q72 : fI h40 64 45 = fI h 64 45 := (Fr_fI hF42 (tf hT28 rfl rfl) (by decide +kernel)).trans (Fr_fI hF29 (tf hT rfl rfl) (by decide +kernel))
  have e73 := fI_bd (q := 4) hT41 (tf hT41 rfl rfl) fd_1_12
  have q74 : fI h40 4 12 = fI h 4 12 := (Fr_fI hF42 (tf hT28 rfl rfl) (by decide +kernel)).trans (Fr_fI hF29 (tf hT rfl rfl) (by decide +kernel))
  have e75 := fI_bd (q := 64) hT41 (tf hT41 rfl rfl) fd_8_48
  have q76 : fI h40 64 48 = fI h 64 48 := (Fr_fI hF42 (tf hT28 rfl rfl) (by decide +kernel)).trans (Fr_fI hF29 (tf hT rfl rfl) (by decide +kernel))
  have e77 := fI_bd (q := 4) hT41 (tf hT41 rfl rfl) fd_1_7
  have q78 : fI h40 4 7 = fI h 4 7 := (Fr_fI hF42 (tf hT28 rfl rfl) (by decide +kernel)).trans (Fr_fI hF29 (tf hT rfl rfl) (by decide +kernel))
  have e79 := fI_bd (q := 39) hT41 (tf hT41 rfl rfl) fd_3_3
  have q80 : fI h40 39 3 = fI h 39 3 := (Fr_fI hF42 (tf hT28 rfl rfl) (by decide +kernel)).trans (Fr_fI hF29 (tf hT rfl rfl) (by decide +kernel))
  have e81 := fI_bd (q := 64) hT41 (tf hT41 rfl rfl) fd_8_41
  have q82 : fI h40 64 41 = fI h 64 41 := (Fr_fI hF42 (tf hT28 rfl rfl) (by decide +kernel)).trans (Fr_fI hF29 (tf hT rfl rfl) (by decide +kernel))
  have e83 := fI_bd (q := 54) hT41 (tf hT41 rfl rfl) fd_6_1
  have q84 : fI h40 54 1 = fI h 54 1 := (Fr_fI hF42 (tf hT28 rfl rfl) (by decide +kernel)).trans (Fr_fI hF29 (tf hT rfl rfl) (by decide +kernel))
  have e85 := fI_bd (q := 64) hT41 (tf hT41 rfl rfl) fd_8_77
  have q86 : fI h40 64 77 = fI h 64 77 := (Fr_fI hF42 (tf hT28 rfl rfl) (by decide +kernel)).trans (Fr_fI hF29 (tf hT rfl rfl) (by decide +kernel))
  have e87 := fI_bd (q := 60) hT41 (tf hT41 rfl rfl) fd_7_1
  have q88 : fI h40 60 1 = fI h 60 1 := (Fr_fI hF42 (tf hT28 rfl rfl) (by decide +kernel)).trans (Fr_fI hF29 (tf hT rfl rfl) (by decide +kernel))
  have e89 := fI_bd (q := 64) hT41 (tf hT41 rfl rfl) fd_8_78
  have q90 : fI h40 64 78 = fI h 64 78 := (Fr_fI hF42 (tf hT28 rfl rfl) (by decide +kernel)).trans (Fr_fI hF29 (tf hT rfl rfl) (by decide +kernel))
  exact hQ _ _ ⟨[], (List.append_nil τ).symm, rfl⟩ hT41 (I1_fr (I1_fr pre0 hT hF29 (by decide +kernel)) hT28 hF42 (by decide +kernel)) (I2_fr (I2_fr pre1 hF29 (by decide +kernel)) hF42 (by decide +kernel)) (I3_fr (I3_fr pre2 hT hF29 (by decide +kernel)) hT28 hF42 (by decide +kernel)) (I4_fr (I4_fr pre3 hT hF29 (by decide +kernel)) hT28 hF42 (by decide +kernel)) (I6_fr (I6_fr pre4 hT hF29 (by decide +kernel)) hT28 hF42 (by decide +kernel)) (I8_fr (I8_fr pre5 hT hF29 (by decide +kernel)) hT28 hF42 (by decide +kernel)) iv47 (IA_fr (IA_fr pre7 hT hF29 (by decide +kernel)) hT28 hF42 (by decide +kernel)) (IB_fr (IB_fr pre8 hT hF29 (by decide +kernel)) hT28 hF42 (by decide +kernel)) (IC_fr (IC_fr pre9 hT hF29 (by decide +kernel)) hT28 hF42 (by decide +kernel)) (ID_fr (ID_fr pre10 hT hF29 (by decide +kernel)) hT28 hF42 (by decide +kernel)) (IE_fr (IE_fr pre11 hT hF29 (by decide +kernel)) hT28 hF42 (by decide +kernel)) (by omega) (by omega) (by omega) (by omega) (by omega) (by omega) (by omega) (by omega) (by omega) (by omega)
set_option maxHeartbeats 0 in
theorem LC_7 {Ln : Nat} {xs : Nat → Int32} {τ : List Nat} {h : List mE} (hT : TH Tr τ h) (pre0 : I1 τ h) (pre1 : I2 τ h) (pre2 : I3 h) (pre3 : I4 h) (pre4 : I6 h) (pre5 : I8 h) (pre6 : I9 h) (pre7 : IA h) (pre8 : IB h) (pre9 : IC h) (pre10 : ID h) (pre11 : IE h) (pre12 : fI h 64 32≤fI h 64 15+fI h 64 33) (pre13 : fI h 6 3=fI h 64 2) (pre14 : fI h 4 0=fI h 64 1) (pre15 : fI h 4 5=fI h 64 7) (pre16 : fI h 4 10=fI h 64 45) (pre17 : fI h 4 12=fI h 64 48) (pre18 : fI h 4 7=fI h 64 15) (pre19 : fI h 39 3=fI h 64 41) (pre20 : fI h 54 1=fI h 64 77) (pre21 : fI h 60 1=fI h 64 78) (i : Int) (hi : 0 ≤ i ∧ i + 6 ≤ (Ln : Int) ∧ (Ln : Int) ≤ 3072) (d : Nat) (hd : 90 ≤ d) (Q : Option Value → List mE → Prop) (hQ : ∀ (τ' : List Nat) (h' : List mE), (∃ ts : List Nat, τ' = τ ++ ts ∧ gsT ts = true) → TH Tr τ' h' → I1 τ' h' → I2 τ' h' → I3 h' → I4 h' → I6 h' → I8 h' → I9 h' → IA h' → IB h' → IC h' → ID h' → IE h' → fI h' 64 32≤fI h' 64 15+fI h' 64 33 → fI h' 6 3=fI h' 64 2 → fI h' 4 0=fI h' 64 1 → fI h' 4 5=fI h' 64 7 → fI h' 4 10=fI h' 64 45 → fI h' 4 12=fI h' 64 48 → fI h' 4 7=fI h' 64 15 → fI h' 39 3=fI h' 64 41 → fI h' 54 1=fI h' 64 77 → fI h' 60 1=fI h' 64 78 → MR (mex Ln xs) d 292 1864 [some (.ref 0), some (.ref 4), some (.ref 64), some (vI i)] [] h' Q) : MR (mex Ln xs) d 292 491 [some (.ref 0), some (.ref 4), some (.ref 64), some (vI i)] [] h Q := by
  have hF := Fr_rf τ WL h
  have hE := Ext_rf τ
  have e1 := fI_bd (q := 64) hT (tf hT rfl rfl) fd_8_32
  have e2 := fI_bd (q := 64) hT (tf hT rfl rfl) fd_8_15
  have e3 := fI_bd (q := 64) hT (tf hT rfl rfl) fd_8_33
  have e4 := fI_bd (q := 6) hT (tf hT rfl rfl) fd_2_3
  have e5 := fI_bd (q := 64) hT (tf hT rfl rfl) fd_8_2
  have e6 := fI_bd (q := 4) hT (tf hT rfl rfl) fd_1_0
  have e7 := fI_bd (q := 64) hT (tf hT rfl rfl) fd_8_1
  have e8 := fI_bd (q := 4) hT (tf hT rfl rfl) fd_1_5
  have e9 := fI_bd (q := 64) hT (tf hT rfl rfl) fd_8_7
  have e10 := fI_bd (q := 4) hT (tf hT rfl rfl) fd_1_10
  have e11 := fI_bd (q := 64) hT (tf hT rfl rfl) fd_8_45
  have e12 := fI_bd (q := 4) hT (tf hT rfl rfl) fd_1_12
  have e13 := fI_bd (q := 64) hT (tf hT rfl rfl) fd_8_48
  have e14 := fI_bd (q := 4) hT (tf hT rfl rfl) fd_1_7
  have e15 := fI_bd (q := 39) hT (tf hT rfl rfl) fd_3_3
  have e16 := fI_bd (q := 64) hT (tf hT rfl rfl) fd_8_41
  have e17 := fI_bd (q := 54) hT (tf hT rfl rfl) fd_6_1
  have e18 := fI_bd (q := 64) hT (tf hT rfl rfl) fd_8_77
  have e19 := fI_bd (q := 60) hT (tf hT rfl rfl) fd_7_1
  have e20 := fI_bd (q := 64) hT (tf hT rfl rfl) fd_8_78
  refine st_aload c292_491 rfl ?_
  refine st_aload c292_492 rfl ?_
  refine st_iload c292_493 rfl ?_
  refine st_iconst c292_494 ?_
  refine st_iadd c292_495 ?_
  refine st_sld c292_496 (by omega) (fun e21 e22 => ?_)
  refine st_aload c292_497 rfl ?_
  refine st_iload c292_498 rfl ?_
  refine st_iconst c292_499 ?_
  refine st_iadd c292_500 ?_
  refine st_sld c292_501 (by omega) (fun e23 e24 => ?_)
  refine st_aload c292_502 rfl ?_
  refine st_iload c292_503 rfl ?_
  refine st_iconst c292_504 ?_
  refine st_iadd c292_505 ?_
  refine st_sld c292_506 (by omega) (fun e25 e26 => ?_)
  refine st_callt (as := [vI (sv xs (i + 1)), vI (sv xs (i + 2)), vI (sv xs (i + 3))]) c292_507 cm_125 hT (tf hT rfl rfl) fd_1_0 rfl rfl rfl rfl (by omega) (K125 hT Stb_T (sv xs (i + 1)) (by omega) (sv xs (i + 2)) (by omega) (sv xs (i + 3)) (by omega) pre5 (d - 1) (by omega) _ (fun v h0 H => H)) (fun v1 h27 H => ?_)
  obtain ⟨z31, rfl, b32, pf30, hT28, hF29⟩ := H
  have hF33 := Fr_cp hF hF29 (by decide +kernel : Wsub W125 WL = true)
  refine st_pop c292_510 rfl ?_
  refine st_aload c292_511 rfl ?_
  refine st_aload c292_512 rfl ?_
  refine st_iload c292_513 rfl ?_
  refine st_iconst c292_514 ?_
  refine st_iadd c292_515 ?_
  refine st_sld c292_516 (by omega) (fun e34 e35 => ?_)
  refine st_aload c292_517 rfl ?_
  refine st_iload c292_518 rfl ?_
  refine st_iconst c292_519 ?_
  refine st_iadd c292_520 ?_
  refine st_sld c292_521 (by omega) (fun e36 e37 => ?_)
  refine st_aload c292_522 rfl ?_
  refine st_iload c292_523 rfl ?_
  refine st_iconst c292_524 ?_
  refine st_iadd c292_525 ?_
  refine st_sld c292_526 (by omega) (fun e38 e39 => ?_)
  refine st_callt (as := [vI (sv xs (i + 1)), vI (sv xs (i + 2)), vI (sv xs (i + 3))]) c292_527 cm_194 hT28 (tf hT28 rfl rfl) fd_8_0 rfl rfl rfl rfl (by omega) (K194 hT28 Stb_T (sv xs (i + 1)) (by omega) (sv xs (i + 2)) (by omega) (sv xs (i + 3)) (by omega) (d - 1) (by omega) _ (fun v h0 H => H)) (fun v1 h40 H => ?_)
  obtain ⟨z44, rfl, b45, pf43, hT41, hF42⟩ := H
  have hF46 := Fr_cp hF33 hF42 (by decide +kernel : Wsub W194 WL = true)
  have e49 := fI_bd (q := 64) hT28 (tf hT28 rfl rfl) fd_8_7
  have q50 : fI h27 64 7 = fI h 64 7 := Fr_fI hF29 (tf hT rfl rfl) (by decide +kernel)
  obtain ⟨iv47, zq48⟩ := S_co pre6 hT hT28 (by omega) (by omega) hF42 (by decide +kernel) pf30 pf43
  refine st_pop c292_530 rfl ?_
  refine st_goto c292_531 ?_
  have e51 := fI_bd (q := 64) hT41 (tf hT41 rfl rfl) fd_8_32
  have q52 : fI h40 64 32 = fI h 64 32 := (Fr_fI hF42 (tf hT28 rfl rfl) (by decide +kernel)).trans (Fr_fI hF29 (tf hT rfl rfl) (by decide +kernel))
  have e53 := fI_bd (q := 64) hT41 (tf hT41 rfl rfl) fd_8_15
  have q54 : fI h40 64 15 = fI h 64 15 := (Fr_fI hF42 (tf hT28 rfl rfl) (by decide +kernel)).trans (Fr_fI hF29 (tf hT rfl rfl) (by decide +kernel))
  have e55 := fI_bd (q := 64) hT41 (tf hT41 rfl rfl) fd_8_33
  have q56 : fI h40 64 33 = fI h 64 33 := (Fr_fI hF42 (tf hT28 rfl rfl) (by decide +kernel)).trans (Fr_fI hF29 (tf hT rfl rfl) (by decide +kernel))
  have e57 := fI_bd (q := 6) hT41 (tf hT41 rfl rfl) fd_2_3
  have q58 : fI h40 6 3 = fI h 6 3 := (Fr_fI hF42 (tf hT28 rfl rfl) (by decide +kernel)).trans (Fr_fI hF29 (tf hT rfl rfl) (by decide +kernel))
  have e59 := fI_bd (q := 64) hT41 (tf hT41 rfl rfl) fd_8_2
  have q60 : fI h40 64 2 = fI h 64 2 := (Fr_fI hF42 (tf hT28 rfl rfl) (by decide +kernel)).trans (Fr_fI hF29 (tf hT rfl rfl) (by decide +kernel))
  have e61 := fI_bd (q := 4) hT41 (tf hT41 rfl rfl) fd_1_0
  have q62 : fI h40 4 0 = fI h 4 0 := (Fr_fI hF42 (tf hT28 rfl rfl) (by decide +kernel)).trans (Fr_fI hF29 (tf hT rfl rfl) (by decide +kernel))
  have e63 := fI_bd (q := 64) hT41 (tf hT41 rfl rfl) fd_8_1
  have q64 : fI h40 64 1 = fI h 64 1 := (Fr_fI hF42 (tf hT28 rfl rfl) (by decide +kernel)).trans (Fr_fI hF29 (tf hT rfl rfl) (by decide +kernel))
  have e65 := fI_bd (q := 4) hT41 (tf hT41 rfl rfl) fd_1_5
  have q66 : fI h40 4 5 = fI h 4 5 := (Fr_fI hF42 (tf hT28 rfl rfl) (by decide +kernel)).trans (Fr_fI hF29 (tf hT rfl rfl) (by decide +kernel))
  have e67 := fI_bd (q := 64) hT41 (tf hT41 rfl rfl) fd_8_7
  have q68 : fI h40 64 7 = fI h 64 7 := (Fr_fI hF42 (tf hT28 rfl rfl) (by decide +kernel)).trans (Fr_fI hF29 (tf hT rfl rfl) (by decide +kernel))
  have e69 := fI_bd (q := 4) hT41 (tf hT41 rfl rfl) fd_1_10
  have q70 : fI h40 4 10 = fI h 4 10 := (Fr_fI hF42 (tf hT28 rfl rfl) (by decide +kernel)).trans (Fr_fI hF29 (tf hT rfl rfl) (by decide +kernel))
  have e71 := fI_bd (q := 64) hT41 (tf hT41 rfl rfl) fd_8_45
  have q72 : fI h40 64 45 = fI h 64 45 := (Fr_fI hF42 (tf hT28 rfl rfl) (by decide +kernel)).trans (Fr_fI hF29 (tf hT rfl rfl) (by decide +kernel))
  have e73 := fI_bd (q := 4) hT41 (tf hT41 rfl rfl) fd_1_12
  have q74 : fI h40 4 12 = fI h 4 12 := (Fr_fI hF42 (tf hT28 rfl rfl) (by decide +kernel)).trans (Fr_fI hF29 (tf hT rfl rfl) (by decide +kernel))
  have e75 := fI_bd (q := 64) hT41 (tf hT41 rfl rfl) fd_8_48
  have q76 : fI h40 64 48 = fI h 64 48 := (Fr_fI hF42 (tf hT28 rfl rfl) (by decide +kernel)).trans (Fr_fI hF29 (tf hT rfl rfl) (by decide +kernel))
  have e77 := fI_bd (q := 4) hT41 (tf hT41 rfl rfl) fd_1_7
  have q78 : fI h40 4 7 = fI h 4 7 := (Fr_fI hF42 (tf hT28 rfl rfl) (by decide +kernel)).trans (Fr_fI hF29 (tf hT rfl rfl) (by decide +kernel))
  have e79 := fI_bd (q := 39) hT41 (tf hT41 rfl rfl) fd_3_3
  have q80 : fI h40 39 3 = fI h 39 3 := (Fr_fI hF42 (tf hT28 rfl rfl) (by decide +kernel)).trans (Fr_fI hF29 (tf hT rfl rfl) (by decide +kernel))
  have e81 := fI_bd (q := 64) hT41 (tf hT41 rfl rfl) fd_8_41
  have q82 : fI h40 64 41 = fI h 64 41 := (Fr_fI hF42 (tf hT28 rfl rfl) (by decide +kernel)).trans (Fr_fI hF29 (tf hT rfl rfl) (by decide +kernel))
  have e83 := fI_bd (q := 54) hT41 (tf hT41 rfl rfl) fd_6_1
  have q84 : fI h40 54 1 = fI h 54 1 := (Fr_fI hF42 (tf hT28 rfl rfl) (by decide +kernel)).trans (Fr_fI hF29 (tf hT rfl rfl) (by decide +kernel))
  have e85 := fI_bd (q := 64) hT41 (tf hT41 rfl rfl) fd_8_77
  have q86 : fI h40 64 77 = fI h 64 77 := (Fr_fI hF42 (tf hT28 rfl rfl) (by decide +kernel)).trans (Fr_fI hF29 (tf hT rfl rfl) (by decide +kernel))
  have e87 := fI_bd (q := 60) hT41 (tf hT41 rfl rfl) fd_7_1
  have q88 : fI h40 60 1 = fI h 60 1 := (Fr_fI hF42 (tf hT28 rfl rfl) (by decide +kernel)).trans (Fr_fI hF29 (tf hT rfl rfl) (by decide +kernel))
  have e89 := fI_bd (q := 64) hT41 (tf hT41 rfl rfl) fd_8_78
  have q90 : fI h40 64 78 = fI h 64 78 := (Fr_fI hF42 (tf hT28 rfl rfl) (by decide +kernel)).trans (Fr_fI hF29 (tf hT rfl rfl) (by decide +kernel))
  exact hQ _ _ ⟨[], (List.append_nil τ).symm, rfl⟩ hT41 (I1_fr (I1_fr pre0 hT hF29 (by decide +kernel)) hT28 hF42 (by decide +kernel)) (I2_fr (I2_fr pre1 hF29 (by decide +kernel)) hF42 (by decide +kernel)) (I3_fr (I3_fr pre2 hT hF29 (by decide +kernel)) hT28 hF42 (by decide +kernel)) (I4_fr (I4_fr pre3 hT hF29 (by decide +kernel)) hT28 hF42 (by decide +kernel)) (I6_fr (I6_fr pre4 hT hF29 (by decide +kernel)) hT28 hF42 (by decide +kernel)) (I8_fr (I8_fr pre5 hT hF29 (by decide +kernel)) hT28 hF42 (by decide +kernel)) iv47 (IA_fr (IA_fr pre7 hT hF29 (by decide +kernel)) hT28 hF42 (by decide +kernel)) (IB_fr (IB_fr pre8 hT hF29 (by decide +kernel)) hT28 hF42 (by decide +kernel)) (IC_fr (IC_fr pre9 hT hF29 (by decide +kernel)) hT28 hF42 (by decide +kernel)) (ID_fr (ID_fr pre10 hT hF29 (by decide +kernel)) hT28 hF42 (by decide +kernel)) (IE_fr (IE_fr pre11 hT hF29 (by decide +kernel)) hT28 hF42 (by decide +kernel)) (by omega) (by omega) (by omega) (by omega) (by omega) (by omega) (by omega) (by omega) (by omega) (by omega)
set_option maxHeartbeats 0 in
theorem LC_8 {Ln : Nat} {xs : Nat → Int32} {τ : List Nat} {h : List mE} (hT : TH Tr τ h) (pre0 : I1 τ h) (pre1 : I2 τ h) (pre2 : I3 h) (pre3 : I4 h) (pre4 : I6 h) (pre5 : I8 h) (pre6 : I9 h) (pre7 : IA h) (pre8 : IB h) (pre9 : IC h) (pre10 : ID h) (pre11 : IE h) (pre12 : fI h 64 32≤fI h 64 15+fI h 64 33) (pre13 : fI h 6 3=fI h 64 2) (pre14 : fI h 4 0=fI h 64 1) (pre15 : fI h 4 5=fI h 64 7) (pre16 : fI h 4 10=fI h 64 45) (pre17 : fI h 4 12=fI h 64 48) (pre18 : fI h 4 7=fI h 64 15) (pre19 : fI h 39 3=fI h 64 41) (pre20 : fI h 54 1=fI h 64 77) (pre21 : fI h 60 1=fI h 64 78) (i : Int) (hi : 0 ≤ i ∧ i + 6 ≤ (Ln : Int) ∧ (Ln : Int) ≤ 3072) (d : Nat) (hd : 90 ≤ d) (Q : Option Value → List mE → Prop) (hQ : ∀ (τ' : List Nat) (h' : List mE), (∃ ts : List Nat, τ' = τ ++ ts ∧ gsT ts = true) → TH Tr τ' h' → I1 τ' h' → I2 τ' h' → I3 h' → I4 h' → I6 h' → I8 h' → I9 h' → IA h' → IB h' → IC h' → ID h' → IE h' → fI h' 64 32≤fI h' 64 15+fI h' 64 33 → fI h' 6 3=fI h' 64 2 → fI h' 4 0=fI h' 64 1 → fI h' 4 5=fI h' 64 7 → fI h' 4 10=fI h' 64 45 → fI h' 4 12=fI h' 64 48 → fI h' 4 7=fI h' 64 15 → fI h' 39 3=fI h' 64 41 → fI h' 54 1=fI h' 64 77 → fI h' 60 1=fI h' 64 78 → MR (mex Ln xs) d 292 1864 [some (.ref 0), some (.ref 4), some (.ref 64), some (vI i)] [] h' Q) : MR (mex Ln xs) d 292 534 [some (.ref 0), some (.ref 4), some (.ref 64), some (vI i)] [] h Q := by
  have hF := Fr_rf τ WL h
  have hE := Ext_rf τ
  have e1 := fI_bd (q := 64) hT (tf hT rfl rfl) fd_8_32
  have e2 := fI_bd (q := 64) hT (tf hT rfl rfl) fd_8_15
  have e3 := fI_bd (q := 64) hT (tf hT rfl rfl) fd_8_33
  have e4 := fI_bd (q := 6) hT (tf hT rfl rfl) fd_2_3
  have e5 := fI_bd (q := 64) hT (tf hT rfl rfl) fd_8_2
  have e6 := fI_bd (q := 4) hT (tf hT rfl rfl) fd_1_0
  have e7 := fI_bd (q := 64) hT (tf hT rfl rfl) fd_8_1
  have e8 := fI_bd (q := 4) hT (tf hT rfl rfl) fd_1_5
  have e9 := fI_bd (q := 64) hT (tf hT rfl rfl) fd_8_7
  have e10 := fI_bd (q := 4) hT (tf hT rfl rfl) fd_1_10
  have e11 := fI_bd (q := 64) hT (tf hT rfl rfl) fd_8_45
  have e12 := fI_bd (q := 4) hT (tf hT rfl rfl) fd_1_12
  have e13 := fI_bd (q := 64) hT (tf hT rfl rfl) fd_8_48
  have e14 := fI_bd (q := 4) hT (tf hT rfl rfl) fd_1_7
  have e15 := fI_bd (q := 39) hT (tf hT rfl rfl) fd_3_3
  have e16 := fI_bd (q := 64) hT (tf hT rfl rfl) fd_8_41
  have e17 := fI_bd (q := 54) hT (tf hT rfl rfl) fd_6_1
  have e18 := fI_bd (q := 64) hT (tf hT rfl rfl) fd_8_77
  have e19 := fI_bd (q := 60) hT (tf hT rfl rfl) fd_7_1
  have e20 := fI_bd (q := 64) hT (tf hT rfl rfl) fd_8_78
  refine st_aload c292_534 rfl ?_
  refine st_aload c292_535 rfl ?_
  refine st_iload c292_536 rfl ?_
  refine st_iconst c292_537 ?_
  refine st_iadd c292_538 ?_
  refine st_sld c292_539 (by omega) (fun e21 e22 => ?_)
  refine st_aload c292_540 rfl ?_
  refine st_iload c292_541 rfl ?_
  refine st_iconst c292_542 ?_
  refine st_iadd c292_543 ?_
  refine st_sld c292_544 (by omega) (fun e23 e24 => ?_)
  refine st_aload c292_545 rfl ?_
  refine st_iload c292_546 rfl ?_
  refine st_iconst c292_547 ?_
  refine st_iadd c292_548 ?_
  refine st_sld c292_549 (by omega) (fun e25 e26 => ?_)
  have e27 := fI_bd (q := 4) hT (tf hT rfl rfl) fd_1_5
  have e28 := fI_bd (q := 6) hT (tf hT rfl rfl) fd_2_3
  have e29 := fI_bd (q := 4) hT (tf hT rfl rfl) fd_1_7
  refine st_callt (as := [vI (sv xs (i + 1)), vI (sv xs (i + 2)), vI (sv xs (i + 3))]) c292_550 cm_126 hT (tf hT rfl rfl) fd_1_0 rfl rfl rfl rfl (by omega) (K126 hT (sv xs (i + 1)) (by omega) (sv xs (i + 2)) (by omega) (sv xs (i + 3)) (by omega) pre0 pre1 pre5 (d - 1) (by omega) _ (fun v h0 H => H)) (fun v1 h30 H => ?_)
  obtain ⟨z34, rfl, b35, pf38, pf39, pf40, τ', ⟨ts, rfl, hg⟩, hT31, hF32, ix36, ix37⟩ := H
  have hF33 := Fr_cp hF hF32 (by decide +kernel : Wsub W126 WL = true)
  have hE := Ext_app (τ := τ) (ts := ts)
  have e41 := fI_bd (q := 4) hT31 (tf hT31 rfl rfl) fd_1_7
  refine st_pop c292_553 rfl ?_
  refine st_aload c292_554 rfl ?_
  refine st_aload c292_555 rfl ?_
  refine st_iload c292_556 rfl ?_
  refine st_iconst c292_557 ?_
  refine st_iadd c292_558 ?_
  refine st_sld c292_559 (by omega) (fun e42 e43 => ?_)
  refine st_aload c292_560 rfl ?_
  refine st_iload c292_561 rfl ?_
  refine st_iconst c292_562 ?_
  refine st_iadd c292_563 ?_
  refine st_sld c292_564 (by omega) (fun e44 e45 => ?_)
  refine st_aload c292_565 rfl ?_
  refine st_iload c292_566 rfl ?_
  refine st_iconst c292_567 ?_
  refine st_iadd c292_568 ?_
  refine st_sld c292_569 (by omega) (fun e46 e47 => ?_)
  have e48 := fI_bd (q := 64) hT31 (tf hT31 rfl rfl) fd_8_7
  have q49 : fI h30 64 7 = fI h 64 7 := Fr_fI hF32 (tf hT rfl rfl) (by decide +kernel)
  have e50 := fI_bd (q := 64) hT31 (tf hT31 rfl rfl) fd_8_2
  have q51 : fI h30 64 2 = fI h 64 2 := Fr_fI hF32 (tf hT rfl rfl) (by decide +kernel)
  have e52 := fI_bd (q := 64) hT31 (tf hT31 rfl rfl) fd_8_15
  have q53 : fI h30 64 15 = fI h 64 15 := Fr_fI hF32 (tf hT rfl rfl) (by decide +kernel)
  have e54 := fI_bd (q := 64) hT31 (tf hT31 rfl rfl) fd_8_32
  have q55 : fI h30 64 32 = fI h 64 32 := Fr_fI hF32 (tf hT rfl rfl) (by decide +kernel)
  have e56 := fI_bd (q := 64) hT31 (tf hT31 rfl rfl) fd_8_33
  have q57 : fI h30 64 33 = fI h 64 33 := Fr_fI hF32 (tf hT rfl rfl) (by decide +kernel)
  refine st_callt (as := [vI (sv xs (i + 1)), vI (sv xs (i + 2)), vI (sv xs (i + 3))]) c292_570 cm_198 hT31 (tf hT31 rfl rfl) fd_8_0 rfl rfl rfl rfl (by omega) (K198 hT31 Stb_T (sv xs (i + 1)) (by omega) (sv xs (i + 2)) (by omega) (sv xs (i + 3)) (by omega) (by omega) (d - 1) (by omega) _ (fun v h0 H => H)) (fun v1 h58 H => ?_)
  obtain ⟨z63, rfl, b64, pf61, pf62, hT59, hF60⟩ := H
  have hF65 := Fr_cp hF33 (Fr_dn hE hF60) (by decide +kernel : Wsub W198 WL = true)
  have e66 := fI_bd (q := 64) hT59 (tf hT59 rfl rfl) fd_8_32
  have e67 := fI_bd (q := 64) hT59 (tf hT59 rfl rfl) fd_8_15
  have e68 := fI_bd (q := 64) hT59 (tf hT59 rfl rfl) fd_8_33
  have q69 : fI h58 64 33 = fI h30 64 33 := Fr_fI hF60 (tf hT31 rfl rfl) (by decide +kernel)
  have iv70 := S_mach pre6 pre5 hT (by omega) (by omega) hF32 (by decide +kernel) pf40
  have yq72 := IB_at pre8 (sv xs (i + 2))
  have yq73 : aI h30 65 (sv xs (i + 2)) = aI h 65 (sv xs (i + 2)) := Fr_aI hF32 (tf (q := 65) (t := 43) hT rfl rfl) (by decide +kernel) _
  refine st_pop c292_573 rfl ?_
  refine st_goto c292_574 ?_
  have e74 := fI_bd (q := 6) hT59 (tf hT59 rfl rfl) fd_2_3
  have q75 : fI h58 6 3 = fI h 6 3 := (Fr_fI hF60 (tf hT31 rfl rfl) (by decide +kernel)).trans (Fr_fI hF32 (tf hT rfl rfl) (by decide +kernel))
  have e76 := fI_bd (q := 64) hT59 (tf hT59 rfl rfl) fd_8_2
  have q77 : fI h58 64 2 = fI h30 64 2 := Fr_fI hF60 (tf hT31 rfl rfl) (by decide +kernel)
  have e78 := fI_bd (q := 4) hT59 (tf hT59 rfl rfl) fd_1_0
  have q79 : fI h58 4 0 = fI h 4 0 := (Fr_fI hF60 (tf hT31 rfl rfl) (by decide +kernel)).trans (Fr_fI hF32 (tf hT rfl rfl) (by decide +kernel))
  have e80 := fI_bd (q := 64) hT59 (tf hT59 rfl rfl) fd_8_1
  have q81 : fI h58 64 1 = fI h 64 1 := (Fr_fI hF60 (tf hT31 rfl rfl) (by decide +kernel)).trans (Fr_fI hF32 (tf hT rfl rfl) (by decide +kernel))
  have e82 := fI_bd (q := 4) hT59 (tf hT59 rfl rfl) fd_1_5
  have q83 : fI h58 4 5 = fI h 4 5 := (Fr_fI hF60 (tf hT31 rfl rfl) (by decide +kernel)).trans (Fr_fI hF32 (tf hT rfl rfl) (by decide +kernel))
  have e84 := fI_bd (q := 64) hT59 (tf hT59 rfl rfl) fd_8_7
  have q85 : fI h58 64 7 = fI h30 64 7 := Fr_fI hF60 (tf hT31 rfl rfl) (by decide +kernel)
  have e86 := fI_bd (q := 4) hT59 (tf hT59 rfl rfl) fd_1_10
  have q87 : fI h58 4 10 = fI h 4 10 := (Fr_fI hF60 (tf hT31 rfl rfl) (by decide +kernel)).trans (Fr_fI hF32 (tf hT rfl rfl) (by decide +kernel))
  have e88 := fI_bd (q := 64) hT59 (tf hT59 rfl rfl) fd_8_45
  have q89 : fI h58 64 45 = fI h 64 45 := (Fr_fI hF60 (tf hT31 rfl rfl) (by decide +kernel)).trans (Fr_fI hF32 (tf hT rfl rfl) (by decide +kernel))
  have e90 := fI_bd (q := 4) hT59 (tf hT59 rfl rfl) fd_1_12
  have q91 : fI h58 4 12 = fI h 4 12 := (Fr_fI hF60 (tf hT31 rfl rfl) (by decide +kernel)).trans (Fr_fI hF32 (tf hT rfl rfl) (by decide +kernel))
  have e92 := fI_bd (q := 64) hT59 (tf hT59 rfl rfl) fd_8_48
  have q93 : fI h58 64 48 = fI h 64 48 := (Fr_fI hF60 (tf hT31 rfl rfl) (by decide +kernel)).trans (Fr_fI hF32 (tf hT rfl rfl) (by decide +kernel))
  have e94 := fI_bd (q := 4) hT59 (tf hT59 rfl rfl) fd_1_7
  have q95 : fI h58 4 7 = fI h30 4 7 := Fr_fI hF60 (tf hT31 rfl rfl) (by decide +kernel)
  have e96 := fI_bd (q := 39) hT59 (tf hT59 rfl rfl) fd_3_3
  have q97 : fI h58 39 3 = fI h 39 3 := (Fr_fI hF60 (tf hT31 rfl rfl) (by decide +kernel)).trans (Fr_fI hF32 (tf hT rfl rfl) (by decide +kernel))
  have e98 := fI_bd (q := 64) hT59 (tf hT59 rfl rfl) fd_8_41
  have q99 : fI h58 64 41 = fI h 64 41 := (Fr_fI hF60 (tf hT31 rfl rfl) (by decide +kernel)).trans (Fr_fI hF32 (tf hT rfl rfl) (by decide +kernel))
  have e100 := fI_bd (q := 54) hT59 (tf hT59 rfl rfl) fd_6_1
  have q101 : fI h58 54 1 = fI h 54 1 := (Fr_fI hF60 (tf hT31 rfl rfl) (by decide +kernel)).trans (Fr_fI hF32 (tf hT rfl rfl) (by decide +kernel))
  have e102 := fI_bd (q := 64) hT59 (tf hT59 rfl rfl) fd_8_77
  have q103 : fI h58 64 77 = fI h 64 77 := (Fr_fI hF60 (tf hT31 rfl rfl) (by decide +kernel)).trans (Fr_fI hF32 (tf hT rfl rfl) (by decide +kernel))
  have e104 := fI_bd (q := 60) hT59 (tf hT59 rfl rfl) fd_7_1
  have q105 : fI h58 60 1 = fI h 60 1 := (Fr_fI hF60 (tf hT31 rfl rfl) (by decide +kernel)).trans (Fr_fI hF32 (tf hT rfl rfl) (by decide +kernel))
  have e106 := fI_bd (q := 64) hT59 (tf hT59 rfl rfl) fd_8_78
  have q107 : fI h58 64 78 = fI h 64 78 := (Fr_fI hF60 (tf hT31 rfl rfl) (by decide +kernel)).trans (Fr_fI hF32 (tf hT rfl rfl) (by decide +kernel))
  exact hQ _ _ ⟨ts, rfl, hg⟩ hT59 (I1_fr ix36 hT31 hF60 (by decide +kernel)) (I2_fr ix37 hF60 (by decide +kernel)) (I3_fr (I3_fr pre2 hT hF32 (by decide +kernel)) hT31 hF60 (by decide +kernel)) (I4_fr (I4_fr pre3 hT hF32 (by decide +kernel)) hT31 hF60 (by decide +kernel)) (I6_fr (I6_fr pre4 hT hF32 (by decide +kernel)) hT31 hF60 (by decide +kernel)) (I8_fr pf38 hT31 hF60 (by decide +kernel)) (I9_fr iv70 hT31 hF60 (by decide +kernel)) (IA_fr (IA_fr pre7 hT hF32 (by decide +kernel)) hT31 hF60 (by decide +kernel)) (IB_fr (IB_fr pre8 hT hF32 (by decide +kernel)) hT31 hF60 (by decide +kernel)) (IC_fr (IC_fr pre9 hT hF32 (by decide +kernel)) hT31 hF60 (by decide +kernel)) (ID_fr (ID_fr pre10 hT hF32 (by decide +kernel)) hT31 hF60 (by decide +kernel)) (IE_fr (IE_fr pre11 hT hF32 (by decide +kernel)) hT31 hF60 (by decide +kernel)) (by omega) (by omega) (by omega) (by omega) (by omega) (by omega) (by omega) (by omega) (by omega) (by omega)
set_option maxHeartbeats 0 in
theorem LC_9 {Ln : Nat} {xs : Nat → Int32} {τ : List Nat} {h : List mE} (hT : TH Tr τ h) (pre0 : I1 τ h) (pre1 : I2 τ h) (pre2 : I3 h) (pre3 : I4 h) (pre4 : I6 h) (pre5 : I8 h) (pre6 : I9 h) (pre7 : IA h) (pre8 : IB h) (pre9 : IC h) (pre10 : ID h) (pre11 : IE h) (pre12 : fI h 64 32≤fI h 64 15+fI h 64 33) (pre13 : fI h 6 3=fI h 64 2) (pre14 : fI h 4 0=fI h 64 1) (pre15 : fI h 4 5=fI h 64 7) (pre16 : fI h 4 10=fI h 64 45) (pre17 : fI h 4 12=fI h 64 48) (pre18 : fI h 4 7=fI h 64 15) (pre19 : fI h 39 3=fI h 64 41) (pre20 : fI h 54 1=fI h 64 77) (pre21 : fI h 60 1=fI h 64 78) (i : Int) (hi : 0 ≤ i ∧ i + 6 ≤ (Ln : Int) ∧ (Ln : Int) ≤ 3072) (d : Nat) (hd : 90 ≤ d) (Q : Option Value → List mE → Prop) (hQ : ∀ (τ' : List Nat) (h' : List mE), (∃ ts : List Nat, τ' = τ ++ ts ∧ gsT ts = true) → TH Tr τ' h' → I1 τ' h' → I2 τ' h' → I3 h' → I4 h' → I6 h' → I8 h' → I9 h' → IA h' → IB h' → IC h' → ID h' → IE h' → fI h' 64 32≤fI h' 64 15+fI h' 64 33 → fI h' 6 3=fI h' 64 2 → fI h' 4 0=fI h' 64 1 → fI h' 4 5=fI h' 64 7 → fI h' 4 10=fI h' 64 45 → fI h' 4 12=fI h' 64 48 → fI h' 4 7=fI h' 64 15 → fI h' 39 3=fI h' 64 41 → fI h' 54 1=fI h' 64 77 → fI h' 60 1=fI h' 64 78 → MR (mex Ln xs) d 292 1864 [some (.ref 0), some (.ref 4), some (.ref 64), some (vI i)] [] h' Q) : MR (mex Ln xs) d 292 577 [some (.ref 0), some (.ref 4), some (.ref 64), some (vI i)] [] h Q := by
  have hF := Fr_rf τ WL h
  have hE := Ext_rf τ
  have e1 := fI_bd (q := 64) hT (tf hT rfl rfl) fd_8_32
  have e2 := fI_bd (q := 64) hT (tf hT rfl rfl) fd_8_15
  have e3 := fI_bd (q := 64) hT (tf hT rfl rfl) fd_8_33
  have e4 := fI_bd (q := 6) hT (tf hT rfl rfl) fd_2_3
  have e5 := fI_bd (q := 64) hT (tf hT rfl rfl) fd_8_2
  have e6 := fI_bd (q := 4) hT (tf hT rfl rfl) fd_1_0
  have e7 := fI_bd (q := 64) hT (tf hT rfl rfl) fd_8_1
  have e8 := fI_bd (q := 4) hT (tf hT rfl rfl) fd_1_5
  have e9 := fI_bd (q := 64) hT (tf hT rfl rfl) fd_8_7
  have e10 := fI_bd (q := 4) hT (tf hT rfl rfl) fd_1_10
  have e11 := fI_bd (q := 64) hT (tf hT rfl rfl) fd_8_45
  have e12 := fI_bd (q := 4) hT (tf hT rfl rfl) fd_1_12
  have e13 := fI_bd (q := 64) hT (tf hT rfl rfl) fd_8_48
  have e14 := fI_bd (q := 4) hT (tf hT rfl rfl) fd_1_7
  have e15 := fI_bd (q := 39) hT (tf hT rfl rfl) fd_3_3
  have e16 := fI_bd (q := 64) hT (tf hT rfl rfl) fd_8_41
  have e17 := fI_bd (q := 54) hT (tf hT rfl rfl) fd_6_1
  have e18 := fI_bd (q := 64) hT (tf hT rfl rfl) fd_8_77
  have e19 := fI_bd (q := 60) hT (tf hT rfl rfl) fd_7_1
  have e20 := fI_bd (q := 64) hT (tf hT rfl rfl) fd_8_78
  refine st_aload c292_577 rfl ?_
  refine st_aload c292_578 rfl ?_
  refine st_iload c292_579 rfl ?_
  refine st_iconst c292_580 ?_
  refine st_iadd c292_581 ?_
  refine st_sld c292_582 (by omega) (fun e21 e22 => ?_)
  refine st_aload c292_583 rfl ?_
  refine st_iload c292_584 rfl ?_
  refine st_iconst c292_585 ?_
  refine st_iadd c292_586 ?_
  refine st_sld c292_587 (by omega) (fun e23 e24 => ?_)
  refine st_aload c292_588 rfl ?_
  refine st_iload c292_589 rfl ?_
  refine st_iconst c292_590 ?_
  refine st_iadd c292_591 ?_
  refine st_sld c292_592 (by omega) (fun e25 e26 => ?_)
  refine st_callt (as := [vI (sv xs (i + 1)), vI (sv xs (i + 2)), vI (sv xs (i + 3))]) c292_593 cm_127 hT (tf hT rfl rfl) fd_1_0 rfl rfl rfl rfl (by omega) (K127 hT Stb_T (sv xs (i + 1)) (by omega) (sv xs (i + 2)) (by omega) (sv xs (i + 3)) (by omega) pre5 (d - 1) (by omega) _ (fun v h0 H => H)) (fun v1 h27 H => ?_)
  obtain ⟨z31, rfl, b32, pf30, hT28, hF29⟩ := H
  have hF33 := Fr_cp hF hF29 (by decide +kernel : Wsub W127 WL = true)
  refine st_pop c292_596 rfl ?_
  refine st_aload c292_597 rfl ?_
  refine st_aload c292_598 rfl ?_
  refine st_iload c292_599 rfl ?_
  refine st_iconst c292_600 ?_
  refine st_iadd c292_601 ?_
  refine st_sld c292_602 (by omega) (fun e34 e35 => ?_)
  refine st_aload c292_603 rfl ?_
  refine st_iload c292_604 rfl ?_
  refine st_iconst c292_605 ?_
  refine st_iadd c292_606 ?_
  refine st_sld c292_607 (by omega) (fun e36 e37 => ?_)
  refine st_aload c292_608 rfl ?_
  refine st_iload c292_609 rfl ?_
  refine st_iconst c292_610 ?_
  refine st_iadd c292_611 ?_
  refine st_sld c292_612 (by omega) (fun e38 e39 => ?_)
  refine st_callt (as := [vI (sv xs (i + 1)), vI (sv xs (i + 2)), vI (sv xs (i + 3))]) c292_613 cm_199 hT28 (tf hT28 rfl rfl) fd_8_0 rfl rfl rfl rfl (by omega) (K199 hT28 Stb_T (sv xs (i + 1)) (by omega) (sv xs (i + 2)) (by omega) (sv xs (i + 3)) (by omega) (d - 1) (by omega) _ (fun v h0 H => H)) (fun v1 h40 H => ?_)
  obtain ⟨z44, rfl, b45, pf43, hT41, hF42⟩ := H
  have hF46 := Fr_cp hF33 hF42 (by decide +kernel : Wsub W199 WL = true)
  have e49 := fI_bd (q := 64) hT28 (tf hT28 rfl rfl) fd_8_15
  have q50 : fI h27 64 15 = fI h 64 15 := Fr_fI hF29 (tf hT rfl rfl) (by decide +kernel)
  obtain ⟨iv47, zq48⟩ := S_lk pre6 hT hT28 (by omega) (by omega) hF42 (by decide +kernel) pf30 pf43
  refine st_pop c292_616 rfl ?_
  refine st_goto c292_617 ?_
  have e51 := fI_bd (q := 64) hT41 (tf hT41 rfl rfl) fd_8_32
  have q52 : fI h40 64 32 = fI h 64 32 := (Fr_fI hF42 (tf hT28 rfl rfl) (by decide +kernel)).trans (Fr_fI hF29 (tf hT rfl rfl) (by decide +kernel))
  have e53 := fI_bd (q := 64) hT41 (tf hT41 rfl rfl) fd_8_15
  have q54 : fI h40 64 15 = fI h 64 15 := (Fr_fI hF42 (tf hT28 rfl rfl) (by decide +kernel)).trans (Fr_fI hF29 (tf hT rfl rfl) (by decide +kernel))
  have e55 := fI_bd (q := 64) hT41 (tf hT41 rfl rfl) fd_8_33
  have q56 : fI h40 64 33 = fI h 64 33 := (Fr_fI hF42 (tf hT28 rfl rfl) (by decide +kernel)).trans (Fr_fI hF29 (tf hT rfl rfl) (by decide +kernel))
  have e57 := fI_bd (q := 6) hT41 (tf hT41 rfl rfl) fd_2_3
  have q58 : fI h40 6 3 = fI h 6 3 := (Fr_fI hF42 (tf hT28 rfl rfl) (by decide +kernel)).trans (Fr_fI hF29 (tf hT rfl rfl) (by decide +kernel))
  have e59 := fI_bd (q := 64) hT41 (tf hT41 rfl rfl) fd_8_2
  have q60 : fI h40 64 2 = fI h 64 2 := (Fr_fI hF42 (tf hT28 rfl rfl) (by decide +kernel)).trans (Fr_fI hF29 (tf hT rfl rfl) (by decide +kernel))
  have e61 := fI_bd (q := 4) hT41 (tf hT41 rfl rfl) fd_1_0
  have q62 : fI h40 4 0 = fI h 4 0 := (Fr_fI hF42 (tf hT28 rfl rfl) (by decide +kernel)).trans (Fr_fI hF29 (tf hT rfl rfl) (by decide +kernel))
  have e63 := fI_bd (q := 64) hT41 (tf hT41 rfl rfl) fd_8_1
  have q64 : fI h40 64 1 = fI h 64 1 := (Fr_fI hF42 (tf hT28 rfl rfl) (by decide +kernel)).trans (Fr_fI hF29 (tf hT rfl rfl) (by decide +kernel))
  have e65 := fI_bd (q := 4) hT41 (tf hT41 rfl rfl) fd_1_5
  have q66 : fI h40 4 5 = fI h 4 5 := (Fr_fI hF42 (tf hT28 rfl rfl) (by decide +kernel)).trans (Fr_fI hF29 (tf hT rfl rfl) (by decide +kernel))
  have e67 := fI_bd (q := 64) hT41 (tf hT41 rfl rfl) fd_8_7
  have q68 : fI h40 64 7 = fI h 64 7 := (Fr_fI hF42 (tf hT28 rfl rfl) (by decide +kernel)).trans (Fr_fI hF29 (tf hT rfl rfl) (by decide +kernel))
  have e69 := fI_bd (q := 4) hT41 (tf hT41 rfl rfl) fd_1_10
  have q70 : fI h40 4 10 = fI h 4 10 := (Fr_fI hF42 (tf hT28 rfl rfl) (by decide +kernel)).trans (Fr_fI hF29 (tf hT rfl rfl) (by decide +kernel))
  have e71 := fI_bd (q := 64) hT41 (tf hT41 rfl rfl) fd_8_45
  have q72 : fI h40 64 45 = fI h 64 45 := (Fr_fI hF42 (tf hT28 rfl rfl) (by decide +kernel)).trans (Fr_fI hF29 (tf hT rfl rfl) (by decide +kernel))
  have e73 := fI_bd (q := 4) hT41 (tf hT41 rfl rfl) fd_1_12
  have q74 : fI h40 4 12 = fI h 4 12 := (Fr_fI hF42 (tf hT28 rfl rfl) (by decide +kernel)).trans (Fr_fI hF29 (tf hT rfl rfl) (by decide +kernel))
  have e75 := fI_bd (q := 64) hT41 (tf hT41 rfl rfl) fd_8_48
  have q76 : fI h40 64 48 = fI h 64 48 := (Fr_fI hF42 (tf hT28 rfl rfl) (by decide +kernel)).trans (Fr_fI hF29 (tf hT rfl rfl) (by decide +kernel))
  have e77 := fI_bd (q := 4) hT41 (tf hT41 rfl rfl) fd_1_7
  have q78 : fI h40 4 7 = fI h 4 7 := (Fr_fI hF42 (tf hT28 rfl rfl) (by decide +kernel)).trans (Fr_fI hF29 (tf hT rfl rfl) (by decide +kernel))
  have e79 := fI_bd (q := 39) hT41 (tf hT41 rfl rfl) fd_3_3
  have q80 : fI h40 39 3 = fI h 39 3 := (Fr_fI hF42 (tf hT28 rfl rfl) (by decide +kernel)).trans (Fr_fI hF29 (tf hT rfl rfl) (by decide +kernel))
  have e81 := fI_bd (q := 64) hT41 (tf hT41 rfl rfl) fd_8_41
  have q82 : fI h40 64 41 = fI h 64 41 := (Fr_fI hF42 (tf hT28 rfl rfl) (by decide +kernel)).trans (Fr_fI hF29 (tf hT rfl rfl) (by decide +kernel))
  have e83 := fI_bd (q := 54) hT41 (tf hT41 rfl rfl) fd_6_1
  have q84 : fI h40 54 1 = fI h 54 1 := (Fr_fI hF42 (tf hT28 rfl rfl) (by decide +kernel)).trans (Fr_fI hF29 (tf hT rfl rfl) (by decide +kernel))
  have e85 := fI_bd (q := 64) hT41 (tf hT41 rfl rfl) fd_8_77
  have q86 : fI h40 64 77 = fI h 64 77 := (Fr_fI hF42 (tf hT28 rfl rfl) (by decide +kernel)).trans (Fr_fI hF29 (tf hT rfl rfl) (by decide +kernel))
  have e87 := fI_bd (q := 60) hT41 (tf hT41 rfl rfl) fd_7_1
  have q88 : fI h40 60 1 = fI h 60 1 := (Fr_fI hF42 (tf hT28 rfl rfl) (by decide +kernel)).trans (Fr_fI hF29 (tf hT rfl rfl) (by decide +kernel))
  have e89 := fI_bd (q := 64) hT41 (tf hT41 rfl rfl) fd_8_78
  have q90 : fI h40 64 78 = fI h 64 78 := (Fr_fI hF42 (tf hT28 rfl rfl) (by decide +kernel)).trans (Fr_fI hF29 (tf hT rfl rfl) (by decide +kernel))
  exact hQ _ _ ⟨[], (List.append_nil τ).symm, rfl⟩ hT41 (I1_fr (I1_fr pre0 hT hF29 (by decide +kernel)) hT28 hF42 (by decide +kernel)) (I2_fr (I2_fr pre1 hF29 (by decide +kernel)) hF42 (by decide +kernel)) (I3_fr (I3_fr pre2 hT hF29 (by decide +kernel)) hT28 hF42 (by decide +kernel)) (I4_fr (I4_fr pre3 hT hF29 (by decide +kernel)) hT28 hF42 (by decide +kernel)) (I6_fr (I6_fr pre4 hT hF29 (by decide +kernel)) hT28 hF42 (by decide +kernel)) (I8_fr (I8_fr pre5 hT hF29 (by decide +kernel)) hT28 hF42 (by decide +kernel)) iv47 (IA_fr (IA_fr pre7 hT hF29 (by decide +kernel)) hT28 hF42 (by decide +kernel)) (IB_fr (IB_fr pre8 hT hF29 (by decide +kernel)) hT28 hF42 (by decide +kernel)) (IC_fr (IC_fr pre9 hT hF29 (by decide +kernel)) hT28 hF42 (by decide +kernel)) (ID_fr (ID_fr pre10 hT hF29 (by decide +kernel)) hT28 hF42 (by decide +kernel)) (IE_fr (IE_fr pre11 hT hF29 (by decide +kernel)) hT28 hF42 (by decide +kernel)) (by omega) (by omega) (by omega) (by omega) (by omega) (by omega) (by omega) (by omega) (by omega) (by omega)
set_option maxHeartbeats 0 in
theorem LC_10 {Ln : Nat} {xs : Nat → Int32} {τ : List Nat} {h : List mE} (hT : TH Tr τ h) (pre0 : I1 τ h) (pre1 : I2 τ h) (pre2 : I3 h) (pre3 : I4 h) (pre4 : I6 h) (pre5 : I8 h) (pre6 : I9 h) (pre7 : IA h) (pre8 : IB h) (pre9 : IC h) (pre10 : ID h) (pre11 : IE h) (pre12 : fI h 64 32≤fI h 64 15+fI h 64 33) (pre13 : fI h 6 3=fI h 64 2) (pre14 : fI h 4 0=fI h 64 1) (pre15 : fI h 4 5=fI h 64 7) (pre16 : fI h 4 10=fI h 64 45) (pre17 : fI h 4 12=fI h 64 48) (pre18 : fI h 4 7=fI h 64 15) (pre19 : fI h 39 3=fI h 64 41) (pre20 : fI h 54 1=fI h 64 77) (pre21 : fI h 60 1=fI h 64 78) (i : Int) (hi : 0 ≤ i ∧ i + 6 ≤ (Ln : Int) ∧ (Ln : Int) ≤ 3072) (d : Nat) (hd : 90 ≤ d) (Q : Option Value → List mE → Prop) (hQ : ∀ (τ' : List Nat) (h' : List mE), (∃ ts : List Nat, τ' = τ ++ ts ∧ gsT ts = true) → TH Tr τ' h' → I1 τ' h' → I2 τ' h' → I3 h' → I4 h' → I6 h' → I8 h' → I9 h' → IA h' → IB h' → IC h' → ID h' → IE h' → fI h' 64 32≤fI h' 64 15+fI h' 64 33 → fI h' 6 3=fI h' 64 2 → fI h' 4 0=fI h' 64 1 → fI h' 4 5=fI h' 64 7 → fI h' 4 10=fI h' 64 45 → fI h' 4 12=fI h' 64 48 → fI h' 4 7=fI h' 64 15 → fI h' 39 3=fI h' 64 41 → fI h' 54 1=fI h' 64 77 → fI h' 60 1=fI h' 64 78 → MR (mex Ln xs) d 292 1864 [some (.ref 0), some (.ref 4), some (.ref 64), some (vI i)] [] h' Q) : MR (mex Ln xs) d 292 620 [some (.ref 0), some (.ref 4), some (.ref 64), some (vI i)] [] h Q := by
  have hF := Fr_rf τ WL h
  have hE := Ext_rf τ
  have e1 := fI_bd (q := 64) hT (tf hT rfl rfl) fd_8_32
  have e2 := fI_bd (q := 64) hT (tf hT rfl rfl) fd_8_15
  have e3 := fI_bd (q := 64) hT (tf hT rfl rfl) fd_8_33
  have e4 := fI_bd (q := 6) hT (tf hT rfl rfl) fd_2_3
  have e5 := fI_bd (q := 64) hT (tf hT rfl rfl) fd_8_2
  have e6 := fI_bd (q := 4) hT (tf hT rfl rfl) fd_1_0
  have e7 := fI_bd (q := 64) hT (tf hT rfl rfl) fd_8_1
  have e8 := fI_bd (q := 4) hT (tf hT rfl rfl) fd_1_5
  have e9 := fI_bd (q := 64) hT (tf hT rfl rfl) fd_8_7
  have e10 := fI_bd (q := 4) hT (tf hT rfl rfl) fd_1_10
  have e11 := fI_bd (q := 64) hT (tf hT rfl rfl) fd_8_45
  have e12 := fI_bd (q := 4) hT (tf hT rfl rfl) fd_1_12
  have e13 := fI_bd (q := 64) hT (tf hT rfl rfl) fd_8_48
  have e14 := fI_bd (q := 4) hT (tf hT rfl rfl) fd_1_7
  have e15 := fI_bd (q := 39) hT (tf hT rfl rfl) fd_3_3
  have e16 := fI_bd (q := 64) hT (tf hT rfl rfl) fd_8_41
  have e17 := fI_bd (q := 54) hT (tf hT rfl rfl) fd_6_1
  have e18 := fI_bd (q := 64) hT (tf hT rfl rfl) fd_8_77
  have e19 := fI_bd (q := 60) hT (tf hT rfl rfl) fd_7_1
  have e20 := fI_bd (q := 64) hT (tf hT rfl rfl) fd_8_78
  refine st_aload c292_620 rfl ?_
  refine st_aload c292_621 rfl ?_
  refine st_iload c292_622 rfl ?_
  refine st_iconst c292_623 ?_
  refine st_iadd c292_624 ?_
  refine st_sld c292_625 (by omega) (fun e21 e22 => ?_)
  refine st_aload c292_626 rfl ?_
  refine st_iload c292_627 rfl ?_
  refine st_iconst c292_628 ?_
  refine st_iadd c292_629 ?_
  refine st_sld c292_630 (by omega) (fun e23 e24 => ?_)
  refine st_callt (as := [vI (sv xs (i + 1)), vI (sv xs (i + 2))]) c292_631 cm_128 hT (tf hT rfl rfl) fd_1_0 rfl rfl rfl rfl (by omega) (K128 hT (sv xs (i + 1)) (by omega) (sv xs (i + 2)) (by omega) pre0 pre5 (d - 1) (by omega) _ (fun v h0 H => H)) (fun v1 h1 H => ?_)
  obtain ⟨z25, rfl, b26, rfl⟩ := H
  refine st_pop c292_634 rfl ?_
  refine st_aload c292_635 rfl ?_
  refine st_aload c292_636 rfl ?_
  refine st_iload c292_637 rfl ?_
  refine st_iconst c292_638 ?_
  refine st_iadd c292_639 ?_
  refine st_sld c292_640 (by omega) (fun e27 e28 => ?_)
  refine st_aload c292_641 rfl ?_
  refine st_iload c292_642 rfl ?_
  refine st_iconst c292_643 ?_
  refine st_iadd c292_644 ?_
  refine st_sld c292_645 (by omega) (fun e29 e30 => ?_)
  refine st_callt (as := [vI (sv xs (i + 1)), vI (sv xs (i + 2))]) c292_646 cm_203 hT (tf hT rfl rfl) fd_8_0 rfl rfl rfl rfl (by omega) (K203 hT (sv xs (i + 1)) (by omega) (sv xs (i + 2)) (by omega) (d - 1) (by omega) _ (fun v h0 H => H)) (fun v1 h1 H => ?_)
  obtain ⟨z31, rfl, b32, rfl⟩ := H
  refine st_pop c292_649 rfl ?_
  refine st_goto c292_650 ?_
  have e33 := fI_bd (q := 64) hT (tf hT rfl rfl) fd_8_32
  have e34 := fI_bd (q := 64) hT (tf hT rfl rfl) fd_8_15
  have e35 := fI_bd (q := 64) hT (tf hT rfl rfl) fd_8_33
  have e36 := fI_bd (q := 6) hT (tf hT rfl rfl) fd_2_3
  have e37 := fI_bd (q := 64) hT (tf hT rfl rfl) fd_8_2
  have e38 := fI_bd (q := 4) hT (tf hT rfl rfl) fd_1_0
  have e39 := fI_bd (q := 64) hT (tf hT rfl rfl) fd_8_1
  have e40 := fI_bd (q := 4) hT (tf hT rfl rfl) fd_1_5
  have e41 := fI_bd (q := 64) hT (tf hT rfl rfl) fd_8_7
  have e42 := fI_bd (q := 4) hT (tf hT rfl rfl) fd_1_10
  have e43 := fI_bd (q := 64) hT (tf hT rfl rfl) fd_8_45
  have e44 := fI_bd (q := 4) hT (tf hT rfl rfl) fd_1_12
  have e45 := fI_bd (q := 64) hT (tf hT rfl rfl) fd_8_48
  have e46 := fI_bd (q := 4) hT (tf hT rfl rfl) fd_1_7
  have e47 := fI_bd (q := 39) hT (tf hT rfl rfl) fd_3_3
  have e48 := fI_bd (q := 64) hT (tf hT rfl rfl) fd_8_41
  have e49 := fI_bd (q := 54) hT (tf hT rfl rfl) fd_6_1
  have e50 := fI_bd (q := 64) hT (tf hT rfl rfl) fd_8_77
  have e51 := fI_bd (q := 60) hT (tf hT rfl rfl) fd_7_1
  have e52 := fI_bd (q := 64) hT (tf hT rfl rfl) fd_8_78
  exact hQ _ _ ⟨[], (List.append_nil τ).symm, rfl⟩ hT pre0 pre1 pre2 pre3 pre4 pre5 pre6 pre7 pre8 pre9 pre10 pre11 (by omega) (by omega) (by omega) (by omega) (by omega) (by omega) (by omega) (by omega) (by omega) (by omega)
set_option maxHeartbeats 0 in
theorem LC_11 {Ln : Nat} {xs : Nat → Int32} {τ : List Nat} {h : List mE} (hT : TH Tr τ h) (pre0 : I1 τ h) (pre1 : I2 τ h) (pre2 : I3 h) (pre3 : I4 h) (pre4 : I6 h) (pre5 : I8 h) (pre6 : I9 h) (pre7 : IA h) (pre8 : IB h) (pre9 : IC h) (pre10 : ID h) (pre11 : IE h) (pre12 : fI h 64 32≤fI h 64 15+fI h 64 33) (pre13 : fI h 6 3=fI h 64 2) (pre14 : fI h 4 0=fI h 64 1) (pre15 : fI h 4 5=fI h 64 7) (pre16 : fI h 4 10=fI h 64 45) (pre17 : fI h 4 12=fI h 64 48) (pre18 : fI h 4 7=fI h 64 15) (pre19 : fI h 39 3=fI h 64 41) (pre20 : fI h 54 1=fI h 64 77) (pre21 : fI h 60 1=fI h 64 78) (i : Int) (hi : 0 ≤ i ∧ i + 6 ≤ (Ln : Int) ∧ (Ln : Int) ≤ 3072) (d : Nat) (hd : 90 ≤ d) (Q : Option Value → List mE → Prop) (hQ : ∀ (τ' : List Nat) (h' : List mE), (∃ ts : List Nat, τ' = τ ++ ts ∧ gsT ts = true) → TH Tr τ' h' → I1 τ' h' → I2 τ' h' → I3 h' → I4 h' → I6 h' → I8 h' → I9 h' → IA h' → IB h' → IC h' → ID h' → IE h' → fI h' 64 32≤fI h' 64 15+fI h' 64 33 → fI h' 6 3=fI h' 64 2 → fI h' 4 0=fI h' 64 1 → fI h' 4 5=fI h' 64 7 → fI h' 4 10=fI h' 64 45 → fI h' 4 12=fI h' 64 48 → fI h' 4 7=fI h' 64 15 → fI h' 39 3=fI h' 64 41 → fI h' 54 1=fI h' 64 77 → fI h' 60 1=fI h' 64 78 → MR (mex Ln xs) d 292 1864 [some (.ref 0), some (.ref 4), some (.ref 64), some (vI i)] [] h' Q) : MR (mex Ln xs) d 292 653 [some (.ref 0), some (.ref 4), some (.ref 64), some (vI i)] [] h Q := by
  have hF := Fr_rf τ WL h
  have hE := Ext_rf τ
  have e1 := fI_bd (q := 64) hT (tf hT rfl rfl) fd_8_32
  have e2 := fI_bd (q := 64) hT (tf hT rfl rfl) fd_8_15
  have e3 := fI_bd (q := 64) hT (tf hT rfl rfl) fd_8_33
  have e4 := fI_bd (q := 6) hT (tf hT rfl rfl) fd_2_3
  have e5 := fI_bd (q := 64) hT (tf hT rfl rfl) fd_8_2
  have e6 := fI_bd (q := 4) hT (tf hT rfl rfl) fd_1_0
  have e7 := fI_bd (q := 64) hT (tf hT rfl rfl) fd_8_1
  have e8 := fI_bd (q := 4) hT (tf hT rfl rfl) fd_1_5
  have e9 := fI_bd (q := 64) hT (tf hT rfl rfl) fd_8_7
  have e10 := fI_bd (q := 4) hT (tf hT rfl rfl) fd_1_10
  have e11 := fI_bd (q := 64) hT (tf hT rfl rfl) fd_8_45
  have e12 := fI_bd (q := 4) hT (tf hT rfl rfl) fd_1_12
  have e13 := fI_bd (q := 64) hT (tf hT rfl rfl) fd_8_48
  have e14 := fI_bd (q := 4) hT (tf hT rfl rfl) fd_1_7
  have e15 := fI_bd (q := 39) hT (tf hT rfl rfl) fd_3_3
  have e16 := fI_bd (q := 64) hT (tf hT rfl rfl) fd_8_41
  have e17 := fI_bd (q := 54) hT (tf hT rfl rfl) fd_6_1
  have e18 := fI_bd (q := 64) hT (tf hT rfl rfl) fd_8_77
  have e19 := fI_bd (q := 60) hT (tf hT rfl rfl) fd_7_1
  have e20 := fI_bd (q := 64) hT (tf hT rfl rfl) fd_8_78
  refine st_aload c292_653 rfl ?_
  refine st_aload c292_654 rfl ?_
  refine st_iload c292_655 rfl ?_
  refine st_iconst c292_656 ?_
  refine st_iadd c292_657 ?_
  refine st_sld c292_658 (by omega) (fun e21 e22 => ?_)
  refine st_aload c292_659 rfl ?_
  refine st_iload c292_660 rfl ?_
  refine st_iconst c292_661 ?_
  refine st_iadd c292_662 ?_
  refine st_sld c292_663 (by omega) (fun e23 e24 => ?_)
  refine st_callt (as := [vI (sv xs (i + 1)), vI (sv xs (i + 2))]) c292_664 cm_129 hT (tf hT rfl rfl) fd_1_0 rfl rfl rfl rfl (by omega) (K129 hT Stb_T (sv xs (i + 1)) (by omega) (sv xs (i + 2)) (by omega) pre0 pre5 (d - 1) (by omega) _ (fun v h0 H => H)) (fun v1 h25 H => ?_)
  obtain ⟨z28, rfl, b29, hT26, hF27⟩ := H
  have hF30 := Fr_cp hF hF27 (by decide +kernel : Wsub W129 WL = true)
  refine st_pop c292_667 rfl ?_
  refine st_aload c292_668 rfl ?_
  refine st_aload c292_669 rfl ?_
  refine st_iload c292_670 rfl ?_
  refine st_iconst c292_671 ?_
  refine st_iadd c292_672 ?_
  refine st_sld c292_673 (by omega) (fun e31 e32 => ?_)
  refine st_aload c292_674 rfl ?_
  refine st_iload c292_675 rfl ?_
  refine st_iconst c292_676 ?_
  refine st_iadd c292_677 ?_
  refine st_sld c292_678 (by omega) (fun e33 e34 => ?_)
  refine st_callt (as := [vI (sv xs (i + 1)), vI (sv xs (i + 2))]) c292_679 cm_205 hT26 (tf hT26 rfl rfl) fd_8_0 rfl rfl rfl rfl (by omega) (K205 hT26 Stb_T (sv xs (i + 1)) (by omega) (sv xs (i + 2)) (by omega) (d - 1) (by omega) _ (fun v h0 H => H)) (fun v1 h35 H => ?_)
  obtain ⟨z38, rfl, b39, hT36, hF37⟩ := H
  have hF40 := Fr_cp hF30 hF37 (by decide +kernel : Wsub W205 WL = true)
  refine st_pop c292_682 rfl ?_
  refine st_goto c292_683 ?_
  have e41 := fI_bd (q := 64) hT36 (tf hT36 rfl rfl) fd_8_32
  have q42 : fI h35 64 32 = fI h 64 32 := (Fr_fI hF37 (tf hT26 rfl rfl) (by decide +kernel)).trans (Fr_fI hF27 (tf hT rfl rfl) (by decide +kernel))
  have e43 := fI_bd (q := 64) hT36 (tf hT36 rfl rfl) fd_8_15
  have q44 : fI h35 64 15 = fI h 64 15 := (Fr_fI hF37 (tf hT26 rfl rfl) (by decide +kernel)).trans (Fr_fI hF27 (tf hT rfl rfl) (by decide +kernel))
  have e45 := fI_bd (q := 64) hT36 (tf hT36 rfl rfl) fd_8_33
  have q46 : fI h35 64 33 = fI h 64 33 := (Fr_fI hF37 (tf hT26 rfl rfl) (by decide +kernel)).trans (Fr_fI hF27 (tf hT rfl rfl) (by decide +kernel))
  have e47 := fI_bd (q := 6) hT36 (tf hT36 rfl rfl) fd_2_3
  have q48 : fI h35 6 3 = fI h 6 3 := (Fr_fI hF37 (tf hT26 rfl rfl) (by decide +kernel)).trans (Fr_fI hF27 (tf hT rfl rfl) (by decide +kernel))
  have e49 := fI_bd (q := 64) hT36 (tf hT36 rfl rfl) fd_8_2
  have q50 : fI h35 64 2 = fI h 64 2 := (Fr_fI hF37 (tf hT26 rfl rfl) (by decide +kernel)).trans (Fr_fI hF27 (tf hT rfl rfl) (by decide +kernel))
  have e51 := fI_bd (q := 4) hT36 (tf hT36 rfl rfl) fd_1_0
  have q52 : fI h35 4 0 = fI h 4 0 := (Fr_fI hF37 (tf hT26 rfl rfl) (by decide +kernel)).trans (Fr_fI hF27 (tf hT rfl rfl) (by decide +kernel))
  have e53 := fI_bd (q := 64) hT36 (tf hT36 rfl rfl) fd_8_1
  have q54 : fI h35 64 1 = fI h 64 1 := (Fr_fI hF37 (tf hT26 rfl rfl) (by decide +kernel)).trans (Fr_fI hF27 (tf hT rfl rfl) (by decide +kernel))
  have e55 := fI_bd (q := 4) hT36 (tf hT36 rfl rfl) fd_1_5
  have q56 : fI h35 4 5 = fI h 4 5 := (Fr_fI hF37 (tf hT26 rfl rfl) (by decide +kernel)).trans (Fr_fI hF27 (tf hT rfl rfl) (by decide +kernel))
  have e57 := fI_bd (q := 64) hT36 (tf hT36 rfl rfl) fd_8_7
  have q58 : fI h35 64 7 = fI h 64 7 := (Fr_fI hF37 (tf hT26 rfl rfl) (by decide +kernel)).trans (Fr_fI hF27 (tf hT rfl rfl) (by decide +kernel))
  have e59 := fI_bd (q := 4) hT36 (tf hT36 rfl rfl) fd_1_10
  have q60 : fI h35 4 10 = fI h 4 10 := (Fr_fI hF37 (tf hT26 rfl rfl) (by decide +kernel)).trans (Fr_fI hF27 (tf hT rfl rfl) (by decide +kernel))
  have e61 := fI_bd (q := 64) hT36 (tf hT36 rfl rfl) fd_8_45
  have q62 : fI h35 64 45 = fI h 64 45 := (Fr_fI hF37 (tf hT26 rfl rfl) (by decide +kernel)).trans (Fr_fI hF27 (tf hT rfl rfl) (by decide +kernel))
  have e63 := fI_bd (q := 4) hT36 (tf hT36 rfl rfl) fd_1_12
  have q64 : fI h35 4 12 = fI h 4 12 := (Fr_fI hF37 (tf hT26 rfl rfl) (by decide +kernel)).trans (Fr_fI hF27 (tf hT rfl rfl) (by decide +kernel))
  have e65 := fI_bd (q := 64) hT36 (tf hT36 rfl rfl) fd_8_48
  have q66 : fI h35 64 48 = fI h 64 48 := (Fr_fI hF37 (tf hT26 rfl rfl) (by decide +kernel)).trans (Fr_fI hF27 (tf hT rfl rfl) (by decide +kernel))
  have e67 := fI_bd (q := 4) hT36 (tf hT36 rfl rfl) fd_1_7
  have q68 : fI h35 4 7 = fI h 4 7 := (Fr_fI hF37 (tf hT26 rfl rfl) (by decide +kernel)).trans (Fr_fI hF27 (tf hT rfl rfl) (by decide +kernel))
  have e69 := fI_bd (q := 39) hT36 (tf hT36 rfl rfl) fd_3_3
  have q70 : fI h35 39 3 = fI h 39 3 := (Fr_fI hF37 (tf hT26 rfl rfl) (by decide +kernel)).trans (Fr_fI hF27 (tf hT rfl rfl) (by decide +kernel))
  have e71 := fI_bd (q := 64) hT36 (tf hT36 rfl rfl) fd_8_41
  have q72 : fI h35 64 41 = fI h 64 41 := (Fr_fI hF37 (tf hT26 rfl rfl) (by decide +kernel)).trans (Fr_fI hF27 (tf hT rfl rfl) (by decide +kernel))
  have e73 := fI_bd (q := 54) hT36 (tf hT36 rfl rfl) fd_6_1
  have q74 : fI h35 54 1 = fI h 54 1 := (Fr_fI hF37 (tf hT26 rfl rfl) (by decide +kernel)).trans (Fr_fI hF27 (tf hT rfl rfl) (by decide +kernel))
  have e75 := fI_bd (q := 64) hT36 (tf hT36 rfl rfl) fd_8_77
  have q76 : fI h35 64 77 = fI h 64 77 := (Fr_fI hF37 (tf hT26 rfl rfl) (by decide +kernel)).trans (Fr_fI hF27 (tf hT rfl rfl) (by decide +kernel))
  have e77 := fI_bd (q := 60) hT36 (tf hT36 rfl rfl) fd_7_1
  have q78 : fI h35 60 1 = fI h 60 1 := (Fr_fI hF37 (tf hT26 rfl rfl) (by decide +kernel)).trans (Fr_fI hF27 (tf hT rfl rfl) (by decide +kernel))
  have e79 := fI_bd (q := 64) hT36 (tf hT36 rfl rfl) fd_8_78
  have q80 : fI h35 64 78 = fI h 64 78 := (Fr_fI hF37 (tf hT26 rfl rfl) (by decide +kernel)).trans (Fr_fI hF27 (tf hT rfl rfl) (by decide +kernel))
  exact hQ _ _ ⟨[], (List.append_nil τ).symm, rfl⟩ hT36 (I1_fr (I1_fr pre0 hT hF27 (by decide +kernel)) hT26 hF37 (by decide +kernel)) (I2_fr (I2_fr pre1 hF27 (by decide +kernel)) hF37 (by decide +kernel)) (I3_fr (I3_fr pre2 hT hF27 (by decide +kernel)) hT26 hF37 (by decide +kernel)) (I4_fr (I4_fr pre3 hT hF27 (by decide +kernel)) hT26 hF37 (by decide +kernel)) (I6_fr (I6_fr pre4 hT hF27 (by decide +kernel)) hT26 hF37 (by decide +kernel)) (I8_fr (I8_fr pre5 hT hF27 (by decide +kernel)) hT26 hF37 (by decide +kernel)) (I9_fr (I9_fr pre6 hT hF27 (by decide +kernel)) hT26 hF37 (by decide +kernel)) (IA_fr (IA_fr pre7 hT hF27 (by decide +kernel)) hT26 hF37 (by decide +kernel)) (IB_fr (IB_fr pre8 hT hF27 (by decide +kernel)) hT26 hF37 (by decide +kernel)) (IC_fr (IC_fr pre9 hT hF27 (by decide +kernel)) hT26 hF37 (by decide +kernel)) (ID_fr (ID_fr pre10 hT hF27 (by decide +kernel)) hT26 hF37 (by decide +kernel)) (IE_fr (IE_fr pre11 hT hF27 (by decide +kernel)) hT26 hF37 (by decide +kernel)) (by omega) (by omega) (by omega) (by omega) (by omega) (by omega) (by omega) (by omega) (by omega) (by omega)
set_option maxHeartbeats 0 in
theorem LC_12 {Ln : Nat} {xs : Nat → Int32} {τ : List Nat} {h : List mE} (hT : TH Tr τ h) (pre0 : I1 τ h) (pre1 : I2 τ h) (pre2 : I3 h) (pre3 : I4 h) (pre4 : I6 h) (pre5 : I8 h) (pre6 : I9 h) (pre7 : IA h) (pre8 : IB h) (pre9 : IC h) (pre10 : ID h) (pre11 : IE h) (pre12 : fI h 64 32≤fI h 64 15+fI h 64 33) (pre13 : fI h 6 3=fI h 64 2) (pre14 : fI h 4 0=fI h 64 1) (pre15 : fI h 4 5=fI h 64 7) (pre16 : fI h 4 10=fI h 64 45) (pre17 : fI h 4 12=fI h 64 48) (pre18 : fI h 4 7=fI h 64 15) (pre19 : fI h 39 3=fI h 64 41) (pre20 : fI h 54 1=fI h 64 77) (pre21 : fI h 60 1=fI h 64 78) (i : Int) (hi : 0 ≤ i ∧ i + 6 ≤ (Ln : Int) ∧ (Ln : Int) ≤ 3072) (d : Nat) (hd : 90 ≤ d) (Q : Option Value → List mE → Prop) (hQ : ∀ (τ' : List Nat) (h' : List mE), (∃ ts : List Nat, τ' = τ ++ ts ∧ gsT ts = true) → TH Tr τ' h' → I1 τ' h' → I2 τ' h' → I3 h' → I4 h' → I6 h' → I8 h' → I9 h' → IA h' → IB h' → IC h' → ID h' → IE h' → fI h' 64 32≤fI h' 64 15+fI h' 64 33 → fI h' 6 3=fI h' 64 2 → fI h' 4 0=fI h' 64 1 → fI h' 4 5=fI h' 64 7 → fI h' 4 10=fI h' 64 45 → fI h' 4 12=fI h' 64 48 → fI h' 4 7=fI h' 64 15 → fI h' 39 3=fI h' 64 41 → fI h' 54 1=fI h' 64 77 → fI h' 60 1=fI h' 64 78 → MR (mex Ln xs) d 292 1864 [some (.ref 0), some (.ref 4), some (.ref 64), some (vI i)] [] h' Q) : MR (mex Ln xs) d 292 686 [some (.ref 0), some (.ref 4), some (.ref 64), some (vI i)] [] h Q := by
  have hF := Fr_rf τ WL h
  have hE := Ext_rf τ
  have e1 := fI_bd (q := 64) hT (tf hT rfl rfl) fd_8_32
  have e2 := fI_bd (q := 64) hT (tf hT rfl rfl) fd_8_15
  have e3 := fI_bd (q := 64) hT (tf hT rfl rfl) fd_8_33
  have e4 := fI_bd (q := 6) hT (tf hT rfl rfl) fd_2_3
  have e5 := fI_bd (q := 64) hT (tf hT rfl rfl) fd_8_2
  have e6 := fI_bd (q := 4) hT (tf hT rfl rfl) fd_1_0
  have e7 := fI_bd (q := 64) hT (tf hT rfl rfl) fd_8_1
  have e8 := fI_bd (q := 4) hT (tf hT rfl rfl) fd_1_5
  have e9 := fI_bd (q := 64) hT (tf hT rfl rfl) fd_8_7
  have e10 := fI_bd (q := 4) hT (tf hT rfl rfl) fd_1_10
  have e11 := fI_bd (q := 64) hT (tf hT rfl rfl) fd_8_45
  have e12 := fI_bd (q := 4) hT (tf hT rfl rfl) fd_1_12
  have e13 := fI_bd (q := 64) hT (tf hT rfl rfl) fd_8_48
  have e14 := fI_bd (q := 4) hT (tf hT rfl rfl) fd_1_7
  have e15 := fI_bd (q := 39) hT (tf hT rfl rfl) fd_3_3
  have e16 := fI_bd (q := 64) hT (tf hT rfl rfl) fd_8_41
  have e17 := fI_bd (q := 54) hT (tf hT rfl rfl) fd_6_1
  have e18 := fI_bd (q := 64) hT (tf hT rfl rfl) fd_8_77
  have e19 := fI_bd (q := 60) hT (tf hT rfl rfl) fd_7_1
  have e20 := fI_bd (q := 64) hT (tf hT rfl rfl) fd_8_78
  refine st_aload c292_686 rfl ?_
  refine st_aload c292_687 rfl ?_
  refine st_iload c292_688 rfl ?_
  refine st_iconst c292_689 ?_
  refine st_iadd c292_690 ?_
  refine st_sld c292_691 (by omega) (fun e21 e22 => ?_)
  refine st_aload c292_692 rfl ?_
  refine st_iload c292_693 rfl ?_
  refine st_iconst c292_694 ?_
  refine st_iadd c292_695 ?_
  refine st_sld c292_696 (by omega) (fun e23 e24 => ?_)
  refine st_callt (as := [vI (sv xs (i + 1)), vI (sv xs (i + 2))]) c292_697 cm_130 hT (tf hT rfl rfl) fd_1_0 rfl rfl rfl rfl (by omega) (K130 hT Stb_T (sv xs (i + 1)) (by omega) (sv xs (i + 2)) (by omega) pre5 (d - 1) (by omega) _ (fun v h0 H => H)) (fun v1 h25 H => ?_)
  obtain ⟨z28, rfl, b29, hT26, hF27⟩ := H
  have hF30 := Fr_cp hF hF27 (by decide +kernel : Wsub W130 WL = true)
  refine st_pop c292_700 rfl ?_
  refine st_aload c292_701 rfl ?_
  refine st_aload c292_702 rfl ?_
  refine st_iload c292_703 rfl ?_
  refine st_iconst c292_704 ?_
  refine st_iadd c292_705 ?_
  refine st_sld c292_706 (by omega) (fun e31 e32 => ?_)
  refine st_aload c292_707 rfl ?_
  refine st_iload c292_708 rfl ?_
  refine st_iconst c292_709 ?_
  refine st_iadd c292_710 ?_
  refine st_sld c292_711 (by omega) (fun e33 e34 => ?_)
  refine st_callt (as := [vI (sv xs (i + 1)), vI (sv xs (i + 2))]) c292_712 cm_207 hT26 (tf hT26 rfl rfl) fd_8_0 rfl rfl rfl rfl (by omega) (K207 hT26 Stb_T (sv xs (i + 1)) (by omega) (sv xs (i + 2)) (by omega) (d - 1) (by omega) _ (fun v h0 H => H)) (fun v1 h35 H => ?_)
  obtain ⟨z38, rfl, b39, hT36, hF37⟩ := H
  have hF40 := Fr_cp hF30 hF37 (by decide +kernel : Wsub W207 WL = true)
  refine st_pop c292_715 rfl ?_
  refine st_goto c292_716 ?_
  have e41 := fI_bd (q := 64) hT36 (tf hT36 rfl rfl) fd_8_32
  have q42 : fI h35 64 32 = fI h 64 32 := (Fr_fI hF37 (tf hT26 rfl rfl) (by decide +kernel)).trans (Fr_fI hF27 (tf hT rfl rfl) (by decide +kernel))
  have e43 := fI_bd (q := 64) hT36 (tf hT36 rfl rfl) fd_8_15
  have q44 : fI h35 64 15 = fI h 64 15 := (Fr_fI hF37 (tf hT26 rfl rfl) (by decide +kernel)).trans (Fr_fI hF27 (tf hT rfl rfl) (by decide +kernel))
  have e45 := fI_bd (q := 64) hT36 (tf hT36 rfl rfl) fd_8_33
  have q46 : fI h35 64 33 = fI h 64 33 := (Fr_fI hF37 (tf hT26 rfl rfl) (by decide +kernel)).trans (Fr_fI hF27 (tf hT rfl rfl) (by decide +kernel))
  have e47 := fI_bd (q := 6) hT36 (tf hT36 rfl rfl) fd_2_3
  have q48 : fI h35 6 3 = fI h 6 3 := (Fr_fI hF37 (tf hT26 rfl rfl) (by decide +kernel)).trans (Fr_fI hF27 (tf hT rfl rfl) (by decide +kernel))
  have e49 := fI_bd (q := 64) hT36 (tf hT36 rfl rfl) fd_8_2
  have q50 : fI h35 64 2 = fI h 64 2 := (Fr_fI hF37 (tf hT26 rfl rfl) (by decide +kernel)).trans (Fr_fI hF27 (tf hT rfl rfl) (by decide +kernel))
  have e51 := fI_bd (q := 4) hT36 (tf hT36 rfl rfl) fd_1_0
  have q52 : fI h35 4 0 = fI h 4 0 := (Fr_fI hF37 (tf hT26 rfl rfl) (by decide +kernel)).trans (Fr_fI hF27 (tf hT rfl rfl) (by decide +kernel))
  have e53 := fI_bd (q := 64) hT36 (tf hT36 rfl rfl) fd_8_1
  have q54 : fI h35 64 1 = fI h 64 1 := (Fr_fI hF37 (tf hT26 rfl rfl) (by decide +kernel)).trans (Fr_fI hF27 (tf hT rfl rfl) (by decide +kernel))
  have e55 := fI_bd (q := 4) hT36 (tf hT36 rfl rfl) fd_1_5
  have q56 : fI h35 4 5 = fI h 4 5 := (Fr_fI hF37 (tf hT26 rfl rfl) (by decide +kernel)).trans (Fr_fI hF27 (tf hT rfl rfl) (by decide +kernel))
  have e57 := fI_bd (q := 64) hT36 (tf hT36 rfl rfl) fd_8_7
  have q58 : fI h35 64 7 = fI h 64 7 := (Fr_fI hF37 (tf hT26 rfl rfl) (by decide +kernel)).trans (Fr_fI hF27 (tf hT rfl rfl) (by decide +kernel))
  have e59 := fI_bd (q := 4) hT36 (tf hT36 rfl rfl) fd_1_10
  have q60 : fI h35 4 10 = fI h 4 10 := (Fr_fI hF37 (tf hT26 rfl rfl) (by decide +kernel)).trans (Fr_fI hF27 (tf hT rfl rfl) (by decide +kernel))
  have e61 := fI_bd (q := 64) hT36 (tf hT36 rfl rfl) fd_8_45
  have q62 : fI h35 64 45 = fI h 64 45 := (Fr_fI hF37 (tf hT26 rfl rfl) (by decide +kernel)).trans (Fr_fI hF27 (tf hT rfl rfl) (by decide +kernel))
  have e63 := fI_bd (q := 4) hT36 (tf hT36 rfl rfl) fd_1_12
  have q64 : fI h35 4 12 = fI h 4 12 := (Fr_fI hF37 (tf hT26 rfl rfl) (by decide +kernel)).trans (Fr_fI hF27 (tf hT rfl rfl) (by decide +kernel))
  have e65 := fI_bd (q := 64) hT36 (tf hT36 rfl rfl) fd_8_48
  have q66 : fI h35 64 48 = fI h 64 48 := (Fr_fI hF37 (tf hT26 rfl rfl) (by decide +kernel)).trans (Fr_fI hF27 (tf hT rfl rfl) (by decide +kernel))
  have e67 := fI_bd (q := 4) hT36 (tf hT36 rfl rfl) fd_1_7
  have q68 : fI h35 4 7 = fI h 4 7 := (Fr_fI hF37 (tf hT26 rfl rfl) (by decide +kernel)).trans (Fr_fI hF27 (tf hT rfl rfl) (by decide +kernel))
  have e69 := fI_bd (q := 39) hT36 (tf hT36 rfl rfl) fd_3_3
  have q70 : fI h35 39 3 = fI h 39 3 := (Fr_fI hF37 (tf hT26 rfl rfl) (by decide +kernel)).trans (Fr_fI hF27 (tf hT rfl rfl) (by decide +kernel))
  have e71 := fI_bd (q := 64) hT36 (tf hT36 rfl rfl) fd_8_41
  have q72 : fI h35 64 41 = fI h 64 41 := (Fr_fI hF37 (tf hT26 rfl rfl) (by decide +kernel)).trans (Fr_fI hF27 (tf hT rfl rfl) (by decide +kernel))
  have e73 := fI_bd (q := 54) hT36 (tf hT36 rfl rfl) fd_6_1
  have q74 : fI h35 54 1 = fI h 54 1 := (Fr_fI hF37 (tf hT26 rfl rfl) (by decide +kernel)).trans (Fr_fI hF27 (tf hT rfl rfl) (by decide +kernel))
  have e75 := fI_bd (q := 64) hT36 (tf hT36 rfl rfl) fd_8_77
  have q76 : fI h35 64 77 = fI h 64 77 := (Fr_fI hF37 (tf hT26 rfl rfl) (by decide +kernel)).trans (Fr_fI hF27 (tf hT rfl rfl) (by decide +kernel))
  have e77 := fI_bd (q := 60) hT36 (tf hT36 rfl rfl) fd_7_1
  have q78 : fI h35 60 1 = fI h 60 1 := (Fr_fI hF37 (tf hT26 rfl rfl) (by decide +kernel)).trans (Fr_fI hF27 (tf hT rfl rfl) (by decide +kernel))
  have e79 := fI_bd (q := 64) hT36 (tf hT36 rfl rfl) fd_8_78
  have q80 : fI h35 64 78 = fI h 64 78 := (Fr_fI hF37 (tf hT26 rfl rfl) (by decide +kernel)).trans (Fr_fI hF27 (tf hT rfl rfl) (by decide +kernel))
  exact hQ _ _ ⟨[], (List.append_nil τ).symm, rfl⟩ hT36 (I1_fr (I1_fr pre0 hT hF27 (by decide +kernel)) hT26 hF37 (by decide +kernel)) (I2_fr (I2_fr pre1 hF27 (by decide +kernel)) hF37 (by decide +kernel)) (I3_fr (I3_fr pre2 hT hF27 (by decide +kernel)) hT26 hF37 (by decide +kernel)) (I4_fr (I4_fr pre3 hT hF27 (by decide +kernel)) hT26 hF37 (by decide +kernel)) (I6_fr (I6_fr pre4 hT hF27 (by decide +kernel)) hT26 hF37 (by decide +kernel)) (I8_fr (I8_fr pre5 hT hF27 (by decide +kernel)) hT26 hF37 (by decide +kernel)) (I9_fr (I9_fr pre6 hT hF27 (by decide +kernel)) hT26 hF37 (by decide +kernel)) (IA_fr (IA_fr pre7 hT hF27 (by decide +kernel)) hT26 hF37 (by decide +kernel)) (IB_fr (IB_fr pre8 hT hF27 (by decide +kernel)) hT26 hF37 (by decide +kernel)) (IC_fr (IC_fr pre9 hT hF27 (by decide +kernel)) hT26 hF37 (by decide +kernel)) (ID_fr (ID_fr pre10 hT hF27 (by decide +kernel)) hT26 hF37 (by decide +kernel)) (IE_fr (IE_fr pre11 hT hF27 (by decide +kernel)) hT26 hF37 (by decide +kernel)) (by omega) (by omega) (by omega) (by omega) (by omega) (by omega) (by omega) (by omega) (by omega) (by omega)
set_option maxHeartbeats 0 in
theorem LC_13 {Ln : Nat} {xs : Nat → Int32} {τ : List Nat} {h : List mE} (hT : TH Tr τ h) (pre0 : I1 τ h) (pre1 : I2 τ h) (pre2 : I3 h) (pre3 : I4 h) (pre4 : I6 h) (pre5 : I8 h) (pre6 : I9 h) (pre7 : IA h) (pre8 : IB h) (pre9 : IC h) (pre10 : ID h) (pre11 : IE h) (pre12 : fI h 64 32≤fI h 64 15+fI h 64 33) (pre13 : fI h 6 3=fI h 64 2) (pre14 : fI h 4 0=fI h 64 1) (pre15 : fI h 4 5=fI h 64 7) (pre16 : fI h 4 10=fI h 64 45) (pre17 : fI h 4 12=fI h 64 48) (pre18 : fI h 4 7=fI h 64 15) (pre19 : fI h 39 3=fI h 64 41) (pre20 : fI h 54 1=fI h 64 77) (pre21 : fI h 60 1=fI h 64 78) (i : Int) (hi : 0 ≤ i ∧ i + 6 ≤ (Ln : Int) ∧ (Ln : Int) ≤ 3072) (d : Nat) (hd : 90 ≤ d) (Q : Option Value → List mE → Prop) (hQ : ∀ (τ' : List Nat) (h' : List mE), (∃ ts : List Nat, τ' = τ ++ ts ∧ gsT ts = true) → TH Tr τ' h' → I1 τ' h' → I2 τ' h' → I3 h' → I4 h' → I6 h' → I8 h' → I9 h' → IA h' → IB h' → IC h' → ID h' → IE h' → fI h' 64 32≤fI h' 64 15+fI h' 64 33 → fI h' 6 3=fI h' 64 2 → fI h' 4 0=fI h' 64 1 → fI h' 4 5=fI h' 64 7 → fI h' 4 10=fI h' 64 45 → fI h' 4 12=fI h' 64 48 → fI h' 4 7=fI h' 64 15 → fI h' 39 3=fI h' 64 41 → fI h' 54 1=fI h' 64 77 → fI h' 60 1=fI h' 64 78 → MR (mex Ln xs) d 292 1864 [some (.ref 0), some (.ref 4), some (.ref 64), some (vI i)] [] h' Q) : MR (mex Ln xs) d 292 719 [some (.ref 0), some (.ref 4), some (.ref 64), some (vI i)] [] h Q := by
  have hF := Fr_rf τ WL h
  have hE := Ext_rf τ
  have e1 := fI_bd (q := 64) hT (tf hT rfl rfl) fd_8_32
  have e2 := fI_bd (q := 64) hT (tf hT rfl rfl) fd_8_15
  have e3 := fI_bd (q := 64) hT (tf hT rfl rfl) fd_8_33
  have e4 := fI_bd (q := 6) hT (tf hT rfl rfl) fd_2_3
  have e5 := fI_bd (q := 64) hT (tf hT rfl rfl) fd_8_2
  have e6 := fI_bd (q := 4) hT (tf hT rfl rfl) fd_1_0
  have e7 := fI_bd (q := 64) hT (tf hT rfl rfl) fd_8_1
  have e8 := fI_bd (q := 4) hT (tf hT rfl rfl) fd_1_5
  have e9 := fI_bd (q := 64) hT (tf hT rfl rfl) fd_8_7
  have e10 := fI_bd (q := 4) hT (tf hT rfl rfl) fd_1_10
  have e11 := fI_bd (q := 64) hT (tf hT rfl rfl) fd_8_45
  have e12 := fI_bd (q := 4) hT (tf hT rfl rfl) fd_1_12
  have e13 := fI_bd (q := 64) hT (tf hT rfl rfl) fd_8_48
  have e14 := fI_bd (q := 4) hT (tf hT rfl rfl) fd_1_7
  have e15 := fI_bd (q := 39) hT (tf hT rfl rfl) fd_3_3
  have e16 := fI_bd (q := 64) hT (tf hT rfl rfl) fd_8_41
  have e17 := fI_bd (q := 54) hT (tf hT rfl rfl) fd_6_1
  have e18 := fI_bd (q := 64) hT (tf hT rfl rfl) fd_8_77
  have e19 := fI_bd (q := 60) hT (tf hT rfl rfl) fd_7_1
  have e20 := fI_bd (q := 64) hT (tf hT rfl rfl) fd_8_78
  refine st_aload c292_719 rfl ?_
  refine st_aload c292_720 rfl ?_
  refine st_iload c292_721 rfl ?_
  refine st_iconst c292_722 ?_
  refine st_iadd c292_723 ?_
  refine st_sld c292_724 (by omega) (fun e21 e22 => ?_)
  refine st_aload c292_725 rfl ?_
  refine st_iload c292_726 rfl ?_
  refine st_iconst c292_727 ?_
  refine st_iadd c292_728 ?_
  refine st_sld c292_729 (by omega) (fun e23 e24 => ?_)
  refine st_callt (as := [vI (sv xs (i + 1)), vI (sv xs (i + 2))]) c292_730 cm_131 hT (tf hT rfl rfl) fd_1_0 rfl rfl rfl rfl (by omega) (K131 hT Stb_T (sv xs (i + 1)) (by omega) (sv xs (i + 2)) (by omega) pre5 (d - 1) (by omega) _ (fun v h0 H => H)) (fun v1 h25 H => ?_)
  obtain ⟨z28, rfl, b29, hT26, hF27⟩ := H
  have hF30 := Fr_cp hF hF27 (by decide +kernel : Wsub W131 WL = true)
  refine st_pop c292_733 rfl ?_
  refine st_aload c292_734 rfl ?_
  refine st_aload c292_735 rfl ?_
  refine st_iload c292_736 rfl ?_
  refine st_iconst c292_737 ?_
  refine st_iadd c292_738 ?_
  refine st_sld c292_739 (by omega) (fun e31 e32 => ?_)
  refine st_aload c292_740 rfl ?_
  refine st_iload c292_741 rfl ?_
  refine st_iconst c292_742 ?_
  refine st_iadd c292_743 ?_
  refine st_sld c292_744 (by omega) (fun e33 e34 => ?_)
  refine st_callt (as := [vI (sv xs (i + 1)), vI (sv xs (i + 2))]) c292_745 cm_208 hT26 (tf hT26 rfl rfl) fd_8_0 rfl rfl rfl rfl (by omega) (K208 hT26 Stb_T (sv xs (i + 1)) (by omega) (sv xs (i + 2)) (by omega) (I3_fr pre2 hT hF27 (by decide +kernel)) (d - 1) (by omega) _ (fun v h0 H => H)) (fun v1 h35 H => ?_)
  obtain ⟨z39, rfl, b40, pf38, hT36, hF37⟩ := H
  have hF41 := Fr_cp hF30 hF37 (by decide +kernel : Wsub W208 WL = true)
  refine st_pop c292_748 rfl ?_
  refine st_goto c292_749 ?_
  have e42 := fI_bd (q := 64) hT36 (tf hT36 rfl rfl) fd_8_32
  have q43 : fI h35 64 32 = fI h 64 32 := (Fr_fI hF37 (tf hT26 rfl rfl) (by decide +kernel)).trans (Fr_fI hF27 (tf hT rfl rfl) (by decide +kernel))
  have e44 := fI_bd (q := 64) hT36 (tf hT36 rfl rfl) fd_8_15
  have q45 : fI h35 64 15 = fI h 64 15 := (Fr_fI hF37 (tf hT26 rfl rfl) (by decide +kernel)).trans (Fr_fI hF27 (tf hT rfl rfl) (by decide +kernel))
  have e46 := fI_bd (q := 64) hT36 (tf hT36 rfl rfl) fd_8_33
  have q47 : fI h35 64 33 = fI h 64 33 := (Fr_fI hF37 (tf hT26 rfl rfl) (by decide +kernel)).trans (Fr_fI hF27 (tf hT rfl rfl) (by decide +kernel))
  have e48 := fI_bd (q := 6) hT36 (tf hT36 rfl rfl) fd_2_3
  have q49 : fI h35 6 3 = fI h 6 3 := (Fr_fI hF37 (tf hT26 rfl rfl) (by decide +kernel)).trans (Fr_fI hF27 (tf hT rfl rfl) (by decide +kernel))
  have e50 := fI_bd (q := 64) hT36 (tf hT36 rfl rfl) fd_8_2
  have q51 : fI h35 64 2 = fI h 64 2 := (Fr_fI hF37 (tf hT26 rfl rfl) (by decide +kernel)).trans (Fr_fI hF27 (tf hT rfl rfl) (by decide +kernel))
  have e52 := fI_bd (q := 4) hT36 (tf hT36 rfl rfl) fd_1_0
  have q53 : fI h35 4 0 = fI h 4 0 := (Fr_fI hF37 (tf hT26 rfl rfl) (by decide +kernel)).trans (Fr_fI hF27 (tf hT rfl rfl) (by decide +kernel))
  have e54 := fI_bd (q := 64) hT36 (tf hT36 rfl rfl) fd_8_1
  have q55 : fI h35 64 1 = fI h 64 1 := (Fr_fI hF37 (tf hT26 rfl rfl) (by decide +kernel)).trans (Fr_fI hF27 (tf hT rfl rfl) (by decide +kernel))
  have e56 := fI_bd (q := 4) hT36 (tf hT36 rfl rfl) fd_1_5
  have q57 : fI h35 4 5 = fI h 4 5 := (Fr_fI hF37 (tf hT26 rfl rfl) (by decide +kernel)).trans (Fr_fI hF27 (tf hT rfl rfl) (by decide +kernel))
  have e58 := fI_bd (q := 64) hT36 (tf hT36 rfl rfl) fd_8_7
  have q59 : fI h35 64 7 = fI h 64 7 := (Fr_fI hF37 (tf hT26 rfl rfl) (by decide +kernel)).trans (Fr_fI hF27 (tf hT rfl rfl) (by decide +kernel))
  have e60 := fI_bd (q := 4) hT36 (tf hT36 rfl rfl) fd_1_10
  have q61 : fI h35 4 10 = fI h 4 10 := (Fr_fI hF37 (tf hT26 rfl rfl) (by decide +kernel)).trans (Fr_fI hF27 (tf hT rfl rfl) (by decide +kernel))
  have e62 := fI_bd (q := 64) hT36 (tf hT36 rfl rfl) fd_8_45
  have q63 : fI h35 64 45 = fI h 64 45 := (Fr_fI hF37 (tf hT26 rfl rfl) (by decide +kernel)).trans (Fr_fI hF27 (tf hT rfl rfl) (by decide +kernel))
  have e64 := fI_bd (q := 4) hT36 (tf hT36 rfl rfl) fd_1_12
  have q65 : fI h35 4 12 = fI h 4 12 := (Fr_fI hF37 (tf hT26 rfl rfl) (by decide +kernel)).trans (Fr_fI hF27 (tf hT rfl rfl) (by decide +kernel))
  have e66 := fI_bd (q := 64) hT36 (tf hT36 rfl rfl) fd_8_48
  have q67 : fI h35 64 48 = fI h 64 48 := (Fr_fI hF37 (tf hT26 rfl rfl) (by decide +kernel)).trans (Fr_fI hF27 (tf hT rfl rfl) (by decide +kernel))
  have e68 := fI_bd (q := 4) hT36 (tf hT36 rfl rfl) fd_1_7
  have q69 : fI h35 4 7 = fI h 4 7 := (Fr_fI hF37 (tf hT26 rfl rfl) (by decide +kernel)).trans (Fr_fI hF27 (tf hT rfl rfl) (by decide +kernel))
  have e70 := fI_bd (q := 39) hT36 (tf hT36 rfl rfl) fd_3_3
  have q71 : fI h35 39 3 = fI h 39 3 := (Fr_fI hF37 (tf hT26 rfl rfl) (by decide +kernel)).trans (Fr_fI hF27 (tf hT rfl rfl) (by decide +kernel))
  have e72 := fI_bd (q := 64) hT36 (tf hT36 rfl rfl) fd_8_41
  have q73 : fI h35 64 41 = fI h 64 41 := (Fr_fI hF37 (tf hT26 rfl rfl) (by decide +kernel)).trans (Fr_fI hF27 (tf hT rfl rfl) (by decide +kernel))
  have e74 := fI_bd (q := 54) hT36 (tf hT36 rfl rfl) fd_6_1
  have q75 : fI h35 54 1 = fI h 54 1 := (Fr_fI hF37 (tf hT26 rfl rfl) (by decide +kernel)).trans (Fr_fI hF27 (tf hT rfl rfl) (by decide +kernel))
  have e76 := fI_bd (q := 64) hT36 (tf hT36 rfl rfl) fd_8_77
  have q77 : fI h35 64 77 = fI h 64 77 := (Fr_fI hF37 (tf hT26 rfl rfl) (by decide +kernel)).trans (Fr_fI hF27 (tf hT rfl rfl) (by decide +kernel))
  have e78 := fI_bd (q := 60) hT36 (tf hT36 rfl rfl) fd_7_1
  have q79 : fI h35 60 1 = fI h 60 1 := (Fr_fI hF37 (tf hT26 rfl rfl) (by decide +kernel)).trans (Fr_fI hF27 (tf hT rfl rfl) (by decide +kernel))
  have e80 := fI_bd (q := 64) hT36 (tf hT36 rfl rfl) fd_8_78
  have q81 : fI h35 64 78 = fI h 64 78 := (Fr_fI hF37 (tf hT26 rfl rfl) (by decide +kernel)).trans (Fr_fI hF27 (tf hT rfl rfl) (by decide +kernel))
  exact hQ _ _ ⟨[], (List.append_nil τ).symm, rfl⟩ hT36 (I1_fr (I1_fr pre0 hT hF27 (by decide +kernel)) hT26 hF37 (by decide +kernel)) (I2_fr (I2_fr pre1 hF27 (by decide +kernel)) hF37 (by decide +kernel)) pf38 (I4_fr (I4_fr pre3 hT hF27 (by decide +kernel)) hT26 hF37 (by decide +kernel)) (I6_fr (I6_fr pre4 hT hF27 (by decide +kernel)) hT26 hF37 (by decide +kernel)) (I8_fr (I8_fr pre5 hT hF27 (by decide +kernel)) hT26 hF37 (by decide +kernel)) (I9_fr (I9_fr pre6 hT hF27 (by decide +kernel)) hT26 hF37 (by decide +kernel)) (IA_fr (IA_fr pre7 hT hF27 (by decide +kernel)) hT26 hF37 (by decide +kernel)) (IB_fr (IB_fr pre8 hT hF27 (by decide +kernel)) hT26 hF37 (by decide +kernel)) (IC_fr (IC_fr pre9 hT hF27 (by decide +kernel)) hT26 hF37 (by decide +kernel)) (ID_fr (ID_fr pre10 hT hF27 (by decide +kernel)) hT26 hF37 (by decide +kernel)) (IE_fr (IE_fr pre11 hT hF27 (by decide +kernel)) hT26 hF37 (by decide +kernel)) (by omega) (by omega) (by omega) (by omega) (by omega) (by omega) (by omega) (by omega) (by omega) (by omega)
set_option maxHeartbeats 0 in
theorem LC_14 {Ln : Nat} {xs : Nat → Int32} {τ : List Nat} {h : List mE} (hT : TH Tr τ h) (pre0 : I1 τ h) (pre1 : I2 τ h) (pre2 : I3 h) (pre3 : I4 h) (pre4 : I6 h) (pre5 : I8 h) (pre6 : I9 h) (pre7 : IA h) (pre8 : IB h) (pre9 : IC h) (pre10 : ID h) (pre11 : IE h) (pre12 : fI h 64 32≤fI h 64 15+fI h 64 33) (pre13 : fI h 6 3=fI h 64 2) (pre14 : fI h 4 0=fI h 64 1) (pre15 : fI h 4 5=fI h 64 7) (pre16 : fI h 4 10=fI h 64 45) (pre17 : fI h 4 12=fI h 64 48) (pre18 : fI h 4 7=fI h 64 15) (pre19 : fI h 39 3=fI h 64 41) (pre20 : fI h 54 1=fI h 64 77) (pre21 : fI h 60 1=fI h 64 78) (i : Int) (hi : 0 ≤ i ∧ i + 6 ≤ (Ln : Int) ∧ (Ln : Int) ≤ 3072) (d : Nat) (hd : 90 ≤ d) (Q : Option Value → List mE → Prop) (hQ : ∀ (τ' : List Nat) (h' : List mE), (∃ ts : List Nat, τ' = τ ++ ts ∧ gsT ts = true) → TH Tr τ' h' → I1 τ' h' → I2 τ' h' → I3 h' → I4 h' → I6 h' → I8 h' → I9 h' → IA h' → IB h' → IC h' → ID h' → IE h' → fI h' 64 32≤fI h' 64 15+fI h' 64 33 → fI h' 6 3=fI h' 64 2 → fI h' 4 0=fI h' 64 1 → fI h' 4 5=fI h' 64 7 → fI h' 4 10=fI h' 64 45 → fI h' 4 12=fI h' 64 48 → fI h' 4 7=fI h' 64 15 → fI h' 39 3=fI h' 64 41 → fI h' 54 1=fI h' 64 77 → fI h' 60 1=fI h' 64 78 → MR (mex Ln xs) d 292 1864 [some (.ref 0), some (.ref 4), some (.ref 64), some (vI i)] [] h' Q) : MR (mex Ln xs) d 292 752 [some (.ref 0), some (.ref 4), some (.ref 64), some (vI i)] [] h Q := by
  have hF := Fr_rf τ WL h
  have hE := Ext_rf τ
  have e1 := fI_bd (q := 64) hT (tf hT rfl rfl) fd_8_32
  have e2 := fI_bd (q := 64) hT (tf hT rfl rfl) fd_8_15
  have e3 := fI_bd (q := 64) hT (tf hT rfl rfl) fd_8_33
  have e4 := fI_bd (q := 6) hT (tf hT rfl rfl) fd_2_3
  have e5 := fI_bd (q := 64) hT (tf hT rfl rfl) fd_8_2
  have e6 := fI_bd (q := 4) hT (tf hT rfl rfl) fd_1_0
  have e7 := fI_bd (q := 64) hT (tf hT rfl rfl) fd_8_1
  have e8 := fI_bd (q := 4) hT (tf hT rfl rfl) fd_1_5
  have e9 := fI_bd (q := 64) hT (tf hT rfl rfl) fd_8_7
  have e10 := fI_bd (q := 4) hT (tf hT rfl rfl) fd_1_10
  have e11 := fI_bd (q := 64) hT (tf hT rfl rfl) fd_8_45
  have e12 := fI_bd (q := 4) hT (tf hT rfl rfl) fd_1_12
  have e13 := fI_bd (q := 64) hT (tf hT rfl rfl) fd_8_48
  have e14 := fI_bd (q := 4) hT (tf hT rfl rfl) fd_1_7
  have e15 := fI_bd (q := 39) hT (tf hT rfl rfl) fd_3_3
  have e16 := fI_bd (q := 64) hT (tf hT rfl rfl) fd_8_41
  have e17 := fI_bd (q := 54) hT (tf hT rfl rfl) fd_6_1
  have e18 := fI_bd (q := 64) hT (tf hT rfl rfl) fd_8_77
  have e19 := fI_bd (q := 60) hT (tf hT rfl rfl) fd_7_1
  have e20 := fI_bd (q := 64) hT (tf hT rfl rfl) fd_8_78
  refine st_aload c292_752 rfl ?_
  refine st_aload c292_753 rfl ?_
  refine st_iload c292_754 rfl ?_
  refine st_iconst c292_755 ?_
  refine st_iadd c292_756 ?_
  refine st_sld c292_757 (by omega) (fun e21 e22 => ?_)
  refine st_aload c292_758 rfl ?_
  refine st_iload c292_759 rfl ?_
  refine st_iconst c292_760 ?_
  refine st_iadd c292_761 ?_
  refine st_sld c292_762 (by omega) (fun e23 e24 => ?_)
  refine st_callt (as := [vI (sv xs (i + 1)), vI (sv xs (i + 2))]) c292_763 cm_132 hT (tf hT rfl rfl) fd_1_0 rfl rfl rfl rfl (by omega) (K132 hT (sv xs (i + 1)) (by omega) (sv xs (i + 2)) (by omega) pre0 pre1 pre5 (d - 1) (by omega) _ (fun v h0 H => H)) (fun v1 h25 H => ?_)
  obtain ⟨z29, rfl, b30, τ', ⟨ts, rfl, hg⟩, hT26, hF27, ix31, ix32⟩ := H
  have hF28 := Fr_cp hF hF27 (by decide +kernel : Wsub W132 WL = true)
  have hE := Ext_app (τ := τ) (ts := ts)
  refine st_pop c292_766 rfl ?_
  refine st_aload c292_767 rfl ?_
  refine st_aload c292_768 rfl ?_
  refine st_iload c292_769 rfl ?_
  refine st_iconst c292_770 ?_
  refine st_iadd c292_771 ?_
  refine st_sld c292_772 (by omega) (fun e33 e34 => ?_)
  refine st_aload c292_773 rfl ?_
  refine st_iload c292_774 rfl ?_
  refine st_iconst c292_775 ?_
  refine st_iadd c292_776 ?_
  refine st_sld c292_777 (by omega) (fun e35 e36 => ?_)
  have e37 := fI_bd (q := 64) hT26 (tf hT26 rfl rfl) fd_8_32
  have q38 : fI h25 64 32 = fI h 64 32 := Fr_fI hF27 (tf hT rfl rfl) (by decide +kernel)
  have e39 := fI_bd (q := 64) hT26 (tf hT26 rfl rfl) fd_8_15
  have q40 : fI h25 64 15 = fI h 64 15 := Fr_fI hF27 (tf hT rfl rfl) (by decide +kernel)
  have e41 := fI_bd (q := 64) hT26 (tf hT26 rfl rfl) fd_8_33
  have q42 : fI h25 64 33 = fI h 64 33 := Fr_fI hF27 (tf hT rfl rfl) (by decide +kernel)
  refine st_callt (as := [vI (sv xs (i + 1)), vI (sv xs (i + 2))]) c292_778 cm_209 hT26 (tf hT26 rfl rfl) fd_8_0 rfl rfl rfl rfl (by omega) (K209 hT26 Stb_T (sv xs (i + 1)) (by omega) (sv xs (i + 2)) (by omega) (by omega) (d - 1) (by omega) _ (fun v h0 H => H)) (fun v1 h43 H => ?_)
  obtain ⟨z47, rfl, b48, pf46, hT44, hF45⟩ := H
  have hF49 := Fr_cp hF28 (Fr_dn hE hF45) (by decide +kernel : Wsub W209 WL = true)
  have e50 := fI_bd (q := 64) hT44 (tf hT44 rfl rfl) fd_8_32
  have e51 := fI_bd (q := 64) hT44 (tf hT44 rfl rfl) fd_8_15
  have q52 : fI h43 64 15 = fI h25 64 15 := Fr_fI hF45 (tf hT26 rfl rfl) (by decide +kernel)
  have e53 := fI_bd (q := 64) hT44 (tf hT44 rfl rfl) fd_8_33
  refine st_pop c292_781 rfl ?_
  refine st_goto c292_782 ?_
  have e54 := fI_bd (q := 6) hT44 (tf hT44 rfl rfl) fd_2_3
  have q55 : fI h43 6 3 = fI h 6 3 := (Fr_fI hF45 (tf hT26 rfl rfl) (by decide +kernel)).trans (Fr_fI hF27 (tf hT rfl rfl) (by decide +kernel))
  have e56 := fI_bd (q := 64) hT44 (tf hT44 rfl rfl) fd_8_2
  have q57 : fI h43 64 2 = fI h 64 2 := (Fr_fI hF45 (tf hT26 rfl rfl) (by decide +kernel)).trans (Fr_fI hF27 (tf hT rfl rfl) (by decide +kernel))
  have e58 := fI_bd (q := 4) hT44 (tf hT44 rfl rfl) fd_1_0
  have q59 : fI h43 4 0 = fI h 4 0 := (Fr_fI hF45 (tf hT26 rfl rfl) (by decide +kernel)).trans (Fr_fI hF27 (tf hT rfl rfl) (by decide +kernel))
  have e60 := fI_bd (q := 64) hT44 (tf hT44 rfl rfl) fd_8_1
  have q61 : fI h43 64 1 = fI h 64 1 := (Fr_fI hF45 (tf hT26 rfl rfl) (by decide +kernel)).trans (Fr_fI hF27 (tf hT rfl rfl) (by decide +kernel))
  have e62 := fI_bd (q := 4) hT44 (tf hT44 rfl rfl) fd_1_5
  have q63 : fI h43 4 5 = fI h 4 5 := (Fr_fI hF45 (tf hT26 rfl rfl) (by decide +kernel)).trans (Fr_fI hF27 (tf hT rfl rfl) (by decide +kernel))
  have e64 := fI_bd (q := 64) hT44 (tf hT44 rfl rfl) fd_8_7
  have q65 : fI h43 64 7 = fI h 64 7 := (Fr_fI hF45 (tf hT26 rfl rfl) (by decide +kernel)).trans (Fr_fI hF27 (tf hT rfl rfl) (by decide +kernel))
  have e66 := fI_bd (q := 4) hT44 (tf hT44 rfl rfl) fd_1_10
  have q67 : fI h43 4 10 = fI h 4 10 := (Fr_fI hF45 (tf hT26 rfl rfl) (by decide +kernel)).trans (Fr_fI hF27 (tf hT rfl rfl) (by decide +kernel))
  have e68 := fI_bd (q := 64) hT44 (tf hT44 rfl rfl) fd_8_45
  have q69 : fI h43 64 45 = fI h 64 45 := (Fr_fI hF45 (tf hT26 rfl rfl) (by decide +kernel)).trans (Fr_fI hF27 (tf hT rfl rfl) (by decide +kernel))
  have e70 := fI_bd (q := 4) hT44 (tf hT44 rfl rfl) fd_1_12
  have q71 : fI h43 4 12 = fI h 4 12 := (Fr_fI hF45 (tf hT26 rfl rfl) (by decide +kernel)).trans (Fr_fI hF27 (tf hT rfl rfl) (by decide +kernel))
  have e72 := fI_bd (q := 64) hT44 (tf hT44 rfl rfl) fd_8_48
  have q73 : fI h43 64 48 = fI h 64 48 := (Fr_fI hF45 (tf hT26 rfl rfl) (by decide +kernel)).trans (Fr_fI hF27 (tf hT rfl rfl) (by decide +kernel))
  have e74 := fI_bd (q := 4) hT44 (tf hT44 rfl rfl) fd_1_7
  have q75 : fI h43 4 7 = fI h 4 7 := (Fr_fI hF45 (tf hT26 rfl rfl) (by decide +kernel)).trans (Fr_fI hF27 (tf hT rfl rfl) (by decide +kernel))
  have e76 := fI_bd (q := 39) hT44 (tf hT44 rfl rfl) fd_3_3
  have q77 : fI h43 39 3 = fI h 39 3 := (Fr_fI hF45 (tf hT26 rfl rfl) (by decide +kernel)).trans (Fr_fI hF27 (tf hT rfl rfl) (by decide +kernel))
  have e78 := fI_bd (q := 64) hT44 (tf hT44 rfl rfl) fd_8_41
  have q79 : fI h43 64 41 = fI h 64 41 := (Fr_fI hF45 (tf hT26 rfl rfl) (by decide +kernel)).trans (Fr_fI hF27 (tf hT rfl rfl) (by decide +kernel))
  have e80 := fI_bd (q := 54) hT44 (tf hT44 rfl rfl) fd_6_1
  have q81 : fI h43 54 1 = fI h 54 1 := (Fr_fI hF45 (tf hT26 rfl rfl) (by decide +kernel)).trans (Fr_fI hF27 (tf hT rfl rfl) (by decide +kernel))
  have e82 := fI_bd (q := 64) hT44 (tf hT44 rfl rfl) fd_8_77
  have q83 : fI h43 64 77 = fI h 64 77 := (Fr_fI hF45 (tf hT26 rfl rfl) (by decide +kernel)).trans (Fr_fI hF27 (tf hT rfl rfl) (by decide +kernel))
  have e84 := fI_bd (q := 60) hT44 (tf hT44 rfl rfl) fd_7_1
  have q85 : fI h43 60 1 = fI h 60 1 := (Fr_fI hF45 (tf hT26 rfl rfl) (by decide +kernel)).trans (Fr_fI hF27 (tf hT rfl rfl) (by decide +kernel))
  have e86 := fI_bd (q := 64) hT44 (tf hT44 rfl rfl) fd_8_78
  have q87 : fI h43 64 78 = fI h 64 78 := (Fr_fI hF45 (tf hT26 rfl rfl) (by decide +kernel)).trans (Fr_fI hF27 (tf hT rfl rfl) (by decide +kernel))
  exact hQ _ _ ⟨ts, rfl, hg⟩ hT44 (I1_fr ix31 hT26 hF45 (by decide +kernel)) (I2_fr ix32 hF45 (by decide +kernel)) (I3_fr (I3_fr pre2 hT hF27 (by decide +kernel)) hT26 hF45 (by decide +kernel)) (I4_fr (I4_fr pre3 hT hF27 (by decide +kernel)) hT26 hF45 (by decide +kernel)) (I6_fr (I6_fr pre4 hT hF27 (by decide +kernel)) hT26 hF45 (by decide +kernel)) (I8_fr (I8_fr pre5 hT hF27 (by decide +kernel)) hT26 hF45 (by decide +kernel)) (I9_fr (I9_fr pre6 hT hF27 (by decide +kernel)) hT26 hF45 (by decide +kernel)) (IA_fr (IA_fr pre7 hT hF27 (by decide +kernel)) hT26 hF45 (by decide +kernel)) (IB_fr (IB_fr pre8 hT hF27 (by decide +kernel)) hT26 hF45 (by decide +kernel)) (IC_fr (IC_fr pre9 hT hF27 (by decide +kernel)) hT26 hF45 (by decide +kernel)) (ID_fr (ID_fr pre10 hT hF27 (by decide +kernel)) hT26 hF45 (by decide +kernel)) (IE_fr (IE_fr pre11 hT hF27 (by decide +kernel)) hT26 hF45 (by decide +kernel)) (by omega) (by omega) (by omega) (by omega) (by omega) (by omega) (by omega) (by omega) (by omega) (by omega)
set_option maxHeartbeats 0 in
theorem LC_15 {Ln : Nat} {xs : Nat → Int32} {τ : List Nat} {h : List mE} (hT : TH Tr τ h) (pre0 : I1 τ h) (pre1 : I2 τ h) (pre2 : I3 h) (pre3 : I4 h) (pre4 : I6 h) (pre5 : I8 h) (pre6 : I9 h) (pre7 : IA h) (pre8 : IB h) (pre9 : IC h) (pre10 : ID h) (pre11 : IE h) (pre12 : fI h 64 32≤fI h 64 15+fI h 64 33) (pre13 : fI h 6 3=fI h 64 2) (pre14 : fI h 4 0=fI h 64 1) (pre15 : fI h 4 5=fI h 64 7) (pre16 : fI h 4 10=fI h 64 45) (pre17 : fI h 4 12=fI h 64 48) (pre18 : fI h 4 7=fI h 64 15) (pre19 : fI h 39 3=fI h 64 41) (pre20 : fI h 54 1=fI h 64 77) (pre21 : fI h 60 1=fI h 64 78) (i : Int) (hi : 0 ≤ i ∧ i + 6 ≤ (Ln : Int) ∧ (Ln : Int) ≤ 3072) (d : Nat) (hd : 90 ≤ d) (Q : Option Value → List mE → Prop) (hQ : ∀ (τ' : List Nat) (h' : List mE), (∃ ts : List Nat, τ' = τ ++ ts ∧ gsT ts = true) → TH Tr τ' h' → I1 τ' h' → I2 τ' h' → I3 h' → I4 h' → I6 h' → I8 h' → I9 h' → IA h' → IB h' → IC h' → ID h' → IE h' → fI h' 64 32≤fI h' 64 15+fI h' 64 33 → fI h' 6 3=fI h' 64 2 → fI h' 4 0=fI h' 64 1 → fI h' 4 5=fI h' 64 7 → fI h' 4 10=fI h' 64 45 → fI h' 4 12=fI h' 64 48 → fI h' 4 7=fI h' 64 15 → fI h' 39 3=fI h' 64 41 → fI h' 54 1=fI h' 64 77 → fI h' 60 1=fI h' 64 78 → MR (mex Ln xs) d 292 1864 [some (.ref 0), some (.ref 4), some (.ref 64), some (vI i)] [] h' Q) : MR (mex Ln xs) d 292 785 [some (.ref 0), some (.ref 4), some (.ref 64), some (vI i)] [] h Q := by
  have hF := Fr_rf τ WL h
  have hE := Ext_rf τ
  have e1 := fI_bd (q := 64) hT (tf hT rfl rfl) fd_8_32
  have e2 := fI_bd (q := 64) hT (tf hT rfl rfl) fd_8_15
  have e3 := fI_bd (q := 64) hT (tf hT rfl rfl) fd_8_33
  have e4 := fI_bd (q := 6) hT (tf hT rfl rfl) fd_2_3
  have e5 := fI_bd (q := 64) hT (tf hT rfl rfl) fd_8_2
  have e6 := fI_bd (q := 4) hT (tf hT rfl rfl) fd_1_0
  have e7 := fI_bd (q := 64) hT (tf hT rfl rfl) fd_8_1
  have e8 := fI_bd (q := 4) hT (tf hT rfl rfl) fd_1_5
  have e9 := fI_bd (q := 64) hT (tf hT rfl rfl) fd_8_7
  have e10 := fI_bd (q := 4) hT (tf hT rfl rfl) fd_1_10
  have e11 := fI_bd (q := 64) hT (tf hT rfl rfl) fd_8_45
  have e12 := fI_bd (q := 4) hT (tf hT rfl rfl) fd_1_12
  have e13 := fI_bd (q := 64) hT (tf hT rfl rfl) fd_8_48
  have e14 := fI_bd (q := 4) hT (tf hT rfl rfl) fd_1_7
  have e15 := fI_bd (q := 39) hT (tf hT rfl rfl) fd_3_3
  have e16 := fI_bd (q := 64) hT (tf hT rfl rfl) fd_8_41
  have e17 := fI_bd (q := 54) hT (tf hT rfl rfl) fd_6_1
  have e18 := fI_bd (q := 64) hT (tf hT rfl rfl) fd_8_77
  have e19 := fI_bd (q := 60) hT (tf hT rfl rfl) fd_7_1
  have e20 := fI_bd (q := 64) hT (tf hT rfl rfl) fd_8_78
  refine st_aload c292_785 rfl ?_
  refine st_aload c292_786 rfl ?_
  refine st_iload c292_787 rfl ?_
  refine st_iconst c292_788 ?_
  refine st_iadd c292_789 ?_
  refine st_sld c292_790 (by omega) (fun e21 e22 => ?_)
  refine st_aload c292_791 rfl ?_
  refine st_iload c292_792 rfl ?_
  refine st_iconst c292_793 ?_
  refine st_iadd c292_794 ?_
  refine st_sld c292_795 (by omega) (fun e23 e24 => ?_)
  have e25 := fI_bd (q := 4) hT (tf hT rfl rfl) fd_1_7
  have e26 := fI_bd (q := 6) hT (tf hT rfl rfl) fd_2_3
  have e27 := fI_bd (q := 39) hT (tf hT rfl rfl) fd_3_3
  refine st_callt (as := [vI (sv xs (i + 1)), vI (sv xs (i + 2))]) c292_796 cm_133 hT (tf hT rfl rfl) fd_1_0 rfl rfl rfl rfl (by omega) (K133 hT Stb_T (sv xs (i + 1)) (by omega) (sv xs (i + 2)) (by omega) pre5 (d - 1) (by omega) _ (fun v h0 H => H)) (fun v1 h28 H => ?_)
  obtain ⟨z32, rfl, b33, pf31, hT29, hF30⟩ := H
  have hF34 := Fr_cp hF hF30 (by decide +kernel : Wsub W133 WL = true)
  have e35 := fI_bd (q := 39) hT29 (tf hT29 rfl rfl) fd_3_3
  refine st_pop c292_799 rfl ?_
  refine st_aload c292_800 rfl ?_
  refine st_aload c292_801 rfl ?_
  refine st_iload c292_802 rfl ?_
  refine st_iconst c292_803 ?_
  refine st_iadd c292_804 ?_
  refine st_sld c292_805 (by omega) (fun e36 e37 => ?_)
  refine st_aload c292_806 rfl ?_
  refine st_iload c292_807 rfl ?_
  refine st_iconst c292_808 ?_
  refine st_iadd c292_809 ?_
  refine st_sld c292_810 (by omega) (fun e38 e39 => ?_)
  have e40 := fI_bd (q := 64) hT29 (tf hT29 rfl rfl) fd_8_15
  have q41 : fI h28 64 15 = fI h 64 15 := Fr_fI hF30 (tf hT rfl rfl) (by decide +kernel)
  have e42 := fI_bd (q := 64) hT29 (tf hT29 rfl rfl) fd_8_2
  have q43 : fI h28 64 2 = fI h 64 2 := Fr_fI hF30 (tf hT rfl rfl) (by decide +kernel)
  have e44 := fI_bd (q := 64) hT29 (tf hT29 rfl rfl) fd_8_41
  have q45 : fI h28 64 41 = fI h 64 41 := Fr_fI hF30 (tf hT rfl rfl) (by decide +kernel)
  refine st_callt (as := [vI (sv xs (i + 1)), vI (sv xs (i + 2))]) c292_811 cm_210 hT29 (tf hT29 rfl rfl) fd_8_0 rfl rfl rfl rfl (by omega) (K210 hT29 Stb_T (sv xs (i + 1)) (by omega) (sv xs (i + 2)) (by omega) (d - 1) (by omega) _ (fun v h0 H => H)) (fun v1 h46 H => ?_)
  obtain ⟨z50, rfl, b51, pf49, hT47, hF48⟩ := H
  have hF52 := Fr_cp hF34 hF48 (by decide +kernel : Wsub W210 WL = true)
  have e53 := fI_bd (q := 64) hT47 (tf hT47 rfl rfl) fd_8_41
  refine st_pop c292_814 rfl ?_
  refine st_goto c292_815 ?_
  have e54 := fI_bd (q := 64) hT47 (tf hT47 rfl rfl) fd_8_32
  have q55 : fI h46 64 32 = fI h 64 32 := (Fr_fI hF48 (tf hT29 rfl rfl) (by decide +kernel)).trans (Fr_fI hF30 (tf hT rfl rfl) (by decide +kernel))
  have e56 := fI_bd (q := 64) hT47 (tf hT47 rfl rfl) fd_8_15
  have q57 : fI h46 64 15 = fI h28 64 15 := Fr_fI hF48 (tf hT29 rfl rfl) (by decide +kernel)
  have e58 := fI_bd (q := 64) hT47 (tf hT47 rfl rfl) fd_8_33
  have q59 : fI h46 64 33 = fI h 64 33 := (Fr_fI hF48 (tf hT29 rfl rfl) (by decide +kernel)).trans (Fr_fI hF30 (tf hT rfl rfl) (by decide +kernel))
  have e60 := fI_bd (q := 6) hT47 (tf hT47 rfl rfl) fd_2_3
  have q61 : fI h46 6 3 = fI h 6 3 := (Fr_fI hF48 (tf hT29 rfl rfl) (by decide +kernel)).trans (Fr_fI hF30 (tf hT rfl rfl) (by decide +kernel))
  have e62 := fI_bd (q := 64) hT47 (tf hT47 rfl rfl) fd_8_2
  have q63 : fI h46 64 2 = fI h28 64 2 := Fr_fI hF48 (tf hT29 rfl rfl) (by decide +kernel)
  have e64 := fI_bd (q := 4) hT47 (tf hT47 rfl rfl) fd_1_0
  have q65 : fI h46 4 0 = fI h 4 0 := (Fr_fI hF48 (tf hT29 rfl rfl) (by decide +kernel)).trans (Fr_fI hF30 (tf hT rfl rfl) (by decide +kernel))
  have e66 := fI_bd (q := 64) hT47 (tf hT47 rfl rfl) fd_8_1
  have q67 : fI h46 64 1 = fI h 64 1 := (Fr_fI hF48 (tf hT29 rfl rfl) (by decide +kernel)).trans (Fr_fI hF30 (tf hT rfl rfl) (by decide +kernel))
  have e68 := fI_bd (q := 4) hT47 (tf hT47 rfl rfl) fd_1_5
  have q69 : fI h46 4 5 = fI h 4 5 := (Fr_fI hF48 (tf hT29 rfl rfl) (by decide +kernel)).trans (Fr_fI hF30 (tf hT rfl rfl) (by decide +kernel))
  have e70 := fI_bd (q := 64) hT47 (tf hT47 rfl rfl) fd_8_7
  have q71 : fI h46 64 7 = fI h 64 7 := (Fr_fI hF48 (tf hT29 rfl rfl) (by decide +kernel)).trans (Fr_fI hF30 (tf hT rfl rfl) (by decide +kernel))
  have e72 := fI_bd (q := 4) hT47 (tf hT47 rfl rfl) fd_1_10
  have q73 : fI h46 4 10 = fI h 4 10 := (Fr_fI hF48 (tf hT29 rfl rfl) (by decide +kernel)).trans (Fr_fI hF30 (tf hT rfl rfl) (by decide +kernel))
  have e74 := fI_bd (q := 64) hT47 (tf hT47 rfl rfl) fd_8_45
  have q75 : fI h46 64 45 = fI h 64 45 := (Fr_fI hF48 (tf hT29 rfl rfl) (by decide +kernel)).trans (Fr_fI hF30 (tf hT rfl rfl) (by decide +kernel))
  have e76 := fI_bd (q := 4) hT47 (tf hT47 rfl rfl) fd_1_12
  have q77 : fI h46 4 12 = fI h 4 12 := (Fr_fI hF48 (tf hT29 rfl rfl) (by decide +kernel)).trans (Fr_fI hF30 (tf hT rfl rfl) (by decide +kernel))
  have e78 := fI_bd (q := 64) hT47 (tf hT47 rfl rfl) fd_8_48
  have q79 : fI h46 64 48 = fI h 64 48 := (Fr_fI hF48 (tf hT29 rfl rfl) (by decide +kernel)).trans (Fr_fI hF30 (tf hT rfl rfl) (by decide +kernel))
  have e80 := fI_bd (q := 4) hT47 (tf hT47 rfl rfl) fd_1_7
  have q81 : fI h46 4 7 = fI h 4 7 := (Fr_fI hF48 (tf hT29 rfl rfl) (by decide +kernel)).trans (Fr_fI hF30 (tf hT rfl rfl) (by decide +kernel))
  have e82 := fI_bd (q := 39) hT47 (tf hT47 rfl rfl) fd_3_3
  have q83 : fI h46 39 3 = fI h28 39 3 := Fr_fI hF48 (tf hT29 rfl rfl) (by decide +kernel)
  have e84 := fI_bd (q := 54) hT47 (tf hT47 rfl rfl) fd_6_1
  have q85 : fI h46 54 1 = fI h 54 1 := (Fr_fI hF48 (tf hT29 rfl rfl) (by decide +kernel)).trans (Fr_fI hF30 (tf hT rfl rfl) (by decide +kernel))
  have e86 := fI_bd (q := 64) hT47 (tf hT47 rfl rfl) fd_8_77
  have q87 : fI h46 64 77 = fI h 64 77 := (Fr_fI hF48 (tf hT29 rfl rfl) (by decide +kernel)).trans (Fr_fI hF30 (tf hT rfl rfl) (by decide +kernel))
  have e88 := fI_bd (q := 60) hT47 (tf hT47 rfl rfl) fd_7_1
  have q89 : fI h46 60 1 = fI h 60 1 := (Fr_fI hF48 (tf hT29 rfl rfl) (by decide +kernel)).trans (Fr_fI hF30 (tf hT rfl rfl) (by decide +kernel))
  have e90 := fI_bd (q := 64) hT47 (tf hT47 rfl rfl) fd_8_78
  have q91 : fI h46 64 78 = fI h 64 78 := (Fr_fI hF48 (tf hT29 rfl rfl) (by decide +kernel)).trans (Fr_fI hF30 (tf hT rfl rfl) (by decide +kernel))
  exact hQ _ _ ⟨[], (List.append_nil τ).symm, rfl⟩ hT47 (I1_fr (I1_fr pre0 hT hF30 (by decide +kernel)) hT29 hF48 (by decide +kernel)) (I2_fr (I2_fr pre1 hF30 (by decide +kernel)) hF48 (by decide +kernel)) (I3_fr (I3_fr pre2 hT hF30 (by decide +kernel)) hT29 hF48 (by decide +kernel)) (I4_fr (I4_fr pre3 hT hF30 (by decide +kernel)) hT29 hF48 (by decide +kernel)) (I6_fr (I6_fr pre4 hT hF30 (by decide +kernel)) hT29 hF48 (by decide +kernel)) (I8_fr (I8_fr pre5 hT hF30 (by decide +kernel)) hT29 hF48 (by decide +kernel)) (I9_fr (I9_fr pre6 hT hF30 (by decide +kernel)) hT29 hF48 (by decide +kernel)) (IA_fr (IA_fr pre7 hT hF30 (by decide +kernel)) hT29 hF48 (by decide +kernel)) (IB_fr (IB_fr pre8 hT hF30 (by decide +kernel)) hT29 hF48 (by decide +kernel)) (IC_fr (IC_fr pre9 hT hF30 (by decide +kernel)) hT29 hF48 (by decide +kernel)) (ID_fr (ID_fr pre10 hT hF30 (by decide +kernel)) hT29 hF48 (by decide +kernel)) (IE_fr (IE_fr pre11 hT hF30 (by decide +kernel)) hT29 hF48 (by decide +kernel)) (by omega) (by omega) (by omega) (by omega) (by omega) (by omega) (by omega) (by omega) (by omega) (by omega)
set_option maxHeartbeats 0 in
theorem LC_16 {Ln : Nat} {xs : Nat → Int32} {τ : List Nat} {h : List mE} (hT : TH Tr τ h) (pre0 : I1 τ h) (pre1 : I2 τ h) (pre2 : I3 h) (pre3 : I4 h) (pre4 : I6 h) (pre5 : I8 h) (pre6 : I9 h) (pre7 : IA h) (pre8 : IB h) (pre9 : IC h) (pre10 : ID h) (pre11 : IE h) (pre12 : fI h 64 32≤fI h 64 15+fI h 64 33) (pre13 : fI h 6 3=fI h 64 2) (pre14 : fI h 4 0=fI h 64 1) (pre15 : fI h 4 5=fI h 64 7) (pre16 : fI h 4 10=fI h 64 45) (pre17 : fI h 4 12=fI h 64 48) (pre18 : fI h 4 7=fI h 64 15) (pre19 : fI h 39 3=fI h 64 41) (pre20 : fI h 54 1=fI h 64 77) (pre21 : fI h 60 1=fI h 64 78) (i : Int) (hi : 0 ≤ i ∧ i + 6 ≤ (Ln : Int) ∧ (Ln : Int) ≤ 3072) (d : Nat) (hd : 90 ≤ d) (Q : Option Value → List mE → Prop) (hQ : ∀ (τ' : List Nat) (h' : List mE), (∃ ts : List Nat, τ' = τ ++ ts ∧ gsT ts = true) → TH Tr τ' h' → I1 τ' h' → I2 τ' h' → I3 h' → I4 h' → I6 h' → I8 h' → I9 h' → IA h' → IB h' → IC h' → ID h' → IE h' → fI h' 64 32≤fI h' 64 15+fI h' 64 33 → fI h' 6 3=fI h' 64 2 → fI h' 4 0=fI h' 64 1 → fI h' 4 5=fI h' 64 7 → fI h' 4 10=fI h' 64 45 → fI h' 4 12=fI h' 64 48 → fI h' 4 7=fI h' 64 15 → fI h' 39 3=fI h' 64 41 → fI h' 54 1=fI h' 64 77 → fI h' 60 1=fI h' 64 78 → MR (mex Ln xs) d 292 1864 [some (.ref 0), some (.ref 4), some (.ref 64), some (vI i)] [] h' Q) : MR (mex Ln xs) d 292 818 [some (.ref 0), some (.ref 4), some (.ref 64), some (vI i)] [] h Q := by
  have hF := Fr_rf τ WL h
  have hE := Ext_rf τ
  have e1 := fI_bd (q := 64) hT (tf hT rfl rfl) fd_8_32
  have e2 := fI_bd (q := 64) hT (tf hT rfl rfl) fd_8_15
  have e3 := fI_bd (q := 64) hT (tf hT rfl rfl) fd_8_33
  have e4 := fI_bd (q := 6) hT (tf hT rfl rfl) fd_2_3
  have e5 := fI_bd (q := 64) hT (tf hT rfl rfl) fd_8_2
  have e6 := fI_bd (q := 4) hT (tf hT rfl rfl) fd_1_0
  have e7 := fI_bd (q := 64) hT (tf hT rfl rfl) fd_8_1
  have e8 := fI_bd (q := 4) hT (tf hT rfl rfl) fd_1_5
  have e9 := fI_bd (q := 64) hT (tf hT rfl rfl) fd_8_7
  have e10 := fI_bd (q := 4) hT (tf hT rfl rfl) fd_1_10
  have e11 := fI_bd (q := 64) hT (tf hT rfl rfl) fd_8_45
  have e12 := fI_bd (q := 4) hT (tf hT rfl rfl) fd_1_12
  have e13 := fI_bd (q := 64) hT (tf hT rfl rfl) fd_8_48
  have e14 := fI_bd (q := 4) hT (tf hT rfl rfl) fd_1_7
  have e15 := fI_bd (q := 39) hT (tf hT rfl rfl) fd_3_3
  have e16 := fI_bd (q := 64) hT (tf hT rfl rfl) fd_8_41
  have e17 := fI_bd (q := 54) hT (tf hT rfl rfl) fd_6_1
  have e18 := fI_bd (q := 64) hT (tf hT rfl rfl) fd_8_77
  have e19 := fI_bd (q := 60) hT (tf hT rfl rfl) fd_7_1
  have e20 := fI_bd (q := 64) hT (tf hT rfl rfl) fd_8_78
  refine st_aload c292_818 rfl ?_
  refine st_aload c292_819 rfl ?_
  refine st_iload c292_820 rfl ?_
  refine st_iconst c292_821 ?_
  refine st_iadd c292_822 ?_
  refine st_sld c292_823 (by omega) (fun e21 e22 => ?_)
  refine st_aload c292_824 rfl ?_
  refine st_iload c292_825 rfl ?_
  refine st_iconst c292_826 ?_
  refine st_iadd c292_827 ?_
  refine st_sld c292_828 (by omega) (fun e23 e24 => ?_)
  refine st_callt (as := [vI (sv xs (i + 1)), vI (sv xs (i + 2))]) c292_829 cm_134 hT (tf hT rfl rfl) fd_1_0 rfl rfl rfl rfl (by omega) (K134 hT (sv xs (i + 1)) (by omega) (sv xs (i + 2)) (by omega) pre5 (d - 1) (by omega) _ (fun v h0 H => H)) (fun v1 h1 H => ?_)
  obtain ⟨z25, rfl, b26, rfl⟩ := H
  refine st_pop c292_832 rfl ?_
  refine st_aload c292_833 rfl ?_
  refine st_aload c292_834 rfl ?_
  refine st_iload c292_835 rfl ?_
  refine st_iconst c292_836 ?_
  refine st_iadd c292_837 ?_
  refine st_sld c292_838 (by omega) (fun e27 e28 => ?_)
  refine st_aload c292_839 rfl ?_
  refine st_iload c292_840 rfl ?_
  refine st_iconst c292_841 ?_
  refine st_iadd c292_842 ?_
  refine st_sld c292_843 (by omega) (fun e29 e30 => ?_)
  refine st_callt (as := [vI (sv xs (i + 1)), vI (sv xs (i + 2))]) c292_844 cm_211 hT (tf hT rfl rfl) fd_8_0 rfl rfl rfl rfl (by omega) (K211 hT (sv xs (i + 1)) (by omega) (sv xs (i + 2)) (by omega) (d - 1) (by omega) _ (fun v h0 H => H)) (fun v1 h1 H => ?_)
  obtain ⟨z31, rfl, b32, rfl⟩ := H
  refine st_pop c292_847 rfl ?_
  refine st_goto c292_848 ?_
  have e33 := fI_bd (q := 64) hT (tf hT rfl rfl) fd_8_32
  have e34 := fI_bd (q := 64) hT (tf hT rfl rfl) fd_8_15
  have e35 := fI_bd (q := 64) hT (tf hT rfl rfl) fd_8_33
  have e36 := fI_bd (q := 6) hT (tf hT rfl rfl) fd_2_3
  have e37 := fI_bd (q := 64) hT (tf hT rfl rfl) fd_8_2
  have e38 := fI_bd (q := 4) hT (tf hT rfl rfl) fd_1_0
  have e39 := fI_bd (q := 64) hT (tf hT rfl rfl) fd_8_1
  have e40 := fI_bd (q := 4) hT (tf hT rfl rfl) fd_1_5
  have e41 := fI_bd (q := 64) hT (tf hT rfl rfl) fd_8_7
  have e42 := fI_bd (q := 4) hT (tf hT rfl rfl) fd_1_10
  have e43 := fI_bd (q := 64) hT (tf hT rfl rfl) fd_8_45
  have e44 := fI_bd (q := 4) hT (tf hT rfl rfl) fd_1_12
  have e45 := fI_bd (q := 64) hT (tf hT rfl rfl) fd_8_48
  have e46 := fI_bd (q := 4) hT (tf hT rfl rfl) fd_1_7
  have e47 := fI_bd (q := 39) hT (tf hT rfl rfl) fd_3_3
  have e48 := fI_bd (q := 64) hT (tf hT rfl rfl) fd_8_41
  have e49 := fI_bd (q := 54) hT (tf hT rfl rfl) fd_6_1
  have e50 := fI_bd (q := 64) hT (tf hT rfl rfl) fd_8_77
  have e51 := fI_bd (q := 60) hT (tf hT rfl rfl) fd_7_1
  have e52 := fI_bd (q := 64) hT (tf hT rfl rfl) fd_8_78
  exact hQ _ _ ⟨[], (List.append_nil τ).symm, rfl⟩ hT pre0 pre1 pre2 pre3 pre4 pre5 pre6 pre7 pre8 pre9 pre10 pre11 (by omega) (by omega) (by omega) (by omega) (by omega) (by omega) (by omega) (by omega) (by omega) (by omega)
set_option maxHeartbeats 0 in
theorem LC_17 {Ln : Nat} {xs : Nat → Int32} {τ : List Nat} {h : List mE} (hT : TH Tr τ h) (pre0 : I1 τ h) (pre1 : I2 τ h) (pre2 : I3 h) (pre3 : I4 h) (pre4 : I6 h) (pre5 : I8 h) (pre6 : I9 h) (pre7 : IA h) (pre8 : IB h) (pre9 : IC h) (pre10 : ID h) (pre11 : IE h) (pre12 : fI h 64 32≤fI h 64 15+fI h 64 33) (pre13 : fI h 6 3=fI h 64 2) (pre14 : fI h 4 0=fI h 64 1) (pre15 : fI h 4 5=fI h 64 7) (pre16 : fI h 4 10=fI h 64 45) (pre17 : fI h 4 12=fI h 64 48) (pre18 : fI h 4 7=fI h 64 15) (pre19 : fI h 39 3=fI h 64 41) (pre20 : fI h 54 1=fI h 64 77) (pre21 : fI h 60 1=fI h 64 78) (i : Int) (hi : 0 ≤ i ∧ i + 6 ≤ (Ln : Int) ∧ (Ln : Int) ≤ 3072) (d : Nat) (hd : 90 ≤ d) (Q : Option Value → List mE → Prop) (hQ : ∀ (τ' : List Nat) (h' : List mE), (∃ ts : List Nat, τ' = τ ++ ts ∧ gsT ts = true) → TH Tr τ' h' → I1 τ' h' → I2 τ' h' → I3 h' → I4 h' → I6 h' → I8 h' → I9 h' → IA h' → IB h' → IC h' → ID h' → IE h' → fI h' 64 32≤fI h' 64 15+fI h' 64 33 → fI h' 6 3=fI h' 64 2 → fI h' 4 0=fI h' 64 1 → fI h' 4 5=fI h' 64 7 → fI h' 4 10=fI h' 64 45 → fI h' 4 12=fI h' 64 48 → fI h' 4 7=fI h' 64 15 → fI h' 39 3=fI h' 64 41 → fI h' 54 1=fI h' 64 77 → fI h' 60 1=fI h' 64 78 → MR (mex Ln xs) d 292 1864 [some (.ref 0), some (.ref 4), some (.ref 64), some (vI i)] [] h' Q) : MR (mex Ln xs) d 292 851 [some (.ref 0), some (.ref 4), some (.ref 64), some (vI i)] [] h Q := by
  have hF := Fr_rf τ WL h
  have hE := Ext_rf τ
  have e1 := fI_bd (q := 64) hT (tf hT rfl rfl) fd_8_32
  have e2 := fI_bd (q := 64) hT (tf hT rfl rfl) fd_8_15
  have e3 := fI_bd (q := 64) hT (tf hT rfl rfl) fd_8_33
  have e4 := fI_bd (q := 6) hT (tf hT rfl rfl) fd_2_3
  have e5 := fI_bd (q := 64) hT (tf hT rfl rfl) fd_8_2
  have e6 := fI_bd (q := 4) hT (tf hT rfl rfl) fd_1_0
  have e7 := fI_bd (q := 64) hT (tf hT rfl rfl) fd_8_1
  have e8 := fI_bd (q := 4) hT (tf hT rfl rfl) fd_1_5
  have e9 := fI_bd (q := 64) hT (tf hT rfl rfl) fd_8_7
  have e10 := fI_bd (q := 4) hT (tf hT rfl rfl) fd_1_10
  have e11 := fI_bd (q := 64) hT (tf hT rfl rfl) fd_8_45
  have e12 := fI_bd (q := 4) hT (tf hT rfl rfl) fd_1_12
  have e13 := fI_bd (q := 64) hT (tf hT rfl rfl) fd_8_48
  have e14 := fI_bd (q := 4) hT (tf hT rfl rfl) fd_1_7
  have e15 := fI_bd (q := 39) hT (tf hT rfl rfl) fd_3_3
  have e16 := fI_bd (q := 64) hT (tf hT rfl rfl) fd_8_41
  have e17 := fI_bd (q := 54) hT (tf hT rfl rfl) fd_6_1
  have e18 := fI_bd (q := 64) hT (tf hT rfl rfl) fd_8_77
  have e19 := fI_bd (q := 60) hT (tf hT rfl rfl) fd_7_1
  have e20 := fI_bd (q := 64) hT (tf hT rfl rfl) fd_8_78
  refine st_aload c292_851 rfl ?_
  refine st_aload c292_852 rfl ?_
  refine st_iload c292_853 rfl ?_
  refine st_iconst c292_854 ?_
  refine st_iadd c292_855 ?_
  refine st_sld c292_856 (by omega) (fun e21 e22 => ?_)
  refine st_aload c292_857 rfl ?_
  refine st_iload c292_858 rfl ?_
  refine st_iconst c292_859 ?_
  refine st_iadd c292_860 ?_
  refine st_sld c292_861 (by omega) (fun e23 e24 => ?_)
  have e25 := fI_bd (q := 6) hT (tf hT rfl rfl) fd_2_3
  have e26 := fI_bd (q := 4) hT (tf hT rfl rfl) fd_1_10
  refine st_callt (as := [vI (sv xs (i + 1)), vI (sv xs (i + 2))]) c292_862 cm_135 hT (tf hT rfl rfl) fd_1_0 rfl rfl rfl rfl (by omega) (K135 hT Stb_T (sv xs (i + 1)) (by omega) (sv xs (i + 2)) (by omega) (d - 1) (by omega) _ (fun v h0 H => H)) (fun v1 h27 H => ?_)
  obtain ⟨z31, rfl, b32, pf30, hT28, hF29⟩ := H
  have hF33 := Fr_cp hF hF29 (by decide +kernel : Wsub W135 WL = true)
  have e34 := fI_bd (q := 4) hT28 (tf hT28 rfl rfl) fd_1_10
  refine st_pop c292_865 rfl ?_
  refine st_aload c292_866 rfl ?_
  refine st_aload c292_867 rfl ?_
  refine st_iload c292_868 rfl ?_
  refine st_iconst c292_869 ?_
  refine st_iadd c292_870 ?_
  refine st_sld c292_871 (by omega) (fun e35 e36 => ?_)
  refine st_aload c292_872 rfl ?_
  refine st_iload c292_873 rfl ?_
  refine st_iconst c292_874 ?_
  refine st_iadd c292_875 ?_
  refine st_sld c292_876 (by omega) (fun e37 e38 => ?_)
  have e39 := fI_bd (q := 64) hT28 (tf hT28 rfl rfl) fd_8_2
  have q40 : fI h27 64 2 = fI h 64 2 := Fr_fI hF29 (tf hT rfl rfl) (by decide +kernel)
  have e41 := fI_bd (q := 64) hT28 (tf hT28 rfl rfl) fd_8_45
  have q42 : fI h27 64 45 = fI h 64 45 := Fr_fI hF29 (tf hT rfl rfl) (by decide +kernel)
  refine st_callt (as := [vI (sv xs (i + 1)), vI (sv xs (i + 2))]) c292_877 cm_217 hT28 (tf hT28 rfl rfl) fd_8_0 rfl rfl rfl rfl (by omega) (K217 hT28 Stb_T (sv xs (i + 1)) (by omega) (sv xs (i + 2)) (by omega) (d - 1) (by omega) _ (fun v h0 H => H)) (fun v1 h43 H => ?_)
  obtain ⟨z47, rfl, b48, pf46, hT44, hF45⟩ := H
  have hF49 := Fr_cp hF33 hF45 (by decide +kernel : Wsub W217 WL = true)
  have e50 := fI_bd (q := 64) hT44 (tf hT44 rfl rfl) fd_8_45
  refine st_pop c292_880 rfl ?_
  refine st_goto c292_881 ?_
  have e51 := fI_bd (q := 64) hT44 (tf hT44 rfl rfl) fd_8_32
  have q52 : fI h43 64 32 = fI h 64 32 := (Fr_fI hF45 (tf hT28 rfl rfl) (by decide +kernel)).trans (Fr_fI hF29 (tf hT rfl rfl) (by decide +kernel))
  have e53 := fI_bd (q := 64) hT44 (tf hT44 rfl rfl) fd_8_15
  have q54 : fI h43 64 15 = fI h 64 15 := (Fr_fI hF45 (tf hT28 rfl rfl) (by decide +kernel)).trans (Fr_fI hF29 (tf hT rfl rfl) (by decide +kernel))
  have e55 := fI_bd (q := 64) hT44 (tf hT44 rfl rfl) fd_8_33
  have q56 : fI h43 64 33 = fI h 64 33 := (Fr_fI hF45 (tf hT28 rfl rfl) (by decide +kernel)).trans (Fr_fI hF29 (tf hT rfl rfl) (by decide +kernel))
  have e57 := fI_bd (q := 6) hT44 (tf hT44 rfl rfl) fd_2_3
  have q58 : fI h43 6 3 = fI h 6 3 := (Fr_fI hF45 (tf hT28 rfl rfl) (by decide +kernel)).trans (Fr_fI hF29 (tf hT rfl rfl) (by decide +kernel))
  have e59 := fI_bd (q := 64) hT44 (tf hT44 rfl rfl) fd_8_2
  have q60 : fI h43 64 2 = fI h27 64 2 := Fr_fI hF45 (tf hT28 rfl rfl) (by decide +kernel)
  have e61 := fI_bd (q := 4) hT44 (tf hT44 rfl rfl) fd_1_0
  have q62 : fI h43 4 0 = fI h 4 0 := (Fr_fI hF45 (tf hT28 rfl rfl) (by decide +kernel)).trans (Fr_fI hF29 (tf hT rfl rfl) (by decide +kernel))
  have e63 := fI_bd (q := 64) hT44 (tf hT44 rfl rfl) fd_8_1
  have q64 : fI h43 64 1 = fI h 64 1 := (Fr_fI hF45 (tf hT28 rfl rfl) (by decide +kernel)).trans (Fr_fI hF29 (tf hT rfl rfl) (by decide +kernel))
  have e65 := fI_bd (q := 4) hT44 (tf hT44 rfl rfl) fd_1_5
  have q66 : fI h43 4 5 = fI h 4 5 := (Fr_fI hF45 (tf hT28 rfl rfl) (by decide +kernel)).trans (Fr_fI hF29 (tf hT rfl rfl) (by decide +kernel))
  have e67 := fI_bd (q := 64) hT44 (tf hT44 rfl rfl) fd_8_7
  have q68 : fI h43 64 7 = fI h 64 7 := (Fr_fI hF45 (tf hT28 rfl rfl) (by decide +kernel)).trans (Fr_fI hF29 (tf hT rfl rfl) (by decide +kernel))
  have e69 := fI_bd (q := 4) hT44 (tf hT44 rfl rfl) fd_1_10
  have q70 : fI h43 4 10 = fI h27 4 10 := Fr_fI hF45 (tf hT28 rfl rfl) (by decide +kernel)
  have e71 := fI_bd (q := 4) hT44 (tf hT44 rfl rfl) fd_1_12
  have q72 : fI h43 4 12 = fI h 4 12 := (Fr_fI hF45 (tf hT28 rfl rfl) (by decide +kernel)).trans (Fr_fI hF29 (tf hT rfl rfl) (by decide +kernel))
  have e73 := fI_bd (q := 64) hT44 (tf hT44 rfl rfl) fd_8_48
  have q74 : fI h43 64 48 = fI h 64 48 := (Fr_fI hF45 (tf hT28 rfl rfl) (by decide +kernel)).trans (Fr_fI hF29 (tf hT rfl rfl) (by decide +kernel))
  have e75 := fI_bd (q := 4) hT44 (tf hT44 rfl rfl) fd_1_7
  have q76 : fI h43 4 7 = fI h 4 7 := (Fr_fI hF45 (tf hT28 rfl rfl) (by decide +kernel)).trans (Fr_fI hF29 (tf hT rfl rfl) (by decide +kernel))
  have e77 := fI_bd (q := 39) hT44 (tf hT44 rfl rfl) fd_3_3
  have q78 : fI h43 39 3 = fI h 39 3 := (Fr_fI hF45 (tf hT28 rfl rfl) (by decide +kernel)).trans (Fr_fI hF29 (tf hT rfl rfl) (by decide +kernel))
  have e79 := fI_bd (q := 64) hT44 (tf hT44 rfl rfl) fd_8_41
  have q80 : fI h43 64 41 = fI h 64 41 := (Fr_fI hF45 (tf hT28 rfl rfl) (by decide +kernel)).trans (Fr_fI hF29 (tf hT rfl rfl) (by decide +kernel))
  have e81 := fI_bd (q := 54) hT44 (tf hT44 rfl rfl) fd_6_1
  have q82 : fI h43 54 1 = fI h 54 1 := (Fr_fI hF45 (tf hT28 rfl rfl) (by decide +kernel)).trans (Fr_fI hF29 (tf hT rfl rfl) (by decide +kernel))
  have e83 := fI_bd (q := 64) hT44 (tf hT44 rfl rfl) fd_8_77
  have q84 : fI h43 64 77 = fI h 64 77 := (Fr_fI hF45 (tf hT28 rfl rfl) (by decide +kernel)).trans (Fr_fI hF29 (tf hT rfl rfl) (by decide +kernel))
  have e85 := fI_bd (q := 60) hT44 (tf hT44 rfl rfl) fd_7_1
  have q86 : fI h43 60 1 = fI h 60 1 := (Fr_fI hF45 (tf hT28 rfl rfl) (by decide +kernel)).trans (Fr_fI hF29 (tf hT rfl rfl) (by decide +kernel))
  have e87 := fI_bd (q := 64) hT44 (tf hT44 rfl rfl) fd_8_78
  have q88 : fI h43 64 78 = fI h 64 78 := (Fr_fI hF45 (tf hT28 rfl rfl) (by decide +kernel)).trans (Fr_fI hF29 (tf hT rfl rfl) (by decide +kernel))
  exact hQ _ _ ⟨[], (List.append_nil τ).symm, rfl⟩ hT44 (I1_fr (I1_fr pre0 hT hF29 (by decide +kernel)) hT28 hF45 (by decide +kernel)) (I2_fr (I2_fr pre1 hF29 (by decide +kernel)) hF45 (by decide +kernel)) (I3_fr (I3_fr pre2 hT hF29 (by decide +kernel)) hT28 hF45 (by decide +kernel)) (I4_fr (I4_fr pre3 hT hF29 (by decide +kernel)) hT28 hF45 (by decide +kernel)) (I6_fr (I6_fr pre4 hT hF29 (by decide +kernel)) hT28 hF45 (by decide +kernel)) (I8_fr (I8_fr pre5 hT hF29 (by decide +kernel)) hT28 hF45 (by decide +kernel)) (I9_fr (I9_fr pre6 hT hF29 (by decide +kernel)) hT28 hF45 (by decide +kernel)) (IA_fr (IA_fr pre7 hT hF29 (by decide +kernel)) hT28 hF45 (by decide +kernel)) (IB_fr (IB_fr pre8 hT hF29 (by decide +kernel)) hT28 hF45 (by decide +kernel)) (IC_fr (IC_fr pre9 hT hF29 (by decide +kernel)) hT28 hF45 (by decide +kernel)) (ID_fr (ID_fr pre10 hT hF29 (by decide +kernel)) hT28 hF45 (by decide +kernel)) (IE_fr (IE_fr pre11 hT hF29 (by decide +kernel)) hT28 hF45 (by decide +kernel)) (by omega) (by omega) (by omega) (by omega) (by omega) (by omega) (by omega) (by omega) (by omega) (by omega)
set_option maxHeartbeats 0 in
theorem LC_18 {Ln : Nat} {xs : Nat → Int32} {τ : List Nat} {h : List mE} (hT : TH Tr τ h) (pre0 : I1 τ h) (pre1 : I2 τ h) (pre2 : I3 h) (pre3 : I4 h) (pre4 : I6 h) (pre5 : I8 h) (pre6 : I9 h) (pre7 : IA h) (pre8 : IB h) (pre9 : IC h) (pre10 : ID h) (pre11 : IE h) (pre12 : fI h 64 32≤fI h 64 15+fI h 64 33) (pre13 : fI h 6 3=fI h 64 2) (pre14 : fI h 4 0=fI h 64 1) (pre15 : fI h 4 5=fI h 64 7) (pre16 : fI h 4 10=fI h 64 45) (pre17 : fI h 4 12=fI h 64 48) (pre18 : fI h 4 7=fI h 64 15) (pre19 : fI h 39 3=fI h 64 41) (pre20 : fI h 54 1=fI h 64 77) (pre21 : fI h 60 1=fI h 64 78) (i : Int) (hi : 0 ≤ i ∧ i + 6 ≤ (Ln : Int) ∧ (Ln : Int) ≤ 3072) (d : Nat) (hd : 90 ≤ d) (Q : Option Value → List mE → Prop) (hQ : ∀ (τ' : List Nat) (h' : List mE), (∃ ts : List Nat, τ' = τ ++ ts ∧ gsT ts = true) → TH Tr τ' h' → I1 τ' h' → I2 τ' h' → I3 h' → I4 h' → I6 h' → I8 h' → I9 h' → IA h' → IB h' → IC h' → ID h' → IE h' → fI h' 64 32≤fI h' 64 15+fI h' 64 33 → fI h' 6 3=fI h' 64 2 → fI h' 4 0=fI h' 64 1 → fI h' 4 5=fI h' 64 7 → fI h' 4 10=fI h' 64 45 → fI h' 4 12=fI h' 64 48 → fI h' 4 7=fI h' 64 15 → fI h' 39 3=fI h' 64 41 → fI h' 54 1=fI h' 64 77 → fI h' 60 1=fI h' 64 78 → MR (mex Ln xs) d 292 1864 [some (.ref 0), some (.ref 4), some (.ref 64), some (vI i)] [] h' Q) : MR (mex Ln xs) d 292 884 [some (.ref 0), some (.ref 4), some (.ref 64), some (vI i)] [] h Q := by
  have hF := Fr_rf τ WL h
  have hE := Ext_rf τ
  have e1 := fI_bd (q := 64) hT (tf hT rfl rfl) fd_8_32
  have e2 := fI_bd (q := 64) hT (tf hT rfl rfl) fd_8_15
  have e3 := fI_bd (q := 64) hT (tf hT rfl rfl) fd_8_33
  have e4 := fI_bd (q := 6) hT (tf hT rfl rfl) fd_2_3
  have e5 := fI_bd (q := 64) hT (tf hT rfl rfl) fd_8_2
  have e6 := fI_bd (q := 4) hT (tf hT rfl rfl) fd_1_0
  have e7 := fI_bd (q := 64) hT (tf hT rfl rfl) fd_8_1
  have e8 := fI_bd (q := 4) hT (tf hT rfl rfl) fd_1_5
  have e9 := fI_bd (q := 64) hT (tf hT rfl rfl) fd_8_7
  have e10 := fI_bd (q := 4) hT (tf hT rfl rfl) fd_1_10
  have e11 := fI_bd (q := 64) hT (tf hT rfl rfl) fd_8_45
  have e12 := fI_bd (q := 4) hT (tf hT rfl rfl) fd_1_12
  have e13 := fI_bd (q := 64) hT (tf hT rfl rfl) fd_8_48
  have e14 := fI_bd (q := 4) hT (tf hT rfl rfl) fd_1_7
  have e15 := fI_bd (q := 39) hT (tf hT rfl rfl) fd_3_3
  have e16 := fI_bd (q := 64) hT (tf hT rfl rfl) fd_8_41
  have e17 := fI_bd (q := 54) hT (tf hT rfl rfl) fd_6_1
  have e18 := fI_bd (q := 64) hT (tf hT rfl rfl) fd_8_77
  have e19 := fI_bd (q := 60) hT (tf hT rfl rfl) fd_7_1
  have e20 := fI_bd (q := 64) hT (tf hT rfl rfl) fd_8_78
  refine st_aload c292_884 rfl ?_
  refine st_aload c292_885 rfl ?_
  refine st_iload c292_886 rfl ?_
  refine st_iconst c292_887 ?_
  refine st_iadd c292_888 ?_
  refine st_sld c292_889 (by omega) (fun e21 e22 => ?_)
  refine st_aload c292_890 rfl ?_
  refine st_iload c292_891 rfl ?_
  refine st_iconst c292_892 ?_
  refine st_iadd c292_893 ?_
  refine st_sld c292_894 (by omega) (fun e23 e24 => ?_)
  refine st_aload c292_895 rfl ?_
  refine st_iload c292_896 rfl ?_
  refine st_iconst c292_897 ?_
  refine st_iadd c292_898 ?_
  refine st_sld c292_899 (by omega) (fun e25 e26 => ?_)
  refine st_aload c292_900 rfl ?_
  refine st_iload c292_901 rfl ?_
  refine st_iconst c292_902 ?_
  refine st_iadd c292_903 ?_
  refine st_sld c292_904 (by omega) (fun e27 e28 => ?_)
  refine st_aload c292_905 rfl ?_
  refine st_iload c292_906 rfl ?_
  refine st_iconst c292_907 ?_
  refine st_iadd c292_908 ?_
  refine st_sld c292_909 (by omega) (fun e29 e30 => ?_)
  have e31 := fI_bd (q := 4) hT (tf hT rfl rfl) fd_1_10
  have e32 := fI_bd (q := 4) hT (tf hT rfl rfl) fd_1_5
  have e33 := fI_bd (q := 4) hT (tf hT rfl rfl) fd_1_0
  have e34 := fI_bd (q := 4) hT (tf hT rfl rfl) fd_1_12
  refine st_callt (as := [vI (sv xs (i + 1)), vI (sv xs (i + 2)), vI (sv xs (i + 3)), vI (sv xs (i + 4)), vI (sv xs (i + 5))]) c292_910 cm_136 hT (tf hT rfl rfl) fd_1_0 rfl rfl rfl rfl (by omega) (K136 hT (sv xs (i + 1)) (by omega) (sv xs (i + 2)) (by omega) (sv xs (i + 3)) (by omega) (sv xs (i + 4)) (by omega) (sv xs (i + 5)) (by omega) pre0 pre1 pre5 (d - 1) (by omega) _ (fun v h0 H => H)) (fun v1 h35 H => ?_)
  obtain ⟨z39, rfl, b40, pf43, pf44, τ', ⟨ts, rfl, hg⟩, hT36, hF37, ix41, ix42⟩ := H
  have hF38 := Fr_cp hF hF37 (by decide +kernel : Wsub W136 WL = true)
  have hE := Ext_app (τ := τ) (ts := ts)
  have e45 := fI_bd (q := 4) hT36 (tf hT36 rfl rfl) fd_1_12
  refine st_pop c292_913 rfl ?_
  refine st_aload c292_914 rfl ?_
  refine st_aload c292_915 rfl ?_
  refine st_iload c292_916 rfl ?_
  refine st_iconst c292_917 ?_
  refine st_iadd c292_918 ?_
  refine st_sld c292_919 (by omega) (fun e46 e47 => ?_)
  refine st_aload c292_920 rfl ?_
  refine st_iload c292_921 rfl ?_
  refine st_iconst c292_922 ?_
  refine st_iadd c292_923 ?_
  refine st_sld c292_924 (by omega) (fun e48 e49 => ?_)
  refine st_aload c292_925 rfl ?_
  refine st_iload c292_926 rfl ?_
  refine st_iconst c292_927 ?_
  refine st_iadd c292_928 ?_
  refine st_sld c292_929 (by omega) (fun e50 e51 => ?_)
  refine st_aload c292_930 rfl ?_
  refine st_iload c292_931 rfl ?_
  refine st_iconst c292_932 ?_
  refine st_iadd c292_933 ?_
  refine st_sld c292_934 (by omega) (fun e52 e53 => ?_)
  refine st_aload c292_935 rfl ?_
  refine st_iload c292_936 rfl ?_
  refine st_iconst c292_937 ?_
  refine st_iadd c292_938 ?_
  refine st_sld c292_939 (by omega) (fun e54 e55 => ?_)
  have e56 := fI_bd (q := 64) hT36 (tf hT36 rfl rfl) fd_8_45
  have q57 : fI h35 64 45 = fI h 64 45 := Fr_fI hF37 (tf hT rfl rfl) (by decide +kernel)
  have e58 := fI_bd (q := 64) hT36 (tf hT36 rfl rfl) fd_8_7
  have q59 : fI h35 64 7 = fI h 64 7 := Fr_fI hF37 (tf hT rfl rfl) (by decide +kernel)
  have e60 := fI_bd (q := 64) hT36 (tf hT36 rfl rfl) fd_8_1
  have q61 : fI h35 64 1 = fI h 64 1 := Fr_fI hF37 (tf hT rfl rfl) (by decide +kernel)
  have e62 := fI_bd (q := 64) hT36 (tf hT36 rfl rfl) fd_8_48
  have q63 : fI h35 64 48 = fI h 64 48 := Fr_fI hF37 (tf hT rfl rfl) (by decide +kernel)
  refine st_callt (as := [vI (sv xs (i + 1)), vI (sv xs (i + 2)), vI (sv xs (i + 3)), vI (sv xs (i + 4)), vI (sv xs (i + 5))]) c292_940 cm_218 hT36 (tf hT36 rfl rfl) fd_8_0 rfl rfl rfl rfl (by omega) (K218 hT36 Stb_T (sv xs (i + 1)) (by omega) (sv xs (i + 2)) (by omega) (sv xs (i + 3)) (by omega) (sv xs (i + 4)) (by omega) (sv xs (i + 5)) (by omega) (I3_fr pre2 hT hF37 (by decide +kernel)) (I6_fr pre4 hT hF37 (by decide +kernel)) (d - 1) (by omega) _ (fun v h0 H => H)) (fun v1 h64 H => ?_)
  obtain ⟨z70, rfl, b71, pf67, pf68, pf69, hT65, hF66⟩ := H
  have hF72 := Fr_cp hF38 (Fr_dn hE hF66) (by decide +kernel : Wsub W218 WL = true)
  have e73 := fI_bd (q := 64) hT65 (tf hT65 rfl rfl) fd_8_48
  refine st_pop c292_943 rfl ?_
  refine st_goto c292_944 ?_
  have e74 := fI_bd (q := 64) hT65 (tf hT65 rfl rfl) fd_8_32
  have q75 : fI h64 64 32 = fI h 64 32 := (Fr_fI hF66 (tf hT36 rfl rfl) (by decide +kernel)).trans (Fr_fI hF37 (tf hT rfl rfl) (by decide +kernel))
  have e76 := fI_bd (q := 64) hT65 (tf hT65 rfl rfl) fd_8_15
  have q77 : fI h64 64 15 = fI h 64 15 := (Fr_fI hF66 (tf hT36 rfl rfl) (by decide +kernel)).trans (Fr_fI hF37 (tf hT rfl rfl) (by decide +kernel))
  have e78 := fI_bd (q := 64) hT65 (tf hT65 rfl rfl) fd_8_33
  have q79 : fI h64 64 33 = fI h 64 33 := (Fr_fI hF66 (tf hT36 rfl rfl) (by decide +kernel)).trans (Fr_fI hF37 (tf hT rfl rfl) (by decide +kernel))
  have e80 := fI_bd (q := 6) hT65 (tf hT65 rfl rfl) fd_2_3
  have q81 : fI h64 6 3 = fI h 6 3 := (Fr_fI hF66 (tf hT36 rfl rfl) (by decide +kernel)).trans (Fr_fI hF37 (tf hT rfl rfl) (by decide +kernel))
  have e82 := fI_bd (q := 64) hT65 (tf hT65 rfl rfl) fd_8_2
  have q83 : fI h64 64 2 = fI h 64 2 := (Fr_fI hF66 (tf hT36 rfl rfl) (by decide +kernel)).trans (Fr_fI hF37 (tf hT rfl rfl) (by decide +kernel))
  have e84 := fI_bd (q := 4) hT65 (tf hT65 rfl rfl) fd_1_0
  have q85 : fI h64 4 0 = fI h 4 0 := (Fr_fI hF66 (tf hT36 rfl rfl) (by decide +kernel)).trans (Fr_fI hF37 (tf hT rfl rfl) (by decide +kernel))
  have e86 := fI_bd (q := 64) hT65 (tf hT65 rfl rfl) fd_8_1
  have q87 : fI h64 64 1 = fI h35 64 1 := Fr_fI hF66 (tf hT36 rfl rfl) (by decide +kernel)
  have e88 := fI_bd (q := 4) hT65 (tf hT65 rfl rfl) fd_1_5
  have q89 : fI h64 4 5 = fI h 4 5 := (Fr_fI hF66 (tf hT36 rfl rfl) (by decide +kernel)).trans (Fr_fI hF37 (tf hT rfl rfl) (by decide +kernel))
  have e90 := fI_bd (q := 64) hT65 (tf hT65 rfl rfl) fd_8_7
  have q91 : fI h64 64 7 = fI h35 64 7 := Fr_fI hF66 (tf hT36 rfl rfl) (by decide +kernel)
  have e92 := fI_bd (q := 4) hT65 (tf hT65 rfl rfl) fd_1_10
  have q93 : fI h64 4 10 = fI h 4 10 := (Fr_fI hF66 (tf hT36 rfl rfl) (by decide +kernel)).trans (Fr_fI hF37 (tf hT rfl rfl) (by decide +kernel))
  have e94 := fI_bd (q := 64) hT65 (tf hT65 rfl rfl) fd_8_45
  have q95 : fI h64 64 45 = fI h35 64 45 := Fr_fI hF66 (tf hT36 rfl rfl) (by decide +kernel)
  have e96 := fI_bd (q := 4) hT65 (tf hT65 rfl rfl) fd_1_12
  have q97 : fI h64 4 12 = fI h35 4 12 := Fr_fI hF66 (tf hT36 rfl rfl) (by decide +kernel)
  have e98 := fI_bd (q := 4) hT65 (tf hT65 rfl rfl) fd_1_7
  have q99 : fI h64 4 7 = fI h 4 7 := (Fr_fI hF66 (tf hT36 rfl rfl) (by decide +kernel)).trans (Fr_fI hF37 (tf hT rfl rfl) (by decide +kernel))
  have e100 := fI_bd (q := 39) hT65 (tf hT65 rfl rfl) fd_3_3
  have q101 : fI h64 39 3 = fI h 39 3 := (Fr_fI hF66 (tf hT36 rfl rfl) (by decide +kernel)).trans (Fr_fI hF37 (tf hT rfl rfl) (by decide +kernel))
  have e102 := fI_bd (q := 64) hT65 (tf hT65 rfl rfl) fd_8_41
  have q103 : fI h64 64 41 = fI h 64 41 := (Fr_fI hF66 (tf hT36 rfl rfl) (by decide +kernel)).trans (Fr_fI hF37 (tf hT rfl rfl) (by decide +kernel))
  have e104 := fI_bd (q := 54) hT65 (tf hT65 rfl rfl) fd_6_1
  have q105 : fI h64 54 1 = fI h 54 1 := (Fr_fI hF66 (tf hT36 rfl rfl) (by decide +kernel)).trans (Fr_fI hF37 (tf hT rfl rfl) (by decide +kernel))
  have e106 := fI_bd (q := 64) hT65 (tf hT65 rfl rfl) fd_8_77
  have q107 : fI h64 64 77 = fI h 64 77 := (Fr_fI hF66 (tf hT36 rfl rfl) (by decide +kernel)).trans (Fr_fI hF37 (tf hT rfl rfl) (by decide +kernel))
  have e108 := fI_bd (q := 60) hT65 (tf hT65 rfl rfl) fd_7_1
  have q109 : fI h64 60 1 = fI h 60 1 := (Fr_fI hF66 (tf hT36 rfl rfl) (by decide +kernel)).trans (Fr_fI hF37 (tf hT rfl rfl) (by decide +kernel))
  have e110 := fI_bd (q := 64) hT65 (tf hT65 rfl rfl) fd_8_78
  have q111 : fI h64 64 78 = fI h 64 78 := (Fr_fI hF66 (tf hT36 rfl rfl) (by decide +kernel)).trans (Fr_fI hF37 (tf hT rfl rfl) (by decide +kernel))
  exact hQ _ _ ⟨ts, rfl, hg⟩ hT65 (I1_fr ix41 hT36 hF66 (by decide +kernel)) (I2_fr ix42 hF66 (by decide +kernel)) pf67 (I4_fr (I4_fr pre3 hT hF37 (by decide +kernel)) hT36 hF66 (by decide +kernel)) pf68 (I8_fr pf43 hT36 hF66 (by decide +kernel)) (I9_fr (I9_fr pre6 hT hF37 (by decide +kernel)) hT36 hF66 (by decide +kernel)) (IA_fr (IA_fr pre7 hT hF37 (by decide +kernel)) hT36 hF66 (by decide +kernel)) (IB_fr (IB_fr pre8 hT hF37 (by decide +kernel)) hT36 hF66 (by decide +kernel)) (IC_fr (IC_fr pre9 hT hF37 (by decide +kernel)) hT36 hF66 (by decide +kernel)) (ID_fr (ID_fr pre10 hT hF37 (by decide +kernel)) hT36 hF66 (by decide +kernel)) (IE_fr (IE_fr pre11 hT hF37 (by decide +kernel)) hT36 hF66 (by decide +kernel)) (by omega) (by omega) (by omega) (by omega) (by omega) (by omega) (by omega) (by omega) (by omega) (by omega)
set_option maxHeartbeats 0 in
theorem LC_19 {Ln : Nat} {xs : Nat → Int32} {τ : List Nat} {h : List mE} (hT : TH Tr τ h) (pre0 : I1 τ h) (pre1 : I2 τ h) (pre2 : I3 h) (pre3 : I4 h) (pre4 : I6 h) (pre5 : I8 h) (pre6 : I9 h) (pre7 : IA h) (pre8 : IB h) (pre9 : IC h) (pre10 : ID h) (pre11 : IE h) (pre12 : fI h 64 32≤fI h 64 15+fI h 64 33) (pre13 : fI h 6 3=fI h 64 2) (pre14 : fI h 4 0=fI h 64 1) (pre15 : fI h 4 5=fI h 64 7) (pre16 : fI h 4 10=fI h 64 45) (pre17 : fI h 4 12=fI h 64 48) (pre18 : fI h 4 7=fI h 64 15) (pre19 : fI h 39 3=fI h 64 41) (pre20 : fI h 54 1=fI h 64 77) (pre21 : fI h 60 1=fI h 64 78) (i : Int) (hi : 0 ≤ i ∧ i + 6 ≤ (Ln : Int) ∧ (Ln : Int) ≤ 3072) (d : Nat) (hd : 90 ≤ d) (Q : Option Value → List mE → Prop) (hQ : ∀ (τ' : List Nat) (h' : List mE), (∃ ts : List Nat, τ' = τ ++ ts ∧ gsT ts = true) → TH Tr τ' h' → I1 τ' h' → I2 τ' h' → I3 h' → I4 h' → I6 h' → I8 h' → I9 h' → IA h' → IB h' → IC h' → ID h' → IE h' → fI h' 64 32≤fI h' 64 15+fI h' 64 33 → fI h' 6 3=fI h' 64 2 → fI h' 4 0=fI h' 64 1 → fI h' 4 5=fI h' 64 7 → fI h' 4 10=fI h' 64 45 → fI h' 4 12=fI h' 64 48 → fI h' 4 7=fI h' 64 15 → fI h' 39 3=fI h' 64 41 → fI h' 54 1=fI h' 64 77 → fI h' 60 1=fI h' 64 78 → MR (mex Ln xs) d 292 1864 [some (.ref 0), some (.ref 4), some (.ref 64), some (vI i)] [] h' Q) : MR (mex Ln xs) d 292 947 [some (.ref 0), some (.ref 4), some (.ref 64), some (vI i)] [] h Q := by
  have hF := Fr_rf τ WL h
  have hE := Ext_rf τ
  have e1 := fI_bd (q := 64) hT (tf hT rfl rfl) fd_8_32
  have e2 := fI_bd (q := 64) hT (tf hT rfl rfl) fd_8_15
  have e3 := fI_bd (q := 64) hT (tf hT rfl rfl) fd_8_33
  have e4 := fI_bd (q := 6) hT (tf hT rfl rfl) fd_2_3
  have e5 := fI_bd (q := 64) hT (tf hT rfl rfl) fd_8_2
  have e6 := fI_bd (q := 4) hT (tf hT rfl rfl) fd_1_0
  have e7 := fI_bd (q := 64) hT (tf hT rfl rfl) fd_8_1
  have e8 := fI_bd (q := 4) hT (tf hT rfl rfl) fd_1_5
  have e9 := fI_bd (q := 64) hT (tf hT rfl rfl) fd_8_7
  have e10 := fI_bd (q := 4) hT (tf hT rfl rfl) fd_1_10
  have e11 := fI_bd (q := 64) hT (tf hT rfl rfl) fd_8_45
  have e12 := fI_bd (q := 4) hT (tf hT rfl rfl) fd_1_12
  have e13 := fI_bd (q := 64) hT (tf hT rfl rfl) fd_8_48
  have e14 := fI_bd (q := 4) hT (tf hT rfl rfl) fd_1_7
  have e15 := fI_bd (q := 39) hT (tf hT rfl rfl) fd_3_3
  have e16 := fI_bd (q := 64) hT (tf hT rfl rfl) fd_8_41
  have e17 := fI_bd (q := 54) hT (tf hT rfl rfl) fd_6_1
  have e18 := fI_bd (q := 64) hT (tf hT rfl rfl) fd_8_77
  have e19 := fI_bd (q := 60) hT (tf hT rfl rfl) fd_7_1
  have e20 := fI_bd (q := 64) hT (tf hT rfl rfl) fd_8_78
  refine st_aload c292_947 rfl ?_
  refine st_aload c292_948 rfl ?_
  refine st_iload c292_949 rfl ?_
  refine st_iconst c292_950 ?_
  refine st_iadd c292_951 ?_
  refine st_sld c292_952 (by omega) (fun e21 e22 => ?_)
  refine st_aload c292_953 rfl ?_
  refine st_iload c292_954 rfl ?_
  refine st_iconst c292_955 ?_
  refine st_iadd c292_956 ?_
  refine st_sld c292_957 (by omega) (fun e23 e24 => ?_)
  refine st_callt (as := [vI (sv xs (i + 1)), vI (sv xs (i + 2))]) c292_958 cm_137 hT (tf hT rfl rfl) fd_1_0 rfl rfl rfl rfl (by omega) (K137 hT (sv xs (i + 1)) (by omega) (sv xs (i + 2)) (by omega) pre0 pre5 (d - 1) (by omega) _ (fun v h0 H => H)) (fun v1 h1 H => ?_)
  obtain ⟨z25, rfl, b26, rfl⟩ := H
  refine st_pop c292_961 rfl ?_
  refine st_aload c292_962 rfl ?_
  refine st_aload c292_963 rfl ?_
  refine st_iload c292_964 rfl ?_
  refine st_iconst c292_965 ?_
  refine st_iadd c292_966 ?_
  refine st_sld c292_967 (by omega) (fun e27 e28 => ?_)
  refine st_aload c292_968 rfl ?_
  refine st_iload c292_969 rfl ?_
  refine st_iconst c292_970 ?_
  refine st_iadd c292_971 ?_
  refine st_sld c292_972 (by omega) (fun e29 e30 => ?_)
  refine st_callt (as := [vI (sv xs (i + 1)), vI (sv xs (i + 2))]) c292_973 cm_221 hT (tf hT rfl rfl) fd_8_0 rfl rfl rfl rfl (by omega) (K221 hT (sv xs (i + 1)) (by omega) (sv xs (i + 2)) (by omega) (d - 1) (by omega) _ (fun v h0 H => H)) (fun v1 h1 H => ?_)
  obtain ⟨z31, rfl, b32, rfl⟩ := H
  refine st_pop c292_976 rfl ?_
  refine st_goto c292_977 ?_
  have e33 := fI_bd (q := 64) hT (tf hT rfl rfl) fd_8_32
  have e34 := fI_bd (q := 64) hT (tf hT rfl rfl) fd_8_15
  have e35 := fI_bd (q := 64) hT (tf hT rfl rfl) fd_8_33
  have e36 := fI_bd (q := 6) hT (tf hT rfl rfl) fd_2_3
  have e37 := fI_bd (q := 64) hT (tf hT rfl rfl) fd_8_2
  have e38 := fI_bd (q := 4) hT (tf hT rfl rfl) fd_1_0
  have e39 := fI_bd (q := 64) hT (tf hT rfl rfl) fd_8_1
  have e40 := fI_bd (q := 4) hT (tf hT rfl rfl) fd_1_5
  have e41 := fI_bd (q := 64) hT (tf hT rfl rfl) fd_8_7
  have e42 := fI_bd (q := 4) hT (tf hT rfl rfl) fd_1_10
  have e43 := fI_bd (q := 64) hT (tf hT rfl rfl) fd_8_45
  have e44 := fI_bd (q := 4) hT (tf hT rfl rfl) fd_1_12
  have e45 := fI_bd (q := 64) hT (tf hT rfl rfl) fd_8_48
  have e46 := fI_bd (q := 4) hT (tf hT rfl rfl) fd_1_7
  have e47 := fI_bd (q := 39) hT (tf hT rfl rfl) fd_3_3
  have e48 := fI_bd (q := 64) hT (tf hT rfl rfl) fd_8_41
  have e49 := fI_bd (q := 54) hT (tf hT rfl rfl) fd_6_1
  have e50 := fI_bd (q := 64) hT (tf hT rfl rfl) fd_8_77
  have e51 := fI_bd (q := 60) hT (tf hT rfl rfl) fd_7_1
  have e52 := fI_bd (q := 64) hT (tf hT rfl rfl) fd_8_78
  exact hQ _ _ ⟨[], (List.append_nil τ).symm, rfl⟩ hT pre0 pre1 pre2 pre3 pre4 pre5 pre6 pre7 pre8 pre9 pre10 pre11 (by omega) (by omega) (by omega) (by omega) (by omega) (by omega) (by omega) (by omega) (by omega) (by omega)
set_option maxHeartbeats 0 in
theorem LC_20 {Ln : Nat} {xs : Nat → Int32} {τ : List Nat} {h : List mE} (hT : TH Tr τ h) (pre0 : I1 τ h) (pre1 : I2 τ h) (pre2 : I3 h) (pre3 : I4 h) (pre4 : I6 h) (pre5 : I8 h) (pre6 : I9 h) (pre7 : IA h) (pre8 : IB h) (pre9 : IC h) (pre10 : ID h) (pre11 : IE h) (pre12 : fI h 64 32≤fI h 64 15+fI h 64 33) (pre13 : fI h 6 3=fI h 64 2) (pre14 : fI h 4 0=fI h 64 1) (pre15 : fI h 4 5=fI h 64 7) (pre16 : fI h 4 10=fI h 64 45) (pre17 : fI h 4 12=fI h 64 48) (pre18 : fI h 4 7=fI h 64 15) (pre19 : fI h 39 3=fI h 64 41) (pre20 : fI h 54 1=fI h 64 77) (pre21 : fI h 60 1=fI h 64 78) (i : Int) (hi : 0 ≤ i ∧ i + 6 ≤ (Ln : Int) ∧ (Ln : Int) ≤ 3072) (d : Nat) (hd : 90 ≤ d) (Q : Option Value → List mE → Prop) (hQ : ∀ (τ' : List Nat) (h' : List mE), (∃ ts : List Nat, τ' = τ ++ ts ∧ gsT ts = true) → TH Tr τ' h' → I1 τ' h' → I2 τ' h' → I3 h' → I4 h' → I6 h' → I8 h' → I9 h' → IA h' → IB h' → IC h' → ID h' → IE h' → fI h' 64 32≤fI h' 64 15+fI h' 64 33 → fI h' 6 3=fI h' 64 2 → fI h' 4 0=fI h' 64 1 → fI h' 4 5=fI h' 64 7 → fI h' 4 10=fI h' 64 45 → fI h' 4 12=fI h' 64 48 → fI h' 4 7=fI h' 64 15 → fI h' 39 3=fI h' 64 41 → fI h' 54 1=fI h' 64 77 → fI h' 60 1=fI h' 64 78 → MR (mex Ln xs) d 292 1864 [some (.ref 0), some (.ref 4), some (.ref 64), some (vI i)] [] h' Q) : MR (mex Ln xs) d 292 980 [some (.ref 0), some (.ref 4), some (.ref 64), some (vI i)] [] h Q := by
  have hF := Fr_rf τ WL h
  have hE := Ext_rf τ
  have e1 := fI_bd (q := 64) hT (tf hT rfl rfl) fd_8_32
  have e2 := fI_bd (q := 64) hT (tf hT rfl rfl) fd_8_15
  have e3 := fI_bd (q := 64) hT (tf hT rfl rfl) fd_8_33
  have e4 := fI_bd (q := 6) hT (tf hT rfl rfl) fd_2_3
  have e5 := fI_bd (q := 64) hT (tf hT rfl rfl) fd_8_2
  have e6 := fI_bd (q := 4) hT (tf hT rfl rfl) fd_1_0
  have e7 := fI_bd (q := 64) hT (tf hT rfl rfl) fd_8_1
  have e8 := fI_bd (q := 4) hT (tf hT rfl rfl) fd_1_5
  have e9 := fI_bd (q := 64) hT (tf hT rfl rfl) fd_8_7
  have e10 := fI_bd (q := 4) hT (tf hT rfl rfl) fd_1_10
  have e11 := fI_bd (q := 64) hT (tf hT rfl rfl) fd_8_45
  have e12 := fI_bd (q := 4) hT (tf hT rfl rfl) fd_1_12
  have e13 := fI_bd (q := 64) hT (tf hT rfl rfl) fd_8_48
  have e14 := fI_bd (q := 4) hT (tf hT rfl rfl) fd_1_7
  have e15 := fI_bd (q := 39) hT (tf hT rfl rfl) fd_3_3
  have e16 := fI_bd (q := 64) hT (tf hT rfl rfl) fd_8_41
  have e17 := fI_bd (q := 54) hT (tf hT rfl rfl) fd_6_1
  have e18 := fI_bd (q := 64) hT (tf hT rfl rfl) fd_8_77
  have e19 := fI_bd (q := 60) hT (tf hT rfl rfl) fd_7_1
  have e20 := fI_bd (q := 64) hT (tf hT rfl rfl) fd_8_78
  refine st_aload c292_980 rfl ?_
  refine st_aload c292_981 rfl ?_
  refine st_iload c292_982 rfl ?_
  refine st_iconst c292_983 ?_
  refine st_iadd c292_984 ?_
  refine st_sld c292_985 (by omega) (fun e21 e22 => ?_)
  refine st_callt (as := [vI (sv xs (i + 1))]) c292_986 cm_138 hT (tf hT rfl rfl) fd_1_0 rfl rfl rfl rfl (by omega) (K138 hT Stb_T (sv xs (i + 1)) (by omega) pre5 (d - 1) (by omega) _ (fun v h0 H => H)) (fun v1 h23 H => ?_)
  obtain ⟨z26, rfl, b27, hT24, hF25⟩ := H
  have hF28 := Fr_cp hF hF25 (by decide +kernel : Wsub W138 WL = true)
  refine st_pop c292_989 rfl ?_
  refine st_aload c292_990 rfl ?_
  refine st_aload c292_991 rfl ?_
  refine st_iload c292_992 rfl ?_
  refine st_iconst c292_993 ?_
  refine st_iadd c292_994 ?_
  refine st_sld c292_995 (by omega) (fun e29 e30 => ?_)
  refine st_callt (as := [vI (sv xs (i + 1))]) c292_996 cm_222 hT24 (tf hT24 rfl rfl) fd_8_0 rfl rfl rfl rfl (by omega) (K222 hT24 Stb_T (sv xs (i + 1)) (by omega) (I6_fr pre4 hT hF25 (by decide +kernel)) (d - 1) (by omega) _ (fun v h0 H => H)) (fun v1 h31 H => ?_)
  obtain ⟨z35, rfl, b36, pf34, hT32, hF33⟩ := H
  have hF37 := Fr_cp hF28 hF33 (by decide +kernel : Wsub W222 WL = true)
  refine st_pop c292_999 rfl ?_
  refine st_goto c292_1000 ?_
  have e38 := fI_bd (q := 64) hT32 (tf hT32 rfl rfl) fd_8_32
  have q39 : fI h31 64 32 = fI h 64 32 := (Fr_fI hF33 (tf hT24 rfl rfl) (by decide +kernel)).trans (Fr_fI hF25 (tf hT rfl rfl) (by decide +kernel))
  have e40 := fI_bd (q := 64) hT32 (tf hT32 rfl rfl) fd_8_15
  have q41 : fI h31 64 15 = fI h 64 15 := (Fr_fI hF33 (tf hT24 rfl rfl) (by decide +kernel)).trans (Fr_fI hF25 (tf hT rfl rfl) (by decide +kernel))
  have e42 := fI_bd (q := 64) hT32 (tf hT32 rfl rfl) fd_8_33
  have q43 : fI h31 64 33 = fI h 64 33 := (Fr_fI hF33 (tf hT24 rfl rfl) (by decide +kernel)).trans (Fr_fI hF25 (tf hT rfl rfl) (by decide +kernel))
  have e44 := fI_bd (q := 6) hT32 (tf hT32 rfl rfl) fd_2_3
  have q45 : fI h31 6 3 = fI h 6 3 := (Fr_fI hF33 (tf hT24 rfl rfl) (by decide +kernel)).trans (Fr_fI hF25 (tf hT rfl rfl) (by decide +kernel))
  have e46 := fI_bd (q := 64) hT32 (tf hT32 rfl rfl) fd_8_2
  have q47 : fI h31 64 2 = fI h 64 2 := (Fr_fI hF33 (tf hT24 rfl rfl) (by decide +kernel)).trans (Fr_fI hF25 (tf hT rfl rfl) (by decide +kernel))
  have e48 := fI_bd (q := 4) hT32 (tf hT32 rfl rfl) fd_1_0
  have q49 : fI h31 4 0 = fI h 4 0 := (Fr_fI hF33 (tf hT24 rfl rfl) (by decide +kernel)).trans (Fr_fI hF25 (tf hT rfl rfl) (by decide +kernel))
  have e50 := fI_bd (q := 64) hT32 (tf hT32 rfl rfl) fd_8_1
  have q51 : fI h31 64 1 = fI h 64 1 := (Fr_fI hF33 (tf hT24 rfl rfl) (by decide +kernel)).trans (Fr_fI hF25 (tf hT rfl rfl) (by decide +kernel))
  have e52 := fI_bd (q := 4) hT32 (tf hT32 rfl rfl) fd_1_5
  have q53 : fI h31 4 5 = fI h 4 5 := (Fr_fI hF33 (tf hT24 rfl rfl) (by decide +kernel)).trans (Fr_fI hF25 (tf hT rfl rfl) (by decide +kernel))
  have e54 := fI_bd (q := 64) hT32 (tf hT32 rfl rfl) fd_8_7
  have q55 : fI h31 64 7 = fI h 64 7 := (Fr_fI hF33 (tf hT24 rfl rfl) (by decide +kernel)).trans (Fr_fI hF25 (tf hT rfl rfl) (by decide +kernel))
  have e56 := fI_bd (q := 4) hT32 (tf hT32 rfl rfl) fd_1_10
  have q57 : fI h31 4 10 = fI h 4 10 := (Fr_fI hF33 (tf hT24 rfl rfl) (by decide +kernel)).trans (Fr_fI hF25 (tf hT rfl rfl) (by decide +kernel))
  have e58 := fI_bd (q := 64) hT32 (tf hT32 rfl rfl) fd_8_45
  have q59 : fI h31 64 45 = fI h 64 45 := (Fr_fI hF33 (tf hT24 rfl rfl) (by decide +kernel)).trans (Fr_fI hF25 (tf hT rfl rfl) (by decide +kernel))
  have e60 := fI_bd (q := 4) hT32 (tf hT32 rfl rfl) fd_1_12
  have q61 : fI h31 4 12 = fI h 4 12 := (Fr_fI hF33 (tf hT24 rfl rfl) (by decide +kernel)).trans (Fr_fI hF25 (tf hT rfl rfl) (by decide +kernel))
  have e62 := fI_bd (q := 64) hT32 (tf hT32 rfl rfl) fd_8_48
  have q63 : fI h31 64 48 = fI h 64 48 := (Fr_fI hF33 (tf hT24 rfl rfl) (by decide +kernel)).trans (Fr_fI hF25 (tf hT rfl rfl) (by decide +kernel))
  have e64 := fI_bd (q := 4) hT32 (tf hT32 rfl rfl) fd_1_7
  have q65 : fI h31 4 7 = fI h 4 7 := (Fr_fI hF33 (tf hT24 rfl rfl) (by decide +kernel)).trans (Fr_fI hF25 (tf hT rfl rfl) (by decide +kernel))
  have e66 := fI_bd (q := 39) hT32 (tf hT32 rfl rfl) fd_3_3
  have q67 : fI h31 39 3 = fI h 39 3 := (Fr_fI hF33 (tf hT24 rfl rfl) (by decide +kernel)).trans (Fr_fI hF25 (tf hT rfl rfl) (by decide +kernel))
  have e68 := fI_bd (q := 64) hT32 (tf hT32 rfl rfl) fd_8_41
  have q69 : fI h31 64 41 = fI h 64 41 := (Fr_fI hF33 (tf hT24 rfl rfl) (by decide +kernel)).trans (Fr_fI hF25 (tf hT rfl rfl) (by decide +kernel))
  have e70 := fI_bd (q := 54) hT32 (tf hT32 rfl rfl) fd_6_1
  have q71 : fI h31 54 1 = fI h 54 1 := (Fr_fI hF33 (tf hT24 rfl rfl) (by decide +kernel)).trans (Fr_fI hF25 (tf hT rfl rfl) (by decide +kernel))
  have e72 := fI_bd (q := 64) hT32 (tf hT32 rfl rfl) fd_8_77
  have q73 : fI h31 64 77 = fI h 64 77 := (Fr_fI hF33 (tf hT24 rfl rfl) (by decide +kernel)).trans (Fr_fI hF25 (tf hT rfl rfl) (by decide +kernel))
  have e74 := fI_bd (q := 60) hT32 (tf hT32 rfl rfl) fd_7_1
  have q75 : fI h31 60 1 = fI h 60 1 := (Fr_fI hF33 (tf hT24 rfl rfl) (by decide +kernel)).trans (Fr_fI hF25 (tf hT rfl rfl) (by decide +kernel))
  have e76 := fI_bd (q := 64) hT32 (tf hT32 rfl rfl) fd_8_78
  have q77 : fI h31 64 78 = fI h 64 78 := (Fr_fI hF33 (tf hT24 rfl rfl) (by decide +kernel)).trans (Fr_fI hF25 (tf hT rfl rfl) (by decide +kernel))
  exact hQ _ _ ⟨[], (List.append_nil τ).symm, rfl⟩ hT32 (I1_fr (I1_fr pre0 hT hF25 (by decide +kernel)) hT24 hF33 (by decide +kernel)) (I2_fr (I2_fr pre1 hF25 (by decide +kernel)) hF33 (by decide +kernel)) (I3_fr (I3_fr pre2 hT hF25 (by decide +kernel)) hT24 hF33 (by decide +kernel)) (I4_fr (I4_fr pre3 hT hF25 (by decide +kernel)) hT24 hF33 (by decide +kernel)) pf34 (I8_fr (I8_fr pre5 hT hF25 (by decide +kernel)) hT24 hF33 (by decide +kernel)) (I9_fr (I9_fr pre6 hT hF25 (by decide +kernel)) hT24 hF33 (by decide +kernel)) (IA_fr (IA_fr pre7 hT hF25 (by decide +kernel)) hT24 hF33 (by decide +kernel)) (IB_fr (IB_fr pre8 hT hF25 (by decide +kernel)) hT24 hF33 (by decide +kernel)) (IC_fr (IC_fr pre9 hT hF25 (by decide +kernel)) hT24 hF33 (by decide +kernel)) (ID_fr (ID_fr pre10 hT hF25 (by decide +kernel)) hT24 hF33 (by decide +kernel)) (IE_fr (IE_fr pre11 hT hF25 (by decide +kernel)) hT24 hF33 (by decide +kernel)) (by omega) (by omega) (by omega) (by omega) (by omega) (by omega) (by omega) (by omega) (by omega) (by omega)
set_option maxHeartbeats 0 in
theorem LC_21 {Ln : Nat} {xs : Nat → Int32} {τ : List Nat} {h : List mE} (hT : TH Tr τ h) (pre0 : I1 τ h) (pre1 : I2 τ h) (pre2 : I3 h) (pre3 : I4 h) (pre4 : I6 h) (pre5 : I8 h) (pre6 : I9 h) (pre7 : IA h) (pre8 : IB h) (pre9 : IC h) (pre10 : ID h) (pre11 : IE h) (pre12 : fI h 64 32≤fI h 64 15+fI h 64 33) (pre13 : fI h 6 3=fI h 64 2) (pre14 : fI h 4 0=fI h 64 1) (pre15 : fI h 4 5=fI h 64 7) (pre16 : fI h 4 10=fI h 64 45) (pre17 : fI h 4 12=fI h 64 48) (pre18 : fI h 4 7=fI h 64 15) (pre19 : fI h 39 3=fI h 64 41) (pre20 : fI h 54 1=fI h 64 77) (pre21 : fI h 60 1=fI h 64 78) (i : Int) (hi : 0 ≤ i ∧ i + 6 ≤ (Ln : Int) ∧ (Ln : Int) ≤ 3072) (d : Nat) (hd : 90 ≤ d) (Q : Option Value → List mE → Prop) (hQ : ∀ (τ' : List Nat) (h' : List mE), (∃ ts : List Nat, τ' = τ ++ ts ∧ gsT ts = true) → TH Tr τ' h' → I1 τ' h' → I2 τ' h' → I3 h' → I4 h' → I6 h' → I8 h' → I9 h' → IA h' → IB h' → IC h' → ID h' → IE h' → fI h' 64 32≤fI h' 64 15+fI h' 64 33 → fI h' 6 3=fI h' 64 2 → fI h' 4 0=fI h' 64 1 → fI h' 4 5=fI h' 64 7 → fI h' 4 10=fI h' 64 45 → fI h' 4 12=fI h' 64 48 → fI h' 4 7=fI h' 64 15 → fI h' 39 3=fI h' 64 41 → fI h' 54 1=fI h' 64 77 → fI h' 60 1=fI h' 64 78 → MR (mex Ln xs) d 292 1864 [some (.ref 0), some (.ref 4), some (.ref 64), some (vI i)] [] h' Q) : MR (mex Ln xs) d 292 1003 [some (.ref 0), some (.ref 4), some (.ref 64), some (vI i)] [] h Q := by
  have hF := Fr_rf τ WL h
  have hE := Ext_rf τ
  have e1 := fI_bd (q := 64) hT (tf hT rfl rfl) fd_8_32
  have e2 := fI_bd (q := 64) hT (tf hT rfl rfl) fd_8_15
  have e3 := fI_bd (q := 64) hT (tf hT rfl rfl) fd_8_33
  have e4 := fI_bd (q := 6) hT (tf hT rfl rfl) fd_2_3
  have e5 := fI_bd (q := 64) hT (tf hT rfl rfl) fd_8_2
  have e6 := fI_bd (q := 4) hT (tf hT rfl rfl) fd_1_0
  have e7 := fI_bd (q := 64) hT (tf hT rfl rfl) fd_8_1
  have e8 := fI_bd (q := 4) hT (tf hT rfl rfl) fd_1_5
  have e9 := fI_bd (q := 64) hT (tf hT rfl rfl) fd_8_7
  have e10 := fI_bd (q := 4) hT (tf hT rfl rfl) fd_1_10
  have e11 := fI_bd (q := 64) hT (tf hT rfl rfl) fd_8_45
  have e12 := fI_bd (q := 4) hT (tf hT rfl rfl) fd_1_12
  have e13 := fI_bd (q := 64) hT (tf hT rfl rfl) fd_8_48
  have e14 := fI_bd (q := 4) hT (tf hT rfl rfl) fd_1_7
  have e15 := fI_bd (q := 39) hT (tf hT rfl rfl) fd_3_3
  have e16 := fI_bd (q := 64) hT (tf hT rfl rfl) fd_8_41
  have e17 := fI_bd (q := 54) hT (tf hT rfl rfl) fd_6_1
  have e18 := fI_bd (q := 64) hT (tf hT rfl rfl) fd_8_77
  have e19 := fI_bd (q := 60) hT (tf hT rfl rfl) fd_7_1
  have e20 := fI_bd (q := 64) hT (tf hT rfl rfl) fd_8_78
  refine st_aload c292_1003 rfl ?_
  refine st_callt (as := []) c292_1004 cm_139 hT (tf hT rfl rfl) fd_1_0 rfl rfl rfl rfl (by omega) (K139 hT Stb_T pre0 pre5 (d - 1) (by omega) _ (fun v h0 H => H)) (fun v1 h21 H => ?_)
  obtain ⟨z24, rfl, b25, hT22, hF23⟩ := H
  have hF26 := Fr_cp hF hF23 (by decide +kernel : Wsub W139 WL = true)
  refine st_pop c292_1007 rfl ?_
  refine st_aload c292_1008 rfl ?_
  refine st_callt (as := []) c292_1009 cm_227 hT22 (tf hT22 rfl rfl) fd_8_0 rfl rfl rfl rfl (by omega) (K227 hT22 Stb_T (I3_fr pre2 hT hF23 (by decide +kernel)) (I6_fr pre4 hT hF23 (by decide +kernel)) (d - 1) (by omega) _ (fun v h0 H => H)) (fun v1 h27 H => ?_)
  obtain ⟨z32, rfl, b33, pf30, pf31, hT28, hF29⟩ := H
  have hF34 := Fr_cp hF26 hF29 (by decide +kernel : Wsub W227 WL = true)
  refine st_pop c292_1012 rfl ?_
  refine st_goto c292_1013 ?_
  have e35 := fI_bd (q := 64) hT28 (tf hT28 rfl rfl) fd_8_32
  have q36 : fI h27 64 32 = fI h 64 32 := (Fr_fI hF29 (tf hT22 rfl rfl) (by decide +kernel)).trans (Fr_fI hF23 (tf hT rfl rfl) (by decide +kernel))
  have e37 := fI_bd (q := 64) hT28 (tf hT28 rfl rfl) fd_8_15
  have q38 : fI h27 64 15 = fI h 64 15 := (Fr_fI hF29 (tf hT22 rfl rfl) (by decide +kernel)).trans (Fr_fI hF23 (tf hT rfl rfl) (by decide +kernel))
  have e39 := fI_bd (q := 64) hT28 (tf hT28 rfl rfl) fd_8_33
  have q40 : fI h27 64 33 = fI h 64 33 := (Fr_fI hF29 (tf hT22 rfl rfl) (by decide +kernel)).trans (Fr_fI hF23 (tf hT rfl rfl) (by decide +kernel))
  have e41 := fI_bd (q := 6) hT28 (tf hT28 rfl rfl) fd_2_3
  have q42 : fI h27 6 3 = fI h 6 3 := (Fr_fI hF29 (tf hT22 rfl rfl) (by decide +kernel)).trans (Fr_fI hF23 (tf hT rfl rfl) (by decide +kernel))
  have e43 := fI_bd (q := 64) hT28 (tf hT28 rfl rfl) fd_8_2
  have q44 : fI h27 64 2 = fI h 64 2 := (Fr_fI hF29 (tf hT22 rfl rfl) (by decide +kernel)).trans (Fr_fI hF23 (tf hT rfl rfl) (by decide +kernel))
  have e45 := fI_bd (q := 4) hT28 (tf hT28 rfl rfl) fd_1_0
  have q46 : fI h27 4 0 = fI h 4 0 := (Fr_fI hF29 (tf hT22 rfl rfl) (by decide +kernel)).trans (Fr_fI hF23 (tf hT rfl rfl) (by decide +kernel))
  have e47 := fI_bd (q := 64) hT28 (tf hT28 rfl rfl) fd_8_1
  have q48 : fI h27 64 1 = fI h 64 1 := (Fr_fI hF29 (tf hT22 rfl rfl) (by decide +kernel)).trans (Fr_fI hF23 (tf hT rfl rfl) (by decide +kernel))
  have e49 := fI_bd (q := 4) hT28 (tf hT28 rfl rfl) fd_1_5
  have q50 : fI h27 4 5 = fI h 4 5 := (Fr_fI hF29 (tf hT22 rfl rfl) (by decide +kernel)).trans (Fr_fI hF23 (tf hT rfl rfl) (by decide +kernel))
  have e51 := fI_bd (q := 64) hT28 (tf hT28 rfl rfl) fd_8_7
  have q52 : fI h27 64 7 = fI h 64 7 := (Fr_fI hF29 (tf hT22 rfl rfl) (by decide +kernel)).trans (Fr_fI hF23 (tf hT rfl rfl) (by decide +kernel))
  have e53 := fI_bd (q := 4) hT28 (tf hT28 rfl rfl) fd_1_10
  have q54 : fI h27 4 10 = fI h 4 10 := (Fr_fI hF29 (tf hT22 rfl rfl) (by decide +kernel)).trans (Fr_fI hF23 (tf hT rfl rfl) (by decide +kernel))
  have e55 := fI_bd (q := 64) hT28 (tf hT28 rfl rfl) fd_8_45
  have q56 : fI h27 64 45 = fI h 64 45 := (Fr_fI hF29 (tf hT22 rfl rfl) (by decide +kernel)).trans (Fr_fI hF23 (tf hT rfl rfl) (by decide +kernel))
  have e57 := fI_bd (q := 4) hT28 (tf hT28 rfl rfl) fd_1_12
  have q58 : fI h27 4 12 = fI h 4 12 := (Fr_fI hF29 (tf hT22 rfl rfl) (by decide +kernel)).trans (Fr_fI hF23 (tf hT rfl rfl) (by decide +kernel))
  have e59 := fI_bd (q := 64) hT28 (tf hT28 rfl rfl) fd_8_48
  have q60 : fI h27 64 48 = fI h 64 48 := (Fr_fI hF29 (tf hT22 rfl rfl) (by decide +kernel)).trans (Fr_fI hF23 (tf hT rfl rfl) (by decide +kernel))
  have e61 := fI_bd (q := 4) hT28 (tf hT28 rfl rfl) fd_1_7
  have q62 : fI h27 4 7 = fI h 4 7 := (Fr_fI hF29 (tf hT22 rfl rfl) (by decide +kernel)).trans (Fr_fI hF23 (tf hT rfl rfl) (by decide +kernel))
  have e63 := fI_bd (q := 39) hT28 (tf hT28 rfl rfl) fd_3_3
  have q64 : fI h27 39 3 = fI h 39 3 := (Fr_fI hF29 (tf hT22 rfl rfl) (by decide +kernel)).trans (Fr_fI hF23 (tf hT rfl rfl) (by decide +kernel))
  have e65 := fI_bd (q := 64) hT28 (tf hT28 rfl rfl) fd_8_41
  have q66 : fI h27 64 41 = fI h 64 41 := (Fr_fI hF29 (tf hT22 rfl rfl) (by decide +kernel)).trans (Fr_fI hF23 (tf hT rfl rfl) (by decide +kernel))
  have e67 := fI_bd (q := 54) hT28 (tf hT28 rfl rfl) fd_6_1
  have q68 : fI h27 54 1 = fI h 54 1 := (Fr_fI hF29 (tf hT22 rfl rfl) (by decide +kernel)).trans (Fr_fI hF23 (tf hT rfl rfl) (by decide +kernel))
  have e69 := fI_bd (q := 64) hT28 (tf hT28 rfl rfl) fd_8_77
  have q70 : fI h27 64 77 = fI h 64 77 := (Fr_fI hF29 (tf hT22 rfl rfl) (by decide +kernel)).trans (Fr_fI hF23 (tf hT rfl rfl) (by decide +kernel))
  have e71 := fI_bd (q := 60) hT28 (tf hT28 rfl rfl) fd_7_1
  have q72 : fI h27 60 1 = fI h 60 1 := (Fr_fI hF29 (tf hT22 rfl rfl) (by decide +kernel)).trans (Fr_fI hF23 (tf hT rfl rfl) (by decide +kernel))
  have e73 := fI_bd (q := 64) hT28 (tf hT28 rfl rfl) fd_8_78
  have q74 : fI h27 64 78 = fI h 64 78 := (Fr_fI hF29 (tf hT22 rfl rfl) (by decide +kernel)).trans (Fr_fI hF23 (tf hT rfl rfl) (by decide +kernel))
  exact hQ _ _ ⟨[], (List.append_nil τ).symm, rfl⟩ hT28 (I1_fr (I1_fr pre0 hT hF23 (by decide +kernel)) hT22 hF29 (by decide +kernel)) (I2_fr (I2_fr pre1 hF23 (by decide +kernel)) hF29 (by decide +kernel)) pf30 (I4_fr (I4_fr pre3 hT hF23 (by decide +kernel)) hT22 hF29 (by decide +kernel)) pf31 (I8_fr (I8_fr pre5 hT hF23 (by decide +kernel)) hT22 hF29 (by decide +kernel)) (I9_fr (I9_fr pre6 hT hF23 (by decide +kernel)) hT22 hF29 (by decide +kernel)) (IA_fr (IA_fr pre7 hT hF23 (by decide +kernel)) hT22 hF29 (by decide +kernel)) (IB_fr (IB_fr pre8 hT hF23 (by decide +kernel)) hT22 hF29 (by decide +kernel)) (IC_fr (IC_fr pre9 hT hF23 (by decide +kernel)) hT22 hF29 (by decide +kernel)) (ID_fr (ID_fr pre10 hT hF23 (by decide +kernel)) hT22 hF29 (by decide +kernel)) (IE_fr (IE_fr pre11 hT hF23 (by decide +kernel)) hT22 hF29 (by decide +kernel)) (by omega) (by omega) (by omega) (by omega) (by omega) (by omega) (by omega) (by omega) (by omega) (by omega)
set_option maxHeartbeats 0 in
theorem LC_22 {Ln : Nat} {xs : Nat → Int32} {τ : List Nat} {h : List mE} (hT : TH Tr τ h) (pre0 : I1 τ h) (pre1 : I2 τ h) (pre2 : I3 h) (pre3 : I4 h) (pre4 : I6 h) (pre5 : I8 h) (pre6 : I9 h) (pre7 : IA h) (pre8 : IB h) (pre9 : IC h) (pre10 : ID h) (pre11 : IE h) (pre12 : fI h 64 32≤fI h 64 15+fI h 64 33) (pre13 : fI h 6 3=fI h 64 2) (pre14 : fI h 4 0=fI h 64 1) (pre15 : fI h 4 5=fI h 64 7) (pre16 : fI h 4 10=fI h 64 45) (pre17 : fI h 4 12=fI h 64 48) (pre18 : fI h 4 7=fI h 64 15) (pre19 : fI h 39 3=fI h 64 41) (pre20 : fI h 54 1=fI h 64 77) (pre21 : fI h 60 1=fI h 64 78) (i : Int) (hi : 0 ≤ i ∧ i + 6 ≤ (Ln : Int) ∧ (Ln : Int) ≤ 3072) (d : Nat) (hd : 90 ≤ d) (Q : Option Value → List mE → Prop) (hQ : ∀ (τ' : List Nat) (h' : List mE), (∃ ts : List Nat, τ' = τ ++ ts ∧ gsT ts = true) → TH Tr τ' h' → I1 τ' h' → I2 τ' h' → I3 h' → I4 h' → I6 h' → I8 h' → I9 h' → IA h' → IB h' → IC h' → ID h' → IE h' → fI h' 64 32≤fI h' 64 15+fI h' 64 33 → fI h' 6 3=fI h' 64 2 → fI h' 4 0=fI h' 64 1 → fI h' 4 5=fI h' 64 7 → fI h' 4 10=fI h' 64 45 → fI h' 4 12=fI h' 64 48 → fI h' 4 7=fI h' 64 15 → fI h' 39 3=fI h' 64 41 → fI h' 54 1=fI h' 64 77 → fI h' 60 1=fI h' 64 78 → MR (mex Ln xs) d 292 1864 [some (.ref 0), some (.ref 4), some (.ref 64), some (vI i)] [] h' Q) : MR (mex Ln xs) d 292 1016 [some (.ref 0), some (.ref 4), some (.ref 64), some (vI i)] [] h Q := by
  have hF := Fr_rf τ WL h
  have hE := Ext_rf τ
  have e1 := fI_bd (q := 64) hT (tf hT rfl rfl) fd_8_32
  have e2 := fI_bd (q := 64) hT (tf hT rfl rfl) fd_8_15
  have e3 := fI_bd (q := 64) hT (tf hT rfl rfl) fd_8_33
  have e4 := fI_bd (q := 6) hT (tf hT rfl rfl) fd_2_3
  have e5 := fI_bd (q := 64) hT (tf hT rfl rfl) fd_8_2
  have e6 := fI_bd (q := 4) hT (tf hT rfl rfl) fd_1_0
  have e7 := fI_bd (q := 64) hT (tf hT rfl rfl) fd_8_1
  have e8 := fI_bd (q := 4) hT (tf hT rfl rfl) fd_1_5
  have e9 := fI_bd (q := 64) hT (tf hT rfl rfl) fd_8_7
  have e10 := fI_bd (q := 4) hT (tf hT rfl rfl) fd_1_10
  have e11 := fI_bd (q := 64) hT (tf hT rfl rfl) fd_8_45
  have e12 := fI_bd (q := 4) hT (tf hT rfl rfl) fd_1_12
  have e13 := fI_bd (q := 64) hT (tf hT rfl rfl) fd_8_48
  have e14 := fI_bd (q := 4) hT (tf hT rfl rfl) fd_1_7
  have e15 := fI_bd (q := 39) hT (tf hT rfl rfl) fd_3_3
  have e16 := fI_bd (q := 64) hT (tf hT rfl rfl) fd_8_41
  have e17 := fI_bd (q := 54) hT (tf hT rfl rfl) fd_6_1
  have e18 := fI_bd (q := 64) hT (tf hT rfl rfl) fd_8_77
  have e19 := fI_bd (q := 60) hT (tf hT rfl rfl) fd_7_1
  have e20 := fI_bd (q := 64) hT (tf hT rfl rfl) fd_8_78
  refine st_aload c292_1016 rfl ?_
  refine st_callt (as := []) c292_1017 cm_140 hT (tf hT rfl rfl) fd_1_0 rfl rfl rfl rfl (by omega) (K140 hT (d - 1) (by omega) _ (fun v h0 H => H)) (fun v1 h1 H => ?_)
  obtain ⟨z21, rfl, b22, rfl⟩ := H
  refine st_pop c292_1020 rfl ?_
  refine st_aload c292_1021 rfl ?_
  refine st_callt (as := []) c292_1022 cm_228 hT (tf hT rfl rfl) fd_8_0 rfl rfl rfl rfl (by omega) (K228 hT (d - 1) (by omega) _ (fun v h0 H => H)) (fun v1 h1 H => ?_)
  obtain ⟨z23, rfl, b24, rfl⟩ := H
  refine st_pop c292_1025 rfl ?_
  refine st_goto c292_1026 ?_
  have e25 := fI_bd (q := 64) hT (tf hT rfl rfl) fd_8_32
  have e26 := fI_bd (q := 64) hT (tf hT rfl rfl) fd_8_15
  have e27 := fI_bd (q := 64) hT (tf hT rfl rfl) fd_8_33
  have e28 := fI_bd (q := 6) hT (tf hT rfl rfl) fd_2_3
  have e29 := fI_bd (q := 64) hT (tf hT rfl rfl) fd_8_2
  have e30 := fI_bd (q := 4) hT (tf hT rfl rfl) fd_1_0
  have e31 := fI_bd (q := 64) hT (tf hT rfl rfl) fd_8_1
  have e32 := fI_bd (q := 4) hT (tf hT rfl rfl) fd_1_5
  have e33 := fI_bd (q := 64) hT (tf hT rfl rfl) fd_8_7
  have e34 := fI_bd (q := 4) hT (tf hT rfl rfl) fd_1_10
  have e35 := fI_bd (q := 64) hT (tf hT rfl rfl) fd_8_45
  have e36 := fI_bd (q := 4) hT (tf hT rfl rfl) fd_1_12
  have e37 := fI_bd (q := 64) hT (tf hT rfl rfl) fd_8_48
  have e38 := fI_bd (q := 4) hT (tf hT rfl rfl) fd_1_7
  have e39 := fI_bd (q := 39) hT (tf hT rfl rfl) fd_3_3
  have e40 := fI_bd (q := 64) hT (tf hT rfl rfl) fd_8_41
  have e41 := fI_bd (q := 54) hT (tf hT rfl rfl) fd_6_1
  have e42 := fI_bd (q := 64) hT (tf hT rfl rfl) fd_8_77
  have e43 := fI_bd (q := 60) hT (tf hT rfl rfl) fd_7_1
  have e44 := fI_bd (q := 64) hT (tf hT rfl rfl) fd_8_78
  exact hQ _ _ ⟨[], (List.append_nil τ).symm, rfl⟩ hT pre0 pre1 pre2 pre3 pre4 pre5 pre6 pre7 pre8 pre9 pre10 pre11 (by omega) (by omega) (by omega) (by omega) (by omega) (by omega) (by omega) (by omega) (by omega) (by omega)
set_option maxHeartbeats 0 in
theorem LC_23 {Ln : Nat} {xs : Nat → Int32} {τ : List Nat} {h : List mE} (hT : TH Tr τ h) (pre0 : I1 τ h) (pre1 : I2 τ h) (pre2 : I3 h) (pre3 : I4 h) (pre4 : I6 h) (pre5 : I8 h) (pre6 : I9 h) (pre7 : IA h) (pre8 : IB h) (pre9 : IC h) (pre10 : ID h) (pre11 : IE h) (pre12 : fI h 64 32≤fI h 64 15+fI h 64 33) (pre13 : fI h 6 3=fI h 64 2) (pre14 : fI h 4 0=fI h 64 1) (pre15 : fI h 4 5=fI h 64 7) (pre16 : fI h 4 10=fI h 64 45) (pre17 : fI h 4 12=fI h 64 48) (pre18 : fI h 4 7=fI h 64 15) (pre19 : fI h 39 3=fI h 64 41) (pre20 : fI h 54 1=fI h 64 77) (pre21 : fI h 60 1=fI h 64 78) (i : Int) (hi : 0 ≤ i ∧ i + 6 ≤ (Ln : Int) ∧ (Ln : Int) ≤ 3072) (d : Nat) (hd : 90 ≤ d) (Q : Option Value → List mE → Prop) (hQ : ∀ (τ' : List Nat) (h' : List mE), (∃ ts : List Nat, τ' = τ ++ ts ∧ gsT ts = true) → TH Tr τ' h' → I1 τ' h' → I2 τ' h' → I3 h' → I4 h' → I6 h' → I8 h' → I9 h' → IA h' → IB h' → IC h' → ID h' → IE h' → fI h' 64 32≤fI h' 64 15+fI h' 64 33 → fI h' 6 3=fI h' 64 2 → fI h' 4 0=fI h' 64 1 → fI h' 4 5=fI h' 64 7 → fI h' 4 10=fI h' 64 45 → fI h' 4 12=fI h' 64 48 → fI h' 4 7=fI h' 64 15 → fI h' 39 3=fI h' 64 41 → fI h' 54 1=fI h' 64 77 → fI h' 60 1=fI h' 64 78 → MR (mex Ln xs) d 292 1864 [some (.ref 0), some (.ref 4), some (.ref 64), some (vI i)] [] h' Q) : MR (mex Ln xs) d 292 1029 [some (.ref 0), some (.ref 4), some (.ref 64), some (vI i)] [] h Q := by
  have hF := Fr_rf τ WL h
  have hE := Ext_rf τ
  have e1 := fI_bd (q := 64) hT (tf hT rfl rfl) fd_8_32
  have e2 := fI_bd (q := 64) hT (tf hT rfl rfl) fd_8_15
  have e3 := fI_bd (q := 64) hT (tf hT rfl rfl) fd_8_33
  have e4 := fI_bd (q := 6) hT (tf hT rfl rfl) fd_2_3
  have e5 := fI_bd (q := 64) hT (tf hT rfl rfl) fd_8_2
  have e6 := fI_bd (q := 4) hT (tf hT rfl rfl) fd_1_0
  have e7 := fI_bd (q := 64) hT (tf hT rfl rfl) fd_8_1
  have e8 := fI_bd (q := 4) hT (tf hT rfl rfl) fd_1_5
  have e9 := fI_bd (q := 64) hT (tf hT rfl rfl) fd_8_7
  have e10 := fI_bd (q := 4) hT (tf hT rfl rfl) fd_1_10
  have e11 := fI_bd (q := 64) hT (tf hT rfl rfl) fd_8_45
  have e12 := fI_bd (q := 4) hT (tf hT rfl rfl) fd_1_12
  have e13 := fI_bd (q := 64) hT (tf hT rfl rfl) fd_8_48
  have e14 := fI_bd (q := 4) hT (tf hT rfl rfl) fd_1_7
  have e15 := fI_bd (q := 39) hT (tf hT rfl rfl) fd_3_3
  have e16 := fI_bd (q := 64) hT (tf hT rfl rfl) fd_8_41
  have e17 := fI_bd (q := 54) hT (tf hT rfl rfl) fd_6_1
  have e18 := fI_bd (q := 64) hT (tf hT rfl rfl) fd_8_77
  have e19 := fI_bd (q := 60) hT (tf hT rfl rfl) fd_7_1
  have e20 := fI_bd (q := 64) hT (tf hT rfl rfl) fd_8_78
  refine st_aload c292_1029 rfl ?_
  refine st_callt (as := []) c292_1030 cm_141 hT (tf hT rfl rfl) fd_1_0 rfl rfl rfl rfl (by omega) (K141 hT Stb_T (d - 1) (by omega) _ (fun v h0 H => H)) (fun v1 h21 H => ?_)
  obtain ⟨z24, rfl, b25, hT22, hF23⟩ := H
  have hF26 := Fr_cp hF hF23 (by decide +kernel : Wsub W141 WL = true)
  refine st_pop c292_1033 rfl ?_
  refine st_aload c292_1034 rfl ?_
  refine st_callt (as := []) c292_1035 cm_233 hT22 (tf hT22 rfl rfl) fd_8_0 rfl rfl rfl rfl (by omega) (K233 hT22 Stb_T (d - 1) (by omega) _ (fun v h0 H => H)) (fun v1 h27 H => ?_)
  obtain ⟨z30, rfl, b31, hT28, hF29⟩ := H
  have hF32 := Fr_cp hF26 hF29 (by decide +kernel : Wsub W233 WL = true)
  refine st_pop c292_1038 rfl ?_
  refine st_goto c292_1039 ?_
  have e33 := fI_bd (q := 64) hT28 (tf hT28 rfl rfl) fd_8_32
  have q34 : fI h27 64 32 = fI h 64 32 := (Fr_fI hF29 (tf hT22 rfl rfl) (by decide +kernel)).trans (Fr_fI hF23 (tf hT rfl rfl) (by decide +kernel))
  have e35 := fI_bd (q := 64) hT28 (tf hT28 rfl rfl) fd_8_15
  have q36 : fI h27 64 15 = fI h 64 15 := (Fr_fI hF29 (tf hT22 rfl rfl) (by decide +kernel)).trans (Fr_fI hF23 (tf hT rfl rfl) (by decide +kernel))
  have e37 := fI_bd (q := 64) hT28 (tf hT28 rfl rfl) fd_8_33
  have q38 : fI h27 64 33 = fI h 64 33 := (Fr_fI hF29 (tf hT22 rfl rfl) (by decide +kernel)).trans (Fr_fI hF23 (tf hT rfl rfl) (by decide +kernel))
  have e39 := fI_bd (q := 6) hT28 (tf hT28 rfl rfl) fd_2_3
  have q40 : fI h27 6 3 = fI h 6 3 := (Fr_fI hF29 (tf hT22 rfl rfl) (by decide +kernel)).trans (Fr_fI hF23 (tf hT rfl rfl) (by decide +kernel))
  have e41 := fI_bd (q := 64) hT28 (tf hT28 rfl rfl) fd_8_2
  have q42 : fI h27 64 2 = fI h 64 2 := (Fr_fI hF29 (tf hT22 rfl rfl) (by decide +kernel)).trans (Fr_fI hF23 (tf hT rfl rfl) (by decide +kernel))
  have e43 := fI_bd (q := 4) hT28 (tf hT28 rfl rfl) fd_1_0
  have q44 : fI h27 4 0 = fI h 4 0 := (Fr_fI hF29 (tf hT22 rfl rfl) (by decide +kernel)).trans (Fr_fI hF23 (tf hT rfl rfl) (by decide +kernel))
  have e45 := fI_bd (q := 64) hT28 (tf hT28 rfl rfl) fd_8_1
  have q46 : fI h27 64 1 = fI h 64 1 := (Fr_fI hF29 (tf hT22 rfl rfl) (by decide +kernel)).trans (Fr_fI hF23 (tf hT rfl rfl) (by decide +kernel))
  have e47 := fI_bd (q := 4) hT28 (tf hT28 rfl rfl) fd_1_5
  have q48 : fI h27 4 5 = fI h 4 5 := (Fr_fI hF29 (tf hT22 rfl rfl) (by decide +kernel)).trans (Fr_fI hF23 (tf hT rfl rfl) (by decide +kernel))
  have e49 := fI_bd (q := 64) hT28 (tf hT28 rfl rfl) fd_8_7
  have q50 : fI h27 64 7 = fI h 64 7 := (Fr_fI hF29 (tf hT22 rfl rfl) (by decide +kernel)).trans (Fr_fI hF23 (tf hT rfl rfl) (by decide +kernel))
  have e51 := fI_bd (q := 4) hT28 (tf hT28 rfl rfl) fd_1_10
  have q52 : fI h27 4 10 = fI h 4 10 := (Fr_fI hF29 (tf hT22 rfl rfl) (by decide +kernel)).trans (Fr_fI hF23 (tf hT rfl rfl) (by decide +kernel))
  have e53 := fI_bd (q := 64) hT28 (tf hT28 rfl rfl) fd_8_45
  have q54 : fI h27 64 45 = fI h 64 45 := (Fr_fI hF29 (tf hT22 rfl rfl) (by decide +kernel)).trans (Fr_fI hF23 (tf hT rfl rfl) (by decide +kernel))
  have e55 := fI_bd (q := 4) hT28 (tf hT28 rfl rfl) fd_1_12
  have q56 : fI h27 4 12 = fI h 4 12 := (Fr_fI hF29 (tf hT22 rfl rfl) (by decide +kernel)).trans (Fr_fI hF23 (tf hT rfl rfl) (by decide +kernel))
  have e57 := fI_bd (q := 64) hT28 (tf hT28 rfl rfl) fd_8_48
  have q58 : fI h27 64 48 = fI h 64 48 := (Fr_fI hF29 (tf hT22 rfl rfl) (by decide +kernel)).trans (Fr_fI hF23 (tf hT rfl rfl) (by decide +kernel))
  have e59 := fI_bd (q := 4) hT28 (tf hT28 rfl rfl) fd_1_7
  have q60 : fI h27 4 7 = fI h 4 7 := (Fr_fI hF29 (tf hT22 rfl rfl) (by decide +kernel)).trans (Fr_fI hF23 (tf hT rfl rfl) (by decide +kernel))
  have e61 := fI_bd (q := 39) hT28 (tf hT28 rfl rfl) fd_3_3
  have q62 : fI h27 39 3 = fI h 39 3 := (Fr_fI hF29 (tf hT22 rfl rfl) (by decide +kernel)).trans (Fr_fI hF23 (tf hT rfl rfl) (by decide +kernel))
  have e63 := fI_bd (q := 64) hT28 (tf hT28 rfl rfl) fd_8_41
  have q64 : fI h27 64 41 = fI h 64 41 := (Fr_fI hF29 (tf hT22 rfl rfl) (by decide +kernel)).trans (Fr_fI hF23 (tf hT rfl rfl) (by decide +kernel))
  have e65 := fI_bd (q := 54) hT28 (tf hT28 rfl rfl) fd_6_1
  have q66 : fI h27 54 1 = fI h 54 1 := (Fr_fI hF29 (tf hT22 rfl rfl) (by decide +kernel)).trans (Fr_fI hF23 (tf hT rfl rfl) (by decide +kernel))
  have e67 := fI_bd (q := 64) hT28 (tf hT28 rfl rfl) fd_8_77
  have q68 : fI h27 64 77 = fI h 64 77 := (Fr_fI hF29 (tf hT22 rfl rfl) (by decide +kernel)).trans (Fr_fI hF23 (tf hT rfl rfl) (by decide +kernel))
  have e69 := fI_bd (q := 60) hT28 (tf hT28 rfl rfl) fd_7_1
  have q70 : fI h27 60 1 = fI h 60 1 := (Fr_fI hF29 (tf hT22 rfl rfl) (by decide +kernel)).trans (Fr_fI hF23 (tf hT rfl rfl) (by decide +kernel))
  have e71 := fI_bd (q := 64) hT28 (tf hT28 rfl rfl) fd_8_78
  have q72 : fI h27 64 78 = fI h 64 78 := (Fr_fI hF29 (tf hT22 rfl rfl) (by decide +kernel)).trans (Fr_fI hF23 (tf hT rfl rfl) (by decide +kernel))
  exact hQ _ _ ⟨[], (List.append_nil τ).symm, rfl⟩ hT28 (I1_fr (I1_fr pre0 hT hF23 (by decide +kernel)) hT22 hF29 (by decide +kernel)) (I2_fr (I2_fr pre1 hF23 (by decide +kernel)) hF29 (by decide +kernel)) (I3_fr (I3_fr pre2 hT hF23 (by decide +kernel)) hT22 hF29 (by decide +kernel)) (I4_fr (I4_fr pre3 hT hF23 (by decide +kernel)) hT22 hF29 (by decide +kernel)) (I6_fr (I6_fr pre4 hT hF23 (by decide +kernel)) hT22 hF29 (by decide +kernel)) (I8_fr (I8_fr pre5 hT hF23 (by decide +kernel)) hT22 hF29 (by decide +kernel)) (I9_fr (I9_fr pre6 hT hF23 (by decide +kernel)) hT22 hF29 (by decide +kernel)) (IA_fr (IA_fr pre7 hT hF23 (by decide +kernel)) hT22 hF29 (by decide +kernel)) (IB_fr (IB_fr pre8 hT hF23 (by decide +kernel)) hT22 hF29 (by decide +kernel)) (IC_fr (IC_fr pre9 hT hF23 (by decide +kernel)) hT22 hF29 (by decide +kernel)) (ID_fr (ID_fr pre10 hT hF23 (by decide +kernel)) hT22 hF29 (by decide +kernel)) (IE_fr (IE_fr pre11 hT hF23 (by decide +kernel)) hT22 hF29 (by decide +kernel)) (by omega) (by omega) (by omega) (by omega) (by omega) (by omega) (by omega) (by omega) (by omega) (by omega)
set_option maxHeartbeats 0 in
theorem LC_24 {Ln : Nat} {xs : Nat → Int32} {τ : List Nat} {h : List mE} (hT : TH Tr τ h) (pre0 : I1 τ h) (pre1 : I2 τ h) (pre2 : I3 h) (pre3 : I4 h) (pre4 : I6 h) (pre5 : I8 h) (pre6 : I9 h) (pre7 : IA h) (pre8 : IB h) (pre9 : IC h) (pre10 : ID h) (pre11 : IE h) (pre12 : fI h 64 32≤fI h 64 15+fI h 64 33) (pre13 : fI h 6 3=fI h 64 2) (pre14 : fI h 4 0=fI h 64 1) (pre15 : fI h 4 5=fI h 64 7) (pre16 : fI h 4 10=fI h 64 45) (pre17 : fI h 4 12=fI h 64 48) (pre18 : fI h 4 7=fI h 64 15) (pre19 : fI h 39 3=fI h 64 41) (pre20 : fI h 54 1=fI h 64 77) (pre21 : fI h 60 1=fI h 64 78) (i : Int) (hi : 0 ≤ i ∧ i + 6 ≤ (Ln : Int) ∧ (Ln : Int) ≤ 3072) (d : Nat) (hd : 90 ≤ d) (Q : Option Value → List mE → Prop) (hQ : ∀ (τ' : List Nat) (h' : List mE), (∃ ts : List Nat, τ' = τ ++ ts ∧ gsT ts = true) → TH Tr τ' h' → I1 τ' h' → I2 τ' h' → I3 h' → I4 h' → I6 h' → I8 h' → I9 h' → IA h' → IB h' → IC h' → ID h' → IE h' → fI h' 64 32≤fI h' 64 15+fI h' 64 33 → fI h' 6 3=fI h' 64 2 → fI h' 4 0=fI h' 64 1 → fI h' 4 5=fI h' 64 7 → fI h' 4 10=fI h' 64 45 → fI h' 4 12=fI h' 64 48 → fI h' 4 7=fI h' 64 15 → fI h' 39 3=fI h' 64 41 → fI h' 54 1=fI h' 64 77 → fI h' 60 1=fI h' 64 78 → MR (mex Ln xs) d 292 1864 [some (.ref 0), some (.ref 4), some (.ref 64), some (vI i)] [] h' Q) : MR (mex Ln xs) d 292 1042 [some (.ref 0), some (.ref 4), some (.ref 64), some (vI i)] [] h Q := by
  have hF := Fr_rf τ WL h
  have hE := Ext_rf τ
  have e1 := fI_bd (q := 64) hT (tf hT rfl rfl) fd_8_32
  have e2 := fI_bd (q := 64) hT (tf hT rfl rfl) fd_8_15
  have e3 := fI_bd (q := 64) hT (tf hT rfl rfl) fd_8_33
  have e4 := fI_bd (q := 6) hT (tf hT rfl rfl) fd_2_3
  have e5 := fI_bd (q := 64) hT (tf hT rfl rfl) fd_8_2
  have e6 := fI_bd (q := 4) hT (tf hT rfl rfl) fd_1_0
  have e7 := fI_bd (q := 64) hT (tf hT rfl rfl) fd_8_1
  have e8 := fI_bd (q := 4) hT (tf hT rfl rfl) fd_1_5
  have e9 := fI_bd (q := 64) hT (tf hT rfl rfl) fd_8_7
  have e10 := fI_bd (q := 4) hT (tf hT rfl rfl) fd_1_10
  have e11 := fI_bd (q := 64) hT (tf hT rfl rfl) fd_8_45
  have e12 := fI_bd (q := 4) hT (tf hT rfl rfl) fd_1_12
  have e13 := fI_bd (q := 64) hT (tf hT rfl rfl) fd_8_48
  have e14 := fI_bd (q := 4) hT (tf hT rfl rfl) fd_1_7
  have e15 := fI_bd (q := 39) hT (tf hT rfl rfl) fd_3_3
  have e16 := fI_bd (q := 64) hT (tf hT rfl rfl) fd_8_41
  have e17 := fI_bd (q := 54) hT (tf hT rfl rfl) fd_6_1
  have e18 := fI_bd (q := 64) hT (tf hT rfl rfl) fd_8_77
  have e19 := fI_bd (q := 60) hT (tf hT rfl rfl) fd_7_1
  have e20 := fI_bd (q := 64) hT (tf hT rfl rfl) fd_8_78
  refine st_aload c292_1042 rfl ?_
  refine st_aload c292_1043 rfl ?_
  refine st_iload c292_1044 rfl ?_
  refine st_iconst c292_1045 ?_
  refine st_iadd c292_1046 ?_
  refine st_sld c292_1047 (by omega) (fun e21 e22 => ?_)
  refine st_callt (as := [vI (sv xs (i + 1))]) c292_1048 cm_142 hT (tf hT rfl rfl) fd_1_0 rfl rfl rfl rfl (by omega) (K142 hT Stb_T (sv xs (i + 1)) (by omega) pre5 (d - 1) (by omega) _ (fun v h0 H => H)) (fun v1 h23 H => ?_)
  obtain ⟨z26, rfl, b27, hT24, hF25⟩ := H
  have hF28 := Fr_cp hF hF25 (by decide +kernel : Wsub W142 WL = true)
  refine st_pop c292_1051 rfl ?_
  refine st_aload c292_1052 rfl ?_
  refine st_aload c292_1053 rfl ?_
  refine st_iload c292_1054 rfl ?_
  refine st_iconst c292_1055 ?_
  refine st_iadd c292_1056 ?_
  refine st_sld c292_1057 (by omega) (fun e29 e30 => ?_)
  refine st_callt (as := [vI (sv xs (i + 1))]) c292_1058 cm_230 hT24 (tf hT24 rfl rfl) fd_8_0 rfl rfl rfl rfl (by omega) (K230 hT24 Stb_T (sv xs (i + 1)) (by omega) (d - 1) (by omega) _ (fun v h0 H => H)) (fun v1 h31 H => ?_)
  obtain ⟨z34, rfl, b35, hT32, hF33⟩ := H
  have hF36 := Fr_cp hF28 hF33 (by decide +kernel : Wsub W230 WL = true)
  refine st_pop c292_1061 rfl ?_
  refine st_goto c292_1062 ?_
  have e37 := fI_bd (q := 64) hT32 (tf hT32 rfl rfl) fd_8_32
  have q38 : fI h31 64 32 = fI h 64 32 := (Fr_fI hF33 (tf hT24 rfl rfl) (by decide +kernel)).trans (Fr_fI hF25 (tf hT rfl rfl) (by decide +kernel))
  have e39 := fI_bd (q := 64) hT32 (tf hT32 rfl rfl) fd_8_15
  have q40 : fI h31 64 15 = fI h 64 15 := (Fr_fI hF33 (tf hT24 rfl rfl) (by decide +kernel)).trans (Fr_fI hF25 (tf hT rfl rfl) (by decide +kernel))
  have e41 := fI_bd (q := 64) hT32 (tf hT32 rfl rfl) fd_8_33
  have q42 : fI h31 64 33 = fI h 64 33 := (Fr_fI hF33 (tf hT24 rfl rfl) (by decide +kernel)).trans (Fr_fI hF25 (tf hT rfl rfl) (by decide +kernel))
  have e43 := fI_bd (q := 6) hT32 (tf hT32 rfl rfl) fd_2_3
  have q44 : fI h31 6 3 = fI h 6 3 := (Fr_fI hF33 (tf hT24 rfl rfl) (by decide +kernel)).trans (Fr_fI hF25 (tf hT rfl rfl) (by decide +kernel))
  have e45 := fI_bd (q := 64) hT32 (tf hT32 rfl rfl) fd_8_2
  have q46 : fI h31 64 2 = fI h 64 2 := (Fr_fI hF33 (tf hT24 rfl rfl) (by decide +kernel)).trans (Fr_fI hF25 (tf hT rfl rfl) (by decide +kernel))
  have e47 := fI_bd (q := 4) hT32 (tf hT32 rfl rfl) fd_1_0
  have q48 : fI h31 4 0 = fI h 4 0 := (Fr_fI hF33 (tf hT24 rfl rfl) (by decide +kernel)).trans (Fr_fI hF25 (tf hT rfl rfl) (by decide +kernel))
  have e49 := fI_bd (q := 64) hT32 (tf hT32 rfl rfl) fd_8_1
  have q50 : fI h31 64 1 = fI h 64 1 := (Fr_fI hF33 (tf hT24 rfl rfl) (by decide +kernel)).trans (Fr_fI hF25 (tf hT rfl rfl) (by decide +kernel))
  have e51 := fI_bd (q := 4) hT32 (tf hT32 rfl rfl) fd_1_5
  have q52 : fI h31 4 5 = fI h 4 5 := (Fr_fI hF33 (tf hT24 rfl rfl) (by decide +kernel)).trans (Fr_fI hF25 (tf hT rfl rfl) (by decide +kernel))
  have e53 := fI_bd (q := 64) hT32 (tf hT32 rfl rfl) fd_8_7
  have q54 : fI h31 64 7 = fI h 64 7 := (Fr_fI hF33 (tf hT24 rfl rfl) (by decide +kernel)).trans (Fr_fI hF25 (tf hT rfl rfl) (by decide +kernel))
  have e55 := fI_bd (q := 4) hT32 (tf hT32 rfl rfl) fd_1_10
  have q56 : fI h31 4 10 = fI h 4 10 := (Fr_fI hF33 (tf hT24 rfl rfl) (by decide +kernel)).trans (Fr_fI hF25 (tf hT rfl rfl) (by decide +kernel))
  have e57 := fI_bd (q := 64) hT32 (tf hT32 rfl rfl) fd_8_45
  have q58 : fI h31 64 45 = fI h 64 45 := (Fr_fI hF33 (tf hT24 rfl rfl) (by decide +kernel)).trans (Fr_fI hF25 (tf hT rfl rfl) (by decide +kernel))
  have e59 := fI_bd (q := 4) hT32 (tf hT32 rfl rfl) fd_1_12
  have q60 : fI h31 4 12 = fI h 4 12 := (Fr_fI hF33 (tf hT24 rfl rfl) (by decide +kernel)).trans (Fr_fI hF25 (tf hT rfl rfl) (by decide +kernel))
  have e61 := fI_bd (q := 64) hT32 (tf hT32 rfl rfl) fd_8_48
  have q62 : fI h31 64 48 = fI h 64 48 := (Fr_fI hF33 (tf hT24 rfl rfl) (by decide +kernel)).trans (Fr_fI hF25 (tf hT rfl rfl) (by decide +kernel))
  have e63 := fI_bd (q := 4) hT32 (tf hT32 rfl rfl) fd_1_7
  have q64 : fI h31 4 7 = fI h 4 7 := (Fr_fI hF33 (tf hT24 rfl rfl) (by decide +kernel)).trans (Fr_fI hF25 (tf hT rfl rfl) (by decide +kernel))
  have e65 := fI_bd (q := 39) hT32 (tf hT32 rfl rfl) fd_3_3
  have q66 : fI h31 39 3 = fI h 39 3 := (Fr_fI hF33 (tf hT24 rfl rfl) (by decide +kernel)).trans (Fr_fI hF25 (tf hT rfl rfl) (by decide +kernel))
  have e67 := fI_bd (q := 64) hT32 (tf hT32 rfl rfl) fd_8_41
  have q68 : fI h31 64 41 = fI h 64 41 := (Fr_fI hF33 (tf hT24 rfl rfl) (by decide +kernel)).trans (Fr_fI hF25 (tf hT rfl rfl) (by decide +kernel))
  have e69 := fI_bd (q := 54) hT32 (tf hT32 rfl rfl) fd_6_1
  have q70 : fI h31 54 1 = fI h 54 1 := (Fr_fI hF33 (tf hT24 rfl rfl) (by decide +kernel)).trans (Fr_fI hF25 (tf hT rfl rfl) (by decide +kernel))
  have e71 := fI_bd (q := 64) hT32 (tf hT32 rfl rfl) fd_8_77
  have q72 : fI h31 64 77 = fI h 64 77 := (Fr_fI hF33 (tf hT24 rfl rfl) (by decide +kernel)).trans (Fr_fI hF25 (tf hT rfl rfl) (by decide +kernel))
  have e73 := fI_bd (q := 60) hT32 (tf hT32 rfl rfl) fd_7_1
  have q74 : fI h31 60 1 = fI h 60 1 := (Fr_fI hF33 (tf hT24 rfl rfl) (by decide +kernel)).trans (Fr_fI hF25 (tf hT rfl rfl) (by decide +kernel))
  have e75 := fI_bd (q := 64) hT32 (tf hT32 rfl rfl) fd_8_78
  have q76 : fI h31 64 78 = fI h 64 78 := (Fr_fI hF33 (tf hT24 rfl rfl) (by decide +kernel)).trans (Fr_fI hF25 (tf hT rfl rfl) (by decide +kernel))
  exact hQ _ _ ⟨[], (List.append_nil τ).symm, rfl⟩ hT32 (I1_fr (I1_fr pre0 hT hF25 (by decide +kernel)) hT24 hF33 (by decide +kernel)) (I2_fr (I2_fr pre1 hF25 (by decide +kernel)) hF33 (by decide +kernel)) (I3_fr (I3_fr pre2 hT hF25 (by decide +kernel)) hT24 hF33 (by decide +kernel)) (I4_fr (I4_fr pre3 hT hF25 (by decide +kernel)) hT24 hF33 (by decide +kernel)) (I6_fr (I6_fr pre4 hT hF25 (by decide +kernel)) hT24 hF33 (by decide +kernel)) (I8_fr (I8_fr pre5 hT hF25 (by decide +kernel)) hT24 hF33 (by decide +kernel)) (I9_fr (I9_fr pre6 hT hF25 (by decide +kernel)) hT24 hF33 (by decide +kernel)) (IA_fr (IA_fr pre7 hT hF25 (by decide +kernel)) hT24 hF33 (by decide +kernel)) (IB_fr (IB_fr pre8 hT hF25 (by decide +kernel)) hT24 hF33 (by decide +kernel)) (IC_fr (IC_fr pre9 hT hF25 (by decide +kernel)) hT24 hF33 (by decide +kernel)) (ID_fr (ID_fr pre10 hT hF25 (by decide +kernel)) hT24 hF33 (by decide +kernel)) (IE_fr (IE_fr pre11 hT hF25 (by decide +kernel)) hT24 hF33 (by decide +kernel)) (by omega) (by omega) (by omega) (by omega) (by omega) (by omega) (by omega) (by omega) (by omega) (by omega)
set_option maxHeartbeats 0 in
theorem LC_25 {Ln : Nat} {xs : Nat → Int32} {τ : List Nat} {h : List mE} (hT : TH Tr τ h) (pre0 : I1 τ h) (pre1 : I2 τ h) (pre2 : I3 h) (pre3 : I4 h) (pre4 : I6 h) (pre5 : I8 h) (pre6 : I9 h) (pre7 : IA h) (pre8 : IB h) (pre9 : IC h) (pre10 : ID h) (pre11 : IE h) (pre12 : fI h 64 32≤fI h 64 15+fI h 64 33) (pre13 : fI h 6 3=fI h 64 2) (pre14 : fI h 4 0=fI h 64 1) (pre15 : fI h 4 5=fI h 64 7) (pre16 : fI h 4 10=fI h 64 45) (pre17 : fI h 4 12=fI h 64 48) (pre18 : fI h 4 7=fI h 64 15) (pre19 : fI h 39 3=fI h 64 41) (pre20 : fI h 54 1=fI h 64 77) (pre21 : fI h 60 1=fI h 64 78) (i : Int) (hi : 0 ≤ i ∧ i + 6 ≤ (Ln : Int) ∧ (Ln : Int) ≤ 3072) (d : Nat) (hd : 90 ≤ d) (Q : Option Value → List mE → Prop) (hQ : ∀ (τ' : List Nat) (h' : List mE), (∃ ts : List Nat, τ' = τ ++ ts ∧ gsT ts = true) → TH Tr τ' h' → I1 τ' h' → I2 τ' h' → I3 h' → I4 h' → I6 h' → I8 h' → I9 h' → IA h' → IB h' → IC h' → ID h' → IE h' → fI h' 64 32≤fI h' 64 15+fI h' 64 33 → fI h' 6 3=fI h' 64 2 → fI h' 4 0=fI h' 64 1 → fI h' 4 5=fI h' 64 7 → fI h' 4 10=fI h' 64 45 → fI h' 4 12=fI h' 64 48 → fI h' 4 7=fI h' 64 15 → fI h' 39 3=fI h' 64 41 → fI h' 54 1=fI h' 64 77 → fI h' 60 1=fI h' 64 78 → MR (mex Ln xs) d 292 1864 [some (.ref 0), some (.ref 4), some (.ref 64), some (vI i)] [] h' Q) : MR (mex Ln xs) d 292 1065 [some (.ref 0), some (.ref 4), some (.ref 64), some (vI i)] [] h Q := by
  have hF := Fr_rf τ WL h
  have hE := Ext_rf τ
  have e1 := fI_bd (q := 64) hT (tf hT rfl rfl) fd_8_32
  have e2 := fI_bd (q := 64) hT (tf hT rfl rfl) fd_8_15
  have e3 := fI_bd (q := 64) hT (tf hT rfl rfl) fd_8_33
  have e4 := fI_bd (q := 6) hT (tf hT rfl rfl) fd_2_3
  have e5 := fI_bd (q := 64) hT (tf hT rfl rfl) fd_8_2
  have e6 := fI_bd (q := 4) hT (tf hT rfl rfl) fd_1_0
  have e7 := fI_bd (q := 64) hT (tf hT rfl rfl) fd_8_1
  have e8 := fI_bd (q := 4) hT (tf hT rfl rfl) fd_1_5
  have e9 := fI_bd (q := 64) hT (tf hT rfl rfl) fd_8_7
  have e10 := fI_bd (q := 4) hT (tf hT rfl rfl) fd_1_10
  have e11 := fI_bd (q := 64) hT (tf hT rfl rfl) fd_8_45
  have e12 := fI_bd (q := 4) hT (tf hT rfl rfl) fd_1_12
  have e13 := fI_bd (q := 64) hT (tf hT rfl rfl) fd_8_48
  have e14 := fI_bd (q := 4) hT (tf hT rfl rfl) fd_1_7
  have e15 := fI_bd (q := 39) hT (tf hT rfl rfl) fd_3_3
  have e16 := fI_bd (q := 64) hT (tf hT rfl rfl) fd_8_41
  have e17 := fI_bd (q := 54) hT (tf hT rfl rfl) fd_6_1
  have e18 := fI_bd (q := 64) hT (tf hT rfl rfl) fd_8_77
  have e19 := fI_bd (q := 60) hT (tf hT rfl rfl) fd_7_1
  have e20 := fI_bd (q := 64) hT (tf hT rfl rfl) fd_8_78
  refine st_aload c292_1065 rfl ?_
  refine st_aload c292_1066 rfl ?_
  refine st_iload c292_1067 rfl ?_
  refine st_iconst c292_1068 ?_
  refine st_iadd c292_1069 ?_
  refine st_sld c292_1070 (by omega) (fun e21 e22 => ?_)
  refine st_callt (as := [vI (sv xs (i + 1))]) c292_1071 cm_143 hT (tf hT rfl rfl) fd_1_0 rfl rfl rfl rfl (by omega) (K143 hT (sv xs (i + 1)) (by omega) (d - 1) (by omega) _ (fun v h0 H => H)) (fun v1 h1 H => ?_)
  obtain ⟨z23, rfl, b24, rfl⟩ := H
  refine st_pop c292_1074 rfl ?_
  refine st_aload c292_1075 rfl ?_
  refine st_aload c292_1076 rfl ?_
  refine st_iload c292_1077 rfl ?_
  refine st_iconst c292_1078 ?_
  refine st_iadd c292_1079 ?_
  refine st_sld c292_1080 (by omega) (fun e25 e26 => ?_)
  refine st_callt (as := [vI (sv xs (i + 1))]) c292_1081 cm_234 hT (tf hT rfl rfl) fd_8_0 rfl rfl rfl rfl (by omega) (K234 hT (sv xs (i + 1)) (by omega) (d - 1) (by omega) _ (fun v h0 H => H)) (fun v1 h1 H => ?_)
  obtain ⟨z27, rfl, b28, rfl⟩ := H
  refine st_pop c292_1084 rfl ?_
  refine st_goto c292_1085 ?_
  have e29 := fI_bd (q := 64) hT (tf hT rfl rfl) fd_8_32
  have e30 := fI_bd (q := 64) hT (tf hT rfl rfl) fd_8_15
  have e31 := fI_bd (q := 64) hT (tf hT rfl rfl) fd_8_33
  have e32 := fI_bd (q := 6) hT (tf hT rfl rfl) fd_2_3
  have e33 := fI_bd (q := 64) hT (tf hT rfl rfl) fd_8_2
  have e34 := fI_bd (q := 4) hT (tf hT rfl rfl) fd_1_0
  have e35 := fI_bd (q := 64) hT (tf hT rfl rfl) fd_8_1
  have e36 := fI_bd (q := 4) hT (tf hT rfl rfl) fd_1_5
  have e37 := fI_bd (q := 64) hT (tf hT rfl rfl) fd_8_7
  have e38 := fI_bd (q := 4) hT (tf hT rfl rfl) fd_1_10
  have e39 := fI_bd (q := 64) hT (tf hT rfl rfl) fd_8_45
  have e40 := fI_bd (q := 4) hT (tf hT rfl rfl) fd_1_12
  have e41 := fI_bd (q := 64) hT (tf hT rfl rfl) fd_8_48
  have e42 := fI_bd (q := 4) hT (tf hT rfl rfl) fd_1_7
  have e43 := fI_bd (q := 39) hT (tf hT rfl rfl) fd_3_3
  have e44 := fI_bd (q := 64) hT (tf hT rfl rfl) fd_8_41
  have e45 := fI_bd (q := 54) hT (tf hT rfl rfl) fd_6_1
  have e46 := fI_bd (q := 64) hT (tf hT rfl rfl) fd_8_77
  have e47 := fI_bd (q := 60) hT (tf hT rfl rfl) fd_7_1
  have e48 := fI_bd (q := 64) hT (tf hT rfl rfl) fd_8_78
  exact hQ _ _ ⟨[], (List.append_nil τ).symm, rfl⟩ hT pre0 pre1 pre2 pre3 pre4 pre5 pre6 pre7 pre8 pre9 pre10 pre11 (by omega) (by omega) (by omega) (by omega) (by omega) (by omega) (by omega) (by omega) (by omega) (by omega)
set_option maxHeartbeats 0 in
theorem LC_26 {Ln : Nat} {xs : Nat → Int32} {τ : List Nat} {h : List mE} (hT : TH Tr τ h) (pre0 : I1 τ h) (pre1 : I2 τ h) (pre2 : I3 h) (pre3 : I4 h) (pre4 : I6 h) (pre5 : I8 h) (pre6 : I9 h) (pre7 : IA h) (pre8 : IB h) (pre9 : IC h) (pre10 : ID h) (pre11 : IE h) (pre12 : fI h 64 32≤fI h 64 15+fI h 64 33) (pre13 : fI h 6 3=fI h 64 2) (pre14 : fI h 4 0=fI h 64 1) (pre15 : fI h 4 5=fI h 64 7) (pre16 : fI h 4 10=fI h 64 45) (pre17 : fI h 4 12=fI h 64 48) (pre18 : fI h 4 7=fI h 64 15) (pre19 : fI h 39 3=fI h 64 41) (pre20 : fI h 54 1=fI h 64 77) (pre21 : fI h 60 1=fI h 64 78) (i : Int) (hi : 0 ≤ i ∧ i + 6 ≤ (Ln : Int) ∧ (Ln : Int) ≤ 3072) (d : Nat) (hd : 90 ≤ d) (Q : Option Value → List mE → Prop) (hQ : ∀ (τ' : List Nat) (h' : List mE), (∃ ts : List Nat, τ' = τ ++ ts ∧ gsT ts = true) → TH Tr τ' h' → I1 τ' h' → I2 τ' h' → I3 h' → I4 h' → I6 h' → I8 h' → I9 h' → IA h' → IB h' → IC h' → ID h' → IE h' → fI h' 64 32≤fI h' 64 15+fI h' 64 33 → fI h' 6 3=fI h' 64 2 → fI h' 4 0=fI h' 64 1 → fI h' 4 5=fI h' 64 7 → fI h' 4 10=fI h' 64 45 → fI h' 4 12=fI h' 64 48 → fI h' 4 7=fI h' 64 15 → fI h' 39 3=fI h' 64 41 → fI h' 54 1=fI h' 64 77 → fI h' 60 1=fI h' 64 78 → MR (mex Ln xs) d 292 1864 [some (.ref 0), some (.ref 4), some (.ref 64), some (vI i)] [] h' Q) : MR (mex Ln xs) d 292 1088 [some (.ref 0), some (.ref 4), some (.ref 64), some (vI i)] [] h Q := by
  have hF := Fr_rf τ WL h
  have hE := Ext_rf τ
  have e1 := fI_bd (q := 64) hT (tf hT rfl rfl) fd_8_32
  have e2 := fI_bd (q := 64) hT (tf hT rfl rfl) fd_8_15
  have e3 := fI_bd (q := 64) hT (tf hT rfl rfl) fd_8_33
  have e4 := fI_bd (q := 6) hT (tf hT rfl rfl) fd_2_3
  have e5 := fI_bd (q := 64) hT (tf hT rfl rfl) fd_8_2
  have e6 := fI_bd (q := 4) hT (tf hT rfl rfl) fd_1_0
  have e7 := fI_bd (q := 64) hT (tf hT rfl rfl) fd_8_1
  have e8 := fI_bd (q := 4) hT (tf hT rfl rfl) fd_1_5
  have e9 := fI_bd (q := 64) hT (tf hT rfl rfl) fd_8_7
  have e10 := fI_bd (q := 4) hT (tf hT rfl rfl) fd_1_10
  have e11 := fI_bd (q := 64) hT (tf hT rfl rfl) fd_8_45
  have e12 := fI_bd (q := 4) hT (tf hT rfl rfl) fd_1_12
  have e13 := fI_bd (q := 64) hT (tf hT rfl rfl) fd_8_48
  have e14 := fI_bd (q := 4) hT (tf hT rfl rfl) fd_1_7
  have e15 := fI_bd (q := 39) hT (tf hT rfl rfl) fd_3_3
  have e16 := fI_bd (q := 64) hT (tf hT rfl rfl) fd_8_41
  have e17 := fI_bd (q := 54) hT (tf hT rfl rfl) fd_6_1
  have e18 := fI_bd (q := 64) hT (tf hT rfl rfl) fd_8_77
  have e19 := fI_bd (q := 60) hT (tf hT rfl rfl) fd_7_1
  have e20 := fI_bd (q := 64) hT (tf hT rfl rfl) fd_8_78
  refine st_aload c292_1088 rfl ?_
  refine st_aload c292_1089 rfl ?_
  refine st_iload c292_1090 rfl ?_
  refine st_iconst c292_1091 ?_
  refine st_iadd c292_1092 ?_
  refine st_sld c292_1093 (by omega) (fun e21 e22 => ?_)
  refine st_callt (as := [vI (sv xs (i + 1))]) c292_1094 cm_144 hT (tf hT rfl rfl) fd_1_0 rfl rfl rfl rfl (by omega) (K144 hT Stb_T (sv xs (i + 1)) (by omega) pre5 (d - 1) (by omega) _ (fun v h0 H => H)) (fun v1 h23 H => ?_)
  obtain ⟨z26, rfl, b27, hT24, hF25⟩ := H
  have hF28 := Fr_cp hF hF25 (by decide +kernel : Wsub W144 WL = true)
  refine st_pop c292_1097 rfl ?_
  refine st_aload c292_1098 rfl ?_
  refine st_aload c292_1099 rfl ?_
  refine st_iload c292_1100 rfl ?_
  refine st_iconst c292_1101 ?_
  refine st_iadd c292_1102 ?_
  refine st_sld c292_1103 (by omega) (fun e29 e30 => ?_)
  refine st_callt (as := [vI (sv xs (i + 1))]) c292_1104 cm_235 hT24 (tf hT24 rfl rfl) fd_8_0 rfl rfl rfl rfl (by omega) (K235 hT24 Stb_T (sv xs (i + 1)) (by omega) (I3_fr pre2 hT hF25 (by decide +kernel)) (d - 1) (by omega) _ (fun v h0 H => H)) (fun v1 h31 H => ?_)
  obtain ⟨z35, rfl, b36, pf34, hT32, hF33⟩ := H
  have hF37 := Fr_cp hF28 hF33 (by decide +kernel : Wsub W235 WL = true)
  refine st_pop c292_1107 rfl ?_
  refine st_goto c292_1108 ?_
  have e38 := fI_bd (q := 64) hT32 (tf hT32 rfl rfl) fd_8_32
  have q39 : fI h31 64 32 = fI h 64 32 := (Fr_fI hF33 (tf hT24 rfl rfl) (by decide +kernel)).trans (Fr_fI hF25 (tf hT rfl rfl) (by decide +kernel))
  have e40 := fI_bd (q := 64) hT32 (tf hT32 rfl rfl) fd_8_15
  have q41 : fI h31 64 15 = fI h 64 15 := (Fr_fI hF33 (tf hT24 rfl rfl) (by decide +kernel)).trans (Fr_fI hF25 (tf hT rfl rfl) (by decide +kernel))
  have e42 := fI_bd (q := 64) hT32 (tf hT32 rfl rfl) fd_8_33
  have q43 : fI h31 64 33 = fI h 64 33 := (Fr_fI hF33 (tf hT24 rfl rfl) (by decide +kernel)).trans (Fr_fI hF25 (tf hT rfl rfl) (by decide +kernel))
  have e44 := fI_bd (q := 6) hT32 (tf hT32 rfl rfl) fd_2_3
  have q45 : fI h31 6 3 = fI h 6 3 := (Fr_fI hF33 (tf hT24 rfl rfl) (by decide +kernel)).trans (Fr_fI hF25 (tf hT rfl rfl) (by decide +kernel))
  have e46 := fI_bd (q := 64) hT32 (tf hT32 rfl rfl) fd_8_2
  have q47 : fI h31 64 2 = fI h 64 2 := (Fr_fI hF33 (tf hT24 rfl rfl) (by decide +kernel)).trans (Fr_fI hF25 (tf hT rfl rfl) (by decide +kernel))
  have e48 := fI_bd (q := 4) hT32 (tf hT32 rfl rfl) fd_1_0
  have q49 : fI h31 4 0 = fI h 4 0 := (Fr_fI hF33 (tf hT24 rfl rfl) (by decide +kernel)).trans (Fr_fI hF25 (tf hT rfl rfl) (by decide +kernel))
  have e50 := fI_bd (q := 64) hT32 (tf hT32 rfl rfl) fd_8_1
  have q51 : fI h31 64 1 = fI h 64 1 := (Fr_fI hF33 (tf hT24 rfl rfl) (by decide +kernel)).trans (Fr_fI hF25 (tf hT rfl rfl) (by decide +kernel))
  have e52 := fI_bd (q := 4) hT32 (tf hT32 rfl rfl) fd_1_5
  have q53 : fI h31 4 5 = fI h 4 5 := (Fr_fI hF33 (tf hT24 rfl rfl) (by decide +kernel)).trans (Fr_fI hF25 (tf hT rfl rfl) (by decide +kernel))
  have e54 := fI_bd (q := 64) hT32 (tf hT32 rfl rfl) fd_8_7
  have q55 : fI h31 64 7 = fI h 64 7 := (Fr_fI hF33 (tf hT24 rfl rfl) (by decide +kernel)).trans (Fr_fI hF25 (tf hT rfl rfl) (by decide +kernel))
  have e56 := fI_bd (q := 4) hT32 (tf hT32 rfl rfl) fd_1_10
  have q57 : fI h31 4 10 = fI h 4 10 := (Fr_fI hF33 (tf hT24 rfl rfl) (by decide +kernel)).trans (Fr_fI hF25 (tf hT rfl rfl) (by decide +kernel))
  have e58 := fI_bd (q := 64) hT32 (tf hT32 rfl rfl) fd_8_45
  have q59 : fI h31 64 45 = fI h 64 45 := (Fr_fI hF33 (tf hT24 rfl rfl) (by decide +kernel)).trans (Fr_fI hF25 (tf hT rfl rfl) (by decide +kernel))
  have e60 := fI_bd (q := 4) hT32 (tf hT32 rfl rfl) fd_1_12
  have q61 : fI h31 4 12 = fI h 4 12 := (Fr_fI hF33 (tf hT24 rfl rfl) (by decide +kernel)).trans (Fr_fI hF25 (tf hT rfl rfl) (by decide +kernel))
  have e62 := fI_bd (q := 64) hT32 (tf hT32 rfl rfl) fd_8_48
  have q63 : fI h31 64 48 = fI h 64 48 := (Fr_fI hF33 (tf hT24 rfl rfl) (by decide +kernel)).trans (Fr_fI hF25 (tf hT rfl rfl) (by decide +kernel))
  have e64 := fI_bd (q := 4) hT32 (tf hT32 rfl rfl) fd_1_7
  have q65 : fI h31 4 7 = fI h 4 7 := (Fr_fI hF33 (tf hT24 rfl rfl) (by decide +kernel)).trans (Fr_fI hF25 (tf hT rfl rfl) (by decide +kernel))
  have e66 := fI_bd (q := 39) hT32 (tf hT32 rfl rfl) fd_3_3
  have q67 : fI h31 39 3 = fI h 39 3 := (Fr_fI hF33 (tf hT24 rfl rfl) (by decide +kernel)).trans (Fr_fI hF25 (tf hT rfl rfl) (by decide +kernel))
  have e68 := fI_bd (q := 64) hT32 (tf hT32 rfl rfl) fd_8_41
  have q69 : fI h31 64 41 = fI h 64 41 := (Fr_fI hF33 (tf hT24 rfl rfl) (by decide +kernel)).trans (Fr_fI hF25 (tf hT rfl rfl) (by decide +kernel))
  have e70 := fI_bd (q := 54) hT32 (tf hT32 rfl rfl) fd_6_1
  have q71 : fI h31 54 1 = fI h 54 1 := (Fr_fI hF33 (tf hT24 rfl rfl) (by decide +kernel)).trans (Fr_fI hF25 (tf hT rfl rfl) (by decide +kernel))
  have e72 := fI_bd (q := 64) hT32 (tf hT32 rfl rfl) fd_8_77
  have q73 : fI h31 64 77 = fI h 64 77 := (Fr_fI hF33 (tf hT24 rfl rfl) (by decide +kernel)).trans (Fr_fI hF25 (tf hT rfl rfl) (by decide +kernel))
  have e74 := fI_bd (q := 60) hT32 (tf hT32 rfl rfl) fd_7_1
  have q75 : fI h31 60 1 = fI h 60 1 := (Fr_fI hF33 (tf hT24 rfl rfl) (by decide +kernel)).trans (Fr_fI hF25 (tf hT rfl rfl) (by decide +kernel))
  have e76 := fI_bd (q := 64) hT32 (tf hT32 rfl rfl) fd_8_78
  have q77 : fI h31 64 78 = fI h 64 78 := (Fr_fI hF33 (tf hT24 rfl rfl) (by decide +kernel)).trans (Fr_fI hF25 (tf hT rfl rfl) (by decide +kernel))
  exact hQ _ _ ⟨[], (List.append_nil τ).symm, rfl⟩ hT32 (I1_fr (I1_fr pre0 hT hF25 (by decide +kernel)) hT24 hF33 (by decide +kernel)) (I2_fr (I2_fr pre1 hF25 (by decide +kernel)) hF33 (by decide +kernel)) pf34 (I4_fr (I4_fr pre3 hT hF25 (by decide +kernel)) hT24 hF33 (by decide +kernel)) (I6_fr (I6_fr pre4 hT hF25 (by decide +kernel)) hT24 hF33 (by decide +kernel)) (I8_fr (I8_fr pre5 hT hF25 (by decide +kernel)) hT24 hF33 (by decide +kernel)) (I9_fr (I9_fr pre6 hT hF25 (by decide +kernel)) hT24 hF33 (by decide +kernel)) (IA_fr (IA_fr pre7 hT hF25 (by decide +kernel)) hT24 hF33 (by decide +kernel)) (IB_fr (IB_fr pre8 hT hF25 (by decide +kernel)) hT24 hF33 (by decide +kernel)) (IC_fr (IC_fr pre9 hT hF25 (by decide +kernel)) hT24 hF33 (by decide +kernel)) (ID_fr (ID_fr pre10 hT hF25 (by decide +kernel)) hT24 hF33 (by decide +kernel)) (IE_fr (IE_fr pre11 hT hF25 (by decide +kernel)) hT24 hF33 (by decide +kernel)) (by omega) (by omega) (by omega) (by omega) (by omega) (by omega) (by omega) (by omega) (by omega) (by omega)
set_option maxHeartbeats 0 in
theorem LC_27 {Ln : Nat} {xs : Nat → Int32} {τ : List Nat} {h : List mE} (hT : TH Tr τ h) (pre0 : I1 τ h) (pre1 : I2 τ h) (pre2 : I3 h) (pre3 : I4 h) (pre4 : I6 h) (pre5 : I8 h) (pre6 : I9 h) (pre7 : IA h) (pre8 : IB h) (pre9 : IC h) (pre10 : ID h) (pre11 : IE h) (pre12 : fI h 64 32≤fI h 64 15+fI h 64 33) (pre13 : fI h 6 3=fI h 64 2) (pre14 : fI h 4 0=fI h 64 1) (pre15 : fI h 4 5=fI h 64 7) (pre16 : fI h 4 10=fI h 64 45) (pre17 : fI h 4 12=fI h 64 48) (pre18 : fI h 4 7=fI h 64 15) (pre19 : fI h 39 3=fI h 64 41) (pre20 : fI h 54 1=fI h 64 77) (pre21 : fI h 60 1=fI h 64 78) (i : Int) (hi : 0 ≤ i ∧ i + 6 ≤ (Ln : Int) ∧ (Ln : Int) ≤ 3072) (d : Nat) (hd : 90 ≤ d) (Q : Option Value → List mE → Prop) (hQ : ∀ (τ' : List Nat) (h' : List mE), (∃ ts : List Nat, τ' = τ ++ ts ∧ gsT ts = true) → TH Tr τ' h' → I1 τ' h' → I2 τ' h' → I3 h' → I4 h' → I6 h' → I8 h' → I9 h' → IA h' → IB h' → IC h' → ID h' → IE h' → fI h' 64 32≤fI h' 64 15+fI h' 64 33 → fI h' 6 3=fI h' 64 2 → fI h' 4 0=fI h' 64 1 → fI h' 4 5=fI h' 64 7 → fI h' 4 10=fI h' 64 45 → fI h' 4 12=fI h' 64 48 → fI h' 4 7=fI h' 64 15 → fI h' 39 3=fI h' 64 41 → fI h' 54 1=fI h' 64 77 → fI h' 60 1=fI h' 64 78 → MR (mex Ln xs) d 292 1864 [some (.ref 0), some (.ref 4), some (.ref 64), some (vI i)] [] h' Q) : MR (mex Ln xs) d 292 1111 [some (.ref 0), some (.ref 4), some (.ref 64), some (vI i)] [] h Q := by
  have hF := Fr_rf τ WL h
  have hE := Ext_rf τ
  have e1 := fI_bd (q := 64) hT (tf hT rfl rfl) fd_8_32
  have e2 := fI_bd (q := 64) hT (tf hT rfl rfl) fd_8_15
  have e3 := fI_bd (q := 64) hT (tf hT rfl rfl) fd_8_33
  have e4 := fI_bd (q := 6) hT (tf hT rfl rfl) fd_2_3
  have e5 := fI_bd (q := 64) hT (tf hT rfl rfl) fd_8_2
  have e6 := fI_bd (q := 4) hT (tf hT rfl rfl) fd_1_0
  have e7 := fI_bd (q := 64) hT (tf hT rfl rfl) fd_8_1
  have e8 := fI_bd (q := 4) hT (tf hT rfl rfl) fd_1_5
  have e9 := fI_bd (q := 64) hT (tf hT rfl rfl) fd_8_7
  have e10 := fI_bd (q := 4) hT (tf hT rfl rfl) fd_1_10
  have e11 := fI_bd (q := 64) hT (tf hT rfl rfl) fd_8_45
  have e12 := fI_bd (q := 4) hT (tf hT rfl rfl) fd_1_12
  have e13 := fI_bd (q := 64) hT (tf hT rfl rfl) fd_8_48
  have e14 := fI_bd (q := 4) hT (tf hT rfl rfl) fd_1_7
  have e15 := fI_bd (q := 39) hT (tf hT rfl rfl) fd_3_3
  have e16 := fI_bd (q := 64) hT (tf hT rfl rfl) fd_8_41
  have e17 := fI_bd (q := 54) hT (tf hT rfl rfl) fd_6_1
  have e18 := fI_bd (q := 64) hT (tf hT rfl rfl) fd_8_77
  have e19 := fI_bd (q := 60) hT (tf hT rfl rfl) fd_7_1
  have e20 := fI_bd (q := 64) hT (tf hT rfl rfl) fd_8_78
  refine st_aload c292_1111 rfl ?_
  refine st_aload c292_1112 rfl ?_
  refine st_iload c292_1113 rfl ?_
  refine st_iconst c292_1114 ?_
  refine st_iadd c292_1115 ?_
  refine st_sld c292_1116 (by omega) (fun e21 e22 => ?_)
  refine st_aload c292_1117 rfl ?_
  refine st_iload c292_1118 rfl ?_
  refine st_iconst c292_1119 ?_
  refine st_iadd c292_1120 ?_
  refine st_sld c292_1121 (by omega) (fun e23 e24 => ?_)
  refine st_callt (as := [vI (sv xs (i + 1)), vI (sv xs (i + 2))]) c292_1122 cm_145 hT (tf hT rfl rfl) fd_1_0 rfl rfl rfl rfl (by omega) (K145 hT Stb_T (sv xs (i + 1)) (by omega) (sv xs (i + 2)) (by omega) pre5 (d - 1) (by omega) _ (fun v h0 H => H)) (fun v1 h25 H => ?_)
  obtain ⟨z28, rfl, b29, hT26, hF27⟩ := H
  have hF30 := Fr_cp hF hF27 (by decide +kernel : Wsub W145 WL = true)
  refine st_pop c292_1125 rfl ?_
  refine st_aload c292_1126 rfl ?_
  refine st_aload c292_1127 rfl ?_
  refine st_iload c292_1128 rfl ?_
  refine st_iconst c292_1129 ?_
  refine st_iadd c292_1130 ?_
  refine st_sld c292_1131 (by omega) (fun e31 e32 => ?_)
  refine st_aload c292_1132 rfl ?_
  refine st_iload c292_1133 rfl ?_
  refine st_iconst c292_1134 ?_
  refine st_iadd c292_1135 ?_
  refine st_sld c292_1136 (by omega) (fun e33 e34 => ?_)
  refine st_callt (as := [vI (sv xs (i + 1)), vI (sv xs (i + 2))]) c292_1137 cm_237 hT26 (tf hT26 rfl rfl) fd_8_0 rfl rfl rfl rfl (by omega) (K237 hT26 Stb_T (sv xs (i + 1)) (by omega) (sv xs (i + 2)) (by omega) (I3_fr pre2 hT hF27 (by decide +kernel)) (d - 1) (by omega) _ (fun v h0 H => H)) (fun v1 h35 H => ?_)
  obtain ⟨z39, rfl, b40, pf38, hT36, hF37⟩ := H
  have hF41 := Fr_cp hF30 hF37 (by decide +kernel : Wsub W237 WL = true)
  refine st_pop c292_1140 rfl ?_
  refine st_goto c292_1141 ?_
  have e42 := fI_bd (q := 64) hT36 (tf hT36 rfl rfl) fd_8_32
  have q43 : fI h35 64 32 = fI h 64 32 := (Fr_fI hF37 (tf hT26 rfl rfl) (by decide +kernel)).trans (Fr_fI hF27 (tf hT rfl rfl) (by decide +kernel))
  have e44 := fI_bd (q := 64) hT36 (tf hT36 rfl rfl) fd_8_15
  have q45 : fI h35 64 15 = fI h 64 15 := (Fr_fI hF37 (tf hT26 rfl rfl) (by decide +kernel)).trans (Fr_fI hF27 (tf hT rfl rfl) (by decide +kernel))
  have e46 := fI_bd (q := 64) hT36 (tf hT36 rfl rfl) fd_8_33
  have q47 : fI h35 64 33 = fI h 64 33 := (Fr_fI hF37 (tf hT26 rfl rfl) (by decide +kernel)).trans (Fr_fI hF27 (tf hT rfl rfl) (by decide +kernel))
  have e48 := fI_bd (q := 6) hT36 (tf hT36 rfl rfl) fd_2_3
  have q49 : fI h35 6 3 = fI h 6 3 := (Fr_fI hF37 (tf hT26 rfl rfl) (by decide +kernel)).trans (Fr_fI hF27 (tf hT rfl rfl) (by decide +kernel))
  have e50 := fI_bd (q := 64) hT36 (tf hT36 rfl rfl) fd_8_2
  have q51 : fI h35 64 2 = fI h 64 2 := (Fr_fI hF37 (tf hT26 rfl rfl) (by decide +kernel)).trans (Fr_fI hF27 (tf hT rfl rfl) (by decide +kernel))
  have e52 := fI_bd (q := 4) hT36 (tf hT36 rfl rfl) fd_1_0
  have q53 : fI h35 4 0 = fI h 4 0 := (Fr_fI hF37 (tf hT26 rfl rfl) (by decide +kernel)).trans (Fr_fI hF27 (tf hT rfl rfl) (by decide +kernel))
  have e54 := fI_bd (q := 64) hT36 (tf hT36 rfl rfl) fd_8_1
  have q55 : fI h35 64 1 = fI h 64 1 := (Fr_fI hF37 (tf hT26 rfl rfl) (by decide +kernel)).trans (Fr_fI hF27 (tf hT rfl rfl) (by decide +kernel))
  have e56 := fI_bd (q := 4) hT36 (tf hT36 rfl rfl) fd_1_5
  have q57 : fI h35 4 5 = fI h 4 5 := (Fr_fI hF37 (tf hT26 rfl rfl) (by decide +kernel)).trans (Fr_fI hF27 (tf hT rfl rfl) (by decide +kernel))
  have e58 := fI_bd (q := 64) hT36 (tf hT36 rfl rfl) fd_8_7
  have q59 : fI h35 64 7 = fI h 64 7 := (Fr_fI hF37 (tf hT26 rfl rfl) (by decide +kernel)).trans (Fr_fI hF27 (tf hT rfl rfl) (by decide +kernel))
  have e60 := fI_bd (q := 4) hT36 (tf hT36 rfl rfl) fd_1_10
  have q61 : fI h35 4 10 = fI h 4 10 := (Fr_fI hF37 (tf hT26 rfl rfl) (by decide +kernel)).trans (Fr_fI hF27 (tf hT rfl rfl) (by decide +kernel))
  have e62 := fI_bd (q := 64) hT36 (tf hT36 rfl rfl) fd_8_45
  have q63 : fI h35 64 45 = fI h 64 45 := (Fr_fI hF37 (tf hT26 rfl rfl) (by decide +kernel)).trans (Fr_fI hF27 (tf hT rfl rfl) (by decide +kernel))
  have e64 := fI_bd (q := 4) hT36 (tf hT36 rfl rfl) fd_1_12
  have q65 : fI h35 4 12 = fI h 4 12 := (Fr_fI hF37 (tf hT26 rfl rfl) (by decide +kernel)).trans (Fr_fI hF27 (tf hT rfl rfl) (by decide +kernel))
  have e66 := fI_bd (q := 64) hT36 (tf hT36 rfl rfl) fd_8_48
  have q67 : fI h35 64 48 = fI h 64 48 := (Fr_fI hF37 (tf hT26 rfl rfl) (by decide +kernel)).trans (Fr_fI hF27 (tf hT rfl rfl) (by decide +kernel))
  have e68 := fI_bd (q := 4) hT36 (tf hT36 rfl rfl) fd_1_7
  have q69 : fI h35 4 7 = fI h 4 7 := (Fr_fI hF37 (tf hT26 rfl rfl) (by decide +kernel)).trans (Fr_fI hF27 (tf hT rfl rfl) (by decide +kernel))
  have e70 := fI_bd (q := 39) hT36 (tf hT36 rfl rfl) fd_3_3
  have q71 : fI h35 39 3 = fI h 39 3 := (Fr_fI hF37 (tf hT26 rfl rfl) (by decide +kernel)).trans (Fr_fI hF27 (tf hT rfl rfl) (by decide +kernel))
  have e72 := fI_bd (q := 64) hT36 (tf hT36 rfl rfl) fd_8_41
  have q73 : fI h35 64 41 = fI h 64 41 := (Fr_fI hF37 (tf hT26 rfl rfl) (by decide +kernel)).trans (Fr_fI hF27 (tf hT rfl rfl) (by decide +kernel))
  have e74 := fI_bd (q := 54) hT36 (tf hT36 rfl rfl) fd_6_1
  have q75 : fI h35 54 1 = fI h 54 1 := (Fr_fI hF37 (tf hT26 rfl rfl) (by decide +kernel)).trans (Fr_fI hF27 (tf hT rfl rfl) (by decide +kernel))
  have e76 := fI_bd (q := 64) hT36 (tf hT36 rfl rfl) fd_8_77
  have q77 : fI h35 64 77 = fI h 64 77 := (Fr_fI hF37 (tf hT26 rfl rfl) (by decide +kernel)).trans (Fr_fI hF27 (tf hT rfl rfl) (by decide +kernel))
  have e78 := fI_bd (q := 60) hT36 (tf hT36 rfl rfl) fd_7_1
  have q79 : fI h35 60 1 = fI h 60 1 := (Fr_fI hF37 (tf hT26 rfl rfl) (by decide +kernel)).trans (Fr_fI hF27 (tf hT rfl rfl) (by decide +kernel))
  have e80 := fI_bd (q := 64) hT36 (tf hT36 rfl rfl) fd_8_78
  have q81 : fI h35 64 78 = fI h 64 78 := (Fr_fI hF37 (tf hT26 rfl rfl) (by decide +kernel)).trans (Fr_fI hF27 (tf hT rfl rfl) (by decide +kernel))
  exact hQ _ _ ⟨[], (List.append_nil τ).symm, rfl⟩ hT36 (I1_fr (I1_fr pre0 hT hF27 (by decide +kernel)) hT26 hF37 (by decide +kernel)) (I2_fr (I2_fr pre1 hF27 (by decide +kernel)) hF37 (by decide +kernel)) pf38 (I4_fr (I4_fr pre3 hT hF27 (by decide +kernel)) hT26 hF37 (by decide +kernel)) (I6_fr (I6_fr pre4 hT hF27 (by decide +kernel)) hT26 hF37 (by decide +kernel)) (I8_fr (I8_fr pre5 hT hF27 (by decide +kernel)) hT26 hF37 (by decide +kernel)) (I9_fr (I9_fr pre6 hT hF27 (by decide +kernel)) hT26 hF37 (by decide +kernel)) (IA_fr (IA_fr pre7 hT hF27 (by decide +kernel)) hT26 hF37 (by decide +kernel)) (IB_fr (IB_fr pre8 hT hF27 (by decide +kernel)) hT26 hF37 (by decide +kernel)) (IC_fr (IC_fr pre9 hT hF27 (by decide +kernel)) hT26 hF37 (by decide +kernel)) (ID_fr (ID_fr pre10 hT hF27 (by decide +kernel)) hT26 hF37 (by decide +kernel)) (IE_fr (IE_fr pre11 hT hF27 (by decide +kernel)) hT26 hF37 (by decide +kernel)) (by omega) (by omega) (by omega) (by omega) (by omega) (by omega) (by omega) (by omega) (by omega) (by omega)
set_option maxHeartbeats 0 in
theorem LC_28 {Ln : Nat} {xs : Nat → Int32} {τ : List Nat} {h : List mE} (hT : TH Tr τ h) (pre0 : I1 τ h) (pre1 : I2 τ h) (pre2 : I3 h) (pre3 : I4 h) (pre4 : I6 h) (pre5 : I8 h) (pre6 : I9 h) (pre7 : IA h) (pre8 : IB h) (pre9 : IC h) (pre10 : ID h) (pre11 : IE h) (pre12 : fI h 64 32≤fI h 64 15+fI h 64 33) (pre13 : fI h 6 3=fI h 64 2) (pre14 : fI h 4 0=fI h 64 1) (pre15 : fI h 4 5=fI h 64 7) (pre16 : fI h 4 10=fI h 64 45) (pre17 : fI h 4 12=fI h 64 48) (pre18 : fI h 4 7=fI h 64 15) (pre19 : fI h 39 3=fI h 64 41) (pre20 : fI h 54 1=fI h 64 77) (pre21 : fI h 60 1=fI h 64 78) (i : Int) (hi : 0 ≤ i ∧ i + 6 ≤ (Ln : Int) ∧ (Ln : Int) ≤ 3072) (d : Nat) (hd : 90 ≤ d) (Q : Option Value → List mE → Prop) (hQ : ∀ (τ' : List Nat) (h' : List mE), (∃ ts : List Nat, τ' = τ ++ ts ∧ gsT ts = true) → TH Tr τ' h' → I1 τ' h' → I2 τ' h' → I3 h' → I4 h' → I6 h' → I8 h' → I9 h' → IA h' → IB h' → IC h' → ID h' → IE h' → fI h' 64 32≤fI h' 64 15+fI h' 64 33 → fI h' 6 3=fI h' 64 2 → fI h' 4 0=fI h' 64 1 → fI h' 4 5=fI h' 64 7 → fI h' 4 10=fI h' 64 45 → fI h' 4 12=fI h' 64 48 → fI h' 4 7=fI h' 64 15 → fI h' 39 3=fI h' 64 41 → fI h' 54 1=fI h' 64 77 → fI h' 60 1=fI h' 64 78 → MR (mex Ln xs) d 292 1864 [some (.ref 0), some (.ref 4), some (.ref 64), some (vI i)] [] h' Q) : MR (mex Ln xs) d 292 1144 [some (.ref 0), some (.ref 4), some (.ref 64), some (vI i)] [] h Q := by
  have hF := Fr_rf τ WL h
  have hE := Ext_rf τ
  have e1 := fI_bd (q := 64) hT (tf hT rfl rfl) fd_8_32
  have e2 := fI_bd (q := 64) hT (tf hT rfl rfl) fd_8_15
  have e3 := fI_bd (q := 64) hT (tf hT rfl rfl) fd_8_33
  have e4 := fI_bd (q := 6) hT (tf hT rfl rfl) fd_2_3
  have e5 := fI_bd (q := 64) hT (tf hT rfl rfl) fd_8_2
  have e6 := fI_bd (q := 4) hT (tf hT rfl rfl) fd_1_0
  have e7 := fI_bd (q := 64) hT (tf hT rfl rfl) fd_8_1
  have e8 := fI_bd (q := 4) hT (tf hT rfl rfl) fd_1_5
  have e9 := fI_bd (q := 64) hT (tf hT rfl rfl) fd_8_7
  have e10 := fI_bd (q := 4) hT (tf hT rfl rfl) fd_1_10
  have e11 := fI_bd (q := 64) hT (tf hT rfl rfl) fd_8_45
  have e12 := fI_bd (q := 4) hT (tf hT rfl rfl) fd_1_12
  have e13 := fI_bd (q := 64) hT (tf hT rfl rfl) fd_8_48
  have e14 := fI_bd (q := 4) hT (tf hT rfl rfl) fd_1_7
  have e15 := fI_bd (q := 39) hT (tf hT rfl rfl) fd_3_3
  have e16 := fI_bd (q := 64) hT (tf hT rfl rfl) fd_8_41
  have e17 := fI_bd (q := 54) hT (tf hT rfl rfl) fd_6_1
  have e18 := fI_bd (q := 64) hT (tf hT rfl rfl) fd_8_77
  have e19 := fI_bd (q := 60) hT (tf hT rfl rfl) fd_7_1
  have e20 := fI_bd (q := 64) hT (tf hT rfl rfl) fd_8_78
  refine st_aload c292_1144 rfl ?_
  refine st_aload c292_1145 rfl ?_
  refine st_iload c292_1146 rfl ?_
  refine st_iconst c292_1147 ?_
  refine st_iadd c292_1148 ?_
  refine st_sld c292_1149 (by omega) (fun e21 e22 => ?_)
  refine st_callt (as := [vI (sv xs (i + 1))]) c292_1150 cm_146 hT (tf hT rfl rfl) fd_1_0 rfl rfl rfl rfl (by omega) (K146 hT Stb_T (sv xs (i + 1)) (by omega) pre5 (d - 1) (by omega) _ (fun v h0 H => H)) (fun v1 h23 H => ?_)
  obtain ⟨z26, rfl, b27, hT24, hF25⟩ := H
  have hF28 := Fr_cp hF hF25 (by decide +kernel : Wsub W146 WL = true)
  refine st_pop c292_1153 rfl ?_
  refine st_aload c292_1154 rfl ?_
  refine st_aload c292_1155 rfl ?_
  refine st_iload c292_1156 rfl ?_
  refine st_iconst c292_1157 ?_
  refine st_iadd c292_1158 ?_
  refine st_sld c292_1159 (by omega) (fun e29 e30 => ?_)
  refine st_callt (as := [vI (sv xs (i + 1))]) c292_1160 cm_238 hT24 (tf hT24 rfl rfl) fd_8_0 rfl rfl rfl rfl (by omega) (K238 hT24 Stb_T (sv xs (i + 1)) (by omega) (I3_fr pre2 hT hF25 (by decide +kernel)) (d - 1) (by omega) _ (fun v h0 H => H)) (fun v1 h31 H => ?_)
  obtain ⟨z35, rfl, b36, pf34, hT32, hF33⟩ := H
  have hF37 := Fr_cp hF28 hF33 (by decide +kernel : Wsub W238 WL = true)
  refine st_pop c292_1163 rfl ?_
  refine st_goto c292_1164 ?_
  have e38 := fI_bd (q := 64) hT32 (tf hT32 rfl rfl) fd_8_32
  have q39 : fI h31 64 32 = fI h 64 32 := (Fr_fI hF33 (tf hT24 rfl rfl) (by decide +kernel)).trans (Fr_fI hF25 (tf hT rfl rfl) (by decide +kernel))
  have e40 := fI_bd (q := 64) hT32 (tf hT32 rfl rfl) fd_8_15
  have q41 : fI h31 64 15 = fI h 64 15 := (Fr_fI hF33 (tf hT24 rfl rfl) (by decide +kernel)).trans (Fr_fI hF25 (tf hT rfl rfl) (by decide +kernel))
  have e42 := fI_bd (q := 64) hT32 (tf hT32 rfl rfl) fd_8_33
  have q43 : fI h31 64 33 = fI h 64 33 := (Fr_fI hF33 (tf hT24 rfl rfl) (by decide +kernel)).trans (Fr_fI hF25 (tf hT rfl rfl) (by decide +kernel))
  have e44 := fI_bd (q := 6) hT32 (tf hT32 rfl rfl) fd_2_3
  have q45 : fI h31 6 3 = fI h 6 3 := (Fr_fI hF33 (tf hT24 rfl rfl) (by decide +kernel)).trans (Fr_fI hF25 (tf hT rfl rfl) (by decide +kernel))
  have e46 := fI_bd (q := 64) hT32 (tf hT32 rfl rfl) fd_8_2
  have q47 : fI h31 64 2 = fI h 64 2 := (Fr_fI hF33 (tf hT24 rfl rfl) (by decide +kernel)).trans (Fr_fI hF25 (tf hT rfl rfl) (by decide +kernel))
  have e48 := fI_bd (q := 4) hT32 (tf hT32 rfl rfl) fd_1_0
  have q49 : fI h31 4 0 = fI h 4 0 := (Fr_fI hF33 (tf hT24 rfl rfl) (by decide +kernel)).trans (Fr_fI hF25 (tf hT rfl rfl) (by decide +kernel))
  have e50 := fI_bd (q := 64) hT32 (tf hT32 rfl rfl) fd_8_1
  have q51 : fI h31 64 1 = fI h 64 1 := (Fr_fI hF33 (tf hT24 rfl rfl) (by decide +kernel)).trans (Fr_fI hF25 (tf hT rfl rfl) (by decide +kernel))
  have e52 := fI_bd (q := 4) hT32 (tf hT32 rfl rfl) fd_1_5
  have q53 : fI h31 4 5 = fI h 4 5 := (Fr_fI hF33 (tf hT24 rfl rfl) (by decide +kernel)).trans (Fr_fI hF25 (tf hT rfl rfl) (by decide +kernel))
  have e54 := fI_bd (q := 64) hT32 (tf hT32 rfl rfl) fd_8_7
  have q55 : fI h31 64 7 = fI h 64 7 := (Fr_fI hF33 (tf hT24 rfl rfl) (by decide +kernel)).trans (Fr_fI hF25 (tf hT rfl rfl) (by decide +kernel))
  have e56 := fI_bd (q := 4) hT32 (tf hT32 rfl rfl) fd_1_10
  have q57 : fI h31 4 10 = fI h 4 10 := (Fr_fI hF33 (tf hT24 rfl rfl) (by decide +kernel)).trans (Fr_fI hF25 (tf hT rfl rfl) (by decide +kernel))
  have e58 := fI_bd (q := 64) hT32 (tf hT32 rfl rfl) fd_8_45
  have q59 : fI h31 64 45 = fI h 64 45 := (Fr_fI hF33 (tf hT24 rfl rfl) (by decide +kernel)).trans (Fr_fI hF25 (tf hT rfl rfl) (by decide +kernel))
  have e60 := fI_bd (q := 4) hT32 (tf hT32 rfl rfl) fd_1_12
  have q61 : fI h31 4 12 = fI h 4 12 := (Fr_fI hF33 (tf hT24 rfl rfl) (by decide +kernel)).trans (Fr_fI hF25 (tf hT rfl rfl) (by decide +kernel))
  have e62 := fI_bd (q := 64) hT32 (tf hT32 rfl rfl) fd_8_48
  have q63 : fI h31 64 48 = fI h 64 48 := (Fr_fI hF33 (tf hT24 rfl rfl) (by decide +kernel)).trans (Fr_fI hF25 (tf hT rfl rfl) (by decide +kernel))
  have e64 := fI_bd (q := 4) hT32 (tf hT32 rfl rfl) fd_1_7
  have q65 : fI h31 4 7 = fI h 4 7 := (Fr_fI hF33 (tf hT24 rfl rfl) (by decide +kernel)).trans (Fr_fI hF25 (tf hT rfl rfl) (by decide +kernel))
  have e66 := fI_bd (q := 39) hT32 (tf hT32 rfl rfl) fd_3_3
  have q67 : fI h31 39 3 = fI h 39 3 := (Fr_fI hF33 (tf hT24 rfl rfl) (by decide +kernel)).trans (Fr_fI hF25 (tf hT rfl rfl) (by decide +kernel))
  have e68 := fI_bd (q := 64) hT32 (tf hT32 rfl rfl) fd_8_41
  have q69 : fI h31 64 41 = fI h 64 41 := (Fr_fI hF33 (tf hT24 rfl rfl) (by decide +kernel)).trans (Fr_fI hF25 (tf hT rfl rfl) (by decide +kernel))
  have e70 := fI_bd (q := 54) hT32 (tf hT32 rfl rfl) fd_6_1
  have q71 : fI h31 54 1 = fI h 54 1 := (Fr_fI hF33 (tf hT24 rfl rfl) (by decide +kernel)).trans (Fr_fI hF25 (tf hT rfl rfl) (by decide +kernel))
  have e72 := fI_bd (q := 64) hT32 (tf hT32 rfl rfl) fd_8_77
  have q73 : fI h31 64 77 = fI h 64 77 := (Fr_fI hF33 (tf hT24 rfl rfl) (by decide +kernel)).trans (Fr_fI hF25 (tf hT rfl rfl) (by decide +kernel))
  have e74 := fI_bd (q := 60) hT32 (tf hT32 rfl rfl) fd_7_1
  have q75 : fI h31 60 1 = fI h 60 1 := (Fr_fI hF33 (tf hT24 rfl rfl) (by decide +kernel)).trans (Fr_fI hF25 (tf hT rfl rfl) (by decide +kernel))
  have e76 := fI_bd (q := 64) hT32 (tf hT32 rfl rfl) fd_8_78
  have q77 : fI h31 64 78 = fI h 64 78 := (Fr_fI hF33 (tf hT24 rfl rfl) (by decide +kernel)).trans (Fr_fI hF25 (tf hT rfl rfl) (by decide +kernel))
  exact hQ _ _ ⟨[], (List.append_nil τ).symm, rfl⟩ hT32 (I1_fr (I1_fr pre0 hT hF25 (by decide +kernel)) hT24 hF33 (by decide +kernel)) (I2_fr (I2_fr pre1 hF25 (by decide +kernel)) hF33 (by decide +kernel)) pf34 (I4_fr (I4_fr pre3 hT hF25 (by decide +kernel)) hT24 hF33 (by decide +kernel)) (I6_fr (I6_fr pre4 hT hF25 (by decide +kernel)) hT24 hF33 (by decide +kernel)) (I8_fr (I8_fr pre5 hT hF25 (by decide +kernel)) hT24 hF33 (by decide +kernel)) (I9_fr (I9_fr pre6 hT hF25 (by decide +kernel)) hT24 hF33 (by decide +kernel)) (IA_fr (IA_fr pre7 hT hF25 (by decide +kernel)) hT24 hF33 (by decide +kernel)) (IB_fr (IB_fr pre8 hT hF25 (by decide +kernel)) hT24 hF33 (by decide +kernel)) (IC_fr (IC_fr pre9 hT hF25 (by decide +kernel)) hT24 hF33 (by decide +kernel)) (ID_fr (ID_fr pre10 hT hF25 (by decide +kernel)) hT24 hF33 (by decide +kernel)) (IE_fr (IE_fr pre11 hT hF25 (by decide +kernel)) hT24 hF33 (by decide +kernel)) (by omega) (by omega) (by omega) (by omega) (by omega) (by omega) (by omega) (by omega) (by omega) (by omega)
set_option maxHeartbeats 0 in
theorem LC_29 {Ln : Nat} {xs : Nat → Int32} {τ : List Nat} {h : List mE} (hT : TH Tr τ h) (pre0 : I1 τ h) (pre1 : I2 τ h) (pre2 : I3 h) (pre3 : I4 h) (pre4 : I6 h) (pre5 : I8 h) (pre6 : I9 h) (pre7 : IA h) (pre8 : IB h) (pre9 : IC h) (pre10 : ID h) (pre11 : IE h) (pre12 : fI h 64 32≤fI h 64 15+fI h 64 33) (pre13 : fI h 6 3=fI h 64 2) (pre14 : fI h 4 0=fI h 64 1) (pre15 : fI h 4 5=fI h 64 7) (pre16 : fI h 4 10=fI h 64 45) (pre17 : fI h 4 12=fI h 64 48) (pre18 : fI h 4 7=fI h 64 15) (pre19 : fI h 39 3=fI h 64 41) (pre20 : fI h 54 1=fI h 64 77) (pre21 : fI h 60 1=fI h 64 78) (i : Int) (hi : 0 ≤ i ∧ i + 6 ≤ (Ln : Int) ∧ (Ln : Int) ≤ 3072) (d : Nat) (hd : 90 ≤ d) (Q : Option Value → List mE → Prop) (hQ : ∀ (τ' : List Nat) (h' : List mE), (∃ ts : List Nat, τ' = τ ++ ts ∧ gsT ts = true) → TH Tr τ' h' → I1 τ' h' → I2 τ' h' → I3 h' → I4 h' → I6 h' → I8 h' → I9 h' → IA h' → IB h' → IC h' → ID h' → IE h' → fI h' 64 32≤fI h' 64 15+fI h' 64 33 → fI h' 6 3=fI h' 64 2 → fI h' 4 0=fI h' 64 1 → fI h' 4 5=fI h' 64 7 → fI h' 4 10=fI h' 64 45 → fI h' 4 12=fI h' 64 48 → fI h' 4 7=fI h' 64 15 → fI h' 39 3=fI h' 64 41 → fI h' 54 1=fI h' 64 77 → fI h' 60 1=fI h' 64 78 → MR (mex Ln xs) d 292 1864 [some (.ref 0), some (.ref 4), some (.ref 64), some (vI i)] [] h' Q) : MR (mex Ln xs) d 292 1167 [some (.ref 0), some (.ref 4), some (.ref 64), some (vI i)] [] h Q := by
  have hF := Fr_rf τ WL h
  have hE := Ext_rf τ
  have e1 := fI_bd (q := 64) hT (tf hT rfl rfl) fd_8_32
  have e2 := fI_bd (q := 64) hT (tf hT rfl rfl) fd_8_15
  have e3 := fI_bd (q := 64) hT (tf hT rfl rfl) fd_8_33
  have e4 := fI_bd (q := 6) hT (tf hT rfl rfl) fd_2_3
  have e5 := fI_bd (q := 64) hT (tf hT rfl rfl) fd_8_2
  have e6 := fI_bd (q := 4) hT (tf hT rfl rfl) fd_1_0
  have e7 := fI_bd (q := 64) hT (tf hT rfl rfl) fd_8_1
  have e8 := fI_bd (q := 4) hT (tf hT rfl rfl) fd_1_5
  have e9 := fI_bd (q := 64) hT (tf hT rfl rfl) fd_8_7
  have e10 := fI_bd (q := 4) hT (tf hT rfl rfl) fd_1_10
  have e11 := fI_bd (q := 64) hT (tf hT rfl rfl) fd_8_45
  have e12 := fI_bd (q := 4) hT (tf hT rfl rfl) fd_1_12
  have e13 := fI_bd (q := 64) hT (tf hT rfl rfl) fd_8_48
  have e14 := fI_bd (q := 4) hT (tf hT rfl rfl) fd_1_7
  have e15 := fI_bd (q := 39) hT (tf hT rfl rfl) fd_3_3
  have e16 := fI_bd (q := 64) hT (tf hT rfl rfl) fd_8_41
  have e17 := fI_bd (q := 54) hT (tf hT rfl rfl) fd_6_1
  have e18 := fI_bd (q := 64) hT (tf hT rfl rfl) fd_8_77
  have e19 := fI_bd (q := 60) hT (tf hT rfl rfl) fd_7_1
  have e20 := fI_bd (q := 64) hT (tf hT rfl rfl) fd_8_78
  refine st_aload c292_1167 rfl ?_
  refine st_aload c292_1168 rfl ?_
  refine st_iload c292_1169 rfl ?_
  refine st_iconst c292_1170 ?_
  refine st_iadd c292_1171 ?_
  refine st_sld c292_1172 (by omega) (fun e21 e22 => ?_)
  refine st_aload c292_1173 rfl ?_
  refine st_iload c292_1174 rfl ?_
  refine st_iconst c292_1175 ?_
  refine st_iadd c292_1176 ?_
  refine st_sld c292_1177 (by omega) (fun e23 e24 => ?_)
  refine st_callt (as := [vI (sv xs (i + 1)), vI (sv xs (i + 2))]) c292_1178 cm_147 hT (tf hT rfl rfl) fd_1_0 rfl rfl rfl rfl (by omega) (K147 hT (sv xs (i + 1)) (by omega) (sv xs (i + 2)) (by omega) pre5 (d - 1) (by omega) _ (fun v h0 H => H)) (fun v1 h1 H => ?_)
  obtain ⟨z25, rfl, b26, rfl⟩ := H
  refine st_pop c292_1181 rfl ?_
  refine st_aload c292_1182 rfl ?_
  refine st_aload c292_1183 rfl ?_
  refine st_iload c292_1184 rfl ?_
  refine st_iconst c292_1185 ?_
  refine st_iadd c292_1186 ?_
  refine st_sld c292_1187 (by omega) (fun e27 e28 => ?_)
  refine st_aload c292_1188 rfl ?_
  refine st_iload c292_1189 rfl ?_
  refine st_iconst c292_1190 ?_
  refine st_iadd c292_1191 ?_
  refine st_sld c292_1192 (by omega) (fun e29 e30 => ?_)
  refine st_callt (as := [vI (sv xs (i + 1)), vI (sv xs (i + 2))]) c292_1193 cm_239 hT (tf hT rfl rfl) fd_8_0 rfl rfl rfl rfl (by omega) (K239 hT (sv xs (i + 1)) (by omega) (sv xs (i + 2)) (by omega) (d - 1) (by omega) _ (fun v h0 H => H)) (fun v1 h1 H => ?_)
  obtain ⟨z31, rfl, b32, rfl⟩ := H
  refine st_pop c292_1196 rfl ?_
  refine st_goto c292_1197 ?_
  have e33 := fI_bd (q := 64) hT (tf hT rfl rfl) fd_8_32
  have e34 := fI_bd (q := 64) hT (tf hT rfl rfl) fd_8_15
  have e35 := fI_bd (q := 64) hT (tf hT rfl rfl) fd_8_33
  have e36 := fI_bd (q := 6) hT (tf hT rfl rfl) fd_2_3
  have e37 := fI_bd (q := 64) hT (tf hT rfl rfl) fd_8_2
  have e38 := fI_bd (q := 4) hT (tf hT rfl rfl) fd_1_0
  have e39 := fI_bd (q := 64) hT (tf hT rfl rfl) fd_8_1
  have e40 := fI_bd (q := 4) hT (tf hT rfl rfl) fd_1_5
  have e41 := fI_bd (q := 64) hT (tf hT rfl rfl) fd_8_7
  have e42 := fI_bd (q := 4) hT (tf hT rfl rfl) fd_1_10
  have e43 := fI_bd (q := 64) hT (tf hT rfl rfl) fd_8_45
  have e44 := fI_bd (q := 4) hT (tf hT rfl rfl) fd_1_12
  have e45 := fI_bd (q := 64) hT (tf hT rfl rfl) fd_8_48
  have e46 := fI_bd (q := 4) hT (tf hT rfl rfl) fd_1_7
  have e47 := fI_bd (q := 39) hT (tf hT rfl rfl) fd_3_3
  have e48 := fI_bd (q := 64) hT (tf hT rfl rfl) fd_8_41
  have e49 := fI_bd (q := 54) hT (tf hT rfl rfl) fd_6_1
  have e50 := fI_bd (q := 64) hT (tf hT rfl rfl) fd_8_77
  have e51 := fI_bd (q := 60) hT (tf hT rfl rfl) fd_7_1
  have e52 := fI_bd (q := 64) hT (tf hT rfl rfl) fd_8_78
  exact hQ _ _ ⟨[], (List.append_nil τ).symm, rfl⟩ hT pre0 pre1 pre2 pre3 pre4 pre5 pre6 pre7 pre8 pre9 pre10 pre11 (by omega) (by omega) (by omega) (by omega) (by omega) (by omega) (by omega) (by omega) (by omega) (by omega)
set_option maxHeartbeats 0 in
theorem LC_30 {Ln : Nat} {xs : Nat → Int32} {τ : List Nat} {h : List mE} (hT : TH Tr τ h) (pre0 : I1 τ h) (pre1 : I2 τ h) (pre2 : I3 h) (pre3 : I4 h) (pre4 : I6 h) (pre5 : I8 h) (pre6 : I9 h) (pre7 : IA h) (pre8 : IB h) (pre9 : IC h) (pre10 : ID h) (pre11 : IE h) (pre12 : fI h 64 32≤fI h 64 15+fI h 64 33) (pre13 : fI h 6 3=fI h 64 2) (pre14 : fI h 4 0=fI h 64 1) (pre15 : fI h 4 5=fI h 64 7) (pre16 : fI h 4 10=fI h 64 45) (pre17 : fI h 4 12=fI h 64 48) (pre18 : fI h 4 7=fI h 64 15) (pre19 : fI h 39 3=fI h 64 41) (pre20 : fI h 54 1=fI h 64 77) (pre21 : fI h 60 1=fI h 64 78) (i : Int) (hi : 0 ≤ i ∧ i + 6 ≤ (Ln : Int) ∧ (Ln : Int) ≤ 3072) (d : Nat) (hd : 90 ≤ d) (Q : Option Value → List mE → Prop) (hQ : ∀ (τ' : List Nat) (h' : List mE), (∃ ts : List Nat, τ' = τ ++ ts ∧ gsT ts = true) → TH Tr τ' h' → I1 τ' h' → I2 τ' h' → I3 h' → I4 h' → I6 h' → I8 h' → I9 h' → IA h' → IB h' → IC h' → ID h' → IE h' → fI h' 64 32≤fI h' 64 15+fI h' 64 33 → fI h' 6 3=fI h' 64 2 → fI h' 4 0=fI h' 64 1 → fI h' 4 5=fI h' 64 7 → fI h' 4 10=fI h' 64 45 → fI h' 4 12=fI h' 64 48 → fI h' 4 7=fI h' 64 15 → fI h' 39 3=fI h' 64 41 → fI h' 54 1=fI h' 64 77 → fI h' 60 1=fI h' 64 78 → MR (mex Ln xs) d 292 1864 [some (.ref 0), some (.ref 4), some (.ref 64), some (vI i)] [] h' Q) : MR (mex Ln xs) d 292 1200 [some (.ref 0), some (.ref 4), some (.ref 64), some (vI i)] [] h Q := by
  have hF := Fr_rf τ WL h
  have hE := Ext_rf τ
  have e1 := fI_bd (q := 64) hT (tf hT rfl rfl) fd_8_32
  have e2 := fI_bd (q := 64) hT (tf hT rfl rfl) fd_8_15
  have e3 := fI_bd (q := 64) hT (tf hT rfl rfl) fd_8_33
  have e4 := fI_bd (q := 6) hT (tf hT rfl rfl) fd_2_3
  have e5 := fI_bd (q := 64) hT (tf hT rfl rfl) fd_8_2
  have e6 := fI_bd (q := 4) hT (tf hT rfl rfl) fd_1_0
  have e7 := fI_bd (q := 64) hT (tf hT rfl rfl) fd_8_1
  have e8 := fI_bd (q := 4) hT (tf hT rfl rfl) fd_1_5
  have e9 := fI_bd (q := 64) hT (tf hT rfl rfl) fd_8_7
  have e10 := fI_bd (q := 4) hT (tf hT rfl rfl) fd_1_10
  have e11 := fI_bd (q := 64) hT (tf hT rfl rfl) fd_8_45
  have e12 := fI_bd (q := 4) hT (tf hT rfl rfl) fd_1_12
  have e13 := fI_bd (q := 64) hT (tf hT rfl rfl) fd_8_48
  have e14 := fI_bd (q := 4) hT (tf hT rfl rfl) fd_1_7
  have e15 := fI_bd (q := 39) hT (tf hT rfl rfl) fd_3_3
  have e16 := fI_bd (q := 64) hT (tf hT rfl rfl) fd_8_41
  have e17 := fI_bd (q := 54) hT (tf hT rfl rfl) fd_6_1
  have e18 := fI_bd (q := 64) hT (tf hT rfl rfl) fd_8_77
  have e19 := fI_bd (q := 60) hT (tf hT rfl rfl) fd_7_1
  have e20 := fI_bd (q := 64) hT (tf hT rfl rfl) fd_8_78
  refine st_aload c292_1200 rfl ?_
  refine st_aload c292_1201 rfl ?_
  refine st_iload c292_1202 rfl ?_
  refine st_iconst c292_1203 ?_
  refine st_iadd c292_1204 ?_
  refine st_sld c292_1205 (by omega) (fun e21 e22 => ?_)
  refine st_aload c292_1206 rfl ?_
  refine st_iload c292_1207 rfl ?_
  refine st_iconst c292_1208 ?_
  refine st_iadd c292_1209 ?_
  refine st_sld c292_1210 (by omega) (fun e23 e24 => ?_)
  refine st_aload c292_1211 rfl ?_
  refine st_iload c292_1212 rfl ?_
  refine st_iconst c292_1213 ?_
  refine st_iadd c292_1214 ?_
  refine st_sld c292_1215 (by omega) (fun e25 e26 => ?_)
  refine st_callt (as := [vI (sv xs (i + 1)), vI (sv xs (i + 2)), vI (sv xs (i + 3))]) c292_1216 cm_148 hT (tf hT rfl rfl) fd_1_0 rfl rfl rfl rfl (by omega) (K148 hT Stb_T (sv xs (i + 1)) (by omega) (sv xs (i + 2)) (by omega) (sv xs (i + 3)) (by omega) pre5 (d - 1) (by omega) _ (fun v h0 H => H)) (fun v1 h27 H => ?_)
  obtain ⟨z30, rfl, b31, hT28, hF29⟩ := H
  have hF32 := Fr_cp hF hF29 (by decide +kernel : Wsub W148 WL = true)
  refine st_pop c292_1219 rfl ?_
  refine st_aload c292_1220 rfl ?_
  refine st_aload c292_1221 rfl ?_
  refine st_iload c292_1222 rfl ?_
  refine st_iconst c292_1223 ?_
  refine st_iadd c292_1224 ?_
  refine st_sld c292_1225 (by omega) (fun e33 e34 => ?_)
  refine st_aload c292_1226 rfl ?_
  refine st_iload c292_1227 rfl ?_
  refine st_iconst c292_1228 ?_
  refine st_iadd c292_1229 ?_
  refine st_sld c292_1230 (by omega) (fun e35 e36 => ?_)
  refine st_aload c292_1231 rfl ?_
  refine st_iload c292_1232 rfl ?_
  refine st_iconst c292_1233 ?_
  refine st_iadd c292_1234 ?_
  refine st_sld c292_1235 (by omega) (fun e37 e38 => ?_)
  refine st_callt (as := [vI (sv xs (i + 1)), vI (sv xs (i + 2)), vI (sv xs (i + 3))]) c292_1236 cm_242 hT28 (tf hT28 rfl rfl) fd_8_0 rfl rfl rfl rfl (by omega) (K242 hT28 Stb_T (sv xs (i + 1)) (by omega) (sv xs (i + 2)) (by omega) (sv xs (i + 3)) (by omega) (d - 1) (by omega) _ (fun v h0 H => H)) (fun v1 h39 H => ?_)
  obtain ⟨z42, rfl, b43, hT40, hF41⟩ := H
  have hF44 := Fr_cp hF32 hF41 (by decide +kernel : Wsub W242 WL = true)
  refine st_pop c292_1239 rfl ?_
  refine st_goto c292_1240 ?_
  have e45 := fI_bd (q := 64) hT40 (tf hT40 rfl rfl) fd_8_32
  have q46 : fI h39 64 32 = fI h 64 32 := (Fr_fI hF41 (tf hT28 rfl rfl) (by decide +kernel)).trans (Fr_fI hF29 (tf hT rfl rfl) (by decide +kernel))
  have e47 := fI_bd (q := 64) hT40 (tf hT40 rfl rfl) fd_8_15
  have q48 : fI h39 64 15 = fI h 64 15 := (Fr_fI hF41 (tf hT28 rfl rfl) (by decide +kernel)).trans (Fr_fI hF29 (tf hT rfl rfl) (by decide +kernel))
  have e49 := fI_bd (q := 64) hT40 (tf hT40 rfl rfl) fd_8_33
  have q50 : fI h39 64 33 = fI h 64 33 := (Fr_fI hF41 (tf hT28 rfl rfl) (by decide +kernel)).trans (Fr_fI hF29 (tf hT rfl rfl) (by decide +kernel))
  have e51 := fI_bd (q := 6) hT40 (tf hT40 rfl rfl) fd_2_3
  have q52 : fI h39 6 3 = fI h 6 3 := (Fr_fI hF41 (tf hT28 rfl rfl) (by decide +kernel)).trans (Fr_fI hF29 (tf hT rfl rfl) (by decide +kernel))
  have e53 := fI_bd (q := 64) hT40 (tf hT40 rfl rfl) fd_8_2
  have q54 : fI h39 64 2 = fI h 64 2 := (Fr_fI hF41 (tf hT28 rfl rfl) (by decide +kernel)).trans (Fr_fI hF29 (tf hT rfl rfl) (by decide +kernel))
  have e55 := fI_bd (q := 4) hT40 (tf hT40 rfl rfl) fd_1_0
  have q56 : fI h39 4 0 = fI h 4 0 := (Fr_fI hF41 (tf hT28 rfl rfl) (by decide +kernel)).trans (Fr_fI hF29 (tf hT rfl rfl) (by decide +kernel))
  have e57 := fI_bd (q := 64) hT40 (tf hT40 rfl rfl) fd_8_1
  have q58 : fI h39 64 1 = fI h 64 1 := (Fr_fI hF41 (tf hT28 rfl rfl) (by decide +kernel)).trans (Fr_fI hF29 (tf hT rfl rfl) (by decide +kernel))
  have e59 := fI_bd (q := 4) hT40 (tf hT40 rfl rfl) fd_1_5
  have q60 : fI h39 4 5 = fI h 4 5 := (Fr_fI hF41 (tf hT28 rfl rfl) (by decide +kernel)).trans (Fr_fI hF29 (tf hT rfl rfl) (by decide +kernel))
  have e61 := fI_bd (q := 64) hT40 (tf hT40 rfl rfl) fd_8_7
  have q62 : fI h39 64 7 = fI h 64 7 := (Fr_fI hF41 (tf hT28 rfl rfl) (by decide +kernel)).trans (Fr_fI hF29 (tf hT rfl rfl) (by decide +kernel))
  have e63 := fI_bd (q := 4) hT40 (tf hT40 rfl rfl) fd_1_10
  have q64 : fI h39 4 10 = fI h 4 10 := (Fr_fI hF41 (tf hT28 rfl rfl) (by decide +kernel)).trans (Fr_fI hF29 (tf hT rfl rfl) (by decide +kernel))
  have e65 := fI_bd (q := 64) hT40 (tf hT40 rfl rfl) fd_8_45
  have q66 : fI h39 64 45 = fI h 64 45 := (Fr_fI hF41 (tf hT28 rfl rfl) (by decide +kernel)).trans (Fr_fI hF29 (tf hT rfl rfl) (by decide +kernel))
  have e67 := fI_bd (q := 4) hT40 (tf hT40 rfl rfl) fd_1_12
  have q68 : fI h39 4 12 = fI h 4 12 := (Fr_fI hF41 (tf hT28 rfl rfl) (by decide +kernel)).trans (Fr_fI hF29 (tf hT rfl rfl) (by decide +kernel))
  have e69 := fI_bd (q := 64) hT40 (tf hT40 rfl rfl) fd_8_48
  have q70 : fI h39 64 48 = fI h 64 48 := (Fr_fI hF41 (tf hT28 rfl rfl) (by decide +kernel)).trans (Fr_fI hF29 (tf hT rfl rfl) (by decide +kernel))
  have e71 := fI_bd (q := 4) hT40 (tf hT40 rfl rfl) fd_1_7
  have q72 : fI h39 4 7 = fI h 4 7 := (Fr_fI hF41 (tf hT28 rfl rfl) (by decide +kernel)).trans (Fr_fI hF29 (tf hT rfl rfl) (by decide +kernel))
  have e73 := fI_bd (q := 39) hT40 (tf hT40 rfl rfl) fd_3_3
  have q74 : fI h39 39 3 = fI h 39 3 := (Fr_fI hF41 (tf hT28 rfl rfl) (by decide +kernel)).trans (Fr_fI hF29 (tf hT rfl rfl) (by decide +kernel))
  have e75 := fI_bd (q := 64) hT40 (tf hT40 rfl rfl) fd_8_41
  have q76 : fI h39 64 41 = fI h 64 41 := (Fr_fI hF41 (tf hT28 rfl rfl) (by decide +kernel)).trans (Fr_fI hF29 (tf hT rfl rfl) (by decide +kernel))
  have e77 := fI_bd (q := 54) hT40 (tf hT40 rfl rfl) fd_6_1
  have q78 : fI h39 54 1 = fI h 54 1 := (Fr_fI hF41 (tf hT28 rfl rfl) (by decide +kernel)).trans (Fr_fI hF29 (tf hT rfl rfl) (by decide +kernel))
  have e79 := fI_bd (q := 64) hT40 (tf hT40 rfl rfl) fd_8_77
  have q80 : fI h39 64 77 = fI h 64 77 := (Fr_fI hF41 (tf hT28 rfl rfl) (by decide +kernel)).trans (Fr_fI hF29 (tf hT rfl rfl) (by decide +kernel))
  have e81 := fI_bd (q := 60) hT40 (tf hT40 rfl rfl) fd_7_1
  have q82 : fI h39 60 1 = fI h 60 1 := (Fr_fI hF41 (tf hT28 rfl rfl) (by decide +kernel)).trans (Fr_fI hF29 (tf hT rfl rfl) (by decide +kernel))
  have e83 := fI_bd (q := 64) hT40 (tf hT40 rfl rfl) fd_8_78
  have q84 : fI h39 64 78 = fI h 64 78 := (Fr_fI hF41 (tf hT28 rfl rfl) (by decide +kernel)).trans (Fr_fI hF29 (tf hT rfl rfl) (by decide +kernel))
  exact hQ _ _ ⟨[], (List.append_nil τ).symm, rfl⟩ hT40 (I1_fr (I1_fr pre0 hT hF29 (by decide +kernel)) hT28 hF41 (by decide +kernel)) (I2_fr (I2_fr pre1 hF29 (by decide +kernel)) hF41 (by decide +kernel)) (I3_fr (I3_fr pre2 hT hF29 (by decide +kernel)) hT28 hF41 (by decide +kernel)) (I4_fr (I4_fr pre3 hT hF29 (by decide +kernel)) hT28 hF41 (by decide +kernel)) (I6_fr (I6_fr pre4 hT hF29 (by decide +kernel)) hT28 hF41 (by decide +kernel)) (I8_fr (I8_fr pre5 hT hF29 (by decide +kernel)) hT28 hF41 (by decide +kernel)) (I9_fr (I9_fr pre6 hT hF29 (by decide +kernel)) hT28 hF41 (by decide +kernel)) (IA_fr (IA_fr pre7 hT hF29 (by decide +kernel)) hT28 hF41 (by decide +kernel)) (IB_fr (IB_fr pre8 hT hF29 (by decide +kernel)) hT28 hF41 (by decide +kernel)) (IC_fr (IC_fr pre9 hT hF29 (by decide +kernel)) hT28 hF41 (by decide +kernel)) (ID_fr (ID_fr pre10 hT hF29 (by decide +kernel)) hT28 hF41 (by decide +kernel)) (IE_fr (IE_fr pre11 hT hF29 (by decide +kernel)) hT28 hF41 (by decide +kernel)) (by omega) (by omega) (by omega) (by omega) (by omega) (by omega) (by omega) (by omega) (by omega) (by omega)
set_option maxHeartbeats 0 in
theorem LC_31 {Ln : Nat} {xs : Nat → Int32} {τ : List Nat} {h : List mE} (hT : TH Tr τ h) (pre0 : I1 τ h) (pre1 : I2 τ h) (pre2 : I3 h) (pre3 : I4 h) (pre4 : I6 h) (pre5 : I8 h) (pre6 : I9 h) (pre7 : IA h) (pre8 : IB h) (pre9 : IC h) (pre10 : ID h) (pre11 : IE h) (pre12 : fI h 64 32≤fI h 64 15+fI h 64 33) (pre13 : fI h 6 3=fI h 64 2) (pre14 : fI h 4 0=fI h 64 1) (pre15 : fI h 4 5=fI h 64 7) (pre16 : fI h 4 10=fI h 64 45) (pre17 : fI h 4 12=fI h 64 48) (pre18 : fI h 4 7=fI h 64 15) (pre19 : fI h 39 3=fI h 64 41) (pre20 : fI h 54 1=fI h 64 77) (pre21 : fI h 60 1=fI h 64 78) (i : Int) (hi : 0 ≤ i ∧ i + 6 ≤ (Ln : Int) ∧ (Ln : Int) ≤ 3072) (d : Nat) (hd : 90 ≤ d) (Q : Option Value → List mE → Prop) (hQ : ∀ (τ' : List Nat) (h' : List mE), (∃ ts : List Nat, τ' = τ ++ ts ∧ gsT ts = true) → TH Tr τ' h' → I1 τ' h' → I2 τ' h' → I3 h' → I4 h' → I6 h' → I8 h' → I9 h' → IA h' → IB h' → IC h' → ID h' → IE h' → fI h' 64 32≤fI h' 64 15+fI h' 64 33 → fI h' 6 3=fI h' 64 2 → fI h' 4 0=fI h' 64 1 → fI h' 4 5=fI h' 64 7 → fI h' 4 10=fI h' 64 45 → fI h' 4 12=fI h' 64 48 → fI h' 4 7=fI h' 64 15 → fI h' 39 3=fI h' 64 41 → fI h' 54 1=fI h' 64 77 → fI h' 60 1=fI h' 64 78 → MR (mex Ln xs) d 292 1864 [some (.ref 0), some (.ref 4), some (.ref 64), some (vI i)] [] h' Q) : MR (mex Ln xs) d 292 1243 [some (.ref 0), some (.ref 4), some (.ref 64), some (vI i)] [] h Q := by
  have hF := Fr_rf τ WL h
  have hE := Ext_rf τ
  have e1 := fI_bd (q := 64) hT (tf hT rfl rfl) fd_8_32
  have e2 := fI_bd (q := 64) hT (tf hT rfl rfl) fd_8_15
  have e3 := fI_bd (q := 64) hT (tf hT rfl rfl) fd_8_33
  have e4 := fI_bd (q := 6) hT (tf hT rfl rfl) fd_2_3
  have e5 := fI_bd (q := 64) hT (tf hT rfl rfl) fd_8_2
  have e6 := fI_bd (q := 4) hT (tf hT rfl rfl) fd_1_0
  have e7 := fI_bd (q := 64) hT (tf hT rfl rfl) fd_8_1
  have e8 := fI_bd (q := 4) hT (tf hT rfl rfl) fd_1_5
  have e9 := fI_bd (q := 64) hT (tf hT rfl rfl) fd_8_7
  have e10 := fI_bd (q := 4) hT (tf hT rfl rfl) fd_1_10
  have e11 := fI_bd (q := 64) hT (tf hT rfl rfl) fd_8_45
  have e12 := fI_bd (q := 4) hT (tf hT rfl rfl) fd_1_12
  have e13 := fI_bd (q := 64) hT (tf hT rfl rfl) fd_8_48
  have e14 := fI_bd (q := 4) hT (tf hT rfl rfl) fd_1_7
  have e15 := fI_bd (q := 39) hT (tf hT rfl rfl) fd_3_3
  have e16 := fI_bd (q := 64) hT (tf hT rfl rfl) fd_8_41
  have e17 := fI_bd (q := 54) hT (tf hT rfl rfl) fd_6_1
  have e18 := fI_bd (q := 64) hT (tf hT rfl rfl) fd_8_77
  have e19 := fI_bd (q := 60) hT (tf hT rfl rfl) fd_7_1
  have e20 := fI_bd (q := 64) hT (tf hT rfl rfl) fd_8_78
  refine st_aload c292_1243 rfl ?_
  refine st_aload c292_1244 rfl ?_
  refine st_iload c292_1245 rfl ?_
  refine st_iconst c292_1246 ?_
  refine st_iadd c292_1247 ?_
  refine st_sld c292_1248 (by omega) (fun e21 e22 => ?_)
  refine st_aload c292_1249 rfl ?_
  refine st_iload c292_1250 rfl ?_
  refine st_iconst c292_1251 ?_
  refine st_iadd c292_1252 ?_
  refine st_sld c292_1253 (by omega) (fun e23 e24 => ?_)
  refine st_callt (as := [vI (sv xs (i + 1)), vI (sv xs (i + 2))]) c292_1254 cm_149 hT (tf hT rfl rfl) fd_1_0 rfl rfl rfl rfl (by omega) (K149 hT (sv xs (i + 1)) (by omega) (sv xs (i + 2)) (by omega) pre0 pre5 (d - 1) (by omega) _ (fun v h0 H => H)) (fun v1 h1 H => ?_)
  obtain ⟨z25, rfl, b26, rfl⟩ := H
  refine st_pop c292_1257 rfl ?_
  refine st_aload c292_1258 rfl ?_
  refine st_aload c292_1259 rfl ?_
  refine st_iload c292_1260 rfl ?_
  refine st_iconst c292_1261 ?_
  refine st_iadd c292_1262 ?_
  refine st_sld c292_1263 (by omega) (fun e27 e28 => ?_)
  refine st_aload c292_1264 rfl ?_
  refine st_iload c292_1265 rfl ?_
  refine st_iconst c292_1266 ?_
  refine st_iadd c292_1267 ?_
  refine st_sld c292_1268 (by omega) (fun e29 e30 => ?_)
  refine st_callt (as := [vI (sv xs (i + 1)), vI (sv xs (i + 2))]) c292_1269 cm_245 hT (tf hT rfl rfl) fd_8_0 rfl rfl rfl rfl (by omega) (K245 hT (sv xs (i + 1)) (by omega) (sv xs (i + 2)) (by omega) (d - 1) (by omega) _ (fun v h0 H => H)) (fun v1 h1 H => ?_)
  obtain ⟨z31, rfl, b32, rfl⟩ := H
  refine st_pop c292_1272 rfl ?_
  refine st_goto c292_1273 ?_
  have e33 := fI_bd (q := 64) hT (tf hT rfl rfl) fd_8_32
  have e34 := fI_bd (q := 64) hT (tf hT rfl rfl) fd_8_15
  have e35 := fI_bd (q := 64) hT (tf hT rfl rfl) fd_8_33
  have e36 := fI_bd (q := 6) hT (tf hT rfl rfl) fd_2_3
  have e37 := fI_bd (q := 64) hT (tf hT rfl rfl) fd_8_2
  have e38 := fI_bd (q := 4) hT (tf hT rfl rfl) fd_1_0
  have e39 := fI_bd (q := 64) hT (tf hT rfl rfl) fd_8_1
  have e40 := fI_bd (q := 4) hT (tf hT rfl rfl) fd_1_5
  have e41 := fI_bd (q := 64) hT (tf hT rfl rfl) fd_8_7
  have e42 := fI_bd (q := 4) hT (tf hT rfl rfl) fd_1_10
  have e43 := fI_bd (q := 64) hT (tf hT rfl rfl) fd_8_45
  have e44 := fI_bd (q := 4) hT (tf hT rfl rfl) fd_1_12
  have e45 := fI_bd (q := 64) hT (tf hT rfl rfl) fd_8_48
  have e46 := fI_bd (q := 4) hT (tf hT rfl rfl) fd_1_7
  have e47 := fI_bd (q := 39) hT (tf hT rfl rfl) fd_3_3
  have e48 := fI_bd (q := 64) hT (tf hT rfl rfl) fd_8_41
  have e49 := fI_bd (q := 54) hT (tf hT rfl rfl) fd_6_1
  have e50 := fI_bd (q := 64) hT (tf hT rfl rfl) fd_8_77
  have e51 := fI_bd (q := 60) hT (tf hT rfl rfl) fd_7_1
  have e52 := fI_bd (q := 64) hT (tf hT rfl rfl) fd_8_78
  exact hQ _ _ ⟨[], (List.append_nil τ).symm, rfl⟩ hT pre0 pre1 pre2 pre3 pre4 pre5 pre6 pre7 pre8 pre9 pre10 pre11 (by omega) (by omega) (by omega) (by omega) (by omega) (by omega) (by omega) (by omega) (by omega) (by omega)
set_option maxHeartbeats 0 in
theorem LC_32 {Ln : Nat} {xs : Nat → Int32} {τ : List Nat} {h : List mE} (hT : TH Tr τ h) (pre0 : I1 τ h) (pre1 : I2 τ h) (pre2 : I3 h) (pre3 : I4 h) (pre4 : I6 h) (pre5 : I8 h) (pre6 : I9 h) (pre7 : IA h) (pre8 : IB h) (pre9 : IC h) (pre10 : ID h) (pre11 : IE h) (pre12 : fI h 64 32≤fI h 64 15+fI h 64 33) (pre13 : fI h 6 3=fI h 64 2) (pre14 : fI h 4 0=fI h 64 1) (pre15 : fI h 4 5=fI h 64 7) (pre16 : fI h 4 10=fI h 64 45) (pre17 : fI h 4 12=fI h 64 48) (pre18 : fI h 4 7=fI h 64 15) (pre19 : fI h 39 3=fI h 64 41) (pre20 : fI h 54 1=fI h 64 77) (pre21 : fI h 60 1=fI h 64 78) (i : Int) (hi : 0 ≤ i ∧ i + 6 ≤ (Ln : Int) ∧ (Ln : Int) ≤ 3072) (d : Nat) (hd : 90 ≤ d) (Q : Option Value → List mE → Prop) (hQ : ∀ (τ' : List Nat) (h' : List mE), (∃ ts : List Nat, τ' = τ ++ ts ∧ gsT ts = true) → TH Tr τ' h' → I1 τ' h' → I2 τ' h' → I3 h' → I4 h' → I6 h' → I8 h' → I9 h' → IA h' → IB h' → IC h' → ID h' → IE h' → fI h' 64 32≤fI h' 64 15+fI h' 64 33 → fI h' 6 3=fI h' 64 2 → fI h' 4 0=fI h' 64 1 → fI h' 4 5=fI h' 64 7 → fI h' 4 10=fI h' 64 45 → fI h' 4 12=fI h' 64 48 → fI h' 4 7=fI h' 64 15 → fI h' 39 3=fI h' 64 41 → fI h' 54 1=fI h' 64 77 → fI h' 60 1=fI h' 64 78 → MR (mex Ln xs) d 292 1864 [some (.ref 0), some (.ref 4), some (.ref 64), some (vI i)] [] h' Q) : MR (mex Ln xs) d 292 1276 [some (.ref 0), some (.ref 4), some (.ref 64), some (vI i)] [] h Q := by
  have hF := Fr_rf τ WL h
  have hE := Ext_rf τ
  have e1 := fI_bd (q := 64) hT (tf hT rfl rfl) fd_8_32
  have e2 := fI_bd (q := 64) hT (tf hT rfl rfl) fd_8_15
  have e3 := fI_bd (q := 64) hT (tf hT rfl rfl) fd_8_33
  have e4 := fI_bd (q := 6) hT (tf hT rfl rfl) fd_2_3
  have e5 := fI_bd (q := 64) hT (tf hT rfl rfl) fd_8_2
  have e6 := fI_bd (q := 4) hT (tf hT rfl rfl) fd_1_0
  have e7 := fI_bd (q := 64) hT (tf hT rfl rfl) fd_8_1
  have e8 := fI_bd (q := 4) hT (tf hT rfl rfl) fd_1_5
  have e9 := fI_bd (q := 64) hT (tf hT rfl rfl) fd_8_7
  have e10 := fI_bd (q := 4) hT (tf hT rfl rfl) fd_1_10
  have e11 := fI_bd (q := 64) hT (tf hT rfl rfl) fd_8_45
  have e12 := fI_bd (q := 4) hT (tf hT rfl rfl) fd_1_12
  have e13 := fI_bd (q := 64) hT (tf hT rfl rfl) fd_8_48
  have e14 := fI_bd (q := 4) hT (tf hT rfl rfl) fd_1_7
  have e15 := fI_bd (q := 39) hT (tf hT rfl rfl) fd_3_3
  have e16 := fI_bd (q := 64) hT (tf hT rfl rfl) fd_8_41
  have e17 := fI_bd (q := 54) hT (tf hT rfl rfl) fd_6_1
  have e18 := fI_bd (q := 64) hT (tf hT rfl rfl) fd_8_77
  have e19 := fI_bd (q := 60) hT (tf hT rfl rfl) fd_7_1
  have e20 := fI_bd (q := 64) hT (tf hT rfl rfl) fd_8_78
  refine st_aload c292_1276 rfl ?_
  refine st_aload c292_1277 rfl ?_
  refine st_iload c292_1278 rfl ?_
  refine st_iconst c292_1279 ?_
  refine st_iadd c292_1280 ?_
  refine st_sld c292_1281 (by omega) (fun e21 e22 => ?_)
  refine st_aload c292_1282 rfl ?_
  refine st_iload c292_1283 rfl ?_
  refine st_iconst c292_1284 ?_
  refine st_iadd c292_1285 ?_
  refine st_sld c292_1286 (by omega) (fun e23 e24 => ?_)
  refine st_callt (as := [vI (sv xs (i + 1)), vI (sv xs (i + 2))]) c292_1287 cm_150 hT (tf hT rfl rfl) fd_1_0 rfl rfl rfl rfl (by omega) (K150 hT (sv xs (i + 1)) (by omega) (sv xs (i + 2)) (by omega) pre0 pre5 (d - 1) (by omega) _ (fun v h0 H => H)) (fun v1 h1 H => ?_)
  obtain ⟨z25, rfl, b26, rfl⟩ := H
  refine st_pop c292_1290 rfl ?_
  refine st_aload c292_1291 rfl ?_
  refine st_aload c292_1292 rfl ?_
  refine st_iload c292_1293 rfl ?_
  refine st_iconst c292_1294 ?_
  refine st_iadd c292_1295 ?_
  refine st_sld c292_1296 (by omega) (fun e27 e28 => ?_)
  refine st_aload c292_1297 rfl ?_
  refine st_iload c292_1298 rfl ?_
  refine st_iconst c292_1299 ?_
  refine st_iadd c292_1300 ?_
  refine st_sld c292_1301 (by omega) (fun e29 e30 => ?_)
  refine st_callt (as := [vI (sv xs (i + 1)), vI (sv xs (i + 2))]) c292_1302 cm_246 hT (tf hT rfl rfl) fd_8_0 rfl rfl rfl rfl (by omega) (K246 hT (sv xs (i + 1)) (by omega) (sv xs (i + 2)) (by omega) (d - 1) (by omega) _ (fun v h0 H => H)) (fun v1 h1 H => ?_)
  obtain ⟨z31, rfl, b32, rfl⟩ := H
  refine st_pop c292_1305 rfl ?_
  refine st_goto c292_1306 ?_
  have e33 := fI_bd (q := 64) hT (tf hT rfl rfl) fd_8_32
  have e34 := fI_bd (q := 64) hT (tf hT rfl rfl) fd_8_15
  have e35 := fI_bd (q := 64) hT (tf hT rfl rfl) fd_8_33
  have e36 := fI_bd (q := 6) hT (tf hT rfl rfl) fd_2_3
  have e37 := fI_bd (q := 64) hT (tf hT rfl rfl) fd_8_2
  have e38 := fI_bd (q := 4) hT (tf hT rfl rfl) fd_1_0
  have e39 := fI_bd (q := 64) hT (tf hT rfl rfl) fd_8_1
  have e40 := fI_bd (q := 4) hT (tf hT rfl rfl) fd_1_5
  have e41 := fI_bd (q := 64) hT (tf hT rfl rfl) fd_8_7
  have e42 := fI_bd (q := 4) hT (tf hT rfl rfl) fd_1_10
  have e43 := fI_bd (q := 64) hT (tf hT rfl rfl) fd_8_45
  have e44 := fI_bd (q := 4) hT (tf hT rfl rfl) fd_1_12
  have e45 := fI_bd (q := 64) hT (tf hT rfl rfl) fd_8_48
  have e46 := fI_bd (q := 4) hT (tf hT rfl rfl) fd_1_7
  have e47 := fI_bd (q := 39) hT (tf hT rfl rfl) fd_3_3
  have e48 := fI_bd (q := 64) hT (tf hT rfl rfl) fd_8_41
  have e49 := fI_bd (q := 54) hT (tf hT rfl rfl) fd_6_1
  have e50 := fI_bd (q := 64) hT (tf hT rfl rfl) fd_8_77
  have e51 := fI_bd (q := 60) hT (tf hT rfl rfl) fd_7_1
  have e52 := fI_bd (q := 64) hT (tf hT rfl rfl) fd_8_78
  exact hQ _ _ ⟨[], (List.append_nil τ).symm, rfl⟩ hT pre0 pre1 pre2 pre3 pre4 pre5 pre6 pre7 pre8 pre9 pre10 pre11 (by omega) (by omega) (by omega) (by omega) (by omega) (by omega) (by omega) (by omega) (by omega) (by omega)
set_option maxHeartbeats 0 in
theorem LC_33 {Ln : Nat} {xs : Nat → Int32} {τ : List Nat} {h : List mE} (hT : TH Tr τ h) (pre0 : I1 τ h) (pre1 : I2 τ h) (pre2 : I3 h) (pre3 : I4 h) (pre4 : I6 h) (pre5 : I8 h) (pre6 : I9 h) (pre7 : IA h) (pre8 : IB h) (pre9 : IC h) (pre10 : ID h) (pre11 : IE h) (pre12 : fI h 64 32≤fI h 64 15+fI h 64 33) (pre13 : fI h 6 3=fI h 64 2) (pre14 : fI h 4 0=fI h 64 1) (pre15 : fI h 4 5=fI h 64 7) (pre16 : fI h 4 10=fI h 64 45) (pre17 : fI h 4 12=fI h 64 48) (pre18 : fI h 4 7=fI h 64 15) (pre19 : fI h 39 3=fI h 64 41) (pre20 : fI h 54 1=fI h 64 77) (pre21 : fI h 60 1=fI h 64 78) (i : Int) (hi : 0 ≤ i ∧ i + 6 ≤ (Ln : Int) ∧ (Ln : Int) ≤ 3072) (d : Nat) (hd : 90 ≤ d) (Q : Option Value → List mE → Prop) (hQ : ∀ (τ' : List Nat) (h' : List mE), (∃ ts : List Nat, τ' = τ ++ ts ∧ gsT ts = true) → TH Tr τ' h' → I1 τ' h' → I2 τ' h' → I3 h' → I4 h' → I6 h' → I8 h' → I9 h' → IA h' → IB h' → IC h' → ID h' → IE h' → fI h' 64 32≤fI h' 64 15+fI h' 64 33 → fI h' 6 3=fI h' 64 2 → fI h' 4 0=fI h' 64 1 → fI h' 4 5=fI h' 64 7 → fI h' 4 10=fI h' 64 45 → fI h' 4 12=fI h' 64 48 → fI h' 4 7=fI h' 64 15 → fI h' 39 3=fI h' 64 41 → fI h' 54 1=fI h' 64 77 → fI h' 60 1=fI h' 64 78 → MR (mex Ln xs) d 292 1864 [some (.ref 0), some (.ref 4), some (.ref 64), some (vI i)] [] h' Q) : MR (mex Ln xs) d 292 1309 [some (.ref 0), some (.ref 4), some (.ref 64), some (vI i)] [] h Q := by
  have hF := Fr_rf τ WL h
  have hE := Ext_rf τ
  have e1 := fI_bd (q := 64) hT (tf hT rfl rfl) fd_8_32
  have e2 := fI_bd (q := 64) hT (tf hT rfl rfl) fd_8_15
  have e3 := fI_bd (q := 64) hT (tf hT rfl rfl) fd_8_33
  have e4 := fI_bd (q := 6) hT (tf hT rfl rfl) fd_2_3
  have e5 := fI_bd (q := 64) hT (tf hT rfl rfl) fd_8_2
  have e6 := fI_bd (q := 4) hT (tf hT rfl rfl) fd_1_0
  have e7 := fI_bd (q := 64) hT (tf hT rfl rfl) fd_8_1
  have e8 := fI_bd (q := 4) hT (tf hT rfl rfl) fd_1_5
  have e9 := fI_bd (q := 64) hT (tf hT rfl rfl) fd_8_7
  have e10 := fI_bd (q := 4) hT (tf hT rfl rfl) fd_1_10
  have e11 := fI_bd (q := 64) hT (tf hT rfl rfl) fd_8_45
  have e12 := fI_bd (q := 4) hT (tf hT rfl rfl) fd_1_12
  have e13 := fI_bd (q := 64) hT (tf hT rfl rfl) fd_8_48
  have e14 := fI_bd (q := 4) hT (tf hT rfl rfl) fd_1_7
  have e15 := fI_bd (q := 39) hT (tf hT rfl rfl) fd_3_3
  have e16 := fI_bd (q := 64) hT (tf hT rfl rfl) fd_8_41
  have e17 := fI_bd (q := 54) hT (tf hT rfl rfl) fd_6_1
  have e18 := fI_bd (q := 64) hT (tf hT rfl rfl) fd_8_77
  have e19 := fI_bd (q := 60) hT (tf hT rfl rfl) fd_7_1
  have e20 := fI_bd (q := 64) hT (tf hT rfl rfl) fd_8_78
  refine st_aload c292_1309 rfl ?_
  refine st_aload c292_1310 rfl ?_
  refine st_iload c292_1311 rfl ?_
  refine st_iconst c292_1312 ?_
  refine st_iadd c292_1313 ?_
  refine st_sld c292_1314 (by omega) (fun e21 e22 => ?_)
  refine st_aload c292_1315 rfl ?_
  refine st_iload c292_1316 rfl ?_
  refine st_iconst c292_1317 ?_
  refine st_iadd c292_1318 ?_
  refine st_sld c292_1319 (by omega) (fun e23 e24 => ?_)
  refine st_aload c292_1320 rfl ?_
  refine st_iload c292_1321 rfl ?_
  refine st_iconst c292_1322 ?_
  refine st_iadd c292_1323 ?_
  refine st_sld c292_1324 (by omega) (fun e25 e26 => ?_)
  refine st_aload c292_1325 rfl ?_
  refine st_iload c292_1326 rfl ?_
  refine st_iconst c292_1327 ?_
  refine st_iadd c292_1328 ?_
  refine st_sld c292_1329 (by omega) (fun e27 e28 => ?_)
  refine st_aload c292_1330 rfl ?_
  refine st_iload c292_1331 rfl ?_
  refine st_iconst c292_1332 ?_
  refine st_iadd c292_1333 ?_
  refine st_sld c292_1334 (by omega) (fun e29 e30 => ?_)
  refine st_callt (as := [vI (sv xs (i + 1)), vI (sv xs (i + 2)), vI (sv xs (i + 3)), vI (sv xs (i + 4)), vI (sv xs (i + 5))]) c292_1335 cm_151 hT (tf hT rfl rfl) fd_1_0 rfl rfl rfl rfl (by omega) (K151 hT Stb_T (sv xs (i + 1)) (by omega) (sv xs (i + 2)) (by omega) (sv xs (i + 3)) (by omega) (sv xs (i + 4)) (by omega) (sv xs (i + 5)) (by omega) (d - 1) (by omega) _ (fun v h0 H => H)) (fun v1 h31 H => ?_)
  obtain ⟨z35, rfl, b36, pf34, hT32, hF33⟩ := H
  have hF37 := Fr_cp hF hF33 (by decide +kernel : Wsub W151 WL = true)
  refine st_pop c292_1338 rfl ?_
  refine st_aload c292_1339 rfl ?_
  refine st_aload c292_1340 rfl ?_
  refine st_iload c292_1341 rfl ?_
  refine st_iconst c292_1342 ?_
  refine st_iadd c292_1343 ?_
  refine st_sld c292_1344 (by omega) (fun e38 e39 => ?_)
  refine st_aload c292_1345 rfl ?_
  refine st_iload c292_1346 rfl ?_
  refine st_iconst c292_1347 ?_
  refine st_iadd c292_1348 ?_
  refine st_sld c292_1349 (by omega) (fun e40 e41 => ?_)
  refine st_aload c292_1350 rfl ?_
  refine st_iload c292_1351 rfl ?_
  refine st_iconst c292_1352 ?_
  refine st_iadd c292_1353 ?_
  refine st_sld c292_1354 (by omega) (fun e42 e43 => ?_)
  refine st_aload c292_1355 rfl ?_
  refine st_iload c292_1356 rfl ?_
  refine st_iconst c292_1357 ?_
  refine st_iadd c292_1358 ?_
  refine st_sld c292_1359 (by omega) (fun e44 e45 => ?_)
  refine st_aload c292_1360 rfl ?_
  refine st_iload c292_1361 rfl ?_
  refine st_iconst c292_1362 ?_
  refine st_iadd c292_1363 ?_
  refine st_sld c292_1364 (by omega) (fun e46 e47 => ?_)
  refine st_callt (as := [vI (sv xs (i + 1)), vI (sv xs (i + 2)), vI (sv xs (i + 3)), vI (sv xs (i + 4)), vI (sv xs (i + 5))]) c292_1365 cm_247 hT32 (tf hT32 rfl rfl) fd_8_0 rfl rfl rfl rfl (by omega) (K247 hT32 Stb_T (sv xs (i + 1)) (by omega) (sv xs (i + 2)) (by omega) (sv xs (i + 3)) (by omega) (sv xs (i + 4)) (by omega) (sv xs (i + 5)) (by omega) (d - 1) (by omega) _ (fun v h0 H => H)) (fun v1 h48 H => ?_)
  obtain ⟨z52, rfl, b53, pf51, hT49, hF50⟩ := H
  have hF54 := Fr_cp hF37 hF50 (by decide +kernel : Wsub W247 WL = true)
  have e57 := fI_bd (q := 64) hT32 (tf hT32 rfl rfl) fd_8_77
  have q58 : fI h31 64 77 = fI h 64 77 := Fr_fI hF33 (tf hT rfl rfl) (by decide +kernel)
  have e59 := fI_bd (q := 64) hT32 (tf hT32 rfl rfl) fd_8_78
  have q60 : fI h31 64 78 = fI h 64 78 := Fr_fI hF33 (tf hT rfl rfl) (by decide +kernel)
  obtain ⟨iv55, zq56, iv61⟩ := S_feed pre11 (by omega) (TT_fr hT hF33 (by decide +kernel)) (fun i => Fr_aI hF50 (tf (q := 55) (t := 35) hT32 rfl rfl) (by decide +kernel) i) (Fr_fI hF50 (tf (q := 54) (t := 6) hT32 rfl rfl) (by decide +kernel)) pf34 pf51
  refine st_pop c292_1368 rfl ?_
  refine st_goto c292_1369 ?_
  have e63 := fI_bd (q := 64) hT49 (tf hT49 rfl rfl) fd_8_32
  have q64 : fI h48 64 32 = fI h 64 32 := (Fr_fI hF50 (tf hT32 rfl rfl) (by decide +kernel)).trans (Fr_fI hF33 (tf hT rfl rfl) (by decide +kernel))
  have e65 := fI_bd (q := 64) hT49 (tf hT49 rfl rfl) fd_8_15
  have q66 : fI h48 64 15 = fI h 64 15 := (Fr_fI hF50 (tf hT32 rfl rfl) (by decide +kernel)).trans (Fr_fI hF33 (tf hT rfl rfl) (by decide +kernel))
  have e67 := fI_bd (q := 64) hT49 (tf hT49 rfl rfl) fd_8_33
  have q68 : fI h48 64 33 = fI h 64 33 := (Fr_fI hF50 (tf hT32 rfl rfl) (by decide +kernel)).trans (Fr_fI hF33 (tf hT rfl rfl) (by decide +kernel))
  have e69 := fI_bd (q := 6) hT49 (tf hT49 rfl rfl) fd_2_3
  have q70 : fI h48 6 3 = fI h 6 3 := (Fr_fI hF50 (tf hT32 rfl rfl) (by decide +kernel)).trans (Fr_fI hF33 (tf hT rfl rfl) (by decide +kernel))
  have e71 := fI_bd (q := 64) hT49 (tf hT49 rfl rfl) fd_8_2
  have q72 : fI h48 64 2 = fI h 64 2 := (Fr_fI hF50 (tf hT32 rfl rfl) (by decide +kernel)).trans (Fr_fI hF33 (tf hT rfl rfl) (by decide +kernel))
  have e73 := fI_bd (q := 4) hT49 (tf hT49 rfl rfl) fd_1_0
  have q74 : fI h48 4 0 = fI h 4 0 := (Fr_fI hF50 (tf hT32 rfl rfl) (by decide +kernel)).trans (Fr_fI hF33 (tf hT rfl rfl) (by decide +kernel))
  have e75 := fI_bd (q := 64) hT49 (tf hT49 rfl rfl) fd_8_1
  have q76 : fI h48 64 1 = fI h 64 1 := (Fr_fI hF50 (tf hT32 rfl rfl) (by decide +kernel)).trans (Fr_fI hF33 (tf hT rfl rfl) (by decide +kernel))
  have e77 := fI_bd (q := 4) hT49 (tf hT49 rfl rfl) fd_1_5
  have q78 : fI h48 4 5 = fI h 4 5 := (Fr_fI hF50 (tf hT32 rfl rfl) (by decide +kernel)).trans (Fr_fI hF33 (tf hT rfl rfl) (by decide +kernel))
  have e79 := fI_bd (q := 64) hT49 (tf hT49 rfl rfl) fd_8_7
  have q80 : fI h48 64 7 = fI h 64 7 := (Fr_fI hF50 (tf hT32 rfl rfl) (by decide +kernel)).trans (Fr_fI hF33 (tf hT rfl rfl) (by decide +kernel))
  have e81 := fI_bd (q := 4) hT49 (tf hT49 rfl rfl) fd_1_10
  have q82 : fI h48 4 10 = fI h 4 10 := (Fr_fI hF50 (tf hT32 rfl rfl) (by decide +kernel)).trans (Fr_fI hF33 (tf hT rfl rfl) (by decide +kernel))
  have e83 := fI_bd (q := 64) hT49 (tf hT49 rfl rfl) fd_8_45
  have q84 : fI h48 64 45 = fI h 64 45 := (Fr_fI hF50 (tf hT32 rfl rfl) (by decide +kernel)).trans (Fr_fI hF33 (tf hT rfl rfl) (by decide +kernel))
  have e85 := fI_bd (q := 4) hT49 (tf hT49 rfl rfl) fd_1_12
  have q86 : fI h48 4 12 = fI h 4 12 := (Fr_fI hF50 (tf hT32 rfl rfl) (by decide +kernel)).trans (Fr_fI hF33 (tf hT rfl rfl) (by decide +kernel))
  have e87 := fI_bd (q := 64) hT49 (tf hT49 rfl rfl) fd_8_48
  have q88 : fI h48 64 48 = fI h 64 48 := (Fr_fI hF50 (tf hT32 rfl rfl) (by decide +kernel)).trans (Fr_fI hF33 (tf hT rfl rfl) (by decide +kernel))
  have e89 := fI_bd (q := 4) hT49 (tf hT49 rfl rfl) fd_1_7
  have q90 : fI h48 4 7 = fI h 4 7 := (Fr_fI hF50 (tf hT32 rfl rfl) (by decide +kernel)).trans (Fr_fI hF33 (tf hT rfl rfl) (by decide +kernel))
  have e91 := fI_bd (q := 39) hT49 (tf hT49 rfl rfl) fd_3_3
  have q92 : fI h48 39 3 = fI h 39 3 := (Fr_fI hF50 (tf hT32 rfl rfl) (by decide +kernel)).trans (Fr_fI hF33 (tf hT rfl rfl) (by decide +kernel))
  have e93 := fI_bd (q := 64) hT49 (tf hT49 rfl rfl) fd_8_41
  have q94 : fI h48 64 41 = fI h 64 41 := (Fr_fI hF50 (tf hT32 rfl rfl) (by decide +kernel)).trans (Fr_fI hF33 (tf hT rfl rfl) (by decide +kernel))
  have e95 := fI_bd (q := 54) hT49 (tf hT49 rfl rfl) fd_6_1
  have q96 : fI h48 54 1 = fI h31 54 1 := Fr_fI hF50 (tf hT32 rfl rfl) (by decide +kernel)
  have e97 := fI_bd (q := 64) hT49 (tf hT49 rfl rfl) fd_8_77
  have e98 := fI_bd (q := 60) hT49 (tf hT49 rfl rfl) fd_7_1
  have q99 : fI h48 60 1 = fI h 60 1 := (Fr_fI hF50 (tf hT32 rfl rfl) (by decide +kernel)).trans (Fr_fI hF33 (tf hT rfl rfl) (by decide +kernel))
  have e100 := fI_bd (q := 64) hT49 (tf hT49 rfl rfl) fd_8_78
  have q101 : fI h48 64 78 = fI h 64 78 := (Fr_fI hF50 (tf hT32 rfl rfl) (by decide +kernel)).trans (Fr_fI hF33 (tf hT rfl rfl) (by decide +kernel))
  exact hQ _ _ ⟨[], (List.append_nil τ).symm, rfl⟩ hT49 (I1_fr (I1_fr pre0 hT hF33 (by decide +kernel)) hT32 hF50 (by decide +kernel)) (I2_fr (I2_fr pre1 hF33 (by decide +kernel)) hF50 (by decide +kernel)) (I3_fr (I3_fr pre2 hT hF33 (by decide +kernel)) hT32 hF50 (by decide +kernel)) (I4_fr (I4_fr pre3 hT hF33 (by decide +kernel)) hT32 hF50 (by decide +kernel)) (I6_fr (I6_fr pre4 hT hF33 (by decide +kernel)) hT32 hF50 (by decide +kernel)) (I8_fr (I8_fr pre5 hT hF33 (by decide +kernel)) hT32 hF50 (by decide +kernel)) (I9_fr (I9_fr pre6 hT hF33 (by decide +kernel)) hT32 hF50 (by decide +kernel)) (IA_fr (IA_fr pre7 hT hF33 (by decide +kernel)) hT32 hF50 (by decide +kernel)) (IB_fr (IB_fr pre8 hT hF33 (by decide +kernel)) hT32 hF50 (by decide +kernel)) (IC_fr (IC_fr pre9 hT hF33 (by decide +kernel)) hT32 hF50 (by decide +kernel)) (ID_fr (ID_fr pre10 hT hF33 (by decide +kernel)) hT32 hF50 (by decide +kernel)) iv55 (by omega) (by omega) (by omega) (by omega) (by omega) (by omega) (by omega) (by omega) (by omega) (by omega)
set_option maxHeartbeats 0 in
theorem LC_34 {Ln : Nat} {xs : Nat → Int32} {τ : List Nat} {h : List mE} (hT : TH Tr τ h) (pre0 : I1 τ h) (pre1 : I2 τ h) (pre2 : I3 h) (pre3 : I4 h) (pre4 : I6 h) (pre5 : I8 h) (pre6 : I9 h) (pre7 : IA h) (pre8 : IB h) (pre9 : IC h) (pre10 : ID h) (pre11 : IE h) (pre12 : fI h 64 32≤fI h 64 15+fI h 64 33) (pre13 : fI h 6 3=fI h 64 2) (pre14 : fI h 4 0=fI h 64 1) (pre15 : fI h 4 5=fI h 64 7) (pre16 : fI h 4 10=fI h 64 45) (pre17 : fI h 4 12=fI h 64 48) (pre18 : fI h 4 7=fI h 64 15) (pre19 : fI h 39 3=fI h 64 41) (pre20 : fI h 54 1=fI h 64 77) (pre21 : fI h 60 1=fI h 64 78) (i : Int) (hi : 0 ≤ i ∧ i + 6 ≤ (Ln : Int) ∧ (Ln : Int) ≤ 3072) (d : Nat) (hd : 90 ≤ d) (Q : Option Value → List mE → Prop) (hQ : ∀ (τ' : List Nat) (h' : List mE), (∃ ts : List Nat, τ' = τ ++ ts ∧ gsT ts = true) → TH Tr τ' h' → I1 τ' h' → I2 τ' h' → I3 h' → I4 h' → I6 h' → I8 h' → I9 h' → IA h' → IB h' → IC h' → ID h' → IE h' → fI h' 64 32≤fI h' 64 15+fI h' 64 33 → fI h' 6 3=fI h' 64 2 → fI h' 4 0=fI h' 64 1 → fI h' 4 5=fI h' 64 7 → fI h' 4 10=fI h' 64 45 → fI h' 4 12=fI h' 64 48 → fI h' 4 7=fI h' 64 15 → fI h' 39 3=fI h' 64 41 → fI h' 54 1=fI h' 64 77 → fI h' 60 1=fI h' 64 78 → MR (mex Ln xs) d 292 1864 [some (.ref 0), some (.ref 4), some (.ref 64), some (vI i)] [] h' Q) : MR (mex Ln xs) d 292 1372 [some (.ref 0), some (.ref 4), some (.ref 64), some (vI i)] [] h Q := by
  have hF := Fr_rf τ WL h
  have hE := Ext_rf τ
  have e1 := fI_bd (q := 64) hT (tf hT rfl rfl) fd_8_32
  have e2 := fI_bd (q := 64) hT (tf hT rfl rfl) fd_8_15
  have e3 := fI_bd (q := 64) hT (tf hT rfl rfl) fd_8_33
  have e4 := fI_bd (q := 6) hT (tf hT rfl rfl) fd_2_3
  have e5 := fI_bd (q := 64) hT (tf hT rfl rfl) fd_8_2
  have e6 := fI_bd (q := 4) hT (tf hT rfl rfl) fd_1_0
  have e7 := fI_bd (q := 64) hT (tf hT rfl rfl) fd_8_1
  have e8 := fI_bd (q := 4) hT (tf hT rfl rfl) fd_1_5
  have e9 := fI_bd (q := 64) hT (tf hT rfl rfl) fd_8_7
  have e10 := fI_bd (q := 4) hT (tf hT rfl rfl) fd_1_10
  have e11 := fI_bd (q := 64) hT (tf hT rfl rfl) fd_8_45
  have e12 := fI_bd (q := 4) hT (tf hT rfl rfl) fd_1_12
  have e13 := fI_bd (q := 64) hT (tf hT rfl rfl) fd_8_48
  have e14 := fI_bd (q := 4) hT (tf hT rfl rfl) fd_1_7
  have e15 := fI_bd (q := 39) hT (tf hT rfl rfl) fd_3_3
  have e16 := fI_bd (q := 64) hT (tf hT rfl rfl) fd_8_41
  have e17 := fI_bd (q := 54) hT (tf hT rfl rfl) fd_6_1
  have e18 := fI_bd (q := 64) hT (tf hT rfl rfl) fd_8_77
  have e19 := fI_bd (q := 60) hT (tf hT rfl rfl) fd_7_1
  have e20 := fI_bd (q := 64) hT (tf hT rfl rfl) fd_8_78
  refine st_aload c292_1372 rfl ?_
  refine st_aload c292_1373 rfl ?_
  refine st_iload c292_1374 rfl ?_
  refine st_iconst c292_1375 ?_
  refine st_iadd c292_1376 ?_
  refine st_sld c292_1377 (by omega) (fun e21 e22 => ?_)
  have e23 := fI_bd (q := 54) hT (tf hT rfl rfl) fd_6_1
  refine st_callt (as := [vI (sv xs (i + 1))]) c292_1378 cm_152 hT (tf hT rfl rfl) fd_1_0 rfl rfl rfl rfl (by omega) (K152 hT Stb_T (sv xs (i + 1)) (by omega) (d - 1) (by omega) _ (fun v h0 H => H)) (fun v1 h24 H => ?_)
  obtain ⟨z28, rfl, b29, pf27, hT25, hF26⟩ := H
  have hF30 := Fr_cp hF hF26 (by decide +kernel : Wsub W152 WL = true)
  have e31 := fI_bd (q := 54) hT25 (tf hT25 rfl rfl) fd_6_1
  refine st_pop c292_1381 rfl ?_
  refine st_aload c292_1382 rfl ?_
  refine st_aload c292_1383 rfl ?_
  refine st_iload c292_1384 rfl ?_
  refine st_iconst c292_1385 ?_
  refine st_iadd c292_1386 ?_
  refine st_sld c292_1387 (by omega) (fun e32 e33 => ?_)
  have e34 := fI_bd (q := 64) hT25 (tf hT25 rfl rfl) fd_8_77
  have q35 : fI h24 64 77 = fI h 64 77 := Fr_fI hF26 (tf hT rfl rfl) (by decide +kernel)
  refine st_callt (as := [vI (sv xs (i + 1))]) c292_1388 cm_249 hT25 (tf hT25 rfl rfl) fd_8_0 rfl rfl rfl rfl (by omega) (K249 hT25 Stb_T (sv xs (i + 1)) (by omega) (d - 1) (by omega) _ (fun v h0 H => H)) (fun v1 h36 H => ?_)
  obtain ⟨z40, rfl, b41, pf39, hT37, hF38⟩ := H
  have hF42 := Fr_cp hF30 hF38 (by decide +kernel : Wsub W249 WL = true)
  have e43 := fI_bd (q := 64) hT37 (tf hT37 rfl rfl) fd_8_77
  refine st_pop c292_1391 rfl ?_
  refine st_goto c292_1392 ?_
  have e44 := fI_bd (q := 64) hT37 (tf hT37 rfl rfl) fd_8_32
  have q45 : fI h36 64 32 = fI h 64 32 := (Fr_fI hF38 (tf hT25 rfl rfl) (by decide +kernel)).trans (Fr_fI hF26 (tf hT rfl rfl) (by decide +kernel))
  have e46 := fI_bd (q := 64) hT37 (tf hT37 rfl rfl) fd_8_15
  have q47 : fI h36 64 15 = fI h 64 15 := (Fr_fI hF38 (tf hT25 rfl rfl) (by decide +kernel)).trans (Fr_fI hF26 (tf hT rfl rfl) (by decide +kernel))
  have e48 := fI_bd (q := 64) hT37 (tf hT37 rfl rfl) fd_8_33
  have q49 : fI h36 64 33 = fI h 64 33 := (Fr_fI hF38 (tf hT25 rfl rfl) (by decide +kernel)).trans (Fr_fI hF26 (tf hT rfl rfl) (by decide +kernel))
  have e50 := fI_bd (q := 6) hT37 (tf hT37 rfl rfl) fd_2_3
  have q51 : fI h36 6 3 = fI h 6 3 := (Fr_fI hF38 (tf hT25 rfl rfl) (by decide +kernel)).trans (Fr_fI hF26 (tf hT rfl rfl) (by decide +kernel))
  have e52 := fI_bd (q := 64) hT37 (tf hT37 rfl rfl) fd_8_2
  have q53 : fI h36 64 2 = fI h 64 2 := (Fr_fI hF38 (tf hT25 rfl rfl) (by decide +kernel)).trans (Fr_fI hF26 (tf hT rfl rfl) (by decide +kernel))
  have e54 := fI_bd (q := 4) hT37 (tf hT37 rfl rfl) fd_1_0
  have q55 : fI h36 4 0 = fI h 4 0 := (Fr_fI hF38 (tf hT25 rfl rfl) (by decide +kernel)).trans (Fr_fI hF26 (tf hT rfl rfl) (by decide +kernel))
  have e56 := fI_bd (q := 64) hT37 (tf hT37 rfl rfl) fd_8_1
  have q57 : fI h36 64 1 = fI h 64 1 := (Fr_fI hF38 (tf hT25 rfl rfl) (by decide +kernel)).trans (Fr_fI hF26 (tf hT rfl rfl) (by decide +kernel))
  have e58 := fI_bd (q := 4) hT37 (tf hT37 rfl rfl) fd_1_5
  have q59 : fI h36 4 5 = fI h 4 5 := (Fr_fI hF38 (tf hT25 rfl rfl) (by decide +kernel)).trans (Fr_fI hF26 (tf hT rfl rfl) (by decide +kernel))
  have e60 := fI_bd (q := 64) hT37 (tf hT37 rfl rfl) fd_8_7
  have q61 : fI h36 64 7 = fI h 64 7 := (Fr_fI hF38 (tf hT25 rfl rfl) (by decide +kernel)).trans (Fr_fI hF26 (tf hT rfl rfl) (by decide +kernel))
  have e62 := fI_bd (q := 4) hT37 (tf hT37 rfl rfl) fd_1_10
  have q63 : fI h36 4 10 = fI h 4 10 := (Fr_fI hF38 (tf hT25 rfl rfl) (by decide +kernel)).trans (Fr_fI hF26 (tf hT rfl rfl) (by decide +kernel))
  have e64 := fI_bd (q := 64) hT37 (tf hT37 rfl rfl) fd_8_45
  have q65 : fI h36 64 45 = fI h 64 45 := (Fr_fI hF38 (tf hT25 rfl rfl) (by decide +kernel)).trans (Fr_fI hF26 (tf hT rfl rfl) (by decide +kernel))
  have e66 := fI_bd (q := 4) hT37 (tf hT37 rfl rfl) fd_1_12
  have q67 : fI h36 4 12 = fI h 4 12 := (Fr_fI hF38 (tf hT25 rfl rfl) (by decide +kernel)).trans (Fr_fI hF26 (tf hT rfl rfl) (by decide +kernel))
  have e68 := fI_bd (q := 64) hT37 (tf hT37 rfl rfl) fd_8_48
  have q69 : fI h36 64 48 = fI h 64 48 := (Fr_fI hF38 (tf hT25 rfl rfl) (by decide +kernel)).trans (Fr_fI hF26 (tf hT rfl rfl) (by decide +kernel))
  have e70 := fI_bd (q := 4) hT37 (tf hT37 rfl rfl) fd_1_7
  have q71 : fI h36 4 7 = fI h 4 7 := (Fr_fI hF38 (tf hT25 rfl rfl) (by decide +kernel)).trans (Fr_fI hF26 (tf hT rfl rfl) (by decide +kernel))
  have e72 := fI_bd (q := 39) hT37 (tf hT37 rfl rfl) fd_3_3
  have q73 : fI h36 39 3 = fI h 39 3 := (Fr_fI hF38 (tf hT25 rfl rfl) (by decide +kernel)).trans (Fr_fI hF26 (tf hT rfl rfl) (by decide +kernel))
  have e74 := fI_bd (q := 64) hT37 (tf hT37 rfl rfl) fd_8_41
  have q75 : fI h36 64 41 = fI h 64 41 := (Fr_fI hF38 (tf hT25 rfl rfl) (by decide +kernel)).trans (Fr_fI hF26 (tf hT rfl rfl) (by decide +kernel))
  have e76 := fI_bd (q := 54) hT37 (tf hT37 rfl rfl) fd_6_1
  have q77 : fI h36 54 1 = fI h24 54 1 := Fr_fI hF38 (tf hT25 rfl rfl) (by decide +kernel)
  have e78 := fI_bd (q := 60) hT37 (tf hT37 rfl rfl) fd_7_1
  have q79 : fI h36 60 1 = fI h 60 1 := (Fr_fI hF38 (tf hT25 rfl rfl) (by decide +kernel)).trans (Fr_fI hF26 (tf hT rfl rfl) (by decide +kernel))
  have e80 := fI_bd (q := 64) hT37 (tf hT37 rfl rfl) fd_8_78
  have q81 : fI h36 64 78 = fI h 64 78 := (Fr_fI hF38 (tf hT25 rfl rfl) (by decide +kernel)).trans (Fr_fI hF26 (tf hT rfl rfl) (by decide +kernel))
  exact hQ _ _ ⟨[], (List.append_nil τ).symm, rfl⟩ hT37 (I1_fr (I1_fr pre0 hT hF26 (by decide +kernel)) hT25 hF38 (by decide +kernel)) (I2_fr (I2_fr pre1 hF26 (by decide +kernel)) hF38 (by decide +kernel)) (I3_fr (I3_fr pre2 hT hF26 (by decide +kernel)) hT25 hF38 (by decide +kernel)) (I4_fr (I4_fr pre3 hT hF26 (by decide +kernel)) hT25 hF38 (by decide +kernel)) (I6_fr (I6_fr pre4 hT hF26 (by decide +kernel)) hT25 hF38 (by decide +kernel)) (I8_fr (I8_fr pre5 hT hF26 (by decide +kernel)) hT25 hF38 (by decide +kernel)) (I9_fr (I9_fr pre6 hT hF26 (by decide +kernel)) hT25 hF38 (by decide +kernel)) (IA_fr (IA_fr pre7 hT hF26 (by decide +kernel)) hT25 hF38 (by decide +kernel)) (IB_fr (IB_fr pre8 hT hF26 (by decide +kernel)) hT25 hF38 (by decide +kernel)) (IC_fr (IC_fr pre9 hT hF26 (by decide +kernel)) hT25 hF38 (by decide +kernel)) (ID_fr (ID_fr pre10 hT hF26 (by decide +kernel)) hT25 hF38 (by decide +kernel)) (IE_fr (IE_fr pre11 hT hF26 (by decide +kernel)) hT25 hF38 (by decide +kernel)) (by omega) (by omega) (by omega) (by omega) (by omega) (by omega) (by omega) (by omega) (by omega) (by omega)
set_option maxHeartbeats 0 in
theorem LC_35 {Ln : Nat} {xs : Nat → Int32} {τ : List Nat} {h : List mE} (hT : TH Tr τ h) (pre0 : I1 τ h) (pre1 : I2 τ h) (pre2 : I3 h) (pre3 : I4 h) (pre4 : I6 h) (pre5 : I8 h) (pre6 : I9 h) (pre7 : IA h) (pre8 : IB h) (pre9 : IC h) (pre10 : ID h) (pre11 : IE h) (pre12 : fI h 64 32≤fI h 64 15+fI h 64 33) (pre13 : fI h 6 3=fI h 64 2) (pre14 : fI h 4 0=fI h 64 1) (pre15 : fI h 4 5=fI h 64 7) (pre16 : fI h 4 10=fI h 64 45) (pre17 : fI h 4 12=fI h 64 48) (pre18 : fI h 4 7=fI h 64 15) (pre19 : fI h 39 3=fI h 64 41) (pre20 : fI h 54 1=fI h 64 77) (pre21 : fI h 60 1=fI h 64 78) (i : Int) (hi : 0 ≤ i ∧ i + 6 ≤ (Ln : Int) ∧ (Ln : Int) ≤ 3072) (d : Nat) (hd : 90 ≤ d) (Q : Option Value → List mE → Prop) (hQ : ∀ (τ' : List Nat) (h' : List mE), (∃ ts : List Nat, τ' = τ ++ ts ∧ gsT ts = true) → TH Tr τ' h' → I1 τ' h' → I2 τ' h' → I3 h' → I4 h' → I6 h' → I8 h' → I9 h' → IA h' → IB h' → IC h' → ID h' → IE h' → fI h' 64 32≤fI h' 64 15+fI h' 64 33 → fI h' 6 3=fI h' 64 2 → fI h' 4 0=fI h' 64 1 → fI h' 4 5=fI h' 64 7 → fI h' 4 10=fI h' 64 45 → fI h' 4 12=fI h' 64 48 → fI h' 4 7=fI h' 64 15 → fI h' 39 3=fI h' 64 41 → fI h' 54 1=fI h' 64 77 → fI h' 60 1=fI h' 64 78 → MR (mex Ln xs) d 292 1864 [some (.ref 0), some (.ref 4), some (.ref 64), some (vI i)] [] h' Q) : MR (mex Ln xs) d 292 1395 [some (.ref 0), some (.ref 4), some (.ref 64), some (vI i)] [] h Q := by
  have hF := Fr_rf τ WL h
  have hE := Ext_rf τ
  have e1 := fI_bd (q := 64) hT (tf hT rfl rfl) fd_8_32
  have e2 := fI_bd (q := 64) hT (tf hT rfl rfl) fd_8_15
  have e3 := fI_bd (q := 64) hT (tf hT rfl rfl) fd_8_33
  have e4 := fI_bd (q := 6) hT (tf hT rfl rfl) fd_2_3
  have e5 := fI_bd (q := 64) hT (tf hT rfl rfl) fd_8_2
  have e6 := fI_bd (q := 4) hT (tf hT rfl rfl) fd_1_0
  have e7 := fI_bd (q := 64) hT (tf hT rfl rfl) fd_8_1
  have e8 := fI_bd (q := 4) hT (tf hT rfl rfl) fd_1_5
  have e9 := fI_bd (q := 64) hT (tf hT rfl rfl) fd_8_7
  have e10 := fI_bd (q := 4) hT (tf hT rfl rfl) fd_1_10
  have e11 := fI_bd (q := 64) hT (tf hT rfl rfl) fd_8_45
  have e12 := fI_bd (q := 4) hT (tf hT rfl rfl) fd_1_12
  have e13 := fI_bd (q := 64) hT (tf hT rfl rfl) fd_8_48
  have e14 := fI_bd (q := 4) hT (tf hT rfl rfl) fd_1_7
  have e15 := fI_bd (q := 39) hT (tf hT rfl rfl) fd_3_3
  have e16 := fI_bd (q := 64) hT (tf hT rfl rfl) fd_8_41
  have e17 := fI_bd (q := 54) hT (tf hT rfl rfl) fd_6_1
  have e18 := fI_bd (q := 64) hT (tf hT rfl rfl) fd_8_77
  have e19 := fI_bd (q := 60) hT (tf hT rfl rfl) fd_7_1
  have e20 := fI_bd (q := 64) hT (tf hT rfl rfl) fd_8_78
  refine st_aload c292_1395 rfl ?_
  refine st_aload c292_1396 rfl ?_
  refine st_iload c292_1397 rfl ?_
  refine st_iconst c292_1398 ?_
  refine st_iadd c292_1399 ?_
  refine st_sld c292_1400 (by omega) (fun e21 e22 => ?_)
  refine st_aload c292_1401 rfl ?_
  refine st_iload c292_1402 rfl ?_
  refine st_iconst c292_1403 ?_
  refine st_iadd c292_1404 ?_
  refine st_sld c292_1405 (by omega) (fun e23 e24 => ?_)
  refine st_callt (as := [vI (sv xs (i + 1)), vI (sv xs (i + 2))]) c292_1406 cm_153 hT (tf hT rfl rfl) fd_1_0 rfl rfl rfl rfl (by omega) (K153 hT (sv xs (i + 1)) (by omega) (sv xs (i + 2)) (by omega) pre0 pre1 (d - 1) (by omega) _ (fun v h0 H => H)) (fun v1 h25 H => ?_)
  obtain ⟨z29, rfl, b30, pf33, τ', ⟨ts, rfl, hg⟩, hT26, hF27, ix31, ix32⟩ := H
  have hF28 := Fr_cp hF hF27 (by decide +kernel : Wsub W153 WL = true)
  have hE := Ext_app (τ := τ) (ts := ts)
  refine st_pop c292_1409 rfl ?_
  refine st_aload c292_1410 rfl ?_
  refine st_aload c292_1411 rfl ?_
  refine st_iload c292_1412 rfl ?_
  refine st_iconst c292_1413 ?_
  refine st_iadd c292_1414 ?_
  refine st_sld c292_1415 (by omega) (fun e34 e35 => ?_)
  refine st_aload c292_1416 rfl ?_
  refine st_iload c292_1417 rfl ?_
  refine st_iconst c292_1418 ?_
  refine st_iadd c292_1419 ?_
  refine st_sld c292_1420 (by omega) (fun e36 e37 => ?_)
  refine st_callt (as := [vI (sv xs (i + 1)), vI (sv xs (i + 2))]) c292_1421 cm_264 hT26 (tf hT26 rfl rfl) fd_8_0 rfl rfl rfl rfl (by omega) (K264 hT26 Stb_T (sv xs (i + 1)) (by omega) (sv xs (i + 2)) (by omega) (I4_fr pre3 hT hF27 (by decide +kernel)) (d - 1) (by omega) _ (fun v h0 H => H)) (fun v1 h38 H => ?_)
  obtain ⟨z43, rfl, b44, pf41, pf42, hT39, hF40⟩ := H
  have hF45 := Fr_cp hF28 (Fr_dn hE hF40) (by decide +kernel : Wsub W264 WL = true)
  have e48 := fI_bd (q := 64) hT26 (tf hT26 rfl rfl) fd_8_77
  have q49 : fI h25 64 77 = fI h 64 77 := Fr_fI hF27 (tf hT rfl rfl) (by decide +kernel)
  have e50 := fI_bd (q := 64) hT26 (tf hT26 rfl rfl) fd_8_78
  have q51 : fI h25 64 78 = fI h 64 78 := Fr_fI hF27 (tf hT rfl rfl) (by decide +kernel)
  obtain ⟨iv46, zq47, iv52, iv53⟩ := S_terms pre11 (by omega) (by omega) (TT_fr hT hF27 (by decide +kernel)) (fun i => Fr_aI hF40 (tf (q := 55) (t := 35) hT26 rfl rfl) (by decide +kernel) i) (Fr_fI hF40 (tf (q := 54) (t := 6) hT26 rfl rfl) (by decide +kernel)) (Fr_fI hF40 (tf (q := 60) (t := 7) hT26 rfl rfl) (by decide +kernel)) pf33 pf42
  refine st_pop c292_1424 rfl ?_
  refine st_goto c292_1425 ?_
  have e54 := fI_bd (q := 64) hT39 (tf hT39 rfl rfl) fd_8_32
  have q55 : fI h38 64 32 = fI h 64 32 := (Fr_fI hF40 (tf hT26 rfl rfl) (by decide +kernel)).trans (Fr_fI hF27 (tf hT rfl rfl) (by decide +kernel))
  have e56 := fI_bd (q := 64) hT39 (tf hT39 rfl rfl) fd_8_15
  have q57 : fI h38 64 15 = fI h 64 15 := (Fr_fI hF40 (tf hT26 rfl rfl) (by decide +kernel)).trans (Fr_fI hF27 (tf hT rfl rfl) (by decide +kernel))
  have e58 := fI_bd (q := 64) hT39 (tf hT39 rfl rfl) fd_8_33
  have q59 : fI h38 64 33 = fI h 64 33 := (Fr_fI hF40 (tf hT26 rfl rfl) (by decide +kernel)).trans (Fr_fI hF27 (tf hT rfl rfl) (by decide +kernel))
  have e60 := fI_bd (q := 6) hT39 (tf hT39 rfl rfl) fd_2_3
  have q61 : fI h38 6 3 = fI h 6 3 := (Fr_fI hF40 (tf hT26 rfl rfl) (by decide +kernel)).trans (Fr_fI hF27 (tf hT rfl rfl) (by decide +kernel))
  have e62 := fI_bd (q := 64) hT39 (tf hT39 rfl rfl) fd_8_2
  have q63 : fI h38 64 2 = fI h 64 2 := (Fr_fI hF40 (tf hT26 rfl rfl) (by decide +kernel)).trans (Fr_fI hF27 (tf hT rfl rfl) (by decide +kernel))
  have e64 := fI_bd (q := 4) hT39 (tf hT39 rfl rfl) fd_1_0
  have q65 : fI h38 4 0 = fI h 4 0 := (Fr_fI hF40 (tf hT26 rfl rfl) (by decide +kernel)).trans (Fr_fI hF27 (tf hT rfl rfl) (by decide +kernel))
  have e66 := fI_bd (q := 64) hT39 (tf hT39 rfl rfl) fd_8_1
  have q67 : fI h38 64 1 = fI h 64 1 := (Fr_fI hF40 (tf hT26 rfl rfl) (by decide +kernel)).trans (Fr_fI hF27 (tf hT rfl rfl) (by decide +kernel))
  have e68 := fI_bd (q := 4) hT39 (tf hT39 rfl rfl) fd_1_5
  have q69 : fI h38 4 5 = fI h 4 5 := (Fr_fI hF40 (tf hT26 rfl rfl) (by decide +kernel)).trans (Fr_fI hF27 (tf hT rfl rfl) (by decide +kernel))
  have e70 := fI_bd (q := 64) hT39 (tf hT39 rfl rfl) fd_8_7
  have q71 : fI h38 64 7 = fI h 64 7 := (Fr_fI hF40 (tf hT26 rfl rfl) (by decide +kernel)).trans (Fr_fI hF27 (tf hT rfl rfl) (by decide +kernel))
  have e72 := fI_bd (q := 4) hT39 (tf hT39 rfl rfl) fd_1_10
  have q73 : fI h38 4 10 = fI h 4 10 := (Fr_fI hF40 (tf hT26 rfl rfl) (by decide +kernel)).trans (Fr_fI hF27 (tf hT rfl rfl) (by decide +kernel))
  have e74 := fI_bd (q := 64) hT39 (tf hT39 rfl rfl) fd_8_45
  have q75 : fI h38 64 45 = fI h 64 45 := (Fr_fI hF40 (tf hT26 rfl rfl) (by decide +kernel)).trans (Fr_fI hF27 (tf hT rfl rfl) (by decide +kernel))
  have e76 := fI_bd (q := 4) hT39 (tf hT39 rfl rfl) fd_1_12
  have q77 : fI h38 4 12 = fI h 4 12 := (Fr_fI hF40 (tf hT26 rfl rfl) (by decide +kernel)).trans (Fr_fI hF27 (tf hT rfl rfl) (by decide +kernel))
  have e78 := fI_bd (q := 64) hT39 (tf hT39 rfl rfl) fd_8_48
  have q79 : fI h38 64 48 = fI h 64 48 := (Fr_fI hF40 (tf hT26 rfl rfl) (by decide +kernel)).trans (Fr_fI hF27 (tf hT rfl rfl) (by decide +kernel))
  have e80 := fI_bd (q := 4) hT39 (tf hT39 rfl rfl) fd_1_7
  have q81 : fI h38 4 7 = fI h 4 7 := (Fr_fI hF40 (tf hT26 rfl rfl) (by decide +kernel)).trans (Fr_fI hF27 (tf hT rfl rfl) (by decide +kernel))
  have e82 := fI_bd (q := 39) hT39 (tf hT39 rfl rfl) fd_3_3
  have q83 : fI h38 39 3 = fI h 39 3 := (Fr_fI hF40 (tf hT26 rfl rfl) (by decide +kernel)).trans (Fr_fI hF27 (tf hT rfl rfl) (by decide +kernel))
  have e84 := fI_bd (q := 64) hT39 (tf hT39 rfl rfl) fd_8_41
  have q85 : fI h38 64 41 = fI h 64 41 := (Fr_fI hF40 (tf hT26 rfl rfl) (by decide +kernel)).trans (Fr_fI hF27 (tf hT rfl rfl) (by decide +kernel))
  have e86 := fI_bd (q := 54) hT39 (tf hT39 rfl rfl) fd_6_1
  have q87 : fI h38 54 1 = fI h25 54 1 := Fr_fI hF40 (tf hT26 rfl rfl) (by decide +kernel)
  have e88 := fI_bd (q := 64) hT39 (tf hT39 rfl rfl) fd_8_77
  have e89 := fI_bd (q := 60) hT39 (tf hT39 rfl rfl) fd_7_1
  have q90 : fI h38 60 1 = fI h25 60 1 := Fr_fI hF40 (tf hT26 rfl rfl) (by decide +kernel)
  have e91 := fI_bd (q := 64) hT39 (tf hT39 rfl rfl) fd_8_78
  exact hQ _ _ ⟨ts, rfl, hg⟩ hT39 (I1_fr ix31 hT26 hF40 (by decide +kernel)) (I2_fr ix32 hF40 (by decide +kernel)) (I3_fr (I3_fr pre2 hT hF27 (by decide +kernel)) hT26 hF40 (by decide +kernel)) pf41 (I6_fr (I6_fr pre4 hT hF27 (by decide +kernel)) hT26 hF40 (by decide +kernel)) (I8_fr (I8_fr pre5 hT hF27 (by decide +kernel)) hT26 hF40 (by decide +kernel)) (I9_fr (I9_fr pre6 hT hF27 (by decide +kernel)) hT26 hF40 (by decide +kernel)) (IA_fr (IA_fr pre7 hT hF27 (by decide +kernel)) hT26 hF40 (by decide +kernel)) (IB_fr (IB_fr pre8 hT hF27 (by decide +kernel)) hT26 hF40 (by decide +kernel)) (IC_fr (IC_fr pre9 hT hF27 (by decide +kernel)) hT26 hF40 (by decide +kernel)) (ID_fr (ID_fr pre10 hT hF27 (by decide +kernel)) hT26 hF40 (by decide +kernel)) iv46 (by omega) (by omega) (by omega) (by omega) (by omega) (by omega) (by omega) (by omega) (by omega) (by omega)
set_option maxHeartbeats 0 in
theorem LC_36 {Ln : Nat} {xs : Nat → Int32} {τ : List Nat} {h : List mE} (hT : TH Tr τ h) (pre0 : I1 τ h) (pre1 : I2 τ h) (pre2 : I3 h) (pre3 : I4 h) (pre4 : I6 h) (pre5 : I8 h) (pre6 : I9 h) (pre7 : IA h) (pre8 : IB h) (pre9 : IC h) (pre10 : ID h) (pre11 : IE h) (pre12 : fI h 64 32≤fI h 64 15+fI h 64 33) (pre13 : fI h 6 3=fI h 64 2) (pre14 : fI h 4 0=fI h 64 1) (pre15 : fI h 4 5=fI h 64 7) (pre16 : fI h 4 10=fI h 64 45) (pre17 : fI h 4 12=fI h 64 48) (pre18 : fI h 4 7=fI h 64 15) (pre19 : fI h 39 3=fI h 64 41) (pre20 : fI h 54 1=fI h 64 77) (pre21 : fI h 60 1=fI h 64 78) (i : Int) (hi : 0 ≤ i ∧ i + 6 ≤ (Ln : Int) ∧ (Ln : Int) ≤ 3072) (d : Nat) (hd : 90 ≤ d) (Q : Option Value → List mE → Prop) (hQ : ∀ (τ' : List Nat) (h' : List mE), (∃ ts : List Nat, τ' = τ ++ ts ∧ gsT ts = true) → TH Tr τ' h' → I1 τ' h' → I2 τ' h' → I3 h' → I4 h' → I6 h' → I8 h' → I9 h' → IA h' → IB h' → IC h' → ID h' → IE h' → fI h' 64 32≤fI h' 64 15+fI h' 64 33 → fI h' 6 3=fI h' 64 2 → fI h' 4 0=fI h' 64 1 → fI h' 4 5=fI h' 64 7 → fI h' 4 10=fI h' 64 45 → fI h' 4 12=fI h' 64 48 → fI h' 4 7=fI h' 64 15 → fI h' 39 3=fI h' 64 41 → fI h' 54 1=fI h' 64 77 → fI h' 60 1=fI h' 64 78 → MR (mex Ln xs) d 292 1864 [some (.ref 0), some (.ref 4), some (.ref 64), some (vI i)] [] h' Q) : MR (mex Ln xs) d 292 1428 [some (.ref 0), some (.ref 4), some (.ref 64), some (vI i)] [] h Q := by
  have hF := Fr_rf τ WL h
  have hE := Ext_rf τ
  have e1 := fI_bd (q := 64) hT (tf hT rfl rfl) fd_8_32
  have e2 := fI_bd (q := 64) hT (tf hT rfl rfl) fd_8_15
  have e3 := fI_bd (q := 64) hT (tf hT rfl rfl) fd_8_33
  have e4 := fI_bd (q := 6) hT (tf hT rfl rfl) fd_2_3
  have e5 := fI_bd (q := 64) hT (tf hT rfl rfl) fd_8_2
  have e6 := fI_bd (q := 4) hT (tf hT rfl rfl) fd_1_0
  have e7 := fI_bd (q := 64) hT (tf hT rfl rfl) fd_8_1
  have e8 := fI_bd (q := 4) hT (tf hT rfl rfl) fd_1_5
  have e9 := fI_bd (q := 64) hT (tf hT rfl rfl) fd_8_7
  have e10 := fI_bd (q := 4) hT (tf hT rfl rfl) fd_1_10
  have e11 := fI_bd (q := 64) hT (tf hT rfl rfl) fd_8_45
  have e12 := fI_bd (q := 4) hT (tf hT rfl rfl) fd_1_12
  have e13 := fI_bd (q := 64) hT (tf hT rfl rfl) fd_8_48
  have e14 := fI_bd (q := 4) hT (tf hT rfl rfl) fd_1_7
  have e15 := fI_bd (q := 39) hT (tf hT rfl rfl) fd_3_3
  have e16 := fI_bd (q := 64) hT (tf hT rfl rfl) fd_8_41
  have e17 := fI_bd (q := 54) hT (tf hT rfl rfl) fd_6_1
  have e18 := fI_bd (q := 64) hT (tf hT rfl rfl) fd_8_77
  have e19 := fI_bd (q := 60) hT (tf hT rfl rfl) fd_7_1
  have e20 := fI_bd (q := 64) hT (tf hT rfl rfl) fd_8_78
  refine st_aload c292_1428 rfl ?_
  refine st_aload c292_1429 rfl ?_
  refine st_iload c292_1430 rfl ?_
  refine st_iconst c292_1431 ?_
  refine st_iadd c292_1432 ?_
  refine st_sld c292_1433 (by omega) (fun e21 e22 => ?_)
  refine st_aload c292_1434 rfl ?_
  refine st_iload c292_1435 rfl ?_
  refine st_iconst c292_1436 ?_
  refine st_iadd c292_1437 ?_
  refine st_sld c292_1438 (by omega) (fun e23 e24 => ?_)
  refine st_aload c292_1439 rfl ?_
  refine st_iload c292_1440 rfl ?_
  refine st_iconst c292_1441 ?_
  refine st_iadd c292_1442 ?_
  refine st_sld c292_1443 (by omega) (fun e25 e26 => ?_)
  refine st_callt (as := [vI (sv xs (i + 1)), vI (sv xs (i + 2)), vI (sv xs (i + 3))]) c292_1444 cm_154 hT (tf hT rfl rfl) fd_1_0 rfl rfl rfl rfl (by omega) (K154 hT Stb_T (sv xs (i + 1)) (by omega) (sv xs (i + 2)) (by omega) (sv xs (i + 3)) (by omega) pre0 pre1 pre5 (d - 1) (by omega) _ (fun v h0 H => H)) (fun v1 h27 H => ?_)
  obtain ⟨z30, rfl, b31, hT28, hF29⟩ := H
  have hF32 := Fr_cp hF hF29 (by decide +kernel : Wsub W154 WL = true)
  refine st_pop c292_1447 rfl ?_
  refine st_aload c292_1448 rfl ?_
  refine st_aload c292_1449 rfl ?_
  refine st_iload c292_1450 rfl ?_
  refine st_iconst c292_1451 ?_
  refine st_iadd c292_1452 ?_
  refine st_sld c292_1453 (by omega) (fun e33 e34 => ?_)
  refine st_aload c292_1454 rfl ?_
  refine st_iload c292_1455 rfl ?_
  refine st_iconst c292_1456 ?_
  refine st_iadd c292_1457 ?_
  refine st_sld c292_1458 (by omega) (fun e35 e36 => ?_)
  refine st_aload c292_1459 rfl ?_
  refine st_iload c292_1460 rfl ?_
  refine st_iconst c292_1461 ?_
  refine st_iadd c292_1462 ?_
  refine st_sld c292_1463 (by omega) (fun e37 e38 => ?_)
  refine st_callt (as := [vI (sv xs (i + 1)), vI (sv xs (i + 2)), vI (sv xs (i + 3))]) c292_1464 cm_274 hT28 (tf hT28 rfl rfl) fd_8_0 rfl rfl rfl rfl (by omega) (K274 hT28 Stb_T (sv xs (i + 1)) (by omega) (sv xs (i + 2)) (by omega) (sv xs (i + 3)) (by omega) (I3_fr pre2 hT hF29 (by decide +kernel)) (I4_fr pre3 hT hF29 (by decide +kernel)) (d - 1) (by omega) _ (fun v h0 H => H)) (fun v1 h39 H => ?_)
  obtain ⟨z42, rfl, b43, hT40, hF41⟩ := H
  have hF44 := Fr_cp hF32 hF41 (by decide +kernel : Wsub W274 WL = true)
  refine st_pop c292_1467 rfl ?_
  refine st_goto c292_1468 ?_
  have e45 := fI_bd (q := 64) hT40 (tf hT40 rfl rfl) fd_8_32
  have q46 : fI h39 64 32 = fI h 64 32 := (Fr_fI hF41 (tf hT28 rfl rfl) (by decide +kernel)).trans (Fr_fI hF29 (tf hT rfl rfl) (by decide +kernel))
  have e47 := fI_bd (q := 64) hT40 (tf hT40 rfl rfl) fd_8_15
  have q48 : fI h39 64 15 = fI h 64 15 := (Fr_fI hF41 (tf hT28 rfl rfl) (by decide +kernel)).trans (Fr_fI hF29 (tf hT rfl rfl) (by decide +kernel))
  have e49 := fI_bd (q := 64) hT40 (tf hT40 rfl rfl) fd_8_33
  have q50 : fI h39 64 33 = fI h 64 33 := (Fr_fI hF41 (tf hT28 rfl rfl) (by decide +kernel)).trans (Fr_fI hF29 (tf hT rfl rfl) (by decide +kernel))
  have e51 := fI_bd (q := 6) hT40 (tf hT40 rfl rfl) fd_2_3
  have q52 : fI h39 6 3 = fI h 6 3 := (Fr_fI hF41 (tf hT28 rfl rfl) (by decide +kernel)).trans (Fr_fI hF29 (tf hT rfl rfl) (by decide +kernel))
  have e53 := fI_bd (q := 64) hT40 (tf hT40 rfl rfl) fd_8_2
  have q54 : fI h39 64 2 = fI h 64 2 := (Fr_fI hF41 (tf hT28 rfl rfl) (by decide +kernel)).trans (Fr_fI hF29 (tf hT rfl rfl) (by decide +kernel))
  have e55 := fI_bd (q := 4) hT40 (tf hT40 rfl rfl) fd_1_0
  have q56 : fI h39 4 0 = fI h 4 0 := (Fr_fI hF41 (tf hT28 rfl rfl) (by decide +kernel)).trans (Fr_fI hF29 (tf hT rfl rfl) (by decide +kernel))
  have e57 := fI_bd (q := 64) hT40 (tf hT40 rfl rfl) fd_8_1
  have q58 : fI h39 64 1 = fI h 64 1 := (Fr_fI hF41 (tf hT28 rfl rfl) (by decide +kernel)).trans (Fr_fI hF29 (tf hT rfl rfl) (by decide +kernel))
  have e59 := fI_bd (q := 4) hT40 (tf hT40 rfl rfl) fd_1_5
  have q60 : fI h39 4 5 = fI h 4 5 := (Fr_fI hF41 (tf hT28 rfl rfl) (by decide +kernel)).trans (Fr_fI hF29 (tf hT rfl rfl) (by decide +kernel))
  have e61 := fI_bd (q := 64) hT40 (tf hT40 rfl rfl) fd_8_7
  have q62 : fI h39 64 7 = fI h 64 7 := (Fr_fI hF41 (tf hT28 rfl rfl) (by decide +kernel)).trans (Fr_fI hF29 (tf hT rfl rfl) (by decide +kernel))
  have e63 := fI_bd (q := 4) hT40 (tf hT40 rfl rfl) fd_1_10
  have q64 : fI h39 4 10 = fI h 4 10 := (Fr_fI hF41 (tf hT28 rfl rfl) (by decide +kernel)).trans (Fr_fI hF29 (tf hT rfl rfl) (by decide +kernel))
  have e65 := fI_bd (q := 64) hT40 (tf hT40 rfl rfl) fd_8_45
  have q66 : fI h39 64 45 = fI h 64 45 := (Fr_fI hF41 (tf hT28 rfl rfl) (by decide +kernel)).trans (Fr_fI hF29 (tf hT rfl rfl) (by decide +kernel))
  have e67 := fI_bd (q := 4) hT40 (tf hT40 rfl rfl) fd_1_12
  have q68 : fI h39 4 12 = fI h 4 12 := (Fr_fI hF41 (tf hT28 rfl rfl) (by decide +kernel)).trans (Fr_fI hF29 (tf hT rfl rfl) (by decide +kernel))
  have e69 := fI_bd (q := 64) hT40 (tf hT40 rfl rfl) fd_8_48
  have q70 : fI h39 64 48 = fI h 64 48 := (Fr_fI hF41 (tf hT28 rfl rfl) (by decide +kernel)).trans (Fr_fI hF29 (tf hT rfl rfl) (by decide +kernel))
  have e71 := fI_bd (q := 4) hT40 (tf hT40 rfl rfl) fd_1_7
  have q72 : fI h39 4 7 = fI h 4 7 := (Fr_fI hF41 (tf hT28 rfl rfl) (by decide +kernel)).trans (Fr_fI hF29 (tf hT rfl rfl) (by decide +kernel))
  have e73 := fI_bd (q := 39) hT40 (tf hT40 rfl rfl) fd_3_3
  have q74 : fI h39 39 3 = fI h 39 3 := (Fr_fI hF41 (tf hT28 rfl rfl) (by decide +kernel)).trans (Fr_fI hF29 (tf hT rfl rfl) (by decide +kernel))
  have e75 := fI_bd (q := 64) hT40 (tf hT40 rfl rfl) fd_8_41
  have q76 : fI h39 64 41 = fI h 64 41 := (Fr_fI hF41 (tf hT28 rfl rfl) (by decide +kernel)).trans (Fr_fI hF29 (tf hT rfl rfl) (by decide +kernel))
  have e77 := fI_bd (q := 54) hT40 (tf hT40 rfl rfl) fd_6_1
  have q78 : fI h39 54 1 = fI h 54 1 := (Fr_fI hF41 (tf hT28 rfl rfl) (by decide +kernel)).trans (Fr_fI hF29 (tf hT rfl rfl) (by decide +kernel))
  have e79 := fI_bd (q := 64) hT40 (tf hT40 rfl rfl) fd_8_77
  have q80 : fI h39 64 77 = fI h 64 77 := (Fr_fI hF41 (tf hT28 rfl rfl) (by decide +kernel)).trans (Fr_fI hF29 (tf hT rfl rfl) (by decide +kernel))
  have e81 := fI_bd (q := 60) hT40 (tf hT40 rfl rfl) fd_7_1
  have q82 : fI h39 60 1 = fI h 60 1 := (Fr_fI hF41 (tf hT28 rfl rfl) (by decide +kernel)).trans (Fr_fI hF29 (tf hT rfl rfl) (by decide +kernel))
  have e83 := fI_bd (q := 64) hT40 (tf hT40 rfl rfl) fd_8_78
  have q84 : fI h39 64 78 = fI h 64 78 := (Fr_fI hF41 (tf hT28 rfl rfl) (by decide +kernel)).trans (Fr_fI hF29 (tf hT rfl rfl) (by decide +kernel))
  exact hQ _ _ ⟨[], (List.append_nil τ).symm, rfl⟩ hT40 (I1_fr (I1_fr pre0 hT hF29 (by decide +kernel)) hT28 hF41 (by decide +kernel)) (I2_fr (I2_fr pre1 hF29 (by decide +kernel)) hF41 (by decide +kernel)) (I3_fr (I3_fr pre2 hT hF29 (by decide +kernel)) hT28 hF41 (by decide +kernel)) (I4_fr (I4_fr pre3 hT hF29 (by decide +kernel)) hT28 hF41 (by decide +kernel)) (I6_fr (I6_fr pre4 hT hF29 (by decide +kernel)) hT28 hF41 (by decide +kernel)) (I8_fr (I8_fr pre5 hT hF29 (by decide +kernel)) hT28 hF41 (by decide +kernel)) (I9_fr (I9_fr pre6 hT hF29 (by decide +kernel)) hT28 hF41 (by decide +kernel)) (IA_fr (IA_fr pre7 hT hF29 (by decide +kernel)) hT28 hF41 (by decide +kernel)) (IB_fr (IB_fr pre8 hT hF29 (by decide +kernel)) hT28 hF41 (by decide +kernel)) (IC_fr (IC_fr pre9 hT hF29 (by decide +kernel)) hT28 hF41 (by decide +kernel)) (ID_fr (ID_fr pre10 hT hF29 (by decide +kernel)) hT28 hF41 (by decide +kernel)) (IE_fr (IE_fr pre11 hT hF29 (by decide +kernel)) hT28 hF41 (by decide +kernel)) (by omega) (by omega) (by omega) (by omega) (by omega) (by omega) (by omega) (by omega) (by omega) (by omega)
set_option maxHeartbeats 0 in
theorem LC_37 {Ln : Nat} {xs : Nat → Int32} {τ : List Nat} {h : List mE} (hT : TH Tr τ h) (pre0 : I1 τ h) (pre1 : I2 τ h) (pre2 : I3 h) (pre3 : I4 h) (pre4 : I6 h) (pre5 : I8 h) (pre6 : I9 h) (pre7 : IA h) (pre8 : IB h) (pre9 : IC h) (pre10 : ID h) (pre11 : IE h) (pre12 : fI h 64 32≤fI h 64 15+fI h 64 33) (pre13 : fI h 6 3=fI h 64 2) (pre14 : fI h 4 0=fI h 64 1) (pre15 : fI h 4 5=fI h 64 7) (pre16 : fI h 4 10=fI h 64 45) (pre17 : fI h 4 12=fI h 64 48) (pre18 : fI h 4 7=fI h 64 15) (pre19 : fI h 39 3=fI h 64 41) (pre20 : fI h 54 1=fI h 64 77) (pre21 : fI h 60 1=fI h 64 78) (i : Int) (hi : 0 ≤ i ∧ i + 6 ≤ (Ln : Int) ∧ (Ln : Int) ≤ 3072) (d : Nat) (hd : 90 ≤ d) (Q : Option Value → List mE → Prop) (hQ : ∀ (τ' : List Nat) (h' : List mE), (∃ ts : List Nat, τ' = τ ++ ts ∧ gsT ts = true) → TH Tr τ' h' → I1 τ' h' → I2 τ' h' → I3 h' → I4 h' → I6 h' → I8 h' → I9 h' → IA h' → IB h' → IC h' → ID h' → IE h' → fI h' 64 32≤fI h' 64 15+fI h' 64 33 → fI h' 6 3=fI h' 64 2 → fI h' 4 0=fI h' 64 1 → fI h' 4 5=fI h' 64 7 → fI h' 4 10=fI h' 64 45 → fI h' 4 12=fI h' 64 48 → fI h' 4 7=fI h' 64 15 → fI h' 39 3=fI h' 64 41 → fI h' 54 1=fI h' 64 77 → fI h' 60 1=fI h' 64 78 → MR (mex Ln xs) d 292 1864 [some (.ref 0), some (.ref 4), some (.ref 64), some (vI i)] [] h' Q) : MR (mex Ln xs) d 292 1471 [some (.ref 0), some (.ref 4), some (.ref 64), some (vI i)] [] h Q := by
  have hF := Fr_rf τ WL h
  have hE := Ext_rf τ
  have e1 := fI_bd (q := 64) hT (tf hT rfl rfl) fd_8_32
  have e2 := fI_bd (q := 64) hT (tf hT rfl rfl) fd_8_15
  have e3 := fI_bd (q := 64) hT (tf hT rfl rfl) fd_8_33
  have e4 := fI_bd (q := 6) hT (tf hT rfl rfl) fd_2_3
  have e5 := fI_bd (q := 64) hT (tf hT rfl rfl) fd_8_2
  have e6 := fI_bd (q := 4) hT (tf hT rfl rfl) fd_1_0
  have e7 := fI_bd (q := 64) hT (tf hT rfl rfl) fd_8_1
  have e8 := fI_bd (q := 4) hT (tf hT rfl rfl) fd_1_5
  have e9 := fI_bd (q := 64) hT (tf hT rfl rfl) fd_8_7
  have e10 := fI_bd (q := 4) hT (tf hT rfl rfl) fd_1_10
  have e11 := fI_bd (q := 64) hT (tf hT rfl rfl) fd_8_45
  have e12 := fI_bd (q := 4) hT (tf hT rfl rfl) fd_1_12
  have e13 := fI_bd (q := 64) hT (tf hT rfl rfl) fd_8_48
  have e14 := fI_bd (q := 4) hT (tf hT rfl rfl) fd_1_7
  have e15 := fI_bd (q := 39) hT (tf hT rfl rfl) fd_3_3
  have e16 := fI_bd (q := 64) hT (tf hT rfl rfl) fd_8_41
  have e17 := fI_bd (q := 54) hT (tf hT rfl rfl) fd_6_1
  have e18 := fI_bd (q := 64) hT (tf hT rfl rfl) fd_8_77
  have e19 := fI_bd (q := 60) hT (tf hT rfl rfl) fd_7_1
  have e20 := fI_bd (q := 64) hT (tf hT rfl rfl) fd_8_78
  refine st_aload c292_1471 rfl ?_
  refine st_aload c292_1472 rfl ?_
  refine st_iload c292_1473 rfl ?_
  refine st_iconst c292_1474 ?_
  refine st_iadd c292_1475 ?_
  refine st_sld c292_1476 (by omega) (fun e21 e22 => ?_)
  refine st_aload c292_1477 rfl ?_
  refine st_iload c292_1478 rfl ?_
  refine st_iconst c292_1479 ?_
  refine st_iadd c292_1480 ?_
  refine st_sld c292_1481 (by omega) (fun e23 e24 => ?_)
  refine st_aload c292_1482 rfl ?_
  refine st_iload c292_1483 rfl ?_
  refine st_iconst c292_1484 ?_
  refine st_iadd c292_1485 ?_
  refine st_sld c292_1486 (by omega) (fun e25 e26 => ?_)
  refine st_callt (as := [vI (sv xs (i + 1)), vI (sv xs (i + 2)), vI (sv xs (i + 3))]) c292_1487 cm_155 hT (tf hT rfl rfl) fd_1_0 rfl rfl rfl rfl (by omega) (K155 hT Stb_T (sv xs (i + 1)) (by omega) (sv xs (i + 2)) (by omega) (sv xs (i + 3)) (by omega) pre0 pre1 pre5 (d - 1) (by omega) _ (fun v h0 H => H)) (fun v1 h27 H => ?_)
  obtain ⟨z30, rfl, b31, hT28, hF29⟩ := H
  have hF32 := Fr_cp hF hF29 (by decide +kernel : Wsub W155 WL = true)
  refine st_pop c292_1490 rfl ?_
  refine st_aload c292_1491 rfl ?_
  refine st_aload c292_1492 rfl ?_
  refine st_iload c292_1493 rfl ?_
  refine st_iconst c292_1494 ?_
  refine st_iadd c292_1495 ?_
  refine st_sld c292_1496 (by omega) (fun e33 e34 => ?_)
  refine st_aload c292_1497 rfl ?_
  refine st_iload c292_1498 rfl ?_
  refine st_iconst c292_1499 ?_
  refine st_iadd c292_1500 ?_
  refine st_sld c292_1501 (by omega) (fun e35 e36 => ?_)
  refine st_aload c292_1502 rfl ?_
  refine st_iload c292_1503 rfl ?_
  refine st_iconst c292_1504 ?_
  refine st_iadd c292_1505 ?_
  refine st_sld c292_1506 (by omega) (fun e37 e38 => ?_)
  refine st_callt (as := [vI (sv xs (i + 1)), vI (sv xs (i + 2)), vI (sv xs (i + 3))]) c292_1507 cm_276 hT28 (tf hT28 rfl rfl) fd_8_0 rfl rfl rfl rfl (by omega) (K276 hT28 Stb_T (sv xs (i + 1)) (by omega) (sv xs (i + 2)) (by omega) (sv xs (i + 3)) (by omega) (I3_fr pre2 hT hF29 (by decide +kernel)) (I4_fr pre3 hT hF29 (by decide +kernel)) (d - 1) (by omega) _ (fun v h0 H => H)) (fun v1 h39 H => ?_)
  obtain ⟨z42, rfl, b43, hT40, hF41⟩ := H
  have hF44 := Fr_cp hF32 hF41 (by decide +kernel : Wsub W276 WL = true)
  refine st_pop c292_1510 rfl ?_
  refine st_goto c292_1511 ?_
  have e45 := fI_bd (q := 64) hT40 (tf hT40 rfl rfl) fd_8_32
  have q46 : fI h39 64 32 = fI h 64 32 := (Fr_fI hF41 (tf hT28 rfl rfl) (by decide +kernel)).trans (Fr_fI hF29 (tf hT rfl rfl) (by decide +kernel))
  have e47 := fI_bd (q := 64) hT40 (tf hT40 rfl rfl) fd_8_15
  have q48 : fI h39 64 15 = fI h 64 15 := (Fr_fI hF41 (tf hT28 rfl rfl) (by decide +kernel)).trans (Fr_fI hF29 (tf hT rfl rfl) (by decide +kernel))
  have e49 := fI_bd (q := 64) hT40 (tf hT40 rfl rfl) fd_8_33
  have q50 : fI h39 64 33 = fI h 64 33 := (Fr_fI hF41 (tf hT28 rfl rfl) (by decide +kernel)).trans (Fr_fI hF29 (tf hT rfl rfl) (by decide +kernel))
  have e51 := fI_bd (q := 6) hT40 (tf hT40 rfl rfl) fd_2_3
  have q52 : fI h39 6 3 = fI h 6 3 := (Fr_fI hF41 (tf hT28 rfl rfl) (by decide +kernel)).trans (Fr_fI hF29 (tf hT rfl rfl) (by decide +kernel))
  have e53 := fI_bd (q := 64) hT40 (tf hT40 rfl rfl) fd_8_2
  have q54 : fI h39 64 2 = fI h 64 2 := (Fr_fI hF41 (tf hT28 rfl rfl) (by decide +kernel)).trans (Fr_fI hF29 (tf hT rfl rfl) (by decide +kernel))
  have e55 := fI_bd (q := 4) hT40 (tf hT40 rfl rfl) fd_1_0
  have q56 : fI h39 4 0 = fI h 4 0 := (Fr_fI hF41 (tf hT28 rfl rfl) (by decide +kernel)).trans (Fr_fI hF29 (tf hT rfl rfl) (by decide +kernel))
  have e57 := fI_bd (q := 64) hT40 (tf hT40 rfl rfl) fd_8_1
  have q58 : fI h39 64 1 = fI h 64 1 := (Fr_fI hF41 (tf hT28 rfl rfl) (by decide +kernel)).trans (Fr_fI hF29 (tf hT rfl rfl) (by decide +kernel))
  have e59 := fI_bd (q := 4) hT40 (tf hT40 rfl rfl) fd_1_5
  have q60 : fI h39 4 5 = fI h 4 5 := (Fr_fI hF41 (tf hT28 rfl rfl) (by decide +kernel)).trans (Fr_fI hF29 (tf hT rfl rfl) (by decide +kernel))
  have e61 := fI_bd (q := 64) hT40 (tf hT40 rfl rfl) fd_8_7
  have q62 : fI h39 64 7 = fI h 64 7 := (Fr_fI hF41 (tf hT28 rfl rfl) (by decide +kernel)).trans (Fr_fI hF29 (tf hT rfl rfl) (by decide +kernel))
  have e63 := fI_bd (q := 4) hT40 (tf hT40 rfl rfl) fd_1_10
  have q64 : fI h39 4 10 = fI h 4 10 := (Fr_fI hF41 (tf hT28 rfl rfl) (by decide +kernel)).trans (Fr_fI hF29 (tf hT rfl rfl) (by decide +kernel))
  have e65 := fI_bd (q := 64) hT40 (tf hT40 rfl rfl) fd_8_45
  have q66 : fI h39 64 45 = fI h 64 45 := (Fr_fI hF41 (tf hT28 rfl rfl) (by decide +kernel)).trans (Fr_fI hF29 (tf hT rfl rfl) (by decide +kernel))
  have e67 := fI_bd (q := 4) hT40 (tf hT40 rfl rfl) fd_1_12
  have q68 : fI h39 4 12 = fI h 4 12 := (Fr_fI hF41 (tf hT28 rfl rfl) (by decide +kernel)).trans (Fr_fI hF29 (tf hT rfl rfl) (by decide +kernel))
  have e69 := fI_bd (q := 64) hT40 (tf hT40 rfl rfl) fd_8_48
  have q70 : fI h39 64 48 = fI h 64 48 := (Fr_fI hF41 (tf hT28 rfl rfl) (by decide +kernel)).trans (Fr_fI hF29 (tf hT rfl rfl) (by decide +kernel))
  have e71 := fI_bd (q := 4) hT40 (tf hT40 rfl rfl) fd_1_7
  have q72 : fI h39 4 7 = fI h 4 7 := (Fr_fI hF41 (tf hT28 rfl rfl) (by decide +kernel)).trans (Fr_fI hF29 (tf hT rfl rfl) (by decide +kernel))
  have e73 := fI_bd (q := 39) hT40 (tf hT40 rfl rfl) fd_3_3
  have q74 : fI h39 39 3 = fI h 39 3 := (Fr_fI hF41 (tf hT28 rfl rfl) (by decide +kernel)).trans (Fr_fI hF29 (tf hT rfl rfl) (by decide +kernel))
  have e75 := fI_bd (q := 64) hT40 (tf hT40 rfl rfl) fd_8_41
  have q76 : fI h39 64 41 = fI h 64 41 := (Fr_fI hF41 (tf hT28 rfl rfl) (by decide +kernel)).trans (Fr_fI hF29 (tf hT rfl rfl) (by decide +kernel))
  have e77 := fI_bd (q := 54) hT40 (tf hT40 rfl rfl) fd_6_1
  have q78 : fI h39 54 1 = fI h 54 1 := (Fr_fI hF41 (tf hT28 rfl rfl) (by decide +kernel)).trans (Fr_fI hF29 (tf hT rfl rfl) (by decide +kernel))
  have e79 := fI_bd (q := 64) hT40 (tf hT40 rfl rfl) fd_8_77
  have q80 : fI h39 64 77 = fI h 64 77 := (Fr_fI hF41 (tf hT28 rfl rfl) (by decide +kernel)).trans (Fr_fI hF29 (tf hT rfl rfl) (by decide +kernel))
  have e81 := fI_bd (q := 60) hT40 (tf hT40 rfl rfl) fd_7_1
  have q82 : fI h39 60 1 = fI h 60 1 := (Fr_fI hF41 (tf hT28 rfl rfl) (by decide +kernel)).trans (Fr_fI hF29 (tf hT rfl rfl) (by decide +kernel))
  have e83 := fI_bd (q := 64) hT40 (tf hT40 rfl rfl) fd_8_78
  have q84 : fI h39 64 78 = fI h 64 78 := (Fr_fI hF41 (tf hT28 rfl rfl) (by decide +kernel)).trans (Fr_fI hF29 (tf hT rfl rfl) (by decide +kernel))
  exact hQ _ _ ⟨[], (List.append_nil τ).symm, rfl⟩ hT40 (I1_fr (I1_fr pre0 hT hF29 (by decide +kernel)) hT28 hF41 (by decide +kernel)) (I2_fr (I2_fr pre1 hF29 (by decide +kernel)) hF41 (by decide +kernel)) (I3_fr (I3_fr pre2 hT hF29 (by decide +kernel)) hT28 hF41 (by decide +kernel)) (I4_fr (I4_fr pre3 hT hF29 (by decide +kernel)) hT28 hF41 (by decide +kernel)) (I6_fr (I6_fr pre4 hT hF29 (by decide +kernel)) hT28 hF41 (by decide +kernel)) (I8_fr (I8_fr pre5 hT hF29 (by decide +kernel)) hT28 hF41 (by decide +kernel)) (I9_fr (I9_fr pre6 hT hF29 (by decide +kernel)) hT28 hF41 (by decide +kernel)) (IA_fr (IA_fr pre7 hT hF29 (by decide +kernel)) hT28 hF41 (by decide +kernel)) (IB_fr (IB_fr pre8 hT hF29 (by decide +kernel)) hT28 hF41 (by decide +kernel)) (IC_fr (IC_fr pre9 hT hF29 (by decide +kernel)) hT28 hF41 (by decide +kernel)) (ID_fr (ID_fr pre10 hT hF29 (by decide +kernel)) hT28 hF41 (by decide +kernel)) (IE_fr (IE_fr pre11 hT hF29 (by decide +kernel)) hT28 hF41 (by decide +kernel)) (by omega) (by omega) (by omega) (by omega) (by omega) (by omega) (by omega) (by omega) (by omega) (by omega)
set_option maxHeartbeats 0 in
theorem LC_38 {Ln : Nat} {xs : Nat → Int32} {τ : List Nat} {h : List mE} (hT : TH Tr τ h) (pre0 : I1 τ h) (pre1 : I2 τ h) (pre2 : I3 h) (pre3 : I4 h) (pre4 : I6 h) (pre5 : I8 h) (pre6 : I9 h) (pre7 : IA h) (pre8 : IB h) (pre9 : IC h) (pre10 : ID h) (pre11 : IE h) (pre12 : fI h 64 32≤fI h 64 15+fI h 64 33) (pre13 : fI h 6 3=fI h 64 2) (pre14 : fI h 4 0=fI h 64 1) (pre15 : fI h 4 5=fI h 64 7) (pre16 : fI h 4 10=fI h 64 45) (pre17 : fI h 4 12=fI h 64 48) (pre18 : fI h 4 7=fI h 64 15) (pre19 : fI h 39 3=fI h 64 41) (pre20 : fI h 54 1=fI h 64 77) (pre21 : fI h 60 1=fI h 64 78) (i : Int) (hi : 0 ≤ i ∧ i + 6 ≤ (Ln : Int) ∧ (Ln : Int) ≤ 3072) (d : Nat) (hd : 90 ≤ d) (Q : Option Value → List mE → Prop) (hQ : ∀ (τ' : List Nat) (h' : List mE), (∃ ts : List Nat, τ' = τ ++ ts ∧ gsT ts = true) → TH Tr τ' h' → I1 τ' h' → I2 τ' h' → I3 h' → I4 h' → I6 h' → I8 h' → I9 h' → IA h' → IB h' → IC h' → ID h' → IE h' → fI h' 64 32≤fI h' 64 15+fI h' 64 33 → fI h' 6 3=fI h' 64 2 → fI h' 4 0=fI h' 64 1 → fI h' 4 5=fI h' 64 7 → fI h' 4 10=fI h' 64 45 → fI h' 4 12=fI h' 64 48 → fI h' 4 7=fI h' 64 15 → fI h' 39 3=fI h' 64 41 → fI h' 54 1=fI h' 64 77 → fI h' 60 1=fI h' 64 78 → MR (mex Ln xs) d 292 1864 [some (.ref 0), some (.ref 4), some (.ref 64), some (vI i)] [] h' Q) : MR (mex Ln xs) d 292 1514 [some (.ref 0), some (.ref 4), some (.ref 64), some (vI i)] [] h Q := by
  have hF := Fr_rf τ WL h
  have hE := Ext_rf τ
  have e1 := fI_bd (q := 64) hT (tf hT rfl rfl) fd_8_32
  have e2 := fI_bd (q := 64) hT (tf hT rfl rfl) fd_8_15
  have e3 := fI_bd (q := 64) hT (tf hT rfl rfl) fd_8_33
  have e4 := fI_bd (q := 6) hT (tf hT rfl rfl) fd_2_3
  have e5 := fI_bd (q := 64) hT (tf hT rfl rfl) fd_8_2
  have e6 := fI_bd (q := 4) hT (tf hT rfl rfl) fd_1_0
  have e7 := fI_bd (q := 64) hT (tf hT rfl rfl) fd_8_1
  have e8 := fI_bd (q := 4) hT (tf hT rfl rfl) fd_1_5
  have e9 := fI_bd (q := 64) hT (tf hT rfl rfl) fd_8_7
  have e10 := fI_bd (q := 4) hT (tf hT rfl rfl) fd_1_10
  have e11 := fI_bd (q := 64) hT (tf hT rfl rfl) fd_8_45
  have e12 := fI_bd (q := 4) hT (tf hT rfl rfl) fd_1_12
  have e13 := fI_bd (q := 64) hT (tf hT rfl rfl) fd_8_48
  have e14 := fI_bd (q := 4) hT (tf hT rfl rfl) fd_1_7
  have e15 := fI_bd (q := 39) hT (tf hT rfl rfl) fd_3_3
  have e16 := fI_bd (q := 64) hT (tf hT rfl rfl) fd_8_41
  have e17 := fI_bd (q := 54) hT (tf hT rfl rfl) fd_6_1
  have e18 := fI_bd (q := 64) hT (tf hT rfl rfl) fd_8_77
  have e19 := fI_bd (q := 60) hT (tf hT rfl rfl) fd_7_1
  have e20 := fI_bd (q := 64) hT (tf hT rfl rfl) fd_8_78
  refine st_aload c292_1514 rfl ?_
  refine st_aload c292_1515 rfl ?_
  refine st_iload c292_1516 rfl ?_
  refine st_iconst c292_1517 ?_
  refine st_iadd c292_1518 ?_
  refine st_sld c292_1519 (by omega) (fun e21 e22 => ?_)
  refine st_aload c292_1520 rfl ?_
  refine st_iload c292_1521 rfl ?_
  refine st_iconst c292_1522 ?_
  refine st_iadd c292_1523 ?_
  refine st_sld c292_1524 (by omega) (fun e23 e24 => ?_)
  refine st_callt (as := [vI (sv xs (i + 1)), vI (sv xs (i + 2))]) c292_1525 cm_156 hT (tf hT rfl rfl) fd_1_0 rfl rfl rfl rfl (by omega) (K156 hT Stb_T (sv xs (i + 1)) (by omega) (sv xs (i + 2)) (by omega) pre0 pre1 pre5 (d - 1) (by omega) _ (fun v h0 H => H)) (fun v1 h25 H => ?_)
  obtain ⟨z28, rfl, b29, hT26, hF27⟩ := H
  have hF30 := Fr_cp hF hF27 (by decide +kernel : Wsub W156 WL = true)
  refine st_pop c292_1528 rfl ?_
  refine st_aload c292_1529 rfl ?_
  refine st_aload c292_1530 rfl ?_
  refine st_iload c292_1531 rfl ?_
  refine st_iconst c292_1532 ?_
  refine st_iadd c292_1533 ?_
  refine st_sld c292_1534 (by omega) (fun e31 e32 => ?_)
  refine st_aload c292_1535 rfl ?_
  refine st_iload c292_1536 rfl ?_
  refine st_iconst c292_1537 ?_
  refine st_iadd c292_1538 ?_
  refine st_sld c292_1539 (by omega) (fun e33 e34 => ?_)
  refine st_callt (as := [vI (sv xs (i + 1)), vI (sv xs (i + 2))]) c292_1540 cm_277 hT26 (tf hT26 rfl rfl) fd_8_0 rfl rfl rfl rfl (by omega) (K277 hT26 Stb_T (sv xs (i + 1)) (by omega) (sv xs (i + 2)) (by omega) (I3_fr pre2 hT hF27 (by decide +kernel)) (I4_fr pre3 hT hF27 (by decide +kernel)) (d - 1) (by omega) _ (fun v h0 H => H)) (fun v1 h35 H => ?_)
  obtain ⟨z38, rfl, b39, hT36, hF37⟩ := H
  have hF40 := Fr_cp hF30 hF37 (by decide +kernel : Wsub W277 WL = true)
  refine st_pop c292_1543 rfl ?_
  refine st_goto c292_1544 ?_
  have e41 := fI_bd (q := 64) hT36 (tf hT36 rfl rfl) fd_8_32
  have q42 : fI h35 64 32 = fI h 64 32 := (Fr_fI hF37 (tf hT26 rfl rfl) (by decide +kernel)).trans (Fr_fI hF27 (tf hT rfl rfl) (by decide +kernel))
  have e43 := fI_bd (q := 64) hT36 (tf hT36 rfl rfl) fd_8_15
  have q44 : fI h35 64 15 = fI h 64 15 := (Fr_fI hF37 (tf hT26 rfl rfl) (by decide +kernel)).trans (Fr_fI hF27 (tf hT rfl rfl) (by decide +kernel))
  have e45 := fI_bd (q := 64) hT36 (tf hT36 rfl rfl) fd_8_33
  have q46 : fI h35 64 33 = fI h 64 33 := (Fr_fI hF37 (tf hT26 rfl rfl) (by decide +kernel)).trans (Fr_fI hF27 (tf hT rfl rfl) (by decide +kernel))
  have e47 := fI_bd (q := 6) hT36 (tf hT36 rfl rfl) fd_2_3
  have q48 : fI h35 6 3 = fI h 6 3 := (Fr_fI hF37 (tf hT26 rfl rfl) (by decide +kernel)).trans (Fr_fI hF27 (tf hT rfl rfl) (by decide +kernel))
  have e49 := fI_bd (q := 64) hT36 (tf hT36 rfl rfl) fd_8_2
  have q50 : fI h35 64 2 = fI h 64 2 := (Fr_fI hF37 (tf hT26 rfl rfl) (by decide +kernel)).trans (Fr_fI hF27 (tf hT rfl rfl) (by decide +kernel))
  have e51 := fI_bd (q := 4) hT36 (tf hT36 rfl rfl) fd_1_0
  have q52 : fI h35 4 0 = fI h 4 0 := (Fr_fI hF37 (tf hT26 rfl rfl) (by decide +kernel)).trans (Fr_fI hF27 (tf hT rfl rfl) (by decide +kernel))
  have e53 := fI_bd (q := 64) hT36 (tf hT36 rfl rfl) fd_8_1
  have q54 : fI h35 64 1 = fI h 64 1 := (Fr_fI hF37 (tf hT26 rfl rfl) (by decide +kernel)).trans (Fr_fI hF27 (tf hT rfl rfl) (by decide +kernel))
  have e55 := fI_bd (q := 4) hT36 (tf hT36 rfl rfl) fd_1_5
  have q56 : fI h35 4 5 = fI h 4 5 := (Fr_fI hF37 (tf hT26 rfl rfl) (by decide +kernel)).trans (Fr_fI hF27 (tf hT rfl rfl) (by decide +kernel))
  have e57 := fI_bd (q := 64) hT36 (tf hT36 rfl rfl) fd_8_7
  have q58 : fI h35 64 7 = fI h 64 7 := (Fr_fI hF37 (tf hT26 rfl rfl) (by decide +kernel)).trans (Fr_fI hF27 (tf hT rfl rfl) (by decide +kernel))
  have e59 := fI_bd (q := 4) hT36 (tf hT36 rfl rfl) fd_1_10
  have q60 : fI h35 4 10 = fI h 4 10 := (Fr_fI hF37 (tf hT26 rfl rfl) (by decide +kernel)).trans (Fr_fI hF27 (tf hT rfl rfl) (by decide +kernel))
  have e61 := fI_bd (q := 64) hT36 (tf hT36 rfl rfl) fd_8_45
  have q62 : fI h35 64 45 = fI h 64 45 := (Fr_fI hF37 (tf hT26 rfl rfl) (by decide +kernel)).trans (Fr_fI hF27 (tf hT rfl rfl) (by decide +kernel))
  have e63 := fI_bd (q := 4) hT36 (tf hT36 rfl rfl) fd_1_12
  have q64 : fI h35 4 12 = fI h 4 12 := (Fr_fI hF37 (tf hT26 rfl rfl) (by decide +kernel)).trans (Fr_fI hF27 (tf hT rfl rfl) (by decide +kernel))
  have e65 := fI_bd (q := 64) hT36 (tf hT36 rfl rfl) fd_8_48
  have q66 : fI h35 64 48 = fI h 64 48 := (Fr_fI hF37 (tf hT26 rfl rfl) (by decide +kernel)).trans (Fr_fI hF27 (tf hT rfl rfl) (by decide +kernel))
  have e67 := fI_bd (q := 4) hT36 (tf hT36 rfl rfl) fd_1_7
  have q68 : fI h35 4 7 = fI h 4 7 := (Fr_fI hF37 (tf hT26 rfl rfl) (by decide +kernel)).trans (Fr_fI hF27 (tf hT rfl rfl) (by decide +kernel))
  have e69 := fI_bd (q := 39) hT36 (tf hT36 rfl rfl) fd_3_3
  have q70 : fI h35 39 3 = fI h 39 3 := (Fr_fI hF37 (tf hT26 rfl rfl) (by decide +kernel)).trans (Fr_fI hF27 (tf hT rfl rfl) (by decide +kernel))
  have e71 := fI_bd (q := 64) hT36 (tf hT36 rfl rfl) fd_8_41
  have q72 : fI h35 64 41 = fI h 64 41 := (Fr_fI hF37 (tf hT26 rfl rfl) (by decide +kernel)).trans (Fr_fI hF27 (tf hT rfl rfl) (by decide +kernel))
  have e73 := fI_bd (q := 54) hT36 (tf hT36 rfl rfl) fd_6_1
  have q74 : fI h35 54 1 = fI h 54 1 := (Fr_fI hF37 (tf hT26 rfl rfl) (by decide +kernel)).trans (Fr_fI hF27 (tf hT rfl rfl) (by decide +kernel))
  have e75 := fI_bd (q := 64) hT36 (tf hT36 rfl rfl) fd_8_77
  have q76 : fI h35 64 77 = fI h 64 77 := (Fr_fI hF37 (tf hT26 rfl rfl) (by decide +kernel)).trans (Fr_fI hF27 (tf hT rfl rfl) (by decide +kernel))
  have e77 := fI_bd (q := 60) hT36 (tf hT36 rfl rfl) fd_7_1
  have q78 : fI h35 60 1 = fI h 60 1 := (Fr_fI hF37 (tf hT26 rfl rfl) (by decide +kernel)).trans (Fr_fI hF27 (tf hT rfl rfl) (by decide +kernel))
  have e79 := fI_bd (q := 64) hT36 (tf hT36 rfl rfl) fd_8_78
  have q80 : fI h35 64 78 = fI h 64 78 := (Fr_fI hF37 (tf hT26 rfl rfl) (by decide +kernel)).trans (Fr_fI hF27 (tf hT rfl rfl) (by decide +kernel))
  exact hQ _ _ ⟨[], (List.append_nil τ).symm, rfl⟩ hT36 (I1_fr (I1_fr pre0 hT hF27 (by decide +kernel)) hT26 hF37 (by decide +kernel)) (I2_fr (I2_fr pre1 hF27 (by decide +kernel)) hF37 (by decide +kernel)) (I3_fr (I3_fr pre2 hT hF27 (by decide +kernel)) hT26 hF37 (by decide +kernel)) (I4_fr (I4_fr pre3 hT hF27 (by decide +kernel)) hT26 hF37 (by decide +kernel)) (I6_fr (I6_fr pre4 hT hF27 (by decide +kernel)) hT26 hF37 (by decide +kernel)) (I8_fr (I8_fr pre5 hT hF27 (by decide +kernel)) hT26 hF37 (by decide +kernel)) (I9_fr (I9_fr pre6 hT hF27 (by decide +kernel)) hT26 hF37 (by decide +kernel)) (IA_fr (IA_fr pre7 hT hF27 (by decide +kernel)) hT26 hF37 (by decide +kernel)) (IB_fr (IB_fr pre8 hT hF27 (by decide +kernel)) hT26 hF37 (by decide +kernel)) (IC_fr (IC_fr pre9 hT hF27 (by decide +kernel)) hT26 hF37 (by decide +kernel)) (ID_fr (ID_fr pre10 hT hF27 (by decide +kernel)) hT26 hF37 (by decide +kernel)) (IE_fr (IE_fr pre11 hT hF27 (by decide +kernel)) hT26 hF37 (by decide +kernel)) (by omega) (by omega) (by omega) (by omega) (by omega) (by omega) (by omega) (by omega) (by omega) (by omega)
set_option maxHeartbeats 0 in
theorem LC_39 {Ln : Nat} {xs : Nat → Int32} {τ : List Nat} {h : List mE} (hT : TH Tr τ h) (pre0 : I1 τ h) (pre1 : I2 τ h) (pre2 : I3 h) (pre3 : I4 h) (pre4 : I6 h) (pre5 : I8 h) (pre6 : I9 h) (pre7 : IA h) (pre8 : IB h) (pre9 : IC h) (pre10 : ID h) (pre11 : IE h) (pre12 : fI h 64 32≤fI h 64 15+fI h 64 33) (pre13 : fI h 6 3=fI h 64 2) (pre14 : fI h 4 0=fI h 64 1) (pre15 : fI h 4 5=fI h 64 7) (pre16 : fI h 4 10=fI h 64 45) (pre17 : fI h 4 12=fI h 64 48) (pre18 : fI h 4 7=fI h 64 15) (pre19 : fI h 39 3=fI h 64 41) (pre20 : fI h 54 1=fI h 64 77) (pre21 : fI h 60 1=fI h 64 78) (i : Int) (hi : 0 ≤ i ∧ i + 6 ≤ (Ln : Int) ∧ (Ln : Int) ≤ 3072) (d : Nat) (hd : 90 ≤ d) (Q : Option Value → List mE → Prop) (hQ : ∀ (τ' : List Nat) (h' : List mE), (∃ ts : List Nat, τ' = τ ++ ts ∧ gsT ts = true) → TH Tr τ' h' → I1 τ' h' → I2 τ' h' → I3 h' → I4 h' → I6 h' → I8 h' → I9 h' → IA h' → IB h' → IC h' → ID h' → IE h' → fI h' 64 32≤fI h' 64 15+fI h' 64 33 → fI h' 6 3=fI h' 64 2 → fI h' 4 0=fI h' 64 1 → fI h' 4 5=fI h' 64 7 → fI h' 4 10=fI h' 64 45 → fI h' 4 12=fI h' 64 48 → fI h' 4 7=fI h' 64 15 → fI h' 39 3=fI h' 64 41 → fI h' 54 1=fI h' 64 77 → fI h' 60 1=fI h' 64 78 → MR (mex Ln xs) d 292 1864 [some (.ref 0), some (.ref 4), some (.ref 64), some (vI i)] [] h' Q) : MR (mex Ln xs) d 292 1547 [some (.ref 0), some (.ref 4), some (.ref 64), some (vI i)] [] h Q := by
  have hF := Fr_rf τ WL h
  have hE := Ext_rf τ
  have e1 := fI_bd (q := 64) hT (tf hT rfl rfl) fd_8_32
  have e2 := fI_bd (q := 64) hT (tf hT rfl rfl) fd_8_15
  have e3 := fI_bd (q := 64) hT (tf hT rfl rfl) fd_8_33
  have e4 := fI_bd (q := 6) hT (tf hT rfl rfl) fd_2_3
  have e5 := fI_bd (q := 64) hT (tf hT rfl rfl) fd_8_2
  have e6 := fI_bd (q := 4) hT (tf hT rfl rfl) fd_1_0
  have e7 := fI_bd (q := 64) hT (tf hT rfl rfl) fd_8_1
  have e8 := fI_bd (q := 4) hT (tf hT rfl rfl) fd_1_5
  have e9 := fI_bd (q := 64) hT (tf hT rfl rfl) fd_8_7
  have e10 := fI_bd (q := 4) hT (tf hT rfl rfl) fd_1_10
  have e11 := fI_bd (q := 64) hT (tf hT rfl rfl) fd_8_45
  have e12 := fI_bd (q := 4) hT (tf hT rfl rfl) fd_1_12
  have e13 := fI_bd (q := 64) hT (tf hT rfl rfl) fd_8_48
  have e14 := fI_bd (q := 4) hT (tf hT rfl rfl) fd_1_7
  have e15 := fI_bd (q := 39) hT (tf hT rfl rfl) fd_3_3
  have e16 := fI_bd (q := 64) hT (tf hT rfl rfl) fd_8_41
  have e17 := fI_bd (q := 54) hT (tf hT rfl rfl) fd_6_1
  have e18 := fI_bd (q := 64) hT (tf hT rfl rfl) fd_8_77
  have e19 := fI_bd (q := 60) hT (tf hT rfl rfl) fd_7_1
  have e20 := fI_bd (q := 64) hT (tf hT rfl rfl) fd_8_78
  refine st_aload c292_1547 rfl ?_
  refine st_aload c292_1548 rfl ?_
  refine st_iload c292_1549 rfl ?_
  refine st_iconst c292_1550 ?_
  refine st_iadd c292_1551 ?_
  refine st_sld c292_1552 (by omega) (fun e21 e22 => ?_)
  refine st_aload c292_1553 rfl ?_
  refine st_iload c292_1554 rfl ?_
  refine st_iconst c292_1555 ?_
  refine st_iadd c292_1556 ?_
  refine st_sld c292_1557 (by omega) (fun e23 e24 => ?_)
  refine st_aload c292_1558 rfl ?_
  refine st_iload c292_1559 rfl ?_
  refine st_iconst c292_1560 ?_
  refine st_iadd c292_1561 ?_
  refine st_sld c292_1562 (by omega) (fun e25 e26 => ?_)
  refine st_callt (as := [vI (sv xs (i + 1)), vI (sv xs (i + 2)), vI (sv xs (i + 3))]) c292_1563 cm_157 hT (tf hT rfl rfl) fd_1_0 rfl rfl rfl rfl (by omega) (K157 hT Stb_T (sv xs (i + 1)) (by omega) (sv xs (i + 2)) (by omega) (sv xs (i + 3)) (by omega) pre5 (d - 1) (by omega) _ (fun v h0 H => H)) (fun v1 h27 H => ?_)
  obtain ⟨z30, rfl, b31, hT28, hF29⟩ := H
  have hF32 := Fr_cp hF hF29 (by decide +kernel : Wsub W157 WL = true)
  refine st_pop c292_1566 rfl ?_
  refine st_aload c292_1567 rfl ?_
  refine st_aload c292_1568 rfl ?_
  refine st_iload c292_1569 rfl ?_
  refine st_iconst c292_1570 ?_
  refine st_iadd c292_1571 ?_
  refine st_sld c292_1572 (by omega) (fun e33 e34 => ?_)
  refine st_aload c292_1573 rfl ?_
  refine st_iload c292_1574 rfl ?_
  refine st_iconst c292_1575 ?_
  refine st_iadd c292_1576 ?_
  refine st_sld c292_1577 (by omega) (fun e35 e36 => ?_)
  refine st_aload c292_1578 rfl ?_
  refine st_iload c292_1579 rfl ?_
  refine st_iconst c292_1580 ?_
  refine st_iadd c292_1581 ?_
  refine st_sld c292_1582 (by omega) (fun e37 e38 => ?_)
  refine st_callt (as := [vI (sv xs (i + 1)), vI (sv xs (i + 2)), vI (sv xs (i + 3))]) c292_1583 cm_279 hT28 (tf hT28 rfl rfl) fd_8_0 rfl rfl rfl rfl (by omega) (K279 hT28 Stb_T (sv xs (i + 1)) (by omega) (sv xs (i + 2)) (by omega) (sv xs (i + 3)) (by omega) (I3_fr pre2 hT hF29 (by decide +kernel)) (d - 1) (by omega) _ (fun v h0 H => H)) (fun v1 h39 H => ?_)
  obtain ⟨z42, rfl, b43, hT40, hF41⟩ := H
  have hF44 := Fr_cp hF32 hF41 (by decide +kernel : Wsub W279 WL = true)
  refine st_pop c292_1586 rfl ?_
  refine st_goto c292_1587 ?_
  have e45 := fI_bd (q := 64) hT40 (tf hT40 rfl rfl) fd_8_32
  have q46 : fI h39 64 32 = fI h 64 32 := (Fr_fI hF41 (tf hT28 rfl rfl) (by decide +kernel)).trans (Fr_fI hF29 (tf hT rfl rfl) (by decide +kernel))
  have e47 := fI_bd (q := 64) hT40 (tf hT40 rfl rfl) fd_8_15
  have q48 : fI h39 64 15 = fI h 64 15 := (Fr_fI hF41 (tf hT28 rfl rfl) (by decide +kernel)).trans (Fr_fI hF29 (tf hT rfl rfl) (by decide +kernel))
  have e49 := fI_bd (q := 64) hT40 (tf hT40 rfl rfl) fd_8_33
  have q50 : fI h39 64 33 = fI h 64 33 := (Fr_fI hF41 (tf hT28 rfl rfl) (by decide +kernel)).trans (Fr_fI hF29 (tf hT rfl rfl) (by decide +kernel))
  have e51 := fI_bd (q := 6) hT40 (tf hT40 rfl rfl) fd_2_3
  have q52 : fI h39 6 3 = fI h 6 3 := (Fr_fI hF41 (tf hT28 rfl rfl) (by decide +kernel)).trans (Fr_fI hF29 (tf hT rfl rfl) (by decide +kernel))
  have e53 := fI_bd (q := 64) hT40 (tf hT40 rfl rfl) fd_8_2
  have q54 : fI h39 64 2 = fI h 64 2 := (Fr_fI hF41 (tf hT28 rfl rfl) (by decide +kernel)).trans (Fr_fI hF29 (tf hT rfl rfl) (by decide +kernel))
  have e55 := fI_bd (q := 4) hT40 (tf hT40 rfl rfl) fd_1_0
  have q56 : fI h39 4 0 = fI h 4 0 := (Fr_fI hF41 (tf hT28 rfl rfl) (by decide +kernel)).trans (Fr_fI hF29 (tf hT rfl rfl) (by decide +kernel))
  have e57 := fI_bd (q := 64) hT40 (tf hT40 rfl rfl) fd_8_1
  have q58 : fI h39 64 1 = fI h 64 1 := (Fr_fI hF41 (tf hT28 rfl rfl) (by decide +kernel)).trans (Fr_fI hF29 (tf hT rfl rfl) (by decide +kernel))
  have e59 := fI_bd (q := 4) hT40 (tf hT40 rfl rfl) fd_1_5
  have q60 : fI h39 4 5 = fI h 4 5 := (Fr_fI hF41 (tf hT28 rfl rfl) (by decide +kernel)).trans (Fr_fI hF29 (tf hT rfl rfl) (by decide +kernel))
  have e61 := fI_bd (q := 64) hT40 (tf hT40 rfl rfl) fd_8_7
  have q62 : fI h39 64 7 = fI h 64 7 := (Fr_fI hF41 (tf hT28 rfl rfl) (by decide +kernel)).trans (Fr_fI hF29 (tf hT rfl rfl) (by decide +kernel))
  have e63 := fI_bd (q := 4) hT40 (tf hT40 rfl rfl) fd_1_10
  have q64 : fI h39 4 10 = fI h 4 10 := (Fr_fI hF41 (tf hT28 rfl rfl) (by decide +kernel)).trans (Fr_fI hF29 (tf hT rfl rfl) (by decide +kernel))
  have e65 := fI_bd (q := 64) hT40 (tf hT40 rfl rfl) fd_8_45
  have q66 : fI h39 64 45 = fI h 64 45 := (Fr_fI hF41 (tf hT28 rfl rfl) (by decide +kernel)).trans (Fr_fI hF29 (tf hT rfl rfl) (by decide +kernel))
  have e67 := fI_bd (q := 4) hT40 (tf hT40 rfl rfl) fd_1_12
  have q68 : fI h39 4 12 = fI h 4 12 := (Fr_fI hF41 (tf hT28 rfl rfl) (by decide +kernel)).trans (Fr_fI hF29 (tf hT rfl rfl) (by decide +kernel))
  have e69 := fI_bd (q := 64) hT40 (tf hT40 rfl rfl) fd_8_48
  have q70 : fI h39 64 48 = fI h 64 48 := (Fr_fI hF41 (tf hT28 rfl rfl) (by decide +kernel)).trans (Fr_fI hF29 (tf hT rfl rfl) (by decide +kernel))
  have e71 := fI_bd (q := 4) hT40 (tf hT40 rfl rfl) fd_1_7
  have q72 : fI h39 4 7 = fI h 4 7 := (Fr_fI hF41 (tf hT28 rfl rfl) (by decide +kernel)).trans (Fr_fI hF29 (tf hT rfl rfl) (by decide +kernel))
  have e73 := fI_bd (q := 39) hT40 (tf hT40 rfl rfl) fd_3_3
  have q74 : fI h39 39 3 = fI h 39 3 := (Fr_fI hF41 (tf hT28 rfl rfl) (by decide +kernel)).trans (Fr_fI hF29 (tf hT rfl rfl) (by decide +kernel))
  have e75 := fI_bd (q := 64) hT40 (tf hT40 rfl rfl) fd_8_41
  have q76 : fI h39 64 41 = fI h 64 41 := (Fr_fI hF41 (tf hT28 rfl rfl) (by decide +kernel)).trans (Fr_fI hF29 (tf hT rfl rfl) (by decide +kernel))
  have e77 := fI_bd (q := 54) hT40 (tf hT40 rfl rfl) fd_6_1
  have q78 : fI h39 54 1 = fI h 54 1 := (Fr_fI hF41 (tf hT28 rfl rfl) (by decide +kernel)).trans (Fr_fI hF29 (tf hT rfl rfl) (by decide +kernel))
  have e79 := fI_bd (q := 64) hT40 (tf hT40 rfl rfl) fd_8_77
  have q80 : fI h39 64 77 = fI h 64 77 := (Fr_fI hF41 (tf hT28 rfl rfl) (by decide +kernel)).trans (Fr_fI hF29 (tf hT rfl rfl) (by decide +kernel))
  have e81 := fI_bd (q := 60) hT40 (tf hT40 rfl rfl) fd_7_1
  have q82 : fI h39 60 1 = fI h 60 1 := (Fr_fI hF41 (tf hT28 rfl rfl) (by decide +kernel)).trans (Fr_fI hF29 (tf hT rfl rfl) (by decide +kernel))
  have e83 := fI_bd (q := 64) hT40 (tf hT40 rfl rfl) fd_8_78
  have q84 : fI h39 64 78 = fI h 64 78 := (Fr_fI hF41 (tf hT28 rfl rfl) (by decide +kernel)).trans (Fr_fI hF29 (tf hT rfl rfl) (by decide +kernel))
  exact hQ _ _ ⟨[], (List.append_nil τ).symm, rfl⟩ hT40 (I1_fr (I1_fr pre0 hT hF29 (by decide +kernel)) hT28 hF41 (by decide +kernel)) (I2_fr (I2_fr pre1 hF29 (by decide +kernel)) hF41 (by decide +kernel)) (I3_fr (I3_fr pre2 hT hF29 (by decide +kernel)) hT28 hF41 (by decide +kernel)) (I4_fr (I4_fr pre3 hT hF29 (by decide +kernel)) hT28 hF41 (by decide +kernel)) (I6_fr (I6_fr pre4 hT hF29 (by decide +kernel)) hT28 hF41 (by decide +kernel)) (I8_fr (I8_fr pre5 hT hF29 (by decide +kernel)) hT28 hF41 (by decide +kernel)) (I9_fr (I9_fr pre6 hT hF29 (by decide +kernel)) hT28 hF41 (by decide +kernel)) (IA_fr (IA_fr pre7 hT hF29 (by decide +kernel)) hT28 hF41 (by decide +kernel)) (IB_fr (IB_fr pre8 hT hF29 (by decide +kernel)) hT28 hF41 (by decide +kernel)) (IC_fr (IC_fr pre9 hT hF29 (by decide +kernel)) hT28 hF41 (by decide +kernel)) (ID_fr (ID_fr pre10 hT hF29 (by decide +kernel)) hT28 hF41 (by decide +kernel)) (IE_fr (IE_fr pre11 hT hF29 (by decide +kernel)) hT28 hF41 (by decide +kernel)) (by omega) (by omega) (by omega) (by omega) (by omega) (by omega) (by omega) (by omega) (by omega) (by omega)
set_option maxHeartbeats 0 in
theorem LC_40 {Ln : Nat} {xs : Nat → Int32} {τ : List Nat} {h : List mE} (hT : TH Tr τ h) (pre0 : I1 τ h) (pre1 : I2 τ h) (pre2 : I3 h) (pre3 : I4 h) (pre4 : I6 h) (pre5 : I8 h) (pre6 : I9 h) (pre7 : IA h) (pre8 : IB h) (pre9 : IC h) (pre10 : ID h) (pre11 : IE h) (pre12 : fI h 64 32≤fI h 64 15+fI h 64 33) (pre13 : fI h 6 3=fI h 64 2) (pre14 : fI h 4 0=fI h 64 1) (pre15 : fI h 4 5=fI h 64 7) (pre16 : fI h 4 10=fI h 64 45) (pre17 : fI h 4 12=fI h 64 48) (pre18 : fI h 4 7=fI h 64 15) (pre19 : fI h 39 3=fI h 64 41) (pre20 : fI h 54 1=fI h 64 77) (pre21 : fI h 60 1=fI h 64 78) (i : Int) (hi : 0 ≤ i ∧ i + 6 ≤ (Ln : Int) ∧ (Ln : Int) ≤ 3072) (d : Nat) (hd : 90 ≤ d) (Q : Option Value → List mE → Prop) (hQ : ∀ (τ' : List Nat) (h' : List mE), (∃ ts : List Nat, τ' = τ ++ ts ∧ gsT ts = true) → TH Tr τ' h' → I1 τ' h' → I2 τ' h' → I3 h' → I4 h' → I6 h' → I8 h' → I9 h' → IA h' → IB h' → IC h' → ID h' → IE h' → fI h' 64 32≤fI h' 64 15+fI h' 64 33 → fI h' 6 3=fI h' 64 2 → fI h' 4 0=fI h' 64 1 → fI h' 4 5=fI h' 64 7 → fI h' 4 10=fI h' 64 45 → fI h' 4 12=fI h' 64 48 → fI h' 4 7=fI h' 64 15 → fI h' 39 3=fI h' 64 41 → fI h' 54 1=fI h' 64 77 → fI h' 60 1=fI h' 64 78 → MR (mex Ln xs) d 292 1864 [some (.ref 0), some (.ref 4), some (.ref 64), some (vI i)] [] h' Q) : MR (mex Ln xs) d 292 1590 [some (.ref 0), some (.ref 4), some (.ref 64), some (vI i)] [] h Q := by
  have hF := Fr_rf τ WL h
  have hE := Ext_rf τ
  have e1 := fI_bd (q := 64) hT (tf hT rfl rfl) fd_8_32
  have e2 := fI_bd (q := 64) hT (tf hT rfl rfl) fd_8_15
  have e3 := fI_bd (q := 64) hT (tf hT rfl rfl) fd_8_33
  have e4 := fI_bd (q := 6) hT (tf hT rfl rfl) fd_2_3
  have e5 := fI_bd (q := 64) hT (tf hT rfl rfl) fd_8_2
  have e6 := fI_bd (q := 4) hT (tf hT rfl rfl) fd_1_0
  have e7 := fI_bd (q := 64) hT (tf hT rfl rfl) fd_8_1
  have e8 := fI_bd (q := 4) hT (tf hT rfl rfl) fd_1_5
  have e9 := fI_bd (q := 64) hT (tf hT rfl rfl) fd_8_7
  have e10 := fI_bd (q := 4) hT (tf hT rfl rfl) fd_1_10
  have e11 := fI_bd (q := 64) hT (tf hT rfl rfl) fd_8_45
  have e12 := fI_bd (q := 4) hT (tf hT rfl rfl) fd_1_12
  have e13 := fI_bd (q := 64) hT (tf hT rfl rfl) fd_8_48
  have e14 := fI_bd (q := 4) hT (tf hT rfl rfl) fd_1_7
  have e15 := fI_bd (q := 39) hT (tf hT rfl rfl) fd_3_3
  have e16 := fI_bd (q := 64) hT (tf hT rfl rfl) fd_8_41
  have e17 := fI_bd (q := 54) hT (tf hT rfl rfl) fd_6_1
  have e18 := fI_bd (q := 64) hT (tf hT rfl rfl) fd_8_77
  have e19 := fI_bd (q := 60) hT (tf hT rfl rfl) fd_7_1
  have e20 := fI_bd (q := 64) hT (tf hT rfl rfl) fd_8_78
  refine st_aload c292_1590 rfl ?_
  refine st_aload c292_1591 rfl ?_
  refine st_iload c292_1592 rfl ?_
  refine st_iconst c292_1593 ?_
  refine st_iadd c292_1594 ?_
  refine st_sld c292_1595 (by omega) (fun e21 e22 => ?_)
  refine st_aload c292_1596 rfl ?_
  refine st_iload c292_1597 rfl ?_
  refine st_iconst c292_1598 ?_
  refine st_iadd c292_1599 ?_
  refine st_sld c292_1600 (by omega) (fun e23 e24 => ?_)
  refine st_aload c292_1601 rfl ?_
  refine st_iload c292_1602 rfl ?_
  refine st_iconst c292_1603 ?_
  refine st_iadd c292_1604 ?_
  refine st_sld c292_1605 (by omega) (fun e25 e26 => ?_)
  refine st_callt (as := [vI (sv xs (i + 1)), vI (sv xs (i + 2)), vI (sv xs (i + 3))]) c292_1606 cm_158 hT (tf hT rfl rfl) fd_1_0 rfl rfl rfl rfl (by omega) (K158 hT Stb_T (sv xs (i + 1)) (by omega) (sv xs (i + 2)) (by omega) (sv xs (i + 3)) (by omega) pre5 (d - 1) (by omega) _ (fun v h0 H => H)) (fun v1 h27 H => ?_)
  obtain ⟨z30, rfl, b31, hT28, hF29⟩ := H
  have hF32 := Fr_cp hF hF29 (by decide +kernel : Wsub W158 WL = true)
  refine st_pop c292_1609 rfl ?_
  refine st_aload c292_1610 rfl ?_
  refine st_aload c292_1611 rfl ?_
  refine st_iload c292_1612 rfl ?_
  refine st_iconst c292_1613 ?_
  refine st_iadd c292_1614 ?_
  refine st_sld c292_1615 (by omega) (fun e33 e34 => ?_)
  refine st_aload c292_1616 rfl ?_
  refine st_iload c292_1617 rfl ?_
  refine st_iconst c292_1618 ?_
  refine st_iadd c292_1619 ?_
  refine st_sld c292_1620 (by omega) (fun e35 e36 => ?_)
  refine st_aload c292_1621 rfl ?_
  refine st_iload c292_1622 rfl ?_
  refine st_iconst c292_1623 ?_
  refine st_iadd c292_1624 ?_
  refine st_sld c292_1625 (by omega) (fun e37 e38 => ?_)
  refine st_callt (as := [vI (sv xs (i + 1)), vI (sv xs (i + 2)), vI (sv xs (i + 3))]) c292_1626 cm_280 hT28 (tf hT28 rfl rfl) fd_8_0 rfl rfl rfl rfl (by omega) (K280 hT28 Stb_T (sv xs (i + 1)) (by omega) (sv xs (i + 2)) (by omega) (sv xs (i + 3)) (by omega) (I3_fr pre2 hT hF29 (by decide +kernel)) (d - 1) (by omega) _ (fun v h0 H => H)) (fun v1 h39 H => ?_)
  obtain ⟨z42, rfl, b43, hT40, hF41⟩ := H
  have hF44 := Fr_cp hF32 hF41 (by decide +kernel : Wsub W280 WL = true)
  refine st_pop c292_1629 rfl ?_
  refine st_goto c292_1630 ?_
  have e45 := fI_bd (q := 64) hT40 (tf hT40 rfl rfl) fd_8_32
  have q46 : fI h39 64 32 = fI h 64 32 := (Fr_fI hF41 (tf hT28 rfl rfl) (by decide +kernel)).trans (Fr_fI hF29 (tf hT rfl rfl) (by decide +kernel))
  have e47 := fI_bd (q := 64) hT40 (tf hT40 rfl rfl) fd_8_15
  have q48 : fI h39 64 15 = fI h 64 15 := (Fr_fI hF41 (tf hT28 rfl rfl) (by decide +kernel)).trans (Fr_fI hF29 (tf hT rfl rfl) (by decide +kernel))
  have e49 := fI_bd (q := 64) hT40 (tf hT40 rfl rfl) fd_8_33
  have q50 : fI h39 64 33 = fI h 64 33 := (Fr_fI hF41 (tf hT28 rfl rfl) (by decide +kernel)).trans (Fr_fI hF29 (tf hT rfl rfl) (by decide +kernel))
  have e51 := fI_bd (q := 6) hT40 (tf hT40 rfl rfl) fd_2_3
  have q52 : fI h39 6 3 = fI h 6 3 := (Fr_fI hF41 (tf hT28 rfl rfl) (by decide +kernel)).trans (Fr_fI hF29 (tf hT rfl rfl) (by decide +kernel))
  have e53 := fI_bd (q := 64) hT40 (tf hT40 rfl rfl) fd_8_2
  have q54 : fI h39 64 2 = fI h 64 2 := (Fr_fI hF41 (tf hT28 rfl rfl) (by decide +kernel)).trans (Fr_fI hF29 (tf hT rfl rfl) (by decide +kernel))
  have e55 := fI_bd (q := 4) hT40 (tf hT40 rfl rfl) fd_1_0
  have q56 : fI h39 4 0 = fI h 4 0 := (Fr_fI hF41 (tf hT28 rfl rfl) (by decide +kernel)).trans (Fr_fI hF29 (tf hT rfl rfl) (by decide +kernel))
  have e57 := fI_bd (q := 64) hT40 (tf hT40 rfl rfl) fd_8_1
  have q58 : fI h39 64 1 = fI h 64 1 := (Fr_fI hF41 (tf hT28 rfl rfl) (by decide +kernel)).trans (Fr_fI hF29 (tf hT rfl rfl) (by decide +kernel))
  have e59 := fI_bd (q := 4) hT40 (tf hT40 rfl rfl) fd_1_5
  have q60 : fI h39 4 5 = fI h 4 5 := (Fr_fI hF41 (tf hT28 rfl rfl) (by decide +kernel)).trans (Fr_fI hF29 (tf hT rfl rfl) (by decide +kernel))
  have e61 := fI_bd (q := 64) hT40 (tf hT40 rfl rfl) fd_8_7
  have q62 : fI h39 64 7 = fI h 64 7 := (Fr_fI hF41 (tf hT28 rfl rfl) (by decide +kernel)).trans (Fr_fI hF29 (tf hT rfl rfl) (by decide +kernel))
  have e63 := fI_bd (q := 4) hT40 (tf hT40 rfl rfl) fd_1_10
  have q64 : fI h39 4 10 = fI h 4 10 := (Fr_fI hF41 (tf hT28 rfl rfl) (by decide +kernel)).trans (Fr_fI hF29 (tf hT rfl rfl) (by decide +kernel))
  have e65 := fI_bd (q := 64) hT40 (tf hT40 rfl rfl) fd_8_45
  have q66 : fI h39 64 45 = fI h 64 45 := (Fr_fI hF41 (tf hT28 rfl rfl) (by decide +kernel)).trans (Fr_fI hF29 (tf hT rfl rfl) (by decide +kernel))
  have e67 := fI_bd (q := 4) hT40 (tf hT40 rfl rfl) fd_1_12
  have q68 : fI h39 4 12 = fI h 4 12 := (Fr_fI hF41 (tf hT28 rfl rfl) (by decide +kernel)).trans (Fr_fI hF29 (tf hT rfl rfl) (by decide +kernel))
  have e69 := fI_bd (q := 64) hT40 (tf hT40 rfl rfl) fd_8_48
  have q70 : fI h39 64 48 = fI h 64 48 := (Fr_fI hF41 (tf hT28 rfl rfl) (by decide +kernel)).trans (Fr_fI hF29 (tf hT rfl rfl) (by decide +kernel))
  have e71 := fI_bd (q := 4) hT40 (tf hT40 rfl rfl) fd_1_7
  have q72 : fI h39 4 7 = fI h 4 7 := (Fr_fI hF41 (tf hT28 rfl rfl) (by decide +kernel)).trans (Fr_fI hF29 (tf hT rfl rfl) (by decide +kernel))
  have e73 := fI_bd (q := 39) hT40 (tf hT40 rfl rfl) fd_3_3
  have q74 : fI h39 39 3 = fI h 39 3 := (Fr_fI hF41 (tf hT28 rfl rfl) (by decide +kernel)).trans (Fr_fI hF29 (tf hT rfl rfl) (by decide +kernel))
  have e75 := fI_bd (q := 64) hT40 (tf hT40 rfl rfl) fd_8_41
  have q76 : fI h39 64 41 = fI h 64 41 := (Fr_fI hF41 (tf hT28 rfl rfl) (by decide +kernel)).trans (Fr_fI hF29 (tf hT rfl rfl) (by decide +kernel))
  have e77 := fI_bd (q := 54) hT40 (tf hT40 rfl rfl) fd_6_1
  have q78 : fI h39 54 1 = fI h 54 1 := (Fr_fI hF41 (tf hT28 rfl rfl) (by decide +kernel)).trans (Fr_fI hF29 (tf hT rfl rfl) (by decide +kernel))
  have e79 := fI_bd (q := 64) hT40 (tf hT40 rfl rfl) fd_8_77
  have q80 : fI h39 64 77 = fI h 64 77 := (Fr_fI hF41 (tf hT28 rfl rfl) (by decide +kernel)).trans (Fr_fI hF29 (tf hT rfl rfl) (by decide +kernel))
  have e81 := fI_bd (q := 60) hT40 (tf hT40 rfl rfl) fd_7_1
  have q82 : fI h39 60 1 = fI h 60 1 := (Fr_fI hF41 (tf hT28 rfl rfl) (by decide +kernel)).trans (Fr_fI hF29 (tf hT rfl rfl) (by decide +kernel))
  have e83 := fI_bd (q := 64) hT40 (tf hT40 rfl rfl) fd_8_78
  have q84 : fI h39 64 78 = fI h 64 78 := (Fr_fI hF41 (tf hT28 rfl rfl) (by decide +kernel)).trans (Fr_fI hF29 (tf hT rfl rfl) (by decide +kernel))
  exact hQ _ _ ⟨[], (List.append_nil τ).symm, rfl⟩ hT40 (I1_fr (I1_fr pre0 hT hF29 (by decide +kernel)) hT28 hF41 (by decide +kernel)) (I2_fr (I2_fr pre1 hF29 (by decide +kernel)) hF41 (by decide +kernel)) (I3_fr (I3_fr pre2 hT hF29 (by decide +kernel)) hT28 hF41 (by decide +kernel)) (I4_fr (I4_fr pre3 hT hF29 (by decide +kernel)) hT28 hF41 (by decide +kernel)) (I6_fr (I6_fr pre4 hT hF29 (by decide +kernel)) hT28 hF41 (by decide +kernel)) (I8_fr (I8_fr pre5 hT hF29 (by decide +kernel)) hT28 hF41 (by decide +kernel)) (I9_fr (I9_fr pre6 hT hF29 (by decide +kernel)) hT28 hF41 (by decide +kernel)) (IA_fr (IA_fr pre7 hT hF29 (by decide +kernel)) hT28 hF41 (by decide +kernel)) (IB_fr (IB_fr pre8 hT hF29 (by decide +kernel)) hT28 hF41 (by decide +kernel)) (IC_fr (IC_fr pre9 hT hF29 (by decide +kernel)) hT28 hF41 (by decide +kernel)) (ID_fr (ID_fr pre10 hT hF29 (by decide +kernel)) hT28 hF41 (by decide +kernel)) (IE_fr (IE_fr pre11 hT hF29 (by decide +kernel)) hT28 hF41 (by decide +kernel)) (by omega) (by omega) (by omega) (by omega) (by omega) (by omega) (by omega) (by omega) (by omega) (by omega)
set_option maxHeartbeats 0 in
theorem LC_41 {Ln : Nat} {xs : Nat → Int32} {τ : List Nat} {h : List mE} (hT : TH Tr τ h) (pre0 : I1 τ h) (pre1 : I2 τ h) (pre2 : I3 h) (pre3 : I4 h) (pre4 : I6 h) (pre5 : I8 h) (pre6 : I9 h) (pre7 : IA h) (pre8 : IB h) (pre9 : IC h) (pre10 : ID h) (pre11 : IE h) (pre12 : fI h 64 32≤fI h 64 15+fI h 64 33) (pre13 : fI h 6 3=fI h 64 2) (pre14 : fI h 4 0=fI h 64 1) (pre15 : fI h 4 5=fI h 64 7) (pre16 : fI h 4 10=fI h 64 45) (pre17 : fI h 4 12=fI h 64 48) (pre18 : fI h 4 7=fI h 64 15) (pre19 : fI h 39 3=fI h 64 41) (pre20 : fI h 54 1=fI h 64 77) (pre21 : fI h 60 1=fI h 64 78) (i : Int) (hi : 0 ≤ i ∧ i + 6 ≤ (Ln : Int) ∧ (Ln : Int) ≤ 3072) (d : Nat) (hd : 90 ≤ d) (Q : Option Value → List mE → Prop) (hQ : ∀ (τ' : List Nat) (h' : List mE), (∃ ts : List Nat, τ' = τ ++ ts ∧ gsT ts = true) → TH Tr τ' h' → I1 τ' h' → I2 τ' h' → I3 h' → I4 h' → I6 h' → I8 h' → I9 h' → IA h' → IB h' → IC h' → ID h' → IE h' → fI h' 64 32≤fI h' 64 15+fI h' 64 33 → fI h' 6 3=fI h' 64 2 → fI h' 4 0=fI h' 64 1 → fI h' 4 5=fI h' 64 7 → fI h' 4 10=fI h' 64 45 → fI h' 4 12=fI h' 64 48 → fI h' 4 7=fI h' 64 15 → fI h' 39 3=fI h' 64 41 → fI h' 54 1=fI h' 64 77 → fI h' 60 1=fI h' 64 78 → MR (mex Ln xs) d 292 1864 [some (.ref 0), some (.ref 4), some (.ref 64), some (vI i)] [] h' Q) : MR (mex Ln xs) d 292 1633 [some (.ref 0), some (.ref 4), some (.ref 64), some (vI i)] [] h Q := by
  have hF := Fr_rf τ WL h
  have hE := Ext_rf τ
  have e1 := fI_bd (q := 64) hT (tf hT rfl rfl) fd_8_32
  have e2 := fI_bd (q := 64) hT (tf hT rfl rfl) fd_8_15
  have e3 := fI_bd (q := 64) hT (tf hT rfl rfl) fd_8_33
  have e4 := fI_bd (q := 6) hT (tf hT rfl rfl) fd_2_3
  have e5 := fI_bd (q := 64) hT (tf hT rfl rfl) fd_8_2
  have e6 := fI_bd (q := 4) hT (tf hT rfl rfl) fd_1_0
  have e7 := fI_bd (q := 64) hT (tf hT rfl rfl) fd_8_1
  have e8 := fI_bd (q := 4) hT (tf hT rfl rfl) fd_1_5
  have e9 := fI_bd (q := 64) hT (tf hT rfl rfl) fd_8_7
  have e10 := fI_bd (q := 4) hT (tf hT rfl rfl) fd_1_10
  have e11 := fI_bd (q := 64) hT (tf hT rfl rfl) fd_8_45
  have e12 := fI_bd (q := 4) hT (tf hT rfl rfl) fd_1_12
  have e13 := fI_bd (q := 64) hT (tf hT rfl rfl) fd_8_48
  have e14 := fI_bd (q := 4) hT (tf hT rfl rfl) fd_1_7
  have e15 := fI_bd (q := 39) hT (tf hT rfl rfl) fd_3_3
  have e16 := fI_bd (q := 64) hT (tf hT rfl rfl) fd_8_41
  have e17 := fI_bd (q := 54) hT (tf hT rfl rfl) fd_6_1
  have e18 := fI_bd (q := 64) hT (tf hT rfl rfl) fd_8_77
  have e19 := fI_bd (q := 60) hT (tf hT rfl rfl) fd_7_1
  have e20 := fI_bd (q := 64) hT (tf hT rfl rfl) fd_8_78
  refine st_aload c292_1633 rfl ?_
  refine st_aload c292_1634 rfl ?_
  refine st_iload c292_1635 rfl ?_
  refine st_iconst c292_1636 ?_
  refine st_iadd c292_1637 ?_
  refine st_sld c292_1638 (by omega) (fun e21 e22 => ?_)
  refine st_aload c292_1639 rfl ?_
  refine st_iload c292_1640 rfl ?_
  refine st_iconst c292_1641 ?_
  refine st_iadd c292_1642 ?_
  refine st_sld c292_1643 (by omega) (fun e23 e24 => ?_)
  refine st_callt (as := [vI (sv xs (i + 1)), vI (sv xs (i + 2))]) c292_1644 cm_159 hT (tf hT rfl rfl) fd_1_0 rfl rfl rfl rfl (by omega) (K159 hT (sv xs (i + 1)) (by omega) (sv xs (i + 2)) (by omega) pre5 (d - 1) (by omega) _ (fun v h0 H => H)) (fun v1 h1 H => ?_)
  obtain ⟨z25, rfl, b26, rfl⟩ := H
  refine st_pop c292_1647 rfl ?_
  refine st_aload c292_1648 rfl ?_
  refine st_aload c292_1649 rfl ?_
  refine st_iload c292_1650 rfl ?_
  refine st_iconst c292_1651 ?_
  refine st_iadd c292_1652 ?_
  refine st_sld c292_1653 (by omega) (fun e27 e28 => ?_)
  refine st_aload c292_1654 rfl ?_
  refine st_iload c292_1655 rfl ?_
  refine st_iconst c292_1656 ?_
  refine st_iadd c292_1657 ?_
  refine st_sld c292_1658 (by omega) (fun e29 e30 => ?_)
  refine st_callt (as := [vI (sv xs (i + 1)), vI (sv xs (i + 2))]) c292_1659 cm_281 hT (tf hT rfl rfl) fd_8_0 rfl rfl rfl rfl (by omega) (K281 hT (sv xs (i + 1)) (by omega) (sv xs (i + 2)) (by omega) (d - 1) (by omega) _ (fun v h0 H => H)) (fun v1 h1 H => ?_)
  obtain ⟨z31, rfl, b32, rfl⟩ := H
  refine st_pop c292_1662 rfl ?_
  refine st_goto c292_1663 ?_
  have e33 := fI_bd (q := 64) hT (tf hT rfl rfl) fd_8_32
  have e34 := fI_bd (q := 64) hT (tf hT rfl rfl) fd_8_15
  have e35 := fI_bd (q := 64) hT (tf hT rfl rfl) fd_8_33
  have e36 := fI_bd (q := 6) hT (tf hT rfl rfl) fd_2_3
  have e37 := fI_bd (q := 64) hT (tf hT rfl rfl) fd_8_2
  have e38 := fI_bd (q := 4) hT (tf hT rfl rfl) fd_1_0
  have e39 := fI_bd (q := 64) hT (tf hT rfl rfl) fd_8_1
  have e40 := fI_bd (q := 4) hT (tf hT rfl rfl) fd_1_5
  have e41 := fI_bd (q := 64) hT (tf hT rfl rfl) fd_8_7
  have e42 := fI_bd (q := 4) hT (tf hT rfl rfl) fd_1_10
  have e43 := fI_bd (q := 64) hT (tf hT rfl rfl) fd_8_45
  have e44 := fI_bd (q := 4) hT (tf hT rfl rfl) fd_1_12
  have e45 := fI_bd (q := 64) hT (tf hT rfl rfl) fd_8_48
  have e46 := fI_bd (q := 4) hT (tf hT rfl rfl) fd_1_7
  have e47 := fI_bd (q := 39) hT (tf hT rfl rfl) fd_3_3
  have e48 := fI_bd (q := 64) hT (tf hT rfl rfl) fd_8_41
  have e49 := fI_bd (q := 54) hT (tf hT rfl rfl) fd_6_1
  have e50 := fI_bd (q := 64) hT (tf hT rfl rfl) fd_8_77
  have e51 := fI_bd (q := 60) hT (tf hT rfl rfl) fd_7_1
  have e52 := fI_bd (q := 64) hT (tf hT rfl rfl) fd_8_78
  exact hQ _ _ ⟨[], (List.append_nil τ).symm, rfl⟩ hT pre0 pre1 pre2 pre3 pre4 pre5 pre6 pre7 pre8 pre9 pre10 pre11 (by omega) (by omega) (by omega) (by omega) (by omega) (by omega) (by omega) (by omega) (by omega) (by omega)
set_option maxHeartbeats 0 in
theorem LC_42 {Ln : Nat} {xs : Nat → Int32} {τ : List Nat} {h : List mE} (hT : TH Tr τ h) (pre0 : I1 τ h) (pre1 : I2 τ h) (pre2 : I3 h) (pre3 : I4 h) (pre4 : I6 h) (pre5 : I8 h) (pre6 : I9 h) (pre7 : IA h) (pre8 : IB h) (pre9 : IC h) (pre10 : ID h) (pre11 : IE h) (pre12 : fI h 64 32≤fI h 64 15+fI h 64 33) (pre13 : fI h 6 3=fI h 64 2) (pre14 : fI h 4 0=fI h 64 1) (pre15 : fI h 4 5=fI h 64 7) (pre16 : fI h 4 10=fI h 64 45) (pre17 : fI h 4 12=fI h 64 48) (pre18 : fI h 4 7=fI h 64 15) (pre19 : fI h 39 3=fI h 64 41) (pre20 : fI h 54 1=fI h 64 77) (pre21 : fI h 60 1=fI h 64 78) (i : Int) (hi : 0 ≤ i ∧ i + 6 ≤ (Ln : Int) ∧ (Ln : Int) ≤ 3072) (d : Nat) (hd : 90 ≤ d) (Q : Option Value → List mE → Prop) (hQ : ∀ (τ' : List Nat) (h' : List mE), (∃ ts : List Nat, τ' = τ ++ ts ∧ gsT ts = true) → TH Tr τ' h' → I1 τ' h' → I2 τ' h' → I3 h' → I4 h' → I6 h' → I8 h' → I9 h' → IA h' → IB h' → IC h' → ID h' → IE h' → fI h' 64 32≤fI h' 64 15+fI h' 64 33 → fI h' 6 3=fI h' 64 2 → fI h' 4 0=fI h' 64 1 → fI h' 4 5=fI h' 64 7 → fI h' 4 10=fI h' 64 45 → fI h' 4 12=fI h' 64 48 → fI h' 4 7=fI h' 64 15 → fI h' 39 3=fI h' 64 41 → fI h' 54 1=fI h' 64 77 → fI h' 60 1=fI h' 64 78 → MR (mex Ln xs) d 292 1864 [some (.ref 0), some (.ref 4), some (.ref 64), some (vI i)] [] h' Q) : MR (mex Ln xs) d 292 1666 [some (.ref 0), some (.ref 4), some (.ref 64), some (vI i)] [] h Q := by
  have hF := Fr_rf τ WL h
  have hE := Ext_rf τ
  have e1 := fI_bd (q := 64) hT (tf hT rfl rfl) fd_8_32
  have e2 := fI_bd (q := 64) hT (tf hT rfl rfl) fd_8_15
  have e3 := fI_bd (q := 64) hT (tf hT rfl rfl) fd_8_33
  have e4 := fI_bd (q := 6) hT (tf hT rfl rfl) fd_2_3
  have e5 := fI_bd (q := 64) hT (tf hT rfl rfl) fd_8_2
  have e6 := fI_bd (q := 4) hT (tf hT rfl rfl) fd_1_0
  have e7 := fI_bd (q := 64) hT (tf hT rfl rfl) fd_8_1
  have e8 := fI_bd (q := 4) hT (tf hT rfl rfl) fd_1_5
  have e9 := fI_bd (q := 64) hT (tf hT rfl rfl) fd_8_7
  have e10 := fI_bd (q := 4) hT (tf hT rfl rfl) fd_1_10
  have e11 := fI_bd (q := 64) hT (tf hT rfl rfl) fd_8_45
  have e12 := fI_bd (q := 4) hT (tf hT rfl rfl) fd_1_12
  have e13 := fI_bd (q := 64) hT (tf hT rfl rfl) fd_8_48
  have e14 := fI_bd (q := 4) hT (tf hT rfl rfl) fd_1_7
  have e15 := fI_bd (q := 39) hT (tf hT rfl rfl) fd_3_3
  have e16 := fI_bd (q := 64) hT (tf hT rfl rfl) fd_8_41
  have e17 := fI_bd (q := 54) hT (tf hT rfl rfl) fd_6_1
  have e18 := fI_bd (q := 64) hT (tf hT rfl rfl) fd_8_77
  have e19 := fI_bd (q := 60) hT (tf hT rfl rfl) fd_7_1
  have e20 := fI_bd (q := 64) hT (tf hT rfl rfl) fd_8_78
  refine st_aload c292_1666 rfl ?_
  refine st_aload c292_1667 rfl ?_
  refine st_iload c292_1668 rfl ?_
  refine st_iconst c292_1669 ?_
  refine st_iadd c292_1670 ?_
  refine st_sld c292_1671 (by omega) (fun e21 e22 => ?_)
  refine st_aload c292_1672 rfl ?_
  refine st_iload c292_1673 rfl ?_
  refine st_iconst c292_1674 ?_
  refine st_iadd c292_1675 ?_
  refine st_sld c292_1676 (by omega) (fun e23 e24 => ?_)
  refine st_callt (as := [vI (sv xs (i + 1)), vI (sv xs (i + 2))]) c292_1677 cm_160 hT (tf hT rfl rfl) fd_1_0 rfl rfl rfl rfl (by omega) (K160 hT (sv xs (i + 1)) (by omega) (sv xs (i + 2)) (by omega) pre0 pre5 (d - 1) (by omega) _ (fun v h0 H => H)) (fun v1 h1 H => ?_)
  obtain ⟨z25, rfl, b26, rfl⟩ := H
  refine st_pop c292_1680 rfl ?_
  refine st_aload c292_1681 rfl ?_
  refine st_aload c292_1682 rfl ?_
  refine st_iload c292_1683 rfl ?_
  refine st_iconst c292_1684 ?_
  refine st_iadd c292_1685 ?_
  refine st_sld c292_1686 (by omega) (fun e27 e28 => ?_)
  refine st_aload c292_1687 rfl ?_
  refine st_iload c292_1688 rfl ?_
  refine st_iconst c292_1689 ?_
  refine st_iadd c292_1690 ?_
  refine st_sld c292_1691 (by omega) (fun e29 e30 => ?_)
  refine st_callt (as := [vI (sv xs (i + 1)), vI (sv xs (i + 2))]) c292_1692 cm_282 hT (tf hT rfl rfl) fd_8_0 rfl rfl rfl rfl (by omega) (K282 hT (sv xs (i + 1)) (by omega) (sv xs (i + 2)) (by omega) pre2 (d - 1) (by omega) _ (fun v h0 H => H)) (fun v1 h1 H => ?_)
  obtain ⟨z31, rfl, b32, rfl⟩ := H
  refine st_pop c292_1695 rfl ?_
  refine st_goto c292_1696 ?_
  have e33 := fI_bd (q := 64) hT (tf hT rfl rfl) fd_8_32
  have e34 := fI_bd (q := 64) hT (tf hT rfl rfl) fd_8_15
  have e35 := fI_bd (q := 64) hT (tf hT rfl rfl) fd_8_33
  have e36 := fI_bd (q := 6) hT (tf hT rfl rfl) fd_2_3
  have e37 := fI_bd (q := 64) hT (tf hT rfl rfl) fd_8_2
  have e38 := fI_bd (q := 4) hT (tf hT rfl rfl) fd_1_0
  have e39 := fI_bd (q := 64) hT (tf hT rfl rfl) fd_8_1
  have e40 := fI_bd (q := 4) hT (tf hT rfl rfl) fd_1_5
  have e41 := fI_bd (q := 64) hT (tf hT rfl rfl) fd_8_7
  have e42 := fI_bd (q := 4) hT (tf hT rfl rfl) fd_1_10
  have e43 := fI_bd (q := 64) hT (tf hT rfl rfl) fd_8_45
  have e44 := fI_bd (q := 4) hT (tf hT rfl rfl) fd_1_12
  have e45 := fI_bd (q := 64) hT (tf hT rfl rfl) fd_8_48
  have e46 := fI_bd (q := 4) hT (tf hT rfl rfl) fd_1_7
  have e47 := fI_bd (q := 39) hT (tf hT rfl rfl) fd_3_3
  have e48 := fI_bd (q := 64) hT (tf hT rfl rfl) fd_8_41
  have e49 := fI_bd (q := 54) hT (tf hT rfl rfl) fd_6_1
  have e50 := fI_bd (q := 64) hT (tf hT rfl rfl) fd_8_77
  have e51 := fI_bd (q := 60) hT (tf hT rfl rfl) fd_7_1
  have e52 := fI_bd (q := 64) hT (tf hT rfl rfl) fd_8_78
  exact hQ _ _ ⟨[], (List.append_nil τ).symm, rfl⟩ hT pre0 pre1 pre2 pre3 pre4 pre5 pre6 pre7 pre8 pre9 pre10 pre11 (by omega) (by omega) (by omega) (by omega) (by omega) (by omega) (by omega) (by omega) (by omega) (by omega)
set_option maxHeartbeats 0 in
theorem LC_43 {Ln : Nat} {xs : Nat → Int32} {τ : List Nat} {h : List mE} (hT : TH Tr τ h) (pre0 : I1 τ h) (pre1 : I2 τ h) (pre2 : I3 h) (pre3 : I4 h) (pre4 : I6 h) (pre5 : I8 h) (pre6 : I9 h) (pre7 : IA h) (pre8 : IB h) (pre9 : IC h) (pre10 : ID h) (pre11 : IE h) (pre12 : fI h 64 32≤fI h 64 15+fI h 64 33) (pre13 : fI h 6 3=fI h 64 2) (pre14 : fI h 4 0=fI h 64 1) (pre15 : fI h 4 5=fI h 64 7) (pre16 : fI h 4 10=fI h 64 45) (pre17 : fI h 4 12=fI h 64 48) (pre18 : fI h 4 7=fI h 64 15) (pre19 : fI h 39 3=fI h 64 41) (pre20 : fI h 54 1=fI h 64 77) (pre21 : fI h 60 1=fI h 64 78) (i : Int) (hi : 0 ≤ i ∧ i + 6 ≤ (Ln : Int) ∧ (Ln : Int) ≤ 3072) (d : Nat) (hd : 90 ≤ d) (Q : Option Value → List mE → Prop) (hQ : ∀ (τ' : List Nat) (h' : List mE), (∃ ts : List Nat, τ' = τ ++ ts ∧ gsT ts = true) → TH Tr τ' h' → I1 τ' h' → I2 τ' h' → I3 h' → I4 h' → I6 h' → I8 h' → I9 h' → IA h' → IB h' → IC h' → ID h' → IE h' → fI h' 64 32≤fI h' 64 15+fI h' 64 33 → fI h' 6 3=fI h' 64 2 → fI h' 4 0=fI h' 64 1 → fI h' 4 5=fI h' 64 7 → fI h' 4 10=fI h' 64 45 → fI h' 4 12=fI h' 64 48 → fI h' 4 7=fI h' 64 15 → fI h' 39 3=fI h' 64 41 → fI h' 54 1=fI h' 64 77 → fI h' 60 1=fI h' 64 78 → MR (mex Ln xs) d 292 1864 [some (.ref 0), some (.ref 4), some (.ref 64), some (vI i)] [] h' Q) : MR (mex Ln xs) d 292 1699 [some (.ref 0), some (.ref 4), some (.ref 64), some (vI i)] [] h Q := by
  have hF := Fr_rf τ WL h
  have hE := Ext_rf τ
  have e1 := fI_bd (q := 64) hT (tf hT rfl rfl) fd_8_32
  have e2 := fI_bd (q := 64) hT (tf hT rfl rfl) fd_8_15
  have e3 := fI_bd (q := 64) hT (tf hT rfl rfl) fd_8_33
  have e4 := fI_bd (q := 6) hT (tf hT rfl rfl) fd_2_3
  have e5 := fI_bd (q := 64) hT (tf hT rfl rfl) fd_8_2
  have e6 := fI_bd (q := 4) hT (tf hT rfl rfl) fd_1_0
  have e7 := fI_bd (q := 64) hT (tf hT rfl rfl) fd_8_1
  have e8 := fI_bd (q := 4) hT (tf hT rfl rfl) fd_1_5
  have e9 := fI_bd (q := 64) hT (tf hT rfl rfl) fd_8_7
  have e10 := fI_bd (q := 4) hT (tf hT rfl rfl) fd_1_10
  have e11 := fI_bd (q := 64) hT (tf hT rfl rfl) fd_8_45
  have e12 := fI_bd (q := 4) hT (tf hT rfl rfl) fd_1_12
  have e13 := fI_bd (q := 64) hT (tf hT rfl rfl) fd_8_48
  have e14 := fI_bd (q := 4) hT (tf hT rfl rfl) fd_1_7
  have e15 := fI_bd (q := 39) hT (tf hT rfl rfl) fd_3_3
  have e16 := fI_bd (q := 64) hT (tf hT rfl rfl) fd_8_41
  have e17 := fI_bd (q := 54) hT (tf hT rfl rfl) fd_6_1
  have e18 := fI_bd (q := 64) hT (tf hT rfl rfl) fd_8_77
  have e19 := fI_bd (q := 60) hT (tf hT rfl rfl) fd_7_1
  have e20 := fI_bd (q := 64) hT (tf hT rfl rfl) fd_8_78
  refine st_aload c292_1699 rfl ?_
  refine st_aload c292_1700 rfl ?_
  refine st_iload c292_1701 rfl ?_
  refine st_iconst c292_1702 ?_
  refine st_iadd c292_1703 ?_
  refine st_sld c292_1704 (by omega) (fun e21 e22 => ?_)
  refine st_aload c292_1705 rfl ?_
  refine st_iload c292_1706 rfl ?_
  refine st_iconst c292_1707 ?_
  refine st_iadd c292_1708 ?_
  refine st_sld c292_1709 (by omega) (fun e23 e24 => ?_)
  refine st_aload c292_1710 rfl ?_
  refine st_iload c292_1711 rfl ?_
  refine st_iconst c292_1712 ?_
  refine st_iadd c292_1713 ?_
  refine st_sld c292_1714 (by omega) (fun e25 e26 => ?_)
  refine st_callt (as := [vI (sv xs (i + 1)), vI (sv xs (i + 2)), vI (sv xs (i + 3))]) c292_1715 cm_161 hT (tf hT rfl rfl) fd_1_0 rfl rfl rfl rfl (by omega) (K161 hT (sv xs (i + 1)) (by omega) (sv xs (i + 2)) (by omega) (sv xs (i + 3)) (by omega) pre5 (d - 1) (by omega) _ (fun v h0 H => H)) (fun v1 h1 H => ?_)
  obtain ⟨z28, rfl, b29, pf27, rfl⟩ := H
  refine st_pop c292_1718 rfl ?_
  refine st_aload c292_1719 rfl ?_
  refine st_aload c292_1720 rfl ?_
  refine st_iload c292_1721 rfl ?_
  refine st_iconst c292_1722 ?_
  refine st_iadd c292_1723 ?_
  refine st_sld c292_1724 (by omega) (fun e30 e31 => ?_)
  refine st_aload c292_1725 rfl ?_
  refine st_iload c292_1726 rfl ?_
  refine st_iconst c292_1727 ?_
  refine st_iadd c292_1728 ?_
  refine st_sld c292_1729 (by omega) (fun e32 e33 => ?_)
  refine st_aload c292_1730 rfl ?_
  refine st_iload c292_1731 rfl ?_
  refine st_iconst c292_1732 ?_
  refine st_iadd c292_1733 ?_
  refine st_sld c292_1734 (by omega) (fun e34 e35 => ?_)
  refine st_callt (as := [vI (sv xs (i + 1)), vI (sv xs (i + 2)), vI (sv xs (i + 3))]) c292_1735 cm_283 hT (tf hT rfl rfl) fd_8_0 rfl rfl rfl rfl (by omega) (K283 hT (sv xs (i + 1)) (by omega) (sv xs (i + 2)) (by omega) (sv xs (i + 3)) (by omega) (d - 1) (by omega) _ (fun v h0 H => H)) (fun v1 h1 H => ?_)
  obtain ⟨z37, rfl, b38, pf36, rfl⟩ := H
  refine st_pop c292_1738 rfl ?_
  refine st_goto c292_1739 ?_
  have e41 := fI_bd (q := 64) hT (tf hT rfl rfl) fd_8_32
  have e42 := fI_bd (q := 64) hT (tf hT rfl rfl) fd_8_15
  have e43 := fI_bd (q := 64) hT (tf hT rfl rfl) fd_8_33
  have e44 := fI_bd (q := 6) hT (tf hT rfl rfl) fd_2_3
  have e45 := fI_bd (q := 64) hT (tf hT rfl rfl) fd_8_2
  have e46 := fI_bd (q := 4) hT (tf hT rfl rfl) fd_1_0
  have e47 := fI_bd (q := 64) hT (tf hT rfl rfl) fd_8_1
  have e48 := fI_bd (q := 4) hT (tf hT rfl rfl) fd_1_5
  have e49 := fI_bd (q := 64) hT (tf hT rfl rfl) fd_8_7
  have e50 := fI_bd (q := 4) hT (tf hT rfl rfl) fd_1_10
  have e51 := fI_bd (q := 64) hT (tf hT rfl rfl) fd_8_45
  have e52 := fI_bd (q := 4) hT (tf hT rfl rfl) fd_1_12
  have e53 := fI_bd (q := 64) hT (tf hT rfl rfl) fd_8_48
  have e54 := fI_bd (q := 4) hT (tf hT rfl rfl) fd_1_7
  have e55 := fI_bd (q := 39) hT (tf hT rfl rfl) fd_3_3
  have e56 := fI_bd (q := 64) hT (tf hT rfl rfl) fd_8_41
  have e57 := fI_bd (q := 54) hT (tf hT rfl rfl) fd_6_1
  have e58 := fI_bd (q := 64) hT (tf hT rfl rfl) fd_8_77
  have e59 := fI_bd (q := 60) hT (tf hT rfl rfl) fd_7_1
  have e60 := fI_bd (q := 64) hT (tf hT rfl rfl) fd_8_78
  exact hQ _ _ ⟨[], (List.append_nil τ).symm, rfl⟩ hT pre0 pre1 pre2 pre3 pre4 pre5 pre6 pre7 pre8 pre9 pre10 pre11 (by omega) (by omega) (by omega) (by omega) (by omega) (by omega) (by omega) (by omega) (by omega) (by omega)
set_option maxHeartbeats 0 in
theorem LC_44 {Ln : Nat} {xs : Nat → Int32} {τ : List Nat} {h : List mE} (hT : TH Tr τ h) (pre0 : I1 τ h) (pre1 : I2 τ h) (pre2 : I3 h) (pre3 : I4 h) (pre4 : I6 h) (pre5 : I8 h) (pre6 : I9 h) (pre7 : IA h) (pre8 : IB h) (pre9 : IC h) (pre10 : ID h) (pre11 : IE h) (pre12 : fI h 64 32≤fI h 64 15+fI h 64 33) (pre13 : fI h 6 3=fI h 64 2) (pre14 : fI h 4 0=fI h 64 1) (pre15 : fI h 4 5=fI h 64 7) (pre16 : fI h 4 10=fI h 64 45) (pre17 : fI h 4 12=fI h 64 48) (pre18 : fI h 4 7=fI h 64 15) (pre19 : fI h 39 3=fI h 64 41) (pre20 : fI h 54 1=fI h 64 77) (pre21 : fI h 60 1=fI h 64 78) (i : Int) (hi : 0 ≤ i ∧ i + 6 ≤ (Ln : Int) ∧ (Ln : Int) ≤ 3072) (d : Nat) (hd : 90 ≤ d) (Q : Option Value → List mE → Prop) (hQ : ∀ (τ' : List Nat) (h' : List mE), (∃ ts : List Nat, τ' = τ ++ ts ∧ gsT ts = true) → TH Tr τ' h' → I1 τ' h' → I2 τ' h' → I3 h' → I4 h' → I6 h' → I8 h' → I9 h' → IA h' → IB h' → IC h' → ID h' → IE h' → fI h' 64 32≤fI h' 64 15+fI h' 64 33 → fI h' 6 3=fI h' 64 2 → fI h' 4 0=fI h' 64 1 → fI h' 4 5=fI h' 64 7 → fI h' 4 10=fI h' 64 45 → fI h' 4 12=fI h' 64 48 → fI h' 4 7=fI h' 64 15 → fI h' 39 3=fI h' 64 41 → fI h' 54 1=fI h' 64 77 → fI h' 60 1=fI h' 64 78 → MR (mex Ln xs) d 292 1864 [some (.ref 0), some (.ref 4), some (.ref 64), some (vI i)] [] h' Q) : MR (mex Ln xs) d 292 1742 [some (.ref 0), some (.ref 4), some (.ref 64), some (vI i)] [] h Q := by
  have hF := Fr_rf τ WL h
  have hE := Ext_rf τ
  have e1 := fI_bd (q := 64) hT (tf hT rfl rfl) fd_8_32
  have e2 := fI_bd (q := 64) hT (tf hT rfl rfl) fd_8_15
  have e3 := fI_bd (q := 64) hT (tf hT rfl rfl) fd_8_33
  have e4 := fI_bd (q := 6) hT (tf hT rfl rfl) fd_2_3
  have e5 := fI_bd (q := 64) hT (tf hT rfl rfl) fd_8_2
  have e6 := fI_bd (q := 4) hT (tf hT rfl rfl) fd_1_0
  have e7 := fI_bd (q := 64) hT (tf hT rfl rfl) fd_8_1
  have e8 := fI_bd (q := 4) hT (tf hT rfl rfl) fd_1_5
  have e9 := fI_bd (q := 64) hT (tf hT rfl rfl) fd_8_7
  have e10 := fI_bd (q := 4) hT (tf hT rfl rfl) fd_1_10
  have e11 := fI_bd (q := 64) hT (tf hT rfl rfl) fd_8_45
  have e12 := fI_bd (q := 4) hT (tf hT rfl rfl) fd_1_12
  have e13 := fI_bd (q := 64) hT (tf hT rfl rfl) fd_8_48
  have e14 := fI_bd (q := 4) hT (tf hT rfl rfl) fd_1_7
  have e15 := fI_bd (q := 39) hT (tf hT rfl rfl) fd_3_3
  have e16 := fI_bd (q := 64) hT (tf hT rfl rfl) fd_8_41
  have e17 := fI_bd (q := 54) hT (tf hT rfl rfl) fd_6_1
  have e18 := fI_bd (q := 64) hT (tf hT rfl rfl) fd_8_77
  have e19 := fI_bd (q := 60) hT (tf hT rfl rfl) fd_7_1
  have e20 := fI_bd (q := 64) hT (tf hT rfl rfl) fd_8_78
  refine st_aload c292_1742 rfl ?_
  refine st_aload c292_1743 rfl ?_
  refine st_iload c292_1744 rfl ?_
  refine st_iconst c292_1745 ?_
  refine st_iadd c292_1746 ?_
  refine st_sld c292_1747 (by omega) (fun e21 e22 => ?_)
  refine st_aload c292_1748 rfl ?_
  refine st_iload c292_1749 rfl ?_
  refine st_iconst c292_1750 ?_
  refine st_iadd c292_1751 ?_
  refine st_sld c292_1752 (by omega) (fun e23 e24 => ?_)
  refine st_callt (as := [vI (sv xs (i + 1)), vI (sv xs (i + 2))]) c292_1753 cm_162 hT (tf hT rfl rfl) fd_1_0 rfl rfl rfl rfl (by omega) (K162 hT (sv xs (i + 1)) (by omega) (sv xs (i + 2)) (by omega) pre5 (d - 1) (by omega) _ (fun v h0 H => H)) (fun v1 h1 H => ?_)
  obtain ⟨z26, rfl, b27, pf25, rfl⟩ := H
  refine st_aload c292_1756 rfl ?_
  refine st_aload c292_1757 rfl ?_
  refine st_iload c292_1758 rfl ?_
  refine st_iconst c292_1759 ?_
  refine st_iadd c292_1760 ?_
  refine st_sld c292_1761 (by omega) (fun e28 e29 => ?_)
  refine st_aload c292_1762 rfl ?_
  refine st_iload c292_1763 rfl ?_
  refine st_iconst c292_1764 ?_
  refine st_iadd c292_1765 ?_
  refine st_sld c292_1766 (by omega) (fun e30 e31 => ?_)
  refine st_callt (as := [vI (sv xs (i + 1)), vI (sv xs (i + 2))]) c292_1767 cm_284 hT (tf hT rfl rfl) fd_8_0 rfl rfl rfl rfl (by omega) (K284 hT (sv xs (i + 1)) (by omega) (sv xs (i + 2)) (by omega) (d - 1) (by omega) _ (fun v h0 H => H)) (fun v1 h1 H => ?_)
  obtain ⟨z33, rfl, b34, pf32, rfl⟩ := H
  have zq36 := S_rank pre6 hT (by omega) (by omega) pf25 pf32
  refine st_icmp_eq c292_1770 (by omega) (by omega) (fun k37 => ?_) (fun k38 => False.elim (by omega))
  have e39 := fI_bd (q := 64) hT (tf hT rfl rfl) fd_8_32
  have e40 := fI_bd (q := 64) hT (tf hT rfl rfl) fd_8_15
  have e41 := fI_bd (q := 64) hT (tf hT rfl rfl) fd_8_33
  have e42 := fI_bd (q := 6) hT (tf hT rfl rfl) fd_2_3
  have e43 := fI_bd (q := 64) hT (tf hT rfl rfl) fd_8_2
  have e44 := fI_bd (q := 4) hT (tf hT rfl rfl) fd_1_0
  have e45 := fI_bd (q := 64) hT (tf hT rfl rfl) fd_8_1
  have e46 := fI_bd (q := 4) hT (tf hT rfl rfl) fd_1_5
  have e47 := fI_bd (q := 64) hT (tf hT rfl rfl) fd_8_7
  have e48 := fI_bd (q := 4) hT (tf hT rfl rfl) fd_1_10
  have e49 := fI_bd (q := 64) hT (tf hT rfl rfl) fd_8_45
  have e50 := fI_bd (q := 4) hT (tf hT rfl rfl) fd_1_12
  have e51 := fI_bd (q := 64) hT (tf hT rfl rfl) fd_8_48
  have e52 := fI_bd (q := 4) hT (tf hT rfl rfl) fd_1_7
  have e53 := fI_bd (q := 39) hT (tf hT rfl rfl) fd_3_3
  have e54 := fI_bd (q := 64) hT (tf hT rfl rfl) fd_8_41
  have e55 := fI_bd (q := 54) hT (tf hT rfl rfl) fd_6_1
  have e56 := fI_bd (q := 64) hT (tf hT rfl rfl) fd_8_77
  have e57 := fI_bd (q := 60) hT (tf hT rfl rfl) fd_7_1
  have e58 := fI_bd (q := 64) hT (tf hT rfl rfl) fd_8_78
  exact hQ _ _ ⟨[], (List.append_nil τ).symm, rfl⟩ hT pre0 pre1 pre2 pre3 pre4 pre5 pre6 pre7 pre8 pre9 pre10 pre11 (by omega) (by omega) (by omega) (by omega) (by omega) (by omega) (by omega) (by omega) (by omega) (by omega)
set_option maxHeartbeats 0 in
theorem LC_45 {Ln : Nat} {xs : Nat → Int32} {τ : List Nat} {h : List mE} (hT : TH Tr τ h) (pre0 : I1 τ h) (pre1 : I2 τ h) (pre2 : I3 h) (pre3 : I4 h) (pre4 : I6 h) (pre5 : I8 h) (pre6 : I9 h) (pre7 : IA h) (pre8 : IB h) (pre9 : IC h) (pre10 : ID h) (pre11 : IE h) (pre12 : fI h 64 32≤fI h 64 15+fI h 64 33) (pre13 : fI h 6 3=fI h 64 2) (pre14 : fI h 4 0=fI h 64 1) (pre15 : fI h 4 5=fI h 64 7) (pre16 : fI h 4 10=fI h 64 45) (pre17 : fI h 4 12=fI h 64 48) (pre18 : fI h 4 7=fI h 64 15) (pre19 : fI h 39 3=fI h 64 41) (pre20 : fI h 54 1=fI h 64 77) (pre21 : fI h 60 1=fI h 64 78) (i : Int) (hi : 0 ≤ i ∧ i + 6 ≤ (Ln : Int) ∧ (Ln : Int) ≤ 3072) (d : Nat) (hd : 90 ≤ d) (Q : Option Value → List mE → Prop) (hQ : ∀ (τ' : List Nat) (h' : List mE), (∃ ts : List Nat, τ' = τ ++ ts ∧ gsT ts = true) → TH Tr τ' h' → I1 τ' h' → I2 τ' h' → I3 h' → I4 h' → I6 h' → I8 h' → I9 h' → IA h' → IB h' → IC h' → ID h' → IE h' → fI h' 64 32≤fI h' 64 15+fI h' 64 33 → fI h' 6 3=fI h' 64 2 → fI h' 4 0=fI h' 64 1 → fI h' 4 5=fI h' 64 7 → fI h' 4 10=fI h' 64 45 → fI h' 4 12=fI h' 64 48 → fI h' 4 7=fI h' 64 15 → fI h' 39 3=fI h' 64 41 → fI h' 54 1=fI h' 64 77 → fI h' 60 1=fI h' 64 78 → MR (mex Ln xs) d 292 1864 [some (.ref 0), some (.ref 4), some (.ref 64), some (vI i)] [] h' Q) : MR (mex Ln xs) d 292 1775 [some (.ref 0), some (.ref 4), some (.ref 64), some (vI i)] [] h Q := by
  have hF := Fr_rf τ WL h
  have hE := Ext_rf τ
  have e1 := fI_bd (q := 64) hT (tf hT rfl rfl) fd_8_32
  have e2 := fI_bd (q := 64) hT (tf hT rfl rfl) fd_8_15
  have e3 := fI_bd (q := 64) hT (tf hT rfl rfl) fd_8_33
  have e4 := fI_bd (q := 6) hT (tf hT rfl rfl) fd_2_3
  have e5 := fI_bd (q := 64) hT (tf hT rfl rfl) fd_8_2
  have e6 := fI_bd (q := 4) hT (tf hT rfl rfl) fd_1_0
  have e7 := fI_bd (q := 64) hT (tf hT rfl rfl) fd_8_1
  have e8 := fI_bd (q := 4) hT (tf hT rfl rfl) fd_1_5
  have e9 := fI_bd (q := 64) hT (tf hT rfl rfl) fd_8_7
  have e10 := fI_bd (q := 4) hT (tf hT rfl rfl) fd_1_10
  have e11 := fI_bd (q := 64) hT (tf hT rfl rfl) fd_8_45
  have e12 := fI_bd (q := 4) hT (tf hT rfl rfl) fd_1_12
  have e13 := fI_bd (q := 64) hT (tf hT rfl rfl) fd_8_48
  have e14 := fI_bd (q := 4) hT (tf hT rfl rfl) fd_1_7
  have e15 := fI_bd (q := 39) hT (tf hT rfl rfl) fd_3_3
  have e16 := fI_bd (q := 64) hT (tf hT rfl rfl) fd_8_41
  have e17 := fI_bd (q := 54) hT (tf hT rfl rfl) fd_6_1
  have e18 := fI_bd (q := 64) hT (tf hT rfl rfl) fd_8_77
  have e19 := fI_bd (q := 60) hT (tf hT rfl rfl) fd_7_1
  have e20 := fI_bd (q := 64) hT (tf hT rfl rfl) fd_8_78
  refine st_aload c292_1775 rfl ?_
  refine st_aload c292_1776 rfl ?_
  refine st_iload c292_1777 rfl ?_
  refine st_iconst c292_1778 ?_
  refine st_iadd c292_1779 ?_
  refine st_sld c292_1780 (by omega) (fun e21 e22 => ?_)
  refine st_aload c292_1781 rfl ?_
  refine st_iload c292_1782 rfl ?_
  refine st_iconst c292_1783 ?_
  refine st_iadd c292_1784 ?_
  refine st_sld c292_1785 (by omega) (fun e23 e24 => ?_)
  refine st_aload c292_1786 rfl ?_
  refine st_iload c292_1787 rfl ?_
  refine st_iconst c292_1788 ?_
  refine st_iadd c292_1789 ?_
  refine st_sld c292_1790 (by omega) (fun e25 e26 => ?_)
  refine st_callt (as := [vI (sv xs (i + 1)), vI (sv xs (i + 2)), vI (sv xs (i + 3))]) c292_1791 cm_163 hT (tf hT rfl rfl) fd_1_0 rfl rfl rfl rfl (by omega) (K163 hT (sv xs (i + 1)) (by omega) (sv xs (i + 2)) (by omega) (sv xs (i + 3)) (by omega) pre5 (d - 1) (by omega) _ (fun v h0 H => H)) (fun v1 h1 H => ?_)
  obtain ⟨z27, rfl, b28, rfl⟩ := H
  refine st_pop c292_1794 rfl ?_
  refine st_aload c292_1795 rfl ?_
  refine st_aload c292_1796 rfl ?_
  refine st_iload c292_1797 rfl ?_
  refine st_iconst c292_1798 ?_
  refine st_iadd c292_1799 ?_
  refine st_sld c292_1800 (by omega) (fun e29 e30 => ?_)
  refine st_aload c292_1801 rfl ?_
  refine st_iload c292_1802 rfl ?_
  refine st_iconst c292_1803 ?_
  refine st_iadd c292_1804 ?_
  refine st_sld c292_1805 (by omega) (fun e31 e32 => ?_)
  refine st_aload c292_1806 rfl ?_
  refine st_iload c292_1807 rfl ?_
  refine st_iconst c292_1808 ?_
  refine st_iadd c292_1809 ?_
  refine st_sld c292_1810 (by omega) (fun e33 e34 => ?_)
  refine st_callt (as := [vI (sv xs (i + 1)), vI (sv xs (i + 2)), vI (sv xs (i + 3))]) c292_1811 cm_287 hT (tf hT rfl rfl) fd_8_0 rfl rfl rfl rfl (by omega) (K287 hT (sv xs (i + 1)) (by omega) (sv xs (i + 2)) (by omega) (sv xs (i + 3)) (by omega) (d - 1) (by omega) _ (fun v h0 H => H)) (fun v1 h1 H => ?_)
  obtain ⟨z35, rfl, b36, rfl⟩ := H
  refine st_pop c292_1814 rfl ?_
  refine st_goto c292_1815 ?_
  have e37 := fI_bd (q := 64) hT (tf hT rfl rfl) fd_8_32
  have e38 := fI_bd (q := 64) hT (tf hT rfl rfl) fd_8_15
  have e39 := fI_bd (q := 64) hT (tf hT rfl rfl) fd_8_33
  have e40 := fI_bd (q := 6) hT (tf hT rfl rfl) fd_2_3
  have e41 := fI_bd (q := 64) hT (tf hT rfl rfl) fd_8_2
  have e42 := fI_bd (q := 4) hT (tf hT rfl rfl) fd_1_0
  have e43 := fI_bd (q := 64) hT (tf hT rfl rfl) fd_8_1
  have e44 := fI_bd (q := 4) hT (tf hT rfl rfl) fd_1_5
  have e45 := fI_bd (q := 64) hT (tf hT rfl rfl) fd_8_7
  have e46 := fI_bd (q := 4) hT (tf hT rfl rfl) fd_1_10
  have e47 := fI_bd (q := 64) hT (tf hT rfl rfl) fd_8_45
  have e48 := fI_bd (q := 4) hT (tf hT rfl rfl) fd_1_12
  have e49 := fI_bd (q := 64) hT (tf hT rfl rfl) fd_8_48
  have e50 := fI_bd (q := 4) hT (tf hT rfl rfl) fd_1_7
  have e51 := fI_bd (q := 39) hT (tf hT rfl rfl) fd_3_3
  have e52 := fI_bd (q := 64) hT (tf hT rfl rfl) fd_8_41
  have e53 := fI_bd (q := 54) hT (tf hT rfl rfl) fd_6_1
  have e54 := fI_bd (q := 64) hT (tf hT rfl rfl) fd_8_77
  have e55 := fI_bd (q := 60) hT (tf hT rfl rfl) fd_7_1
  have e56 := fI_bd (q := 64) hT (tf hT rfl rfl) fd_8_78
  exact hQ _ _ ⟨[], (List.append_nil τ).symm, rfl⟩ hT pre0 pre1 pre2 pre3 pre4 pre5 pre6 pre7 pre8 pre9 pre10 pre11 (by omega) (by omega) (by omega) (by omega) (by omega) (by omega) (by omega) (by omega) (by omega) (by omega)
set_option maxHeartbeats 0 in
theorem LC_46 {Ln : Nat} {xs : Nat → Int32} {τ : List Nat} {h : List mE} (hT : TH Tr τ h) (pre0 : I1 τ h) (pre1 : I2 τ h) (pre2 : I3 h) (pre3 : I4 h) (pre4 : I6 h) (pre5 : I8 h) (pre6 : I9 h) (pre7 : IA h) (pre8 : IB h) (pre9 : IC h) (pre10 : ID h) (pre11 : IE h) (pre12 : fI h 64 32≤fI h 64 15+fI h 64 33) (pre13 : fI h 6 3=fI h 64 2) (pre14 : fI h 4 0=fI h 64 1) (pre15 : fI h 4 5=fI h 64 7) (pre16 : fI h 4 10=fI h 64 45) (pre17 : fI h 4 12=fI h 64 48) (pre18 : fI h 4 7=fI h 64 15) (pre19 : fI h 39 3=fI h 64 41) (pre20 : fI h 54 1=fI h 64 77) (pre21 : fI h 60 1=fI h 64 78) (i : Int) (hi : 0 ≤ i ∧ i + 6 ≤ (Ln : Int) ∧ (Ln : Int) ≤ 3072) (d : Nat) (hd : 90 ≤ d) (Q : Option Value → List mE → Prop) (hQ : ∀ (τ' : List Nat) (h' : List mE), (∃ ts : List Nat, τ' = τ ++ ts ∧ gsT ts = true) → TH Tr τ' h' → I1 τ' h' → I2 τ' h' → I3 h' → I4 h' → I6 h' → I8 h' → I9 h' → IA h' → IB h' → IC h' → ID h' → IE h' → fI h' 64 32≤fI h' 64 15+fI h' 64 33 → fI h' 6 3=fI h' 64 2 → fI h' 4 0=fI h' 64 1 → fI h' 4 5=fI h' 64 7 → fI h' 4 10=fI h' 64 45 → fI h' 4 12=fI h' 64 48 → fI h' 4 7=fI h' 64 15 → fI h' 39 3=fI h' 64 41 → fI h' 54 1=fI h' 64 77 → fI h' 60 1=fI h' 64 78 → MR (mex Ln xs) d 292 1864 [some (.ref 0), some (.ref 4), some (.ref 64), some (vI i)] [] h' Q) : MR (mex Ln xs) d 292 1818 [some (.ref 0), some (.ref 4), some (.ref 64), some (vI i)] [] h Q := by
  have hF := Fr_rf τ WL h
  have hE := Ext_rf τ
  have e1 := fI_bd (q := 64) hT (tf hT rfl rfl) fd_8_32
  have e2 := fI_bd (q := 64) hT (tf hT rfl rfl) fd_8_15
  have e3 := fI_bd (q := 64) hT (tf hT rfl rfl) fd_8_33
  have e4 := fI_bd (q := 6) hT (tf hT rfl rfl) fd_2_3
  have e5 := fI_bd (q := 64) hT (tf hT rfl rfl) fd_8_2
  have e6 := fI_bd (q := 4) hT (tf hT rfl rfl) fd_1_0
  have e7 := fI_bd (q := 64) hT (tf hT rfl rfl) fd_8_1
  have e8 := fI_bd (q := 4) hT (tf hT rfl rfl) fd_1_5
  have e9 := fI_bd (q := 64) hT (tf hT rfl rfl) fd_8_7
  have e10 := fI_bd (q := 4) hT (tf hT rfl rfl) fd_1_10
  have e11 := fI_bd (q := 64) hT (tf hT rfl rfl) fd_8_45
  have e12 := fI_bd (q := 4) hT (tf hT rfl rfl) fd_1_12
  have e13 := fI_bd (q := 64) hT (tf hT rfl rfl) fd_8_48
  have e14 := fI_bd (q := 4) hT (tf hT rfl rfl) fd_1_7
  have e15 := fI_bd (q := 39) hT (tf hT rfl rfl) fd_3_3
  have e16 := fI_bd (q := 64) hT (tf hT rfl rfl) fd_8_41
  have e17 := fI_bd (q := 54) hT (tf hT rfl rfl) fd_6_1
  have e18 := fI_bd (q := 64) hT (tf hT rfl rfl) fd_8_77
  have e19 := fI_bd (q := 60) hT (tf hT rfl rfl) fd_7_1
  have e20 := fI_bd (q := 64) hT (tf hT rfl rfl) fd_8_78
  refine st_aload c292_1818 rfl ?_
  refine st_aload c292_1819 rfl ?_
  refine st_iload c292_1820 rfl ?_
  refine st_iconst c292_1821 ?_
  refine st_iadd c292_1822 ?_
  refine st_sld c292_1823 (by omega) (fun e21 e22 => ?_)
  refine st_callt (as := [vI (sv xs (i + 1))]) c292_1824 cm_164 hT (tf hT rfl rfl) fd_1_0 rfl rfl rfl rfl (by omega) (K164 hT (sv xs (i + 1)) (by omega) pre5 (d - 1) (by omega) _ (fun v h0 H => H)) (fun v1 h1 H => ?_)
  obtain ⟨z23, rfl, b24, rfl⟩ := H
  refine st_pop c292_1827 rfl ?_
  refine st_aload c292_1828 rfl ?_
  refine st_aload c292_1829 rfl ?_
  refine st_iload c292_1830 rfl ?_
  refine st_iconst c292_1831 ?_
  refine st_iadd c292_1832 ?_
  refine st_sld c292_1833 (by omega) (fun e25 e26 => ?_)
  refine st_callt (as := [vI (sv xs (i + 1))]) c292_1834 cm_288 hT (tf hT rfl rfl) fd_8_0 rfl rfl rfl rfl (by omega) (K288 hT (sv xs (i + 1)) (by omega) (d - 1) (by omega) _ (fun v h0 H => H)) (fun v1 h1 H => ?_)
  obtain ⟨z27, rfl, b28, rfl⟩ := H
  refine st_pop c292_1837 rfl ?_
  refine st_goto c292_1838 ?_
  have e29 := fI_bd (q := 64) hT (tf hT rfl rfl) fd_8_32
  have e30 := fI_bd (q := 64) hT (tf hT rfl rfl) fd_8_15
  have e31 := fI_bd (q := 64) hT (tf hT rfl rfl) fd_8_33
  have e32 := fI_bd (q := 6) hT (tf hT rfl rfl) fd_2_3
  have e33 := fI_bd (q := 64) hT (tf hT rfl rfl) fd_8_2
  have e34 := fI_bd (q := 4) hT (tf hT rfl rfl) fd_1_0
  have e35 := fI_bd (q := 64) hT (tf hT rfl rfl) fd_8_1
  have e36 := fI_bd (q := 4) hT (tf hT rfl rfl) fd_1_5
  have e37 := fI_bd (q := 64) hT (tf hT rfl rfl) fd_8_7
  have e38 := fI_bd (q := 4) hT (tf hT rfl rfl) fd_1_10
  have e39 := fI_bd (q := 64) hT (tf hT rfl rfl) fd_8_45
  have e40 := fI_bd (q := 4) hT (tf hT rfl rfl) fd_1_12
  have e41 := fI_bd (q := 64) hT (tf hT rfl rfl) fd_8_48
  have e42 := fI_bd (q := 4) hT (tf hT rfl rfl) fd_1_7
  have e43 := fI_bd (q := 39) hT (tf hT rfl rfl) fd_3_3
  have e44 := fI_bd (q := 64) hT (tf hT rfl rfl) fd_8_41
  have e45 := fI_bd (q := 54) hT (tf hT rfl rfl) fd_6_1
  have e46 := fI_bd (q := 64) hT (tf hT rfl rfl) fd_8_77
  have e47 := fI_bd (q := 60) hT (tf hT rfl rfl) fd_7_1
  have e48 := fI_bd (q := 64) hT (tf hT rfl rfl) fd_8_78
  exact hQ _ _ ⟨[], (List.append_nil τ).symm, rfl⟩ hT pre0 pre1 pre2 pre3 pre4 pre5 pre6 pre7 pre8 pre9 pre10 pre11 (by omega) (by omega) (by omega) (by omega) (by omega) (by omega) (by omega) (by omega) (by omega) (by omega)
set_option maxHeartbeats 0 in
theorem LC_47 {Ln : Nat} {xs : Nat → Int32} {τ : List Nat} {h : List mE} (hT : TH Tr τ h) (pre0 : I1 τ h) (pre1 : I2 τ h) (pre2 : I3 h) (pre3 : I4 h) (pre4 : I6 h) (pre5 : I8 h) (pre6 : I9 h) (pre7 : IA h) (pre8 : IB h) (pre9 : IC h) (pre10 : ID h) (pre11 : IE h) (pre12 : fI h 64 32≤fI h 64 15+fI h 64 33) (pre13 : fI h 6 3=fI h 64 2) (pre14 : fI h 4 0=fI h 64 1) (pre15 : fI h 4 5=fI h 64 7) (pre16 : fI h 4 10=fI h 64 45) (pre17 : fI h 4 12=fI h 64 48) (pre18 : fI h 4 7=fI h 64 15) (pre19 : fI h 39 3=fI h 64 41) (pre20 : fI h 54 1=fI h 64 77) (pre21 : fI h 60 1=fI h 64 78) (i : Int) (hi : 0 ≤ i ∧ i + 6 ≤ (Ln : Int) ∧ (Ln : Int) ≤ 3072) (d : Nat) (hd : 90 ≤ d) (Q : Option Value → List mE → Prop) (hQ : ∀ (τ' : List Nat) (h' : List mE), (∃ ts : List Nat, τ' = τ ++ ts ∧ gsT ts = true) → TH Tr τ' h' → I1 τ' h' → I2 τ' h' → I3 h' → I4 h' → I6 h' → I8 h' → I9 h' → IA h' → IB h' → IC h' → ID h' → IE h' → fI h' 64 32≤fI h' 64 15+fI h' 64 33 → fI h' 6 3=fI h' 64 2 → fI h' 4 0=fI h' 64 1 → fI h' 4 5=fI h' 64 7 → fI h' 4 10=fI h' 64 45 → fI h' 4 12=fI h' 64 48 → fI h' 4 7=fI h' 64 15 → fI h' 39 3=fI h' 64 41 → fI h' 54 1=fI h' 64 77 → fI h' 60 1=fI h' 64 78 → MR (mex Ln xs) d 292 1864 [some (.ref 0), some (.ref 4), some (.ref 64), some (vI i)] [] h' Q) : MR (mex Ln xs) d 292 1841 [some (.ref 0), some (.ref 4), some (.ref 64), some (vI i)] [] h Q := by
  have hF := Fr_rf τ WL h
  have hE := Ext_rf τ
  have e1 := fI_bd (q := 64) hT (tf hT rfl rfl) fd_8_32
  have e2 := fI_bd (q := 64) hT (tf hT rfl rfl) fd_8_15
  have e3 := fI_bd (q := 64) hT (tf hT rfl rfl) fd_8_33
  have e4 := fI_bd (q := 6) hT (tf hT rfl rfl) fd_2_3
  have e5 := fI_bd (q := 64) hT (tf hT rfl rfl) fd_8_2
  have e6 := fI_bd (q := 4) hT (tf hT rfl rfl) fd_1_0
  have e7 := fI_bd (q := 64) hT (tf hT rfl rfl) fd_8_1
  have e8 := fI_bd (q := 4) hT (tf hT rfl rfl) fd_1_5
  have e9 := fI_bd (q := 64) hT (tf hT rfl rfl) fd_8_7
  have e10 := fI_bd (q := 4) hT (tf hT rfl rfl) fd_1_10
  have e11 := fI_bd (q := 64) hT (tf hT rfl rfl) fd_8_45
  have e12 := fI_bd (q := 4) hT (tf hT rfl rfl) fd_1_12
  have e13 := fI_bd (q := 64) hT (tf hT rfl rfl) fd_8_48
  have e14 := fI_bd (q := 4) hT (tf hT rfl rfl) fd_1_7
  have e15 := fI_bd (q := 39) hT (tf hT rfl rfl) fd_3_3
  have e16 := fI_bd (q := 64) hT (tf hT rfl rfl) fd_8_41
  have e17 := fI_bd (q := 54) hT (tf hT rfl rfl) fd_6_1
  have e18 := fI_bd (q := 64) hT (tf hT rfl rfl) fd_8_77
  have e19 := fI_bd (q := 60) hT (tf hT rfl rfl) fd_7_1
  have e20 := fI_bd (q := 64) hT (tf hT rfl rfl) fd_8_78
  refine st_aload c292_1841 rfl ?_
  refine st_aload c292_1842 rfl ?_
  refine st_iload c292_1843 rfl ?_
  refine st_iconst c292_1844 ?_
  refine st_iadd c292_1845 ?_
  refine st_sld c292_1846 (by omega) (fun e21 e22 => ?_)
  refine st_callt (as := [vI (sv xs (i + 1))]) c292_1847 cm_165 hT (tf hT rfl rfl) fd_1_0 rfl rfl rfl rfl (by omega) (K165 hT (sv xs (i + 1)) (by omega) pre5 (d - 1) (by omega) _ (fun v h0 H => H)) (fun v1 h1 H => ?_)
  obtain ⟨z23, rfl, b24, rfl⟩ := H
  refine st_pop c292_1850 rfl ?_
  refine st_aload c292_1851 rfl ?_
  refine st_aload c292_1852 rfl ?_
  refine st_iload c292_1853 rfl ?_
  refine st_iconst c292_1854 ?_
  refine st_iadd c292_1855 ?_
  refine st_sld c292_1856 (by omega) (fun e25 e26 => ?_)
  refine st_callt (as := [vI (sv xs (i + 1))]) c292_1857 cm_289 hT (tf hT rfl rfl) fd_8_0 rfl rfl rfl rfl (by omega) (K289 hT (sv xs (i + 1)) (by omega) (d - 1) (by omega) _ (fun v h0 H => H)) (fun v1 h1 H => ?_)
  obtain ⟨z27, rfl, b28, rfl⟩ := H
  refine st_pop c292_1860 rfl ?_
  refine st_goto c292_1861 ?_
  have e29 := fI_bd (q := 64) hT (tf hT rfl rfl) fd_8_32
  have e30 := fI_bd (q := 64) hT (tf hT rfl rfl) fd_8_15
  have e31 := fI_bd (q := 64) hT (tf hT rfl rfl) fd_8_33
  have e32 := fI_bd (q := 6) hT (tf hT rfl rfl) fd_2_3
  have e33 := fI_bd (q := 64) hT (tf hT rfl rfl) fd_8_2
  have e34 := fI_bd (q := 4) hT (tf hT rfl rfl) fd_1_0
  have e35 := fI_bd (q := 64) hT (tf hT rfl rfl) fd_8_1
  have e36 := fI_bd (q := 4) hT (tf hT rfl rfl) fd_1_5
  have e37 := fI_bd (q := 64) hT (tf hT rfl rfl) fd_8_7
  have e38 := fI_bd (q := 4) hT (tf hT rfl rfl) fd_1_10
  have e39 := fI_bd (q := 64) hT (tf hT rfl rfl) fd_8_45
  have e40 := fI_bd (q := 4) hT (tf hT rfl rfl) fd_1_12
  have e41 := fI_bd (q := 64) hT (tf hT rfl rfl) fd_8_48
  have e42 := fI_bd (q := 4) hT (tf hT rfl rfl) fd_1_7
  have e43 := fI_bd (q := 39) hT (tf hT rfl rfl) fd_3_3
  have e44 := fI_bd (q := 64) hT (tf hT rfl rfl) fd_8_41
  have e45 := fI_bd (q := 54) hT (tf hT rfl rfl) fd_6_1
  have e46 := fI_bd (q := 64) hT (tf hT rfl rfl) fd_8_77
  have e47 := fI_bd (q := 60) hT (tf hT rfl rfl) fd_7_1
  have e48 := fI_bd (q := 64) hT (tf hT rfl rfl) fd_8_78
  exact hQ _ _ ⟨[], (List.append_nil τ).symm, rfl⟩ hT pre0 pre1 pre2 pre3 pre4 pre5 pre6 pre7 pre8 pre9 pre10 pre11 (by omega) (by omega) (by omega) (by omega) (by omega) (by omega) (by omega) (by omega) (by omega) (by omega)
