def W264 : List (Nat × Nat) := [(8, 77), (8, 78), (8, 86), (8, 87), (8, 88), (8, 89), (8, 90), (8, 91), (8, 92), (8, 93), (103, 0), (104, 0), (105, 0), (106, 0), (107, 0), (108, 0), (109, 0)]
set_option maxHeartbeats 0 in
theorem K264 {Ln : Nat} {xs : Nat → Int32} {τ : List Nat} {h : List mE} {E : EP} (hT : TH E τ h) (hS : Stb E W264) (p1 : Int) (hp1 : (-2147483648) ≤ p1 ∧ p1 ≤ 2147483647) (p2 : Int) (hp2 : (-2147483648) ≤ p2 ∧ p2 ≤ 2147483647) (pre0 : I4 h) (d : Nat) (hd : 87 ≤ d) (Q : Option Value → List mE → Prop) (hQ : ∀ v h', (∃ z : Int, v = some (vI z) ∧ ((-2147483648) ≤ z ∧ z ≤ 2147483647) ∧ (I4 h') ∧ TH E τ h' ∧ Fr τ W264 h h') → Q v h') : MR (mex Ln xs) d 264 0 [some (.ref 64), some (vI p1), some (vI p2)] [] h Q := by
  have hF := Fr_rf τ W264 h
  refine st_iload c264_0 rfl ?_
  refine st_iconst c264_1 ?_
  refine st_iconst c264_2 ?_
  refine st_calls (as := [vI p1, vI 0, vI 1]) c264_3 cm_180 rfl rfl rfl rfl (by omega) (K180 hT p1 (by omega) 0 (by omega) 1 (by omega) (d - 1) (by omega) _ (fun v h0 H => H)) (fun v1 h1 H => ?_)
  rcases H with ⟨rfl, pf1, rfl⟩ | ⟨rfl, pf2, pf3, rfl⟩
  refine st_if_eq c264_6 (by omega) (fun k4 => ?_) (fun k5 => False.elim (by omega))
  refine st_iconst c264_16 ?_
  refine st_ireturn c264_17 ?_
  exact hQ _ _ ⟨(-1), rfl, by omega, pre0, hT, hF⟩
  refine st_if_eq c264_6 (by omega) (fun k6 => False.elim (by omega)) (fun k7 => ?_)
  refine st_iload c264_9 rfl ?_
  refine st_calls (as := [vI p2]) c264_10 cm_181 rfl rfl rfl rfl (by omega) (K181 hT p2 (by omega) (d - 1) (by omega) _ (fun v h0 H => H)) (fun v1 h1 H => ?_)
  rcases H with ⟨rfl, rfl⟩ | ⟨rfl, pf8, pf9, rfl⟩
  refine st_if_ne c264_13 (by omega) (fun k10 => False.elim (by omega)) (fun k11 => ?_)
  refine st_iconst c264_16 ?_
  refine st_ireturn c264_17 ?_
  exact hQ _ _ ⟨(-1), rfl, by omega, pre0, hT, hF⟩
  refine st_if_ne c264_13 (by omega) (fun k12 => ?_) (fun k13 => False.elim (by omega))
  refine st_aload c264_18 rfl ?_
  refine st_getI c264_19 hT (tf hT rfl rfl) fd_8_78 (fun e14 e15 => ?_)
  refine st_iconst c264_22 ?_
  refine st_icmp_ne c264_24 (by omega) (by omega) (fun k16 => ?_) (fun k17 => ?_)
  refine st_aload c264_30 rfl ?_
  refine st_aload c264_31 rfl ?_
  refine st_getI c264_32 hT (tf hT rfl rfl) fd_8_78 (fun e18 e19 => ?_)
  refine st_putI c264_35 hT (tf hT rfl rfl) fd_8_92 (by omega) (by omega) (Ext_rf _) hS hF (by decide +kernel) (fun h20 hT21 hF22 hU23 => ?_)
  refine st_aload c264_38 rfl ?_
  refine st_iconst c264_39 ?_
  refine st_putI c264_40 hT21 (tf hT21 rfl rfl) fd_8_93 (by omega) (by omega) (Ext_rf _) hS hF22 (by decide +kernel) (fun h24 hT25 hF26 hU27 => ?_)
  refine st_aload c264_43 rfl ?_
  refine st_iconst c264_44 ?_
  refine st_putI c264_45 hT25 (tf hT25 rfl rfl) fd_8_90 (by omega) (by omega) (Ext_rf _) hS hF26 (by decide +kernel) (fun h28 hT29 hF30 hU31 => ?_)
  refine st_aload c264_48 rfl ?_
  refine st_iconst c264_49 ?_
  refine st_putI c264_50 hT29 (tf hT29 rfl rfl) fd_8_91 (by omega) (by omega) (Ext_rf _) hS hF30 (by decide +kernel) (fun h32 hT33 hF34 hU35 => ?_)
  refine st_aload c264_53 rfl ?_
  refine st_iconst c264_54 ?_
  refine st_putI c264_55 hT33 (tf hT33 rfl rfl) fd_8_87 (by omega) (by omega) (Ext_rf _) hS hF34 (by decide +kernel) (fun h36 hT37 hF38 hU39 => ?_)
  refine st_aload c264_58 rfl ?_
  have e40 := fI_bd (q := 64) hT37 (tf hT37 rfl rfl) fd_8_87
  have q41 : fI h36 64 87 = 0 := FUp_fI hU39 (by omega) (by omega)
  have e42 := fI_bd (q := 64) hT37 (tf hT37 rfl rfl) fd_8_77
  have q43 : fI h36 64 77 = fI h 64 77 := (FUp_fIne hU39 (fun z => absurd z.2 (by decide))).trans ((FUp_fIne hU35 (fun z => absurd z.2 (by decide))).trans ((FUp_fIne hU31 (fun z => absurd z.2 (by decide))).trans ((FUp_fIne hU27 (fun z => absurd z.2 (by decide))).trans (FUp_fIne hU23 (fun z => absurd z.2 (by decide))))))
  refine st_callt (as := []) c264_59 cm_252 hT37 (tf hT37 rfl rfl) fd_8_0 rfl rfl rfl rfl (by omega) (K252 hT37 (Stb_mono hS (by decide +kernel)) (by omega) (d - 1) (by omega) _ (fun v h0 H => H)) (fun v1 h44 H => ?_)
  obtain ⟨rfl, pf47, pf48, pf49, pf50, hT45, hF46⟩ := H
  have hF51 := Fr_cp hF38 hF46 (by decide +kernel : Wsub W252 W264 = true)
  have e52 := fI_bd (q := 64) hT45 (tf hT45 rfl rfl) fd_8_86
  have e53 := fI_bd (q := 64) hT45 (tf hT45 rfl rfl) fd_8_87
  have e54 := fI_bd (q := 64) hT45 (tf hT45 rfl rfl) fd_8_88
  refine st_aload c264_62 rfl ?_
  have e55 := fI_bd (q := 64) hT45 (tf hT45 rfl rfl) fd_8_77
  have q56 : fI h44 64 77 = fI h36 64 77 := Fr_fI hF46 (tf hT37 rfl rfl) (by decide +kernel)
  have e57 := fI_bd (q := 64) hT45 (tf hT45 rfl rfl) fd_8_93
  have q58 : fI h44 64 93 = 0 := (Fr_fI hF46 (tf hT37 rfl rfl) (by decide +kernel)).trans ((FUp_fIne hU39 (fun z => absurd z.2 (by decide))).trans ((FUp_fIne hU35 (fun z => absurd z.2 (by decide))).trans ((FUp_fIne hU31 (fun z => absurd z.2 (by decide))).trans (FUp_fI hU27 (by omega) (by omega)))))
  have e59 := fI_bd (q := 64) hT45 (tf hT45 rfl rfl) fd_8_91
  have q60 : fI h44 64 91 = 0 := (Fr_fI hF46 (tf hT37 rfl rfl) (by decide +kernel)).trans ((FUp_fIne hU39 (fun z => absurd z.2 (by decide))).trans (FUp_fI hU35 (by omega) (by omega)))
  have e61 := fI_bd (q := 64) hT45 (tf hT45 rfl rfl) fd_8_92
  have q62 : fI h44 64 92 = fI h 64 78 := (Fr_fI hF46 (tf hT37 rfl rfl) (by decide +kernel)).trans ((FUp_fIne hU39 (fun z => absurd z.2 (by decide))).trans ((FUp_fIne hU35 (fun z => absurd z.2 (by decide))).trans ((FUp_fIne hU31 (fun z => absurd z.2 (by decide))).trans ((FUp_fIne hU27 (fun z => absurd z.2 (by decide))).trans (FUp_fI hU23 (by omega) (by omega))))))
  refine st_callt (as := []) c264_63 cm_263 hT45 (tf hT45 rfl rfl) fd_8_0 rfl rfl rfl rfl (by omega) (K263 hT45 (Stb_mono hS (by decide +kernel)) (by omega) (by omega) (by omega) (by omega) (by omega) (d - 1) (by omega) _ (fun v h0 H => H)) (fun v1 h63 H => ?_)
  obtain ⟨rfl, pf66, pf67, pf68, pf69, pf70, pf71, pf72, pf73, pf74, pf75, hT64, hF65⟩ := H
  have hF76 := Fr_cp hF51 hF65 (by decide +kernel : Wsub W263 W264 = true)
  have e77 := fI_bd (q := 64) hT64 (tf hT64 rfl rfl) fd_8_86
  have e78 := fI_bd (q := 64) hT64 (tf hT64 rfl rfl) fd_8_87
  have e79 := fI_bd (q := 64) hT64 (tf hT64 rfl rfl) fd_8_88
  have e80 := fI_bd (q := 64) hT64 (tf hT64 rfl rfl) fd_8_93
  have e81 := fI_bd (q := 64) hT64 (tf hT64 rfl rfl) fd_8_90
  have e82 := fI_bd (q := 64) hT64 (tf hT64 rfl rfl) fd_8_91
  have lp141 : ∀ (n142 : Nat) (h137 : List mE), fI h137 64 77 - fI h137 64 86 < (n142 : Int) → fI h137 64 86 ≤ fI h137 64 87 → fI h137 64 87 ≤ fI h137 64 77 → fI h137 64 88 = 0 ∨ fI h137 64 86 + 1 ≤ fI h137 64 87 → fI h137 64 93 ≤ fI h137 64 86+1 → 0 ≤ fI h137 64 90 ∨ fI h137 64 91 = 0 → fI h137 64 92 = fI h 64 78 → fI h137 64 78 = fI h 64 78 → (∀ i : Int, 0 ≤ i → i < 220 * fI h 64 78 → aI h137 129 i = aI h 129 i) → (∀ i : Int, 0 ≤ i → i < 220 * fI h 64 78 → aI h137 130 i = aI h 130 i) → 0 ≤ fI h137 64 90 ∨ Zs h137 (220 * fI h 64 78) (fI h137 64 93) → TH E τ h137 → Fr τ W264 h h137 → Fr τ [(8, 86), (8, 87), (8, 88), (8, 89), (8, 90), (8, 91), (8, 93), (107, 0), (108, 0), (109, 0)] h63 h137 → MR (mex Ln xs) d 264 66 [some (.ref 64), some (vI p1), some (vI p2)] [] h137 Q := by
    intro n142
    induction n142 with
    | zero =>
      intro h137 hm144 x145 x146 x147 x148 x149 x150 x151 x152 x153 x154 hT138 hF139 hL140
      exfalso; omega
    | succ n142 ih143 =>
      intro h137 hm144 x145 x146 x147 x148 x149 x150 x151 x152 x153 x154 hT138 hF139 hL140
      have e155 := fI_bd (q := 64) hT138 (tf hT138 rfl rfl) fd_8_86
      have e156 := fI_bd (q := 64) hT138 (tf hT138 rfl rfl) fd_8_87
      have e157 := fI_bd (q := 64) hT138 (tf hT138 rfl rfl) fd_8_77
      have q158 : fI h137 64 77 = fI h44 64 77 := (Fr_fI hL140 (tf hT64 rfl rfl) (by decide +kernel)).trans (Fr_fI hF65 (tf hT45 rfl rfl) (by decide +kernel))
      have e159 := fI_bd (q := 64) hT138 (tf hT138 rfl rfl) fd_8_88
      have e160 := fI_bd (q := 64) hT138 (tf hT138 rfl rfl) fd_8_93
      have e161 := fI_bd (q := 64) hT138 (tf hT138 rfl rfl) fd_8_90
      have e162 := fI_bd (q := 64) hT138 (tf hT138 rfl rfl) fd_8_91
      have e163 := fI_bd (q := 64) hT138 (tf hT138 rfl rfl) fd_8_92
      have q164 : fI h137 64 92 = fI h44 64 92 := (Fr_fI hL140 (tf hT64 rfl rfl) (by decide +kernel)).trans (Fr_fI hF65 (tf hT45 rfl rfl) (by decide +kernel))
      have e165 := fI_bd (q := 64) hT138 (tf hT138 rfl rfl) fd_8_78
      have q166 : fI h137 64 78 = fI h 64 78 := (Fr_fI hL140 (tf hT64 rfl rfl) (by decide +kernel)).trans ((Fr_fI hF65 (tf hT45 rfl rfl) (by decide +kernel)).trans ((Fr_fI hF46 (tf hT37 rfl rfl) (by decide +kernel)).trans ((FUp_fIne hU39 (fun z => absurd z.2 (by decide))).trans ((FUp_fIne hU35 (fun z => absurd z.2 (by decide))).trans ((FUp_fIne hU31 (fun z => absurd z.2 (by decide))).trans ((FUp_fIne hU27 (fun z => absurd z.2 (by decide))).trans (FUp_fIne hU23 (fun z => absurd z.2 (by decide)))))))))
      refine st_aload c264_66 rfl ?_
      refine st_getI c264_67 hT138 (tf hT138 rfl rfl) fd_8_90 (fun e167 e168 => ?_)
      refine st_if_ge c264_70 (by omega) (fun k169 => ?_) (fun k170 => ?_)
      refine st_aload c264_93 rfl ?_
      refine st_getI c264_94 hT138 (tf hT138 rfl rfl) fd_8_90 (fun e171 e172 => ?_)
      refine st_if_ge c264_97 (by omega) (fun k173 => ?_) (fun k174 => False.elim (by omega))
      refine st_aload c264_111 rfl ?_
      refine st_iconst c264_112 ?_
      refine st_putI c264_113 hT138 (tf hT138 rfl rfl) fd_8_77 (by omega) (by omega) (Ext_rf _) hS hF139 (by decide +kernel) (fun h175 hT176 hF177 hU178 => ?_)
      refine st_aload c264_116 rfl ?_
      refine st_getI c264_117 hT176 (tf hT176 rfl rfl) fd_8_90 (fun e179 e180 => ?_)
      have q181 : fI h175 64 90 = fI h137 64 90 := FUp_fIne hU178 (fun z => absurd z.2 (by decide))
      refine st_if_lt c264_120 (by omega) (fun k182 => False.elim (by omega)) (fun k183 => ?_)
      refine st_iconst c264_123 ?_
      refine st_aload c264_125 rfl ?_
      refine st_getI c264_126 hT176 (tf hT176 rfl rfl) fd_8_90 (fun e184 e185 => ?_)
      have q186 : fI h175 64 90 = fI h137 64 90 := FUp_fIne hU178 (fun z => absurd z.2 (by decide))
      refine st_isub c264_129 ?_
      refine MR_wrap (fun w187 e188 e189 e190 => ?_)
      refine st_ireturn c264_130 ?_
      have e191 := fI_bd (q := 64) hT176 (tf hT176 rfl rfl) fd_8_78
      have q192 : fI h175 64 78 = fI h137 64 78 := FUp_fIne hU178 (fun z => absurd z.2 (by decide))
      have fr194 : ∀ i : Int, 0 ≤ i → i < 220 * fI h 64 78 → aI h175 129 i = aI h 129 i := fun i a b => ((FUp_aI hU178 i)).trans ((x152 i a b))
      have fr195 : ∀ i : Int, 0 ≤ i → i < 220 * fI h 64 78 → aI h175 130 i = aI h 130 i := fun i a b => ((FUp_aI hU178 i)).trans ((x153 i a b))
      have iv193 := I4_kp pre0 (by omega) (fun t => (FUp_aI hU178 t).trans ((Fr_aI hL140 (tf hT64 rfl rfl) (by decide +kernel) t).trans ((Fr_aI hF65 (tf hT45 rfl rfl) (by decide +kernel) t).trans ((Fr_aI hF46 (tf hT37 rfl rfl) (by decide +kernel) t).trans ((FUp_aI hU39 t).trans ((FUp_aI hU35 t).trans ((FUp_aI hU31 t).trans ((FUp_aI hU27 t).trans (FUp_aI hU23 t))))))))) (aI_bd hT (tf (q := 128) (t := 106) hT rfl rfl) ay_106) fr194 fr195
      exact hQ _ _ ⟨w187, rfl, by omega, iv193, hT176, hF177⟩
      refine st_aload c264_73 rfl ?_
      refine st_getI c264_74 hT138 (tf hT138 rfl rfl) fd_8_88 (fun e196 e197 => ?_)
      refine st_iconst c264_77 ?_
      refine st_icmp_ne c264_79 (by omega) (by omega) (fun k198 => ?_) (fun k199 => ?_)
      refine st_aload c264_93 rfl ?_
      refine st_getI c264_94 hT138 (tf hT138 rfl rfl) fd_8_90 (fun e200 e201 => ?_)
      refine st_if_ge c264_97 (by omega) (fun k202 => False.elim (by omega)) (fun k203 => ?_)
      refine st_aload c264_100 rfl ?_
      refine st_getI c264_101 hT138 (tf hT138 rfl rfl) fd_8_88 (fun e204 e205 => ?_)
      refine st_if_eq c264_104 (by omega) (fun k206 => ?_) (fun k207 => ?_)
      refine st_aload c264_111 rfl ?_
      refine st_iconst c264_112 ?_
      refine st_putI c264_113 hT138 (tf hT138 rfl rfl) fd_8_77 (by omega) (by omega) (Ext_rf _) hS hF139 (by decide +kernel) (fun h208 hT209 hF210 hU211 => ?_)
      refine st_aload c264_116 rfl ?_
      refine st_getI c264_117 hT209 (tf hT209 rfl rfl) fd_8_90 (fun e212 e213 => ?_)
      have q214 : fI h208 64 90 = fI h137 64 90 := FUp_fIne hU211 (fun z => absurd z.2 (by decide))
      refine st_if_lt c264_120 (by omega) (fun k215 => ?_) (fun k216 => False.elim (by omega))
      refine st_aload c264_131 rfl ?_
      refine st_getX (u := 125) c264_132 hT209 (tf hT209 rfl rfl) fd_8_79 rfl ?_
      refine st_aload c264_135 rfl ?_
      refine st_getI c264_136 hT209 (tf hT209 rfl rfl) fd_8_78 (fun e217 e218 => ?_)
      have q219 : fI h208 64 78 = fI h137 64 78 := FUp_fIne hU211 (fun z => absurd z.2 (by decide))
      refine st_iload c264_139 rfl ?_
      refine st_iast c264_140 hT209 (tf hT209 rfl rfl) ay_103 (by omega) (by omega) (by omega) (Ext_rf _) hS hF210 (by decide +kernel) (fun h220 hT221 hF222 hU223 => ?_)
      refine st_aload c264_141 rfl ?_
      refine st_getX (u := 126) c264_142 hT221 (tf hT221 rfl rfl) fd_8_80 rfl ?_
      refine st_aload c264_145 rfl ?_
      refine st_getI c264_146 hT221 (tf hT221 rfl rfl) fd_8_78 (fun e224 e225 => ?_)
      have q226 : fI h220 64 78 = fI h208 64 78 := AUp_fI hU223
      refine st_aload c264_149 rfl ?_
      refine st_callt (as := []) c264_150 cm_182 hT221 (tf hT221 rfl rfl) fd_8_0 rfl rfl rfl rfl (by omega) (K182 hT221 (d - 1) (by omega) _ (fun v h0 H => H)) (fun v1 h1 H => ?_)
      obtain ⟨z227, rfl, b228, rfl⟩ := H
      refine st_iast c264_153 hT221 (tf hT221 rfl rfl) ay_104 (by omega) (by omega) (by omega) (Ext_rf _) hS hF222 (by decide +kernel) (fun h229 hT230 hF231 hU232 => ?_)
      refine st_aload c264_154 rfl ?_
      refine st_getX (u := 127) c264_155 hT230 (tf hT230 rfl rfl) fd_8_81 rfl ?_
      refine st_aload c264_158 rfl ?_
      refine st_getI c264_159 hT230 (tf hT230 rfl rfl) fd_8_78 (fun e233 e234 => ?_)
      have q235 : fI h229 64 78 = fI h220 64 78 := AUp_fI hU232
      refine st_iload c264_162 rfl ?_
      refine st_iast c264_163 hT230 (tf hT230 rfl rfl) ay_105 (by omega) (by omega) (by omega) (Ext_rf _) hS hF231 (by decide +kernel) (fun h236 hT237 hF238 hU239 => ?_)
      refine st_aload c264_164 rfl ?_
      refine st_getX (u := 128) c264_165 hT237 (tf hT237 rfl rfl) fd_8_82 rfl ?_
      refine st_aload c264_168 rfl ?_
      refine st_getI c264_169 hT237 (tf hT237 rfl rfl) fd_8_78 (fun e240 e241 => ?_)
      have q242 : fI h236 64 78 = fI h229 64 78 := AUp_fI hU239
      refine st_aload c264_172 rfl ?_
      refine st_getI c264_173 hT237 (tf hT237 rfl rfl) fd_8_93 (fun e243 e244 => ?_)
      have q245 : fI h236 64 93 = fI h137 64 93 := (AUp_fI hU239).trans ((AUp_fI hU232).trans ((AUp_fI hU223).trans (FUp_fIne hU211 (fun z => absurd z.2 (by decide)))))
      refine st_iast c264_176 hT237 (tf hT237 rfl rfl) ay_106 (by omega) (by omega) (by omega) (Ext_rf _) hS hF238 (by decide +kernel) (fun h246 hT247 hF248 hU249 => ?_)
      refine st_aload c264_177 rfl ?_
      refine st_dup c264_178 rfl ?_
      refine st_getI c264_179 hT247 (tf hT247 rfl rfl) fd_8_78 (fun e250 e251 => ?_)
      have q252 : fI h246 64 78 = fI h236 64 78 := AUp_fI hU249
      refine st_iconst c264_182 ?_
      refine st_iadd c264_183 ?_
      refine st_putI c264_184 hT247 (tf hT247 rfl rfl) fd_8_78 (by omega) (by omega) (Ext_rf _) hS hF248 (by decide +kernel) (fun h253 hT254 hF255 hU256 => ?_)
      refine st_aload c264_187 rfl ?_
      refine st_getI c264_188 hT254 (tf hT254 rfl rfl) fd_8_78 (fun e257 e258 => ?_)
      have q259 : fI h253 64 78 = (fI h246 64 78) + 1 := FUp_fI hU256 (by omega) (by omega)
      refine st_iconst c264_191 ?_
      refine st_isub c264_192 ?_
      refine st_ireturn c264_193 ?_
      have fr261 : ∀ i : Int, 0 ≤ i → i < 220 * fI h 64 78 → aI h253 129 i = aI h 129 i := fun i a b => ((FUp_aI hU256 i)).trans (((AUp_aIne hU249 (by decide) i)).trans (((AUp_aIne hU239 (by decide) i)).trans (((AUp_aIne hU232 (by decide) i)).trans (((AUp_aIne hU223 (by decide) i)).trans (((FUp_aI hU211 i)).trans ((x152 i a b)))))))
      have fr262 : ∀ i : Int, 0 ≤ i → i < 220 * fI h 64 78 → aI h253 130 i = aI h 130 i := fun i a b => ((FUp_aI hU256 i)).trans (((AUp_aIne hU249 (by decide) i)).trans (((AUp_aIne hU239 (by decide) i)).trans (((AUp_aIne hU232 (by decide) i)).trans (((AUp_aIne hU223 (by decide) i)).trans (((FUp_aI hU211 i)).trans ((x153 i a b)))))))
      have fr263 : ∀ i : Int, 0 ≤ i → i < fI h 64 78 → aI h253 128 i = aI h 128 i := fun i a b => ((FUp_aI hU256 i)).trans ((((AUp_aI hU249 (by omega) (by omega) (by omega) a).trans (if_neg (by omega)))).trans (((AUp_aIne hU239 (by decide) i)).trans (((AUp_aIne hU232 (by decide) i)).trans (((AUp_aIne hU223 (by decide) i)).trans (((FUp_aI hU211 i)).trans (((Fr_aI hL140 (tf hT64 rfl rfl) (by decide +kernel) i)).trans (((Fr_aI hF65 (tf hT45 rfl rfl) (by decide +kernel) i)).trans (((Fr_aI hF46 (tf hT37 rfl rfl) (by decide +kernel) i)).trans (((FUp_aI hU39 i)).trans (((FUp_aI hU35 i)).trans (((FUp_aI hU31 i)).trans (((FUp_aI hU27 i)).trans ((FUp_aI hU23 i))))))))))))))
      have a1 : aI h253 128 (fI h 64 78) = fI h236 64 93 := (FUp_aI hU256 (fI h 64 78)).trans ((AUp_aI hU249 (by omega) (by omega) (by omega) (by omega)).trans (if_pos (by omega)))
      have gx := x154.resolve_left (by omega)
      have fr264 : ∀ i : Int, 0 ≤ i → i < 220 * fI h 64 78 + fI h137 64 93 → aI h253 129 i = aI h137 129 i := fun i a b => ((FUp_aI hU256 i)).trans (((AUp_aIne hU249 (by decide) i)).trans (((AUp_aIne hU239 (by decide) i)).trans (((AUp_aIne hU232 (by decide) i)).trans (((AUp_aIne hU223 (by decide) i)).trans ((FUp_aI hU211 i))))))
      have fr265 : ∀ i : Int, 0 ≤ i → i < 220 * fI h 64 78 + fI h137 64 93 → aI h253 130 i = aI h137 130 i := fun i a b => ((FUp_aI hU256 i)).trans (((AUp_aIne hU249 (by decide) i)).trans (((AUp_aIne hU239 (by decide) i)).trans (((AUp_aIne hU232 (by decide) i)).trans (((AUp_aIne hU223 (by decide) i)).trans ((FUp_aI hU211 i))))))
      have k1 : Zs h253 (220 * fI h 64 78) (fI h137 64 93) := Zs_mv gx (fun i a b => ⟨fr264 i (by omega) (by omega), fr265 i (by omega) (by omega)⟩)
      have iv260 := I4_add pre0 (by omega) fr263 (aI_bd hT (tf (q := 128) (t := 106) hT rfl rfl) ay_106) fr261 fr262 (by rw [a1, show fI h236 64 93 = fI h137 64 93 by omega]; exact k1)
      exact hQ _ _ ⟨(fI h253 64 78) - 1, rfl, by omega, iv260, hT254, hF255⟩
      refine st_aload c264_107 rfl ?_
      refine st_callt (as := []) c264_108 cm_254 hT138 (tf hT138 rfl rfl) fd_8_0 rfl rfl rfl rfl (by omega) (K254 hT138 (Stb_mono hS (by decide +kernel)) (d - 1) (by omega) _ (fun v h0 H => H)) (fun v1 h266 H => ?_)
      obtain ⟨rfl, pf269, pf270, hT267, hF268⟩ := H
      have hF271 := Fr_cp hF139 hF268 (by decide +kernel : Wsub W254 W264 = true)
      have e272 := fI_bd (q := 64) hT267 (tf hT267 rfl rfl) fd_8_90
      refine st_aload c264_111 rfl ?_
      refine st_iconst c264_112 ?_
      refine st_putI c264_113 hT267 (tf hT267 rfl rfl) fd_8_77 (by omega) (by omega) (Ext_rf _) hS hF271 (by decide +kernel) (fun h273 hT274 hF275 hU276 => ?_)
      refine st_aload c264_116 rfl ?_
      refine st_getI c264_117 hT274 (tf hT274 rfl rfl) fd_8_90 (fun e277 e278 => ?_)
      have q279 : fI h273 64 90 = fI h266 64 90 := FUp_fIne hU276 (fun z => absurd z.2 (by decide))
      refine st_if_lt c264_120 (by omega) (fun k280 => False.elim (by omega)) (fun k281 => ?_)
      refine st_iconst c264_123 ?_
      refine st_aload c264_125 rfl ?_
      refine st_getI c264_126 hT274 (tf hT274 rfl rfl) fd_8_90 (fun e282 e283 => ?_)
      have q284 : fI h273 64 90 = fI h266 64 90 := FUp_fIne hU276 (fun z => absurd z.2 (by decide))
      refine st_isub c264_129 ?_
      refine MR_wrap (fun w285 e286 e287 e288 => ?_)
      refine st_ireturn c264_130 ?_
      have e289 := fI_bd (q := 64) hT274 (tf hT274 rfl rfl) fd_8_78
      have q290 : fI h273 64 78 = fI h137 64 78 := (FUp_fIne hU276 (fun z => absurd z.2 (by decide))).trans (Fr_fI hF268 (tf hT138 rfl rfl) (by decide +kernel))
      have fr292 : ∀ i : Int, 0 ≤ i → i < 220 * fI h 64 78 → aI h273 129 i = aI h 129 i := fun i a b => ((FUp_aI hU276 i)).trans (((Fr_aI hF268 (tf hT138 rfl rfl) (by decide +kernel) i)).trans ((x152 i a b)))
      have fr293 : ∀ i : Int, 0 ≤ i → i < 220 * fI h 64 78 → aI h273 130 i = aI h 130 i := fun i a b => ((FUp_aI hU276 i)).trans (((Fr_aI hF268 (tf hT138 rfl rfl) (by decide +kernel) i)).trans ((x153 i a b)))
      have iv291 := I4_kp pre0 (by omega) (fun t => (FUp_aI hU276 t).trans ((Fr_aI hF268 (tf hT138 rfl rfl) (by decide +kernel) t).trans ((Fr_aI hL140 (tf hT64 rfl rfl) (by decide +kernel) t).trans ((Fr_aI hF65 (tf hT45 rfl rfl) (by decide +kernel) t).trans ((Fr_aI hF46 (tf hT37 rfl rfl) (by decide +kernel) t).trans ((FUp_aI hU39 t).trans ((FUp_aI hU35 t).trans ((FUp_aI hU31 t).trans ((FUp_aI hU27 t).trans (FUp_aI hU23 t)))))))))) (aI_bd hT (tf (q := 128) (t := 106) hT rfl rfl) ay_106) fr292 fr293
      exact hQ _ _ ⟨w285, rfl, by omega, iv291, hT274, hF275⟩
      refine st_aload c264_82 rfl ?_
      refine st_callt (as := []) c264_83 cm_252 hT138 (tf hT138 rfl rfl) fd_8_0 rfl rfl rfl rfl (by omega) (K252 hT138 (Stb_mono hS (by decide +kernel)) (by omega) (d - 1) (by omega) _ (fun v h0 H => H)) (fun v1 h294 H => ?_)
      obtain ⟨rfl, pf297, pf298, pf299, pf300, hT295, hF296⟩ := H
      have hF301 := Fr_cp hF139 hF296 (by decide +kernel : Wsub W252 W264 = true)
      have e302 := fI_bd (q := 64) hT295 (tf hT295 rfl rfl) fd_8_86
      have e303 := fI_bd (q := 64) hT295 (tf hT295 rfl rfl) fd_8_87
      have e304 := fI_bd (q := 64) hT295 (tf hT295 rfl rfl) fd_8_88
      refine st_aload c264_86 rfl ?_
      have e305 := fI_bd (q := 64) hT295 (tf hT295 rfl rfl) fd_8_77
      have q306 : fI h294 64 77 = fI h137 64 77 := Fr_fI hF296 (tf hT138 rfl rfl) (by decide +kernel)
      have e307 := fI_bd (q := 64) hT295 (tf hT295 rfl rfl) fd_8_93
      have q308 : fI h294 64 93 = fI h137 64 93 := Fr_fI hF296 (tf hT138 rfl rfl) (by decide +kernel)
      have e309 := fI_bd (q := 64) hT295 (tf hT295 rfl rfl) fd_8_91
      have q310 : fI h294 64 91 = fI h137 64 91 := Fr_fI hF296 (tf hT138 rfl rfl) (by decide +kernel)
      have e311 := fI_bd (q := 64) hT295 (tf hT295 rfl rfl) fd_8_92
      have q312 : fI h294 64 92 = fI h137 64 92 := Fr_fI hF296 (tf hT138 rfl rfl) (by decide +kernel)
      refine st_callt (as := []) c264_87 cm_263 hT295 (tf hT295 rfl rfl) fd_8_0 rfl rfl rfl rfl (by omega) (K263 hT295 (Stb_mono hS (by decide +kernel)) (by omega) (by omega) (by omega) (by omega) (by omega) (d - 1) (by omega) _ (fun v h0 H => H)) (fun v1 h313 H => ?_)
      obtain ⟨rfl, pf316, pf317, pf318, pf319, pf320, pf321, pf322, pf323, pf324, pf325, hT314, hF315⟩ := H
      have hF326 := Fr_cp hF301 hF315 (by decide +kernel : Wsub W263 W264 = true)
      have e327 := fI_bd (q := 64) hT314 (tf hT314 rfl rfl) fd_8_86
      have e328 := fI_bd (q := 64) hT314 (tf hT314 rfl rfl) fd_8_87
      have e329 := fI_bd (q := 64) hT314 (tf hT314 rfl rfl) fd_8_88
      have e330 := fI_bd (q := 64) hT314 (tf hT314 rfl rfl) fd_8_93
      have e331 := fI_bd (q := 64) hT314 (tf hT314 rfl rfl) fd_8_90
      have e332 := fI_bd (q := 64) hT314 (tf hT314 rfl rfl) fd_8_91
      refine st_goto c264_90 ?_
      have e333 := fI_bd (q := 64) hT314 (tf hT314 rfl rfl) fd_8_92
      have q334 : fI h313 64 92 = fI h294 64 92 := Fr_fI hF315 (tf hT295 rfl rfl) (by decide +kernel)
      have sg335 : 0 ≤ fI h313 64 90 ∨ Zs h313 (220 * fI h 64 78) (fI h313 64 93) := by
        rcases pf325 with q | q
        · exact Or.inl (by omega)
        · refine Or.inr ?_
          have gx := x154.resolve_left (by omega)
          have fr336 : ∀ i : Int, 0 ≤ i → i < 220 * fI h 64 78 + fI h137 64 93 → aI h313 129 i = aI h137 129 i := fun i a b => ((pf323 i a (by omega))).trans ((Fr_aI hF296 (tf hT138 rfl rfl) (by decide +kernel) i))
          have fr337 : ∀ i : Int, 0 ≤ i → i < 220 * fI h 64 78 + fI h137 64 93 → aI h313 130 i = aI h137 130 i := fun i a b => ((pf324 i a (by omega))).trans ((Fr_aI hF296 (tf hT138 rfl rfl) (by decide +kernel) i))
          have k1 : Zs h313 (220 * fI h 64 78) (fI h137 64 93) := Zs_mv gx (fun i a b => ⟨fr336 i (by omega) (by omega), fr337 i (by omega) (by omega)⟩)
          rw [show fI h313 64 93 = fI h137 64 93 + (fI h313 64 93 - fI h294 64 93) by omega]
          exact Zs_cat k1 (by rw [show 220 * fI h 64 78 + fI h137 64 93 = 220 * fI h294 64 92 + fI h294 64 93 by omega]; exact q)
      have e338 := fI_bd (q := 64) hT314 (tf hT314 rfl rfl) fd_8_77
      have q339 : fI h313 64 77 = fI h294 64 77 := Fr_fI hF315 (tf hT295 rfl rfl) (by decide +kernel)
      have e340 := fI_bd (q := 64) hT314 (tf hT314 rfl rfl) fd_8_78
      have q341 : fI h313 64 78 = fI h137 64 78 := (Fr_fI hF315 (tf hT295 rfl rfl) (by decide +kernel)).trans (Fr_fI hF296 (tf hT138 rfl rfl) (by decide +kernel))
      have fr342 : ∀ i : Int, 0 ≤ i → i < 220 * fI h 64 78 → aI h313 129 i = aI h 129 i := fun i a b => ((pf323 i a (by omega))).trans (((Fr_aI hF296 (tf hT138 rfl rfl) (by decide +kernel) i)).trans ((x152 i a b)))
      have fr343 : ∀ i : Int, 0 ≤ i → i < 220 * fI h 64 78 → aI h313 130 i = aI h 130 i := fun i a b => ((pf324 i a (by omega))).trans (((Fr_aI hF296 (tf hT138 rfl rfl) (by decide +kernel) i)).trans ((x153 i a b)))
      exact ih143 h313 (by omega) (by omega) (by omega) (by omega) (by omega) (by omega) (by omega) (by omega) fr342 fr343 sg335 hT314 hF326 (Fr_cp (Fr_cp hL140 hF296 (by decide +kernel)) hF315 (by decide +kernel))
  have e344 := fI_bd (q := 64) hT64 (tf hT64 rfl rfl) fd_8_92
  have q345 : fI h63 64 92 = fI h44 64 92 := Fr_fI hF65 (tf hT45 rfl rfl) (by decide +kernel)
  have sg346 : 0 ≤ fI h63 64 90 ∨ Zs h63 (220 * fI h 64 78) (fI h63 64 93) := by
    rcases pf75 with q | q
    · exact Or.inl (by omega)
    · refine Or.inr ?_
      rw [show 220 * fI h 64 78 = 220 * fI h44 64 92 + fI h44 64 93 by omega, show fI h63 64 93 = fI h63 64 93 - fI h44 64 93 by omega]
      exact q
  have e347 := fI_bd (q := 64) hT64 (tf hT64 rfl rfl) fd_8_77
  have q348 : fI h63 64 77 = fI h44 64 77 := Fr_fI hF65 (tf hT45 rfl rfl) (by decide +kernel)
  have e349 := fI_bd (q := 64) hT64 (tf hT64 rfl rfl) fd_8_78
  have q350 : fI h63 64 78 = fI h 64 78 := (Fr_fI hF65 (tf hT45 rfl rfl) (by decide +kernel)).trans ((Fr_fI hF46 (tf hT37 rfl rfl) (by decide +kernel)).trans ((FUp_fIne hU39 (fun z => absurd z.2 (by decide))).trans ((FUp_fIne hU35 (fun z => absurd z.2 (by decide))).trans ((FUp_fIne hU31 (fun z => absurd z.2 (by decide))).trans ((FUp_fIne hU27 (fun z => absurd z.2 (by decide))).trans (FUp_fIne hU23 (fun z => absurd z.2 (by decide))))))))
  have fr351 : ∀ i : Int, 0 ≤ i → i < 220 * fI h 64 78 → aI h63 129 i = aI h 129 i := fun i a b => ((pf73 i a (by omega))).trans (((Fr_aI hF46 (tf hT37 rfl rfl) (by decide +kernel) i)).trans (((FUp_aI hU39 i)).trans (((FUp_aI hU35 i)).trans (((FUp_aI hU31 i)).trans (((FUp_aI hU27 i)).trans ((FUp_aI hU23 i)))))))
  have fr352 : ∀ i : Int, 0 ≤ i → i < 220 * fI h 64 78 → aI h63 130 i = aI h 130 i := fun i a b => ((pf74 i a (by omega))).trans (((Fr_aI hF46 (tf hT37 rfl rfl) (by decide +kernel) i)).trans (((FUp_aI hU39 i)).trans (((FUp_aI hU35 i)).trans (((FUp_aI hU31 i)).trans (((FUp_aI hU27 i)).trans ((FUp_aI hU23 i)))))))
  exact lp141 (((fI h63 64 77 - fI h63 64 86 : Int) + 1).toNat) h63 (by omega) (by omega) (by omega) (by omega) (by omega) (by omega) (by omega) (by omega) fr351 fr352 sg346 hT64 hF76 (Fr_rf _ _ _)
  refine st_iconst c264_27 ?_
  refine st_ireturn c264_29 ?_
  exact hQ _ _ ⟨(-3), rfl, by omega, pre0, hT, hF⟩
