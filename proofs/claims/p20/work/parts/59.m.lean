def W264 : List (Nat × Nat) := [(8, 77), (8, 78), (8, 86), (8, 87), (8, 88), (8, 89), (8, 90), (8, 91), (8, 92), (8, 93), (103, 0), (104, 0), (105, 0), (106, 0), (107, 0), (108, 0), (109, 0)]
set_option maxHeartbeats 0 in
theorem K264 {Ln : Nat} {xs : Nat → Int32} {τ : List Nat} {h : List mE} {E : EP} (hT : TH E τ h) (hS : Stb E W264) (p1 : Int) (hp1 : (-2147483648) ≤ p1 ∧ p1 ≤ 2147483647) (p2 : Int) (hp2 : (-2147483648) ≤ p2 ∧ p2 ≤ 2147483647) (pre0 : I4 h) (d : Nat) (hd : 87 ≤ d) (Q : Option Value → List mE → Prop) (hQ : ∀ v h', (∃ z : Int, v = some (vI z) ∧ ((-2147483648) ≤ z ∧ z ≤ 2147483647) ∧ (I4 h') ∧ TH E τ h' ∧ Fr τ W264 h h') → Q v h') : MR (mex Ln xs) d 264 0 [some (.ref 64), some (vI p1), some (vI p2)] [] h Q := by
  have hF := Fr_rf τ W264 h
  refine st_iload c264_0 rfl ?_
  refine st_iconst c264_1 ?_
  refine st_iconst c264_2 ?_
  refine st_calls (as := [vI p1, vI 0, vI 1]) c264_3 cm_180 rfl rfl rfl rfl (by omega) (K180 hT p1 (by omega) 0 (by omega) 1 (by omega) (d - 1) (by omega) _ (fun v h0 H => H)) (fun v1 h1 H => ?_)
  rcases H with ⟨rfl, pf1, rfl⟩ | ⟨rfl, pf2, pf3, rfl⟩
  refine st_if_eq c264_6 (by omega) (fun k4 => ?_) (fun k5 => False.elim (by omega))
  refine st_iconst c264_16 ?_
  refine st_ireturn c264_17 ?_
  exact hQ _ _ ⟨(-1), rfl, by omega, pre0, hT, hF⟩
  refine st_if_eq c264_6 (by omega) (fun k6 => False.elim (by omega)) (fun k7 => ?_)
  refine st_iload c264_9 rfl ?_
  refine st_calls (as := [vI p2]) c264_10 cm_181 rfl rfl rfl rfl (by omega) (K181 hT p2 (by omega) (d - 1) (by omega) _ (fun v h0 H => H)) (fun v1 h1 H => ?_)
  rcases H with ⟨rfl, pf8, rfl⟩ | ⟨rfl, pf9, pf10, rfl⟩
  refine st_if_ne c264_13 (by omega) (fun k11 => False.elim (by omega)) (fun k12 => ?_)
  refine st_iconst c264_16 ?_
  refine st_ireturn c264_17 ?_
  exact hQ _ _ ⟨(-1), rfl, by omega, pre0, hT, hF⟩
  refine st_if_ne c264_13 (by omega) (fun k13 => ?_) (fun k14 => False.elim (by omega))
  refine st_aload c264_18 rfl ?_
  refine st_getI c264_19 hT (tf hT rfl rfl) fd_8_78 (fun e15 e16 => ?_)
  refine st_iconst c264_22 ?_
  refine st_icmp_ne c264_24 (by omega) (by omega) (fun k17 => ?_) (fun k18 => ?_)
  refine st_aload c264_30 rfl ?_
  refine st_aload c264_31 rfl ?_
  refine st_getI c264_32 hT (tf hT rfl rfl) fd_8_78 (fun e19 e20 => ?_)
  refine st_putI c264_35 hT (tf hT rfl rfl) fd_8_92 (by omega) (by omega) (Ext_rf _) hS hF (by decide +kernel) (fun h21 hT22 hF23 hU24 => ?_)
  refine st_aload c264_38 rfl ?_
  refine st_iconst c264_39 ?_
  refine st_putI c264_40 hT22 (tf hT22 rfl rfl) fd_8_93 (by omega) (by omega) (Ext_rf _) hS hF23 (by decide +kernel) (fun h25 hT26 hF27 hU28 => ?_)
  refine st_aload c264_43 rfl ?_
  refine st_iconst c264_44 ?_
  refine st_putI c264_45 hT26 (tf hT26 rfl rfl) fd_8_90 (by omega) (by omega) (Ext_rf _) hS hF27 (by decide +kernel) (fun h29 hT30 hF31 hU32 => ?_)
  refine st_aload c264_48 rfl ?_
  refine st_iconst c264_49 ?_
  refine st_putI c264_50 hT30 (tf hT30 rfl rfl) fd_8_91 (by omega) (by omega) (Ext_rf _) hS hF31 (by decide +kernel) (fun h33 hT34 hF35 hU36 => ?_)
  refine st_aload c264_53 rfl ?_
  refine st_iconst c264_54 ?_
  refine st_putI c264_55 hT34 (tf hT34 rfl rfl) fd_8_87 (by omega) (by omega) (Ext_rf _) hS hF35 (by decide +kernel) (fun h37 hT38 hF39 hU40 => ?_)
  refine st_aload c264_58 rfl ?_
  have e41 := fI_bd (q := 64) hT38 (tf hT38 rfl rfl) fd_8_87
  have q42 : fI h37 64 87 = 0 := FUp_fI hU40 (by omega) (by omega)
  have e43 := fI_bd (q := 64) hT38 (tf hT38 rfl rfl) fd_8_77
  have q44 : fI h37 64 77 = fI h 64 77 := (FUp_fIne hU40 (fun z => absurd z.2 (by decide))).trans ((FUp_fIne hU36 (fun z => absurd z.2 (by decide))).trans ((FUp_fIne hU32 (fun z => absurd z.2 (by decide))).trans ((FUp_fIne hU28 (fun z => absurd z.2 (by decide))).trans (FUp_fIne hU24 (fun z => absurd z.2 (by decide))))))
  refine st_callt (as := []) c264_59 cm_252 hT38 (tf hT38 rfl rfl) fd_8_0 rfl rfl rfl rfl (by omega) (K252 hT38 (Stb_mono hS (by decide +kernel)) (by omega) (d - 1) (by omega) _ (fun v h0 H => H)) (fun v1 h45 H => ?_)
  obtain ⟨rfl, pf48, pf49, pf50, pf51, hT46, hF47⟩ := H
  have hF52 := Fr_cp hF39 hF47 (by decide +kernel : Wsub W252 W264 = true)
  have e53 := fI_bd (q := 64) hT46 (tf hT46 rfl rfl) fd_8_86
  have e54 := fI_bd (q := 64) hT46 (tf hT46 rfl rfl) fd_8_87
  have e55 := fI_bd (q := 64) hT46 (tf hT46 rfl rfl) fd_8_88
  refine st_aload c264_62 rfl ?_
  have e56 := fI_bd (q := 64) hT46 (tf hT46 rfl rfl) fd_8_77
  have q57 : fI h45 64 77 = fI h37 64 77 := Fr_fI hF47 (tf hT38 rfl rfl) (by decide +kernel)
  have e58 := fI_bd (q := 64) hT46 (tf hT46 rfl rfl) fd_8_93
  have q59 : fI h45 64 93 = 0 := (Fr_fI hF47 (tf hT38 rfl rfl) (by decide +kernel)).trans ((FUp_fIne hU40 (fun z => absurd z.2 (by decide))).trans ((FUp_fIne hU36 (fun z => absurd z.2 (by decide))).trans ((FUp_fIne hU32 (fun z => absurd z.2 (by decide))).trans (FUp_fI hU28 (by omega) (by omega)))))
  have e60 := fI_bd (q := 64) hT46 (tf hT46 rfl rfl) fd_8_91
  have q61 : fI h45 64 91 = 0 := (Fr_fI hF47 (tf hT38 rfl rfl) (by decide +kernel)).trans ((FUp_fIne hU40 (fun z => absurd z.2 (by decide))).trans (FUp_fI hU36 (by omega) (by omega)))
  have e62 := fI_bd (q := 64) hT46 (tf hT46 rfl rfl) fd_8_92
  have q63 : fI h45 64 92 = fI h 64 78 := (Fr_fI hF47 (tf hT38 rfl rfl) (by decide +kernel)).trans ((FUp_fIne hU40 (fun z => absurd z.2 (by decide))).trans ((FUp_fIne hU36 (fun z => absurd z.2 (by decide))).trans ((FUp_fIne hU32 (fun z => absurd z.2 (by decide))).trans ((FUp_fIne hU28 (fun z => absurd z.2 (by decide))).trans (FUp_fI hU24 (by omega) (by omega))))))
  refine st_callt (as := []) c264_63 cm_263 hT46 (tf hT46 rfl rfl) fd_8_0 rfl rfl rfl rfl (by omega) (K263 hT46 (Stb_mono hS (by decide +kernel)) (by omega) (by omega) (by omega) (by omega) (by omega) (d - 1) (by omega) _ (fun v h0 H => H)) (fun v1 h64 H => ?_)
  obtain ⟨rfl, pf67, pf68, pf69, pf70, pf71, pf72, pf73, pf74, pf75, pf76, hT65, hF66⟩ := H
  have hF77 := Fr_cp hF52 hF66 (by decide +kernel : Wsub W263 W264 = true)
  have e78 := fI_bd (q := 64) hT65 (tf hT65 rfl rfl) fd_8_86
  have e79 := fI_bd (q := 64) hT65 (tf hT65 rfl rfl) fd_8_87
  have e80 := fI_bd (q := 64) hT65 (tf hT65 rfl rfl) fd_8_88
  have e81 := fI_bd (q := 64) hT65 (tf hT65 rfl rfl) fd_8_93
  have e82 := fI_bd (q := 64) hT65 (tf hT65 rfl rfl) fd_8_90
  have e83 := fI_bd (q := 64) hT65 (tf hT65 rfl rfl) fd_8_91
  have lp142 : ∀ (n143 : Nat) (h138 : List mE), fI h138 64 77 - fI h138 64 86 < (n143 : Int) → fI h138 64 86 ≤ fI h138 64 87 → fI h138 64 87 ≤ fI h138 64 77 → fI h138 64 88 = 0 ∨ fI h138 64 86 + 1 ≤ fI h138 64 87 → fI h138 64 93 ≤ fI h138 64 86+1 → 0 ≤ fI h138 64 90 ∨ fI h138 64 91 = 0 → fI h138 64 92 = fI h 64 78 → fI h138 64 78 = fI h 64 78 → (∀ i : Int, 0 ≤ i → i < 220 * fI h 64 78 → aI h138 129 i = aI h 129 i) → (∀ i : Int, 0 ≤ i → i < 220 * fI h 64 78 → aI h138 130 i = aI h 130 i) → 0 ≤ fI h138 64 90 ∨ Zs h138 (220 * fI h 64 78) (fI h138 64 93) → TH E τ h138 → Fr τ W264 h h138 → Fr τ [(8, 86), (8, 87), (8, 88), (8, 89), (8, 90), (8, 91), (8, 93), (107, 0), (108, 0), (109, 0)] h64 h138 → MR (mex Ln xs) d 264 66 [some (.ref 64), some (vI p1), some (vI p2)] [] h138 Q := by
    intro n143
    induction n143 with
    | zero =>
      intro h138 hm145 x146 x147 x148 x149 x150 x151 x152 x153 x154 x155 hT139 hF140 hL141
      exfalso; omega
    | succ n143 ih144 =>
      intro h138 hm145 x146 x147 x148 x149 x150 x151 x152 x153 x154 x155 hT139 hF140 hL141
      have e156 := fI_bd (q := 64) hT139 (tf hT139 rfl rfl) fd_8_86
      have e157 := fI_bd (q := 64) hT139 (tf hT139 rfl rfl) fd_8_87
      have e158 := fI_bd (q := 64) hT139 (tf hT139 rfl rfl) fd_8_77
      have q159 : fI h138 64 77 = fI h45 64 77 := (Fr_fI hL141 (tf hT65 rfl rfl) (by decide +kernel)).trans (Fr_fI hF66 (tf hT46 rfl rfl) (by decide +kernel))
      have e160 := fI_bd (q := 64) hT139 (tf hT139 rfl rfl) fd_8_88
      have e161 := fI_bd (q := 64) hT139 (tf hT139 rfl rfl) fd_8_93
      have e162 := fI_bd (q := 64) hT139 (tf hT139 rfl rfl) fd_8_90
      have e163 := fI_bd (q := 64) hT139 (tf hT139 rfl rfl) fd_8_91
      have e164 := fI_bd (q := 64) hT139 (tf hT139 rfl rfl) fd_8_92
      have q165 : fI h138 64 92 = fI h45 64 92 := (Fr_fI hL141 (tf hT65 rfl rfl) (by decide +kernel)).trans (Fr_fI hF66 (tf hT46 rfl rfl) (by decide +kernel))
      have e166 := fI_bd (q := 64) hT139 (tf hT139 rfl rfl) fd_8_78
      have q167 : fI h138 64 78 = fI h 64 78 := (Fr_fI hL141 (tf hT65 rfl rfl) (by decide +kernel)).trans ((Fr_fI hF66 (tf hT46 rfl rfl) (by decide +kernel)).trans ((Fr_fI hF47 (tf hT38 rfl rfl) (by decide +kernel)).trans ((FUp_fIne hU40 (fun z => absurd z.2 (by decide))).trans ((FUp_fIne hU36 (fun z => absurd z.2 (by decide))).trans ((FUp_fIne hU32 (fun z => absurd z.2 (by decide))).trans ((FUp_fIne hU28 (fun z => absurd z.2 (by decide))).trans (FUp_fIne hU24 (fun z => absurd z.2 (by decide)))))))))
      refine st_aload c264_66 rfl ?_
      refine st_getI c264_67 hT139 (tf hT139 rfl rfl) fd_8_90 (fun e168 e169 => ?_)
      refine st_if_ge c264_70 (by omega) (fun k170 => ?_) (fun k171 => ?_)
      refine st_aload c264_93 rfl ?_
      refine st_getI c264_94 hT139 (tf hT139 rfl rfl) fd_8_90 (fun e172 e173 => ?_)
      refine st_if_ge c264_97 (by omega) (fun k174 => ?_) (fun k175 => False.elim (by omega))
      refine st_aload c264_111 rfl ?_
      refine st_iconst c264_112 ?_
      refine st_putI c264_113 hT139 (tf hT139 rfl rfl) fd_8_77 (by omega) (by omega) (Ext_rf _) hS hF140 (by decide +kernel) (fun h176 hT177 hF178 hU179 => ?_)
      refine st_aload c264_116 rfl ?_
      refine st_getI c264_117 hT177 (tf hT177 rfl rfl) fd_8_90 (fun e180 e181 => ?_)
      have q182 : fI h176 64 90 = fI h138 64 90 := FUp_fIne hU179 (fun z => absurd z.2 (by decide))
      refine st_if_lt c264_120 (by omega) (fun k183 => False.elim (by omega)) (fun k184 => ?_)
      refine st_iconst c264_123 ?_
      refine st_aload c264_125 rfl ?_
      refine st_getI c264_126 hT177 (tf hT177 rfl rfl) fd_8_90 (fun e185 e186 => ?_)
      have q187 : fI h176 64 90 = fI h138 64 90 := FUp_fIne hU179 (fun z => absurd z.2 (by decide))
      refine st_isub c264_129 ?_
      refine MR_wrap (fun w188 e189 e190 e191 => ?_)
      refine st_ireturn c264_130 ?_
      have e192 := fI_bd (q := 64) hT177 (tf hT177 rfl rfl) fd_8_78
      have q193 : fI h176 64 78 = fI h138 64 78 := FUp_fIne hU179 (fun z => absurd z.2 (by decide))
      have fr195 : ∀ i : Int, 0 ≤ i → i < 220 * fI h 64 78 → aI h176 129 i = aI h 129 i := fun i a b => ((FUp_aI hU179 i)).trans ((x153 i a b))
      have fr196 : ∀ i : Int, 0 ≤ i → i < 220 * fI h 64 78 → aI h176 130 i = aI h 130 i := fun i a b => ((FUp_aI hU179 i)).trans ((x154 i a b))
      have iv194 := I4_kp pre0 (by omega) (fun t => (FUp_aI hU179 t).trans ((Fr_aI hL141 (tf hT65 rfl rfl) (by decide +kernel) t).trans ((Fr_aI hF66 (tf hT46 rfl rfl) (by decide +kernel) t).trans ((Fr_aI hF47 (tf hT38 rfl rfl) (by decide +kernel) t).trans ((FUp_aI hU40 t).trans ((FUp_aI hU36 t).trans ((FUp_aI hU32 t).trans ((FUp_aI hU28 t).trans (FUp_aI hU24 t))))))))) (aI_bd hT (tf (q := 128) (t := 106) hT rfl rfl) ay_106) fr195 fr196
      exact hQ _ _ ⟨w188, rfl, by omega, iv194, hT177, hF178⟩
      refine st_aload c264_73 rfl ?_
      refine st_getI c264_74 hT139 (tf hT139 rfl rfl) fd_8_88 (fun e197 e198 => ?_)
      refine st_iconst c264_77 ?_
      refine st_icmp_ne c264_79 (by omega) (by omega) (fun k199 => ?_) (fun k200 => ?_)
      refine st_aload c264_93 rfl ?_
      refine st_getI c264_94 hT139 (tf hT139 rfl rfl) fd_8_90 (fun e201 e202 => ?_)
      refine st_if_ge c264_97 (by omega) (fun k203 => False.elim (by omega)) (fun k204 => ?_)
      refine st_aload c264_100 rfl ?_
      refine st_getI c264_101 hT139 (tf hT139 rfl rfl) fd_8_88 (fun e205 e206 => ?_)
      refine st_if_eq c264_104 (by omega) (fun k207 => ?_) (fun k208 => ?_)
      refine st_aload c264_111 rfl ?_
      refine st_iconst c264_112 ?_
      refine st_putI c264_113 hT139 (tf hT139 rfl rfl) fd_8_77 (by omega) (by omega) (Ext_rf _) hS hF140 (by decide +kernel) (fun h209 hT210 hF211 hU212 => ?_)
      refine st_aload c264_116 rfl ?_
      refine st_getI c264_117 hT210 (tf hT210 rfl rfl) fd_8_90 (fun e213 e214 => ?_)
      have q215 : fI h209 64 90 = fI h138 64 90 := FUp_fIne hU212 (fun z => absurd z.2 (by decide))
      refine st_if_lt c264_120 (by omega) (fun k216 => ?_) (fun k217 => False.elim (by omega))
      refine st_aload c264_131 rfl ?_
      refine st_getX (u := 125) c264_132 hT210 (tf hT210 rfl rfl) fd_8_79 rfl ?_
      refine st_aload c264_135 rfl ?_
      refine st_getI c264_136 hT210 (tf hT210 rfl rfl) fd_8_78 (fun e218 e219 => ?_)
      have q220 : fI h209 64 78 = fI h138 64 78 := FUp_fIne hU212 (fun z => absurd z.2 (by decide))
      refine st_iload c264_139 rfl ?_
      refine st_iast c264_140 hT210 (tf hT210 rfl rfl) ay_103 (by omega) (by omega) (by omega) (Ext_rf _) hS hF211 (by decide +kernel) (fun h221 hT222 hF223 hU224 => ?_)
      refine st_aload c264_141 rfl ?_
      refine st_getX (u := 126) c264_142 hT222 (tf hT222 rfl rfl) fd_8_80 rfl ?_
      refine st_aload c264_145 rfl ?_
      refine st_getI c264_146 hT222 (tf hT222 rfl rfl) fd_8_78 (fun e225 e226 => ?_)
      have q227 : fI h221 64 78 = fI h209 64 78 := AUp_fI hU224
      refine st_aload c264_149 rfl ?_
      refine st_callt (as := []) c264_150 cm_182 hT222 (tf hT222 rfl rfl) fd_8_0 rfl rfl rfl rfl (by omega) (K182 hT222 (d - 1) (by omega) _ (fun v h0 H => H)) (fun v1 h1 H => ?_)
      obtain ⟨z228, rfl, b229, rfl⟩ := H
      refine st_iast c264_153 hT222 (tf hT222 rfl rfl) ay_104 (by omega) (by omega) (by omega) (Ext_rf _) hS hF223 (by decide +kernel) (fun h230 hT231 hF232 hU233 => ?_)
      refine st_aload c264_154 rfl ?_
      refine st_getX (u := 127) c264_155 hT231 (tf hT231 rfl rfl) fd_8_81 rfl ?_
      refine st_aload c264_158 rfl ?_
      refine st_getI c264_159 hT231 (tf hT231 rfl rfl) fd_8_78 (fun e234 e235 => ?_)
      have q236 : fI h230 64 78 = fI h221 64 78 := AUp_fI hU233
      refine st_iload c264_162 rfl ?_
      refine st_iast c264_163 hT231 (tf hT231 rfl rfl) ay_105 (by omega) (by omega) (by omega) (Ext_rf _) hS hF232 (by decide +kernel) (fun h237 hT238 hF239 hU240 => ?_)
      refine st_aload c264_164 rfl ?_
      refine st_getX (u := 128) c264_165 hT238 (tf hT238 rfl rfl) fd_8_82 rfl ?_
      refine st_aload c264_168 rfl ?_
      refine st_getI c264_169 hT238 (tf hT238 rfl rfl) fd_8_78 (fun e241 e242 => ?_)
      have q243 : fI h237 64 78 = fI h230 64 78 := AUp_fI hU240
      refine st_aload c264_172 rfl ?_
      refine st_getI c264_173 hT238 (tf hT238 rfl rfl) fd_8_93 (fun e244 e245 => ?_)
      have q246 : fI h237 64 93 = fI h138 64 93 := (AUp_fI hU240).trans ((AUp_fI hU233).trans ((AUp_fI hU224).trans (FUp_fIne hU212 (fun z => absurd z.2 (by decide)))))
      refine st_iast c264_176 hT238 (tf hT238 rfl rfl) ay_106 (by omega) (by omega) (by omega) (Ext_rf _) hS hF239 (by decide +kernel) (fun h247 hT248 hF249 hU250 => ?_)
      refine st_aload c264_177 rfl ?_
      refine st_dup c264_178 rfl ?_
      refine st_getI c264_179 hT248 (tf hT248 rfl rfl) fd_8_78 (fun e251 e252 => ?_)
      have q253 : fI h247 64 78 = fI h237 64 78 := AUp_fI hU250
      refine st_iconst c264_182 ?_
      refine st_iadd c264_183 ?_
      refine st_putI c264_184 hT248 (tf hT248 rfl rfl) fd_8_78 (by omega) (by omega) (Ext_rf _) hS hF249 (by decide +kernel) (fun h254 hT255 hF256 hU257 => ?_)
      refine st_aload c264_187 rfl ?_
      refine st_getI c264_188 hT255 (tf hT255 rfl rfl) fd_8_78 (fun e258 e259 => ?_)
      have q260 : fI h254 64 78 = (fI h247 64 78) + 1 := FUp_fI hU257 (by omega) (by omega)
      refine st_iconst c264_191 ?_
      refine st_isub c264_192 ?_
      refine st_ireturn c264_193 ?_
      have fr262 : ∀ i : Int, 0 ≤ i → i < 220 * fI h 64 78 → aI h254 129 i = aI h 129 i := fun i a b => ((FUp_aI hU257 i)).trans (((AUp_aIne hU250 (by decide) i)).trans (((AUp_aIne hU240 (by decide) i)).trans (((AUp_aIne hU233 (by decide) i)).trans (((AUp_aIne hU224 (by decide) i)).trans (((FUp_aI hU212 i)).trans ((x153 i a b)))))))
      have fr263 : ∀ i : Int, 0 ≤ i → i < 220 * fI h 64 78 → aI h254 130 i = aI h 130 i := fun i a b => ((FUp_aI hU257 i)).trans (((AUp_aIne hU250 (by decide) i)).trans (((AUp_aIne hU240 (by decide) i)).trans (((AUp_aIne hU233 (by decide) i)).trans (((AUp_aIne hU224 (by decide) i)).trans (((FUp_aI hU212 i)).trans ((x154 i a b)))))))
      have fr264 : ∀ i : Int, 0 ≤ i → i < fI h 64 78 → aI h254 128 i = aI h 128 i := fun i a b => ((FUp_aI hU257 i)).trans ((((AUp_aI hU250 (by omega) (by omega) (by omega) a).trans (if_neg (by omega)))).trans (((AUp_aIne hU240 (by decide) i)).trans (((AUp_aIne hU233 (by decide) i)).trans (((AUp_aIne hU224 (by decide) i)).trans (((FUp_aI hU212 i)).trans (((Fr_aI hL141 (tf hT65 rfl rfl) (by decide +kernel) i)).trans (((Fr_aI hF66 (tf hT46 rfl rfl) (by decide +kernel) i)).trans (((Fr_aI hF47 (tf hT38 rfl rfl) (by decide +kernel) i)).trans (((FUp_aI hU40 i)).trans (((FUp_aI hU36 i)).trans (((FUp_aI hU32 i)).trans (((FUp_aI hU28 i)).trans ((FUp_aI hU24 i))))))))))))))
      have a1 : aI h254 128 (fI h 64 78) = fI h237 64 93 := (FUp_aI hU257 (fI h 64 78)).trans ((AUp_aI hU250 (by omega) (by omega) (by omega) (by omega)).trans (if_pos (by omega)))
      have gx := x155.resolve_left (by omega)
      have fr265 : ∀ i : Int, 0 ≤ i → i < 220 * fI h 64 78 + fI h138 64 93 → aI h254 129 i = aI h138 129 i := fun i a b => ((FUp_aI hU257 i)).trans (((AUp_aIne hU250 (by decide) i)).trans (((AUp_aIne hU240 (by decide) i)).trans (((AUp_aIne hU233 (by decide) i)).trans (((AUp_aIne hU224 (by decide) i)).trans ((FUp_aI hU212 i))))))
      have fr266 : ∀ i : Int, 0 ≤ i → i < 220 * fI h 64 78 + fI h138 64 93 → aI h254 130 i = aI h138 130 i := fun i a b => ((FUp_aI hU257 i)).trans (((AUp_aIne hU250 (by decide) i)).trans (((AUp_aIne hU240 (by decide) i)).trans (((AUp_aIne hU233 (by decide) i)).trans (((AUp_aIne hU224 (by decide) i)).trans ((FUp_aI hU212 i))))))
      have k1 : Zs h254 (220 * fI h 64 78) (fI h138 64 93) := Zs_mv gx (fun i a b => ⟨fr265 i (by omega) (by omega), fr266 i (by omega) (by omega)⟩)
      have iv261 := I4_add pre0 (by omega) fr264 (aI_bd hT (tf (q := 128) (t := 106) hT rfl rfl) ay_106) fr262 fr263 (by rw [a1, show fI h237 64 93 = fI h138 64 93 by omega]; exact k1)
      exact hQ _ _ ⟨(fI h254 64 78) - 1, rfl, by omega, iv261, hT255, hF256⟩
      refine st_aload c264_107 rfl ?_
      refine st_callt (as := []) c264_108 cm_254 hT139 (tf hT139 rfl rfl) fd_8_0 rfl rfl rfl rfl (by omega) (K254 hT139 (Stb_mono hS (by decide +kernel)) (d - 1) (by omega) _ (fun v h0 H => H)) (fun v1 h267 H => ?_)
      obtain ⟨rfl, pf270, pf271, hT268, hF269⟩ := H
      have hF272 := Fr_cp hF140 hF269 (by decide +kernel : Wsub W254 W264 = true)
      have e273 := fI_bd (q := 64) hT268 (tf hT268 rfl rfl) fd_8_90
      refine st_aload c264_111 rfl ?_
      refine st_iconst c264_112 ?_
      refine st_putI c264_113 hT268 (tf hT268 rfl rfl) fd_8_77 (by omega) (by omega) (Ext_rf _) hS hF272 (by decide +kernel) (fun h274 hT275 hF276 hU277 => ?_)
      refine st_aload c264_116 rfl ?_
      refine st_getI c264_117 hT275 (tf hT275 rfl rfl) fd_8_90 (fun e278 e279 => ?_)
      have q280 : fI h274 64 90 = fI h267 64 90 := FUp_fIne hU277 (fun z => absurd z.2 (by decide))
      refine st_if_lt c264_120 (by omega) (fun k281 => False.elim (by omega)) (fun k282 => ?_)
      refine st_iconst c264_123 ?_
      refine st_aload c264_125 rfl ?_
      refine st_getI c264_126 hT275 (tf hT275 rfl rfl) fd_8_90 (fun e283 e284 => ?_)
      have q285 : fI h274 64 90 = fI h267 64 90 := FUp_fIne hU277 (fun z => absurd z.2 (by decide))
      refine st_isub c264_129 ?_
      refine MR_wrap (fun w286 e287 e288 e289 => ?_)
      refine st_ireturn c264_130 ?_
      have e290 := fI_bd (q := 64) hT275 (tf hT275 rfl rfl) fd_8_78
      have q291 : fI h274 64 78 = fI h138 64 78 := (FUp_fIne hU277 (fun z => absurd z.2 (by decide))).trans (Fr_fI hF269 (tf hT139 rfl rfl) (by decide +kernel))
      have fr293 : ∀ i : Int, 0 ≤ i → i < 220 * fI h 64 78 → aI h274 129 i = aI h 129 i := fun i a b => ((FUp_aI hU277 i)).trans (((Fr_aI hF269 (tf hT139 rfl rfl) (by decide +kernel) i)).trans ((x153 i a b)))
      have fr294 : ∀ i : Int, 0 ≤ i → i < 220 * fI h 64 78 → aI h274 130 i = aI h 130 i := fun i a b => ((FUp_aI hU277 i)).trans (((Fr_aI hF269 (tf hT139 rfl rfl) (by decide +kernel) i)).trans ((x154 i a b)))
      have iv292 := I4_kp pre0 (by omega) (fun t => (FUp_aI hU277 t).trans ((Fr_aI hF269 (tf hT139 rfl rfl) (by decide +kernel) t).trans ((Fr_aI hL141 (tf hT65 rfl rfl) (by decide +kernel) t).trans ((Fr_aI hF66 (tf hT46 rfl rfl) (by decide +kernel) t).trans ((Fr_aI hF47 (tf hT38 rfl rfl) (by decide +kernel) t).trans ((FUp_aI hU40 t).trans ((FUp_aI hU36 t).trans ((FUp_aI hU32 t).trans ((FUp_aI hU28 t).trans (FUp_aI hU24 t)))))))))) (aI_bd hT (tf (q := 128) (t := 106) hT rfl rfl) ay_106) fr293 fr294
      exact hQ _ _ ⟨w286, rfl, by omega, iv292, hT275, hF276⟩
      refine st_aload c264_82 rfl ?_
      refine st_callt (as := []) c264_83 cm_252 hT139 (tf hT139 rfl rfl) fd_8_0 rfl rfl rfl rfl (by omega) (K252 hT139 (Stb_mono hS (by decide +kernel)) (by omega) (d - 1) (by omega) _ (fun v h0 H => H)) (fun v1 h295 H => ?_)
      obtain ⟨rfl, pf298, pf299, pf300, pf301, hT296, hF297⟩ := H
      have hF302 := Fr_cp hF140 hF297 (by decide +kernel : Wsub W252 W264 = true)
      have e303 := fI_bd (q := 64) hT296 (tf hT296 rfl rfl) fd_8_86
      have e304 := fI_bd (q := 64) hT296 (tf hT296 rfl rfl) fd_8_87
      have e305 := fI_bd (q := 64) hT296 (tf hT296 rfl rfl) fd_8_88
      refine st_aload c264_86 rfl ?_
      have e306 := fI_bd (q := 64) hT296 (tf hT296 rfl rfl) fd_8_77
      have q307 : fI h295 64 77 = fI h138 64 77 := Fr_fI hF297 (tf hT139 rfl rfl) (by decide +kernel)
      have e308 := fI_bd (q := 64) hT296 (tf hT296 rfl rfl) fd_8_93
      have q309 : fI h295 64 93 = fI h138 64 93 := Fr_fI hF297 (tf hT139 rfl rfl) (by decide +kernel)
      have e310 := fI_bd (q := 64) hT296 (tf hT296 rfl rfl) fd_8_91
      have q311 : fI h295 64 91 = fI h138 64 91 := Fr_fI hF297 (tf hT139 rfl rfl) (by decide +kernel)
      have e312 := fI_bd (q := 64) hT296 (tf hT296 rfl rfl) fd_8_92
      have q313 : fI h295 64 92 = fI h138 64 92 := Fr_fI hF297 (tf hT139 rfl rfl) (by decide +kernel)
      refine st_callt (as := []) c264_87 cm_263 hT296 (tf hT296 rfl rfl) fd_8_0 rfl rfl rfl rfl (by omega) (K263 hT296 (Stb_mono hS (by decide +kernel)) (by omega) (by omega) (by omega) (by omega) (by omega) (d - 1) (by omega) _ (fun v h0 H => H)) (fun v1 h314 H => ?_)
      obtain ⟨rfl, pf317, pf318, pf319, pf320, pf321, pf322, pf323, pf324, pf325, pf326, hT315, hF316⟩ := H
      have hF327 := Fr_cp hF302 hF316 (by decide +kernel : Wsub W263 W264 = true)
      have e328 := fI_bd (q := 64) hT315 (tf hT315 rfl rfl) fd_8_86
      have e329 := fI_bd (q := 64) hT315 (tf hT315 rfl rfl) fd_8_87
      have e330 := fI_bd (q := 64) hT315 (tf hT315 rfl rfl) fd_8_88
      have e331 := fI_bd (q := 64) hT315 (tf hT315 rfl rfl) fd_8_93
      have e332 := fI_bd (q := 64) hT315 (tf hT315 rfl rfl) fd_8_90
      have e333 := fI_bd (q := 64) hT315 (tf hT315 rfl rfl) fd_8_91
      refine st_goto c264_90 ?_
      have e334 := fI_bd (q := 64) hT315 (tf hT315 rfl rfl) fd_8_92
      have q335 : fI h314 64 92 = fI h295 64 92 := Fr_fI hF316 (tf hT296 rfl rfl) (by decide +kernel)
      have sg336 : 0 ≤ fI h314 64 90 ∨ Zs h314 (220 * fI h 64 78) (fI h314 64 93) := by
        rcases pf326 with q | q
        · exact Or.inl (by omega)
        · refine Or.inr ?_
          have gx := x155.resolve_left (by omega)
          have fr337 : ∀ i : Int, 0 ≤ i → i < 220 * fI h 64 78 + fI h138 64 93 → aI h314 129 i = aI h138 129 i := fun i a b => ((pf324 i a (by omega))).trans ((Fr_aI hF297 (tf hT139 rfl rfl) (by decide +kernel) i))
          have fr338 : ∀ i : Int, 0 ≤ i → i < 220 * fI h 64 78 + fI h138 64 93 → aI h314 130 i = aI h138 130 i := fun i a b => ((pf325 i a (by omega))).trans ((Fr_aI hF297 (tf hT139 rfl rfl) (by decide +kernel) i))
          have k1 : Zs h314 (220 * fI h 64 78) (fI h138 64 93) := Zs_mv gx (fun i a b => ⟨fr337 i (by omega) (by omega), fr338 i (by omega) (by omega)⟩)
          rw [show fI h314 64 93 = fI h138 64 93 + (fI h314 64 93 - fI h295 64 93) by omega]
          exact Zs_cat k1 (by rw [show 220 * fI h 64 78 + fI h138 64 93 = 220 * fI h295 64 92 + fI h295 64 93 by omega]; exact q)
      have e339 := fI_bd (q := 64) hT315 (tf hT315 rfl rfl) fd_8_77
      have q340 : fI h314 64 77 = fI h295 64 77 := Fr_fI hF316 (tf hT296 rfl rfl) (by decide +kernel)
      have e341 := fI_bd (q := 64) hT315 (tf hT315 rfl rfl) fd_8_78
      have q342 : fI h314 64 78 = fI h138 64 78 := (Fr_fI hF316 (tf hT296 rfl rfl) (by decide +kernel)).trans (Fr_fI hF297 (tf hT139 rfl rfl) (by decide +kernel))
      have fr343 : ∀ i : Int, 0 ≤ i → i < 220 * fI h 64 78 → aI h314 129 i = aI h 129 i := fun i a b => ((pf324 i a (by omega))).trans (((Fr_aI hF297 (tf hT139 rfl rfl) (by decide +kernel) i)).trans ((x153 i a b)))
      have fr344 : ∀ i : Int, 0 ≤ i → i < 220 * fI h 64 78 → aI h314 130 i = aI h 130 i := fun i a b => ((pf325 i a (by omega))).trans (((Fr_aI hF297 (tf hT139 rfl rfl) (by decide +kernel) i)).trans ((x154 i a b)))
      exact ih144 h314 (by omega) (by omega) (by omega) (by omega) (by omega) (by omega) (by omega) (by omega) fr343 fr344 sg336 hT315 hF327 (Fr_cp (Fr_cp hL141 hF297 (by decide +kernel)) hF316 (by decide +kernel))
  have e345 := fI_bd (q := 64) hT65 (tf hT65 rfl rfl) fd_8_92
  have q346 : fI h64 64 92 = fI h45 64 92 := Fr_fI hF66 (tf hT46 rfl rfl) (by decide +kernel)
  have sg347 : 0 ≤ fI h64 64 90 ∨ Zs h64 (220 * fI h 64 78) (fI h64 64 93) := by
    rcases pf76 with q | q
    · exact Or.inl (by omega)
    · refine Or.inr ?_
      rw [show 220 * fI h 64 78 = 220 * fI h45 64 92 + fI h45 64 93 by omega, show fI h64 64 93 = fI h64 64 93 - fI h45 64 93 by omega]
      exact q
  have e348 := fI_bd (q := 64) hT65 (tf hT65 rfl rfl) fd_8_77
  have q349 : fI h64 64 77 = fI h45 64 77 := Fr_fI hF66 (tf hT46 rfl rfl) (by decide +kernel)
  have e350 := fI_bd (q := 64) hT65 (tf hT65 rfl rfl) fd_8_78
  have q351 : fI h64 64 78 = fI h 64 78 := (Fr_fI hF66 (tf hT46 rfl rfl) (by decide +kernel)).trans ((Fr_fI hF47 (tf hT38 rfl rfl) (by decide +kernel)).trans ((FUp_fIne hU40 (fun z => absurd z.2 (by decide))).trans ((FUp_fIne hU36 (fun z => absurd z.2 (by decide))).trans ((FUp_fIne hU32 (fun z => absurd z.2 (by decide))).trans ((FUp_fIne hU28 (fun z => absurd z.2 (by decide))).trans (FUp_fIne hU24 (fun z => absurd z.2 (by decide))))))))
  have fr352 : ∀ i : Int, 0 ≤ i → i < 220 * fI h 64 78 → aI h64 129 i = aI h 129 i := fun i a b => ((pf74 i a (by omega))).trans (((Fr_aI hF47 (tf hT38 rfl rfl) (by decide +kernel) i)).trans (((FUp_aI hU40 i)).trans (((FUp_aI hU36 i)).trans (((FUp_aI hU32 i)).trans (((FUp_aI hU28 i)).trans ((FUp_aI hU24 i)))))))
  have fr353 : ∀ i : Int, 0 ≤ i → i < 220 * fI h 64 78 → aI h64 130 i = aI h 130 i := fun i a b => ((pf75 i a (by omega))).trans (((Fr_aI hF47 (tf hT38 rfl rfl) (by decide +kernel) i)).trans (((FUp_aI hU40 i)).trans (((FUp_aI hU36 i)).trans (((FUp_aI hU32 i)).trans (((FUp_aI hU28 i)).trans ((FUp_aI hU24 i)))))))
  exact lp142 (((fI h64 64 77 - fI h64 64 86 : Int) + 1).toNat) h64 (by omega) (by omega) (by omega) (by omega) (by omega) (by omega) (by omega) (by omega) fr352 fr353 sg347 hT65 hF77 (Fr_rf _ _ _)
  refine st_iconst c264_27 ?_
  refine st_ireturn c264_29 ?_
  exact hQ _ _ ⟨(-3), rfl, by omega, pre0, hT, hF⟩
