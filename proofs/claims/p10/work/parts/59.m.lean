def W264 : List (Nat × Nat) := [(8, 77), (8, 78), (8, 86), (8, 87), (8, 88), (8, 89), (8, 90), (8, 91), (8, 92), (8, 93), (103, 0), (104, 0), (105, 0), (106, 0), (107, 0), (108, 0), (109, 0)]
set_option maxHeartbeats 0 in
theorem K264 {Ln : Nat} {xs : Nat → Int32} {τ : List Nat} {h : List mE} {E : EP} (hT : TH E τ h) (hS : Stb E W264) (p1 : Int) (hp1 : (-2147483648) ≤ p1 ∧ p1 ≤ 2147483647) (p2 : Int) (hp2 : (-2147483648) ≤ p2 ∧ p2 ≤ 2147483647) (pre0 : I4 h) (d : Nat) (hd : 87 ≤ d) (Q : Option Value → List mE → Prop) (hQ : ∀ v h', (∃ z : Int, v = some (vI z) ∧ ((-2147483648) ≤ z ∧ z ≤ 2147483647) ∧ (I4 h') ∧ (PTmR h h' p1 p2 z) ∧ TH E τ h' ∧ Fr τ W264 h h') → Q v h') : MR (mex Ln xs) d 264 0 [some (.ref 64), some (vI p1), some (vI p2)] [] h Q := by
  have hF := Fr_rf τ W264 h
  refine st_iload c264_0 rfl ?_
  refine st_iconst c264_1 ?_
  refine st_iconst c264_2 ?_
  refine st_calls (as := [vI p1, vI 0, vI 1]) c264_3 cm_180 rfl rfl rfl rfl (by omega) (K180 hT p1 (by omega) 0 (by omega) 1 (by omega) (d - 1) (by omega) _ (fun v h0 H => H)) (fun v1 h1 H => ?_)
  rcases H with ⟨rfl, pf1, rfl⟩ | ⟨rfl, pf2, pf3, rfl⟩
  refine st_if_eq c264_6 (by omega) (fun k4 => ?_) (fun k5 => False.elim (by omega))
  refine st_iconst c264_16 ?_
  refine st_ireturn c264_17 ?_
  have e6 := fI_bd (q := 64) hT (tf hT rfl rfl) fd_8_77
  have e7 := fI_bd (q := 64) hT (tf hT rfl rfl) fd_8_78
  have e8 := fI_bd (q := 64) hT (tf hT rfl rfl) fd_8_87
  have e9 := fI_bd (q := 64) hT (tf hT rfl rfl) fd_8_88
  have e10 := fI_bd (q := 64) hT (tf hT rfl rfl) fd_8_90
  have e11 := fI_bd (q := 64) hT (tf hT rfl rfl) fd_8_77
  have e12 := fI_bd (q := 64) hT (tf hT rfl rfl) fd_8_78
  have e13 := fI_bd (q := 64) hT (tf hT rfl rfl) fd_8_87
  have e14 := fI_bd (q := 64) hT (tf hT rfl rfl) fd_8_88
  have e15 := fI_bd (q := 64) hT (tf hT rfl rfl) fd_8_90
  exact hQ _ _ ⟨(-1), rfl, by omega, pre0, ⟨rfl, Or.inl ⟨by omega, by omega, by omega, by omega⟩⟩, hT, hF⟩
  refine st_if_eq c264_6 (by omega) (fun k16 => False.elim (by omega)) (fun k17 => ?_)
  refine st_iload c264_9 rfl ?_
  refine st_calls (as := [vI p2]) c264_10 cm_181 rfl rfl rfl rfl (by omega) (K181 hT p2 (by omega) (d - 1) (by omega) _ (fun v h0 H => H)) (fun v1 h1 H => ?_)
  rcases H with ⟨rfl, pf18, rfl⟩ | ⟨rfl, pf19, pf20, rfl⟩
  refine st_if_ne c264_13 (by omega) (fun k21 => False.elim (by omega)) (fun k22 => ?_)
  refine st_iconst c264_16 ?_
  refine st_ireturn c264_17 ?_
  have e23 := fI_bd (q := 64) hT (tf hT rfl rfl) fd_8_77
  have e24 := fI_bd (q := 64) hT (tf hT rfl rfl) fd_8_78
  have e25 := fI_bd (q := 64) hT (tf hT rfl rfl) fd_8_87
  have e26 := fI_bd (q := 64) hT (tf hT rfl rfl) fd_8_88
  have e27 := fI_bd (q := 64) hT (tf hT rfl rfl) fd_8_90
  have e28 := fI_bd (q := 64) hT (tf hT rfl rfl) fd_8_77
  have e29 := fI_bd (q := 64) hT (tf hT rfl rfl) fd_8_78
  have e30 := fI_bd (q := 64) hT (tf hT rfl rfl) fd_8_87
  have e31 := fI_bd (q := 64) hT (tf hT rfl rfl) fd_8_88
  have e32 := fI_bd (q := 64) hT (tf hT rfl rfl) fd_8_90
  exact hQ _ _ ⟨(-1), rfl, by omega, pre0, ⟨rfl, Or.inl ⟨by omega, by omega, by omega, by omega⟩⟩, hT, hF⟩
  refine st_if_ne c264_13 (by omega) (fun k33 => ?_) (fun k34 => False.elim (by omega))
  refine st_aload c264_18 rfl ?_
  refine st_getI c264_19 hT (tf hT rfl rfl) fd_8_78 (fun e35 e36 => ?_)
  refine st_iconst c264_22 ?_
  refine st_icmp_ne c264_24 (by omega) (by omega) (fun k37 => ?_) (fun k38 => ?_)
  refine st_aload c264_30 rfl ?_
  refine st_aload c264_31 rfl ?_
  refine st_getI c264_32 hT (tf hT rfl rfl) fd_8_78 (fun e39 e40 => ?_)
  refine st_putI c264_35 hT (tf hT rfl rfl) fd_8_92 (by omega) (by omega) (Ext_rf _) hS hF (by decide +kernel) (fun h41 hT42 hF43 hU44 => ?_)
  refine st_aload c264_38 rfl ?_
  refine st_iconst c264_39 ?_
  refine st_putI c264_40 hT42 (tf hT42 rfl rfl) fd_8_93 (by omega) (by omega) (Ext_rf _) hS hF43 (by decide +kernel) (fun h45 hT46 hF47 hU48 => ?_)
  refine st_aload c264_43 rfl ?_
  refine st_iconst c264_44 ?_
  refine st_putI c264_45 hT46 (tf hT46 rfl rfl) fd_8_90 (by omega) (by omega) (Ext_rf _) hS hF47 (by decide +kernel) (fun h49 hT50 hF51 hU52 => ?_)
  refine st_aload c264_48 rfl ?_
  refine st_iconst c264_49 ?_
  refine st_putI c264_50 hT50 (tf hT50 rfl rfl) fd_8_91 (by omega) (by omega) (Ext_rf _) hS hF51 (by decide +kernel) (fun h53 hT54 hF55 hU56 => ?_)
  refine st_aload c264_53 rfl ?_
  refine st_iconst c264_54 ?_
  refine st_putI c264_55 hT54 (tf hT54 rfl rfl) fd_8_87 (by omega) (by omega) (Ext_rf _) hS hF55 (by decide +kernel) (fun h57 hT58 hF59 hU60 => ?_)
  refine st_aload c264_58 rfl ?_
  have e61 := fI_bd (q := 64) hT58 (tf hT58 rfl rfl) fd_8_77
  have q62 : fI h57 64 77 = fI h 64 77 := (FUp_fIne hU60 (fun z => absurd z.2 (by decide))).trans ((FUp_fIne hU56 (fun z => absurd z.2 (by decide))).trans ((FUp_fIne hU52 (fun z => absurd z.2 (by decide))).trans ((FUp_fIne hU48 (fun z => absurd z.2 (by decide))).trans (FUp_fIne hU44 (fun z => absurd z.2 (by decide))))))
  have e63 := fI_bd (q := 64) hT58 (tf hT58 rfl rfl) fd_8_78
  have q64 : fI h57 64 78 = fI h 64 78 := (FUp_fIne hU60 (fun z => absurd z.2 (by decide))).trans ((FUp_fIne hU56 (fun z => absurd z.2 (by decide))).trans ((FUp_fIne hU52 (fun z => absurd z.2 (by decide))).trans ((FUp_fIne hU48 (fun z => absurd z.2 (by decide))).trans (FUp_fIne hU44 (fun z => absurd z.2 (by decide))))))
  have e65 := fI_bd (q := 64) hT58 (tf hT58 rfl rfl) fd_8_87
  have q66 : fI h57 64 87 = 0 := FUp_fI hU60 (by omega) (by omega)
  have e67 := fI_bd (q := 64) hT58 (tf hT58 rfl rfl) fd_8_88
  have q68 : fI h57 64 88 = fI h 64 88 := (FUp_fIne hU60 (fun z => absurd z.2 (by decide))).trans ((FUp_fIne hU56 (fun z => absurd z.2 (by decide))).trans ((FUp_fIne hU52 (fun z => absurd z.2 (by decide))).trans ((FUp_fIne hU48 (fun z => absurd z.2 (by decide))).trans (FUp_fIne hU44 (fun z => absurd z.2 (by decide))))))
  have e69 := fI_bd (q := 64) hT58 (tf hT58 rfl rfl) fd_8_90
  have q70 : fI h57 64 90 = (-1) := (FUp_fIne hU60 (fun z => absurd z.2 (by decide))).trans ((FUp_fIne hU56 (fun z => absurd z.2 (by decide))).trans (FUp_fI hU52 (by omega) (by omega)))
  have e71 := fI_bd (q := 64) hT (tf hT rfl rfl) fd_8_77
  have e72 := fI_bd (q := 64) hT (tf hT rfl rfl) fd_8_87
  have e73 := fI_bd (q := 64) hT (tf hT rfl rfl) fd_8_88
  have e74 := fI_bd (q := 64) hT (tf hT rfl rfl) fd_8_90
  have nx75 := NX_0 hT (TT_fr hT hF59 (by decide +kernel)) (by omega) (by omega) (by omega)
  have e76 := fI_bd (q := 64) hT58 (tf hT58 rfl rfl) fd_8_87
  have q77 : fI h57 64 87 = 0 := FUp_fI hU60 (by omega) (by omega)
  have e78 := fI_bd (q := 64) hT58 (tf hT58 rfl rfl) fd_8_77
  have q79 : fI h57 64 77 = fI h 64 77 := (FUp_fIne hU60 (fun z => absurd z.2 (by decide))).trans ((FUp_fIne hU56 (fun z => absurd z.2 (by decide))).trans ((FUp_fIne hU52 (fun z => absurd z.2 (by decide))).trans ((FUp_fIne hU48 (fun z => absurd z.2 (by decide))).trans (FUp_fIne hU44 (fun z => absurd z.2 (by decide))))))
  refine st_callt (as := []) c264_59 cm_252 hT58 (tf hT58 rfl rfl) fd_8_0 rfl rfl rfl rfl (by omega) (K252 hT58 (Stb_mono hS (by decide +kernel)) (by omega) nx75 (d - 1) (by omega) _ (fun v h0 H => H)) (fun v1 h80 H => ?_)
  obtain ⟨rfl, pf83, pf84, pf85, pf86, pf87, hT81, hF82⟩ := H
  have hF88 := Fr_cp hF59 hF82 (by decide +kernel : Wsub W252 W264 = true)
  have e89 := fI_bd (q := 64) hT81 (tf hT81 rfl rfl) fd_8_86
  have e90 := fI_bd (q := 64) hT81 (tf hT81 rfl rfl) fd_8_87
  have e91 := fI_bd (q := 64) hT81 (tf hT81 rfl rfl) fd_8_88
  refine st_aload c264_62 rfl ?_
  have e92 := fI_bd (q := 64) hT81 (tf hT81 rfl rfl) fd_8_77
  have q93 : fI h80 64 77 = fI h57 64 77 := Fr_fI hF82 (tf hT58 rfl rfl) (by decide +kernel)
  have e94 := fI_bd (q := 64) hT81 (tf hT81 rfl rfl) fd_8_93
  have q95 : fI h80 64 93 = 0 := (Fr_fI hF82 (tf hT58 rfl rfl) (by decide +kernel)).trans ((FUp_fIne hU60 (fun z => absurd z.2 (by decide))).trans ((FUp_fIne hU56 (fun z => absurd z.2 (by decide))).trans ((FUp_fIne hU52 (fun z => absurd z.2 (by decide))).trans (FUp_fI hU48 (by omega) (by omega)))))
  have e96 := fI_bd (q := 64) hT81 (tf hT81 rfl rfl) fd_8_91
  have q97 : fI h80 64 91 = 0 := (Fr_fI hF82 (tf hT58 rfl rfl) (by decide +kernel)).trans ((FUp_fIne hU60 (fun z => absurd z.2 (by decide))).trans (FUp_fI hU56 (by omega) (by omega)))
  have e98 := fI_bd (q := 64) hT81 (tf hT81 rfl rfl) fd_8_92
  have q99 : fI h80 64 92 = fI h 64 78 := (Fr_fI hF82 (tf hT58 rfl rfl) (by decide +kernel)).trans ((FUp_fIne hU60 (fun z => absurd z.2 (by decide))).trans ((FUp_fIne hU56 (fun z => absurd z.2 (by decide))).trans ((FUp_fIne hU52 (fun z => absurd z.2 (by decide))).trans ((FUp_fIne hU48 (fun z => absurd z.2 (by decide))).trans (FUp_fI hU44 (by omega) (by omega))))))
  have e100 := fI_bd (q := 64) hT81 (tf hT81 rfl rfl) fd_8_90
  have q101 : fI h80 64 90 = (-1) := (Fr_fI hF82 (tf hT58 rfl rfl) (by decide +kernel)).trans ((FUp_fIne hU60 (fun z => absurd z.2 (by decide))).trans ((FUp_fIne hU56 (fun z => absurd z.2 (by decide))).trans (FUp_fI hU52 (by omega) (by omega))))
  refine st_callt (as := []) c264_63 cm_263 hT81 (tf hT81 rfl rfl) fd_8_0 rfl rfl rfl rfl (by omega) (K263 hT81 (Stb_mono hS (by decide +kernel)) (by omega) (by omega) (by omega) (by omega) (by omega) (by omega) pf87 (d - 1) (by omega) _ (fun v h0 H => H)) (fun v1 h102 H => ?_)
  obtain ⟨rfl, pf105, pf106, pf107, pf108, pf109, pf110, pf111, pf112, pf113, pf114, pf115, hT103, hF104⟩ := H
  have hF116 := Fr_cp hF88 hF104 (by decide +kernel : Wsub W263 W264 = true)
  have e117 := fI_bd (q := 64) hT103 (tf hT103 rfl rfl) fd_8_86
  have e118 := fI_bd (q := 64) hT103 (tf hT103 rfl rfl) fd_8_87
  have e119 := fI_bd (q := 64) hT103 (tf hT103 rfl rfl) fd_8_88
  have e120 := fI_bd (q := 64) hT103 (tf hT103 rfl rfl) fd_8_93
  have e121 := fI_bd (q := 64) hT103 (tf hT103 rfl rfl) fd_8_90
  have e122 := fI_bd (q := 64) hT103 (tf hT103 rfl rfl) fd_8_91
  have lp200 : ∀ (n201 : Nat) (h196 : List mE), fI h196 64 77 - fI h196 64 86 < (n201 : Int) → fI h196 64 86 ≤ fI h196 64 87 → fI h196 64 87 ≤ fI h196 64 77 → fI h196 64 88 = 0 ∨ fI h196 64 86 + 1 ≤ fI h196 64 87 → fI h196 64 93 ≤ fI h196 64 86+1 → 0 ≤ fI h196 64 90 ∨ fI h196 64 91 = 0 → fI h196 64 92 = fI h 64 78 → fI h196 64 78 = fI h 64 78 → (∀ i : Int, 0 ≤ i → i < 220 * fI h 64 78 → aI h196 129 i = aI h 129 i) → (∀ i : Int, 0 ≤ i → i < 220 * fI h 64 78 → aI h196 130 i = aI h 130 i) → 0 ≤ fI h196 64 90 ∨ Zs h196 (220 * fI h 64 78) (fI h196 64 93) → RI (cS (TT h) (fI h 64 77)) (cF (TT h) (fI h 64 77)) (cP (TT h) (fI h 64 77)) h196 → TH E τ h196 → Fr τ W264 h h196 → Fr τ [(8, 86), (8, 87), (8, 88), (8, 89), (8, 90), (8, 91), (8, 93), (107, 0), (108, 0), (109, 0)] h102 h196 → MR (mex Ln xs) d 264 66 [some (.ref 64), some (vI p1), some (vI p2)] [] h196 Q := by
    intro n201
    induction n201 with
    | zero =>
      intro h196 hm203 x204 x205 x206 x207 x208 x209 x210 x211 x212 x213 x214 hT197 hF198 hL199
      exfalso; omega
    | succ n201 ih202 =>
      intro h196 hm203 x204 x205 x206 x207 x208 x209 x210 x211 x212 x213 x214 hT197 hF198 hL199
      have e215 := fI_bd (q := 64) hT197 (tf hT197 rfl rfl) fd_8_86
      have e216 := fI_bd (q := 64) hT197 (tf hT197 rfl rfl) fd_8_87
      have e217 := fI_bd (q := 64) hT197 (tf hT197 rfl rfl) fd_8_77
      have q218 : fI h196 64 77 = fI h80 64 77 := (Fr_fI hL199 (tf hT103 rfl rfl) (by decide +kernel)).trans (Fr_fI hF104 (tf hT81 rfl rfl) (by decide +kernel))
      have e219 := fI_bd (q := 64) hT197 (tf hT197 rfl rfl) fd_8_88
      have e220 := fI_bd (q := 64) hT197 (tf hT197 rfl rfl) fd_8_93
      have e221 := fI_bd (q := 64) hT197 (tf hT197 rfl rfl) fd_8_90
      have e222 := fI_bd (q := 64) hT197 (tf hT197 rfl rfl) fd_8_91
      have e223 := fI_bd (q := 64) hT197 (tf hT197 rfl rfl) fd_8_92
      have q224 : fI h196 64 92 = fI h80 64 92 := (Fr_fI hL199 (tf hT103 rfl rfl) (by decide +kernel)).trans (Fr_fI hF104 (tf hT81 rfl rfl) (by decide +kernel))
      have e225 := fI_bd (q := 64) hT197 (tf hT197 rfl rfl) fd_8_78
      have q226 : fI h196 64 78 = fI h 64 78 := (Fr_fI hL199 (tf hT103 rfl rfl) (by decide +kernel)).trans ((Fr_fI hF104 (tf hT81 rfl rfl) (by decide +kernel)).trans ((Fr_fI hF82 (tf hT58 rfl rfl) (by decide +kernel)).trans ((FUp_fIne hU60 (fun z => absurd z.2 (by decide))).trans ((FUp_fIne hU56 (fun z => absurd z.2 (by decide))).trans ((FUp_fIne hU52 (fun z => absurd z.2 (by decide))).trans ((FUp_fIne hU48 (fun z => absurd z.2 (by decide))).trans (FUp_fIne hU44 (fun z => absurd z.2 (by decide)))))))))
      refine st_aload c264_66 rfl ?_
      refine st_getI c264_67 hT197 (tf hT197 rfl rfl) fd_8_90 (fun e227 e228 => ?_)
      refine st_if_ge c264_70 (by omega) (fun k229 => ?_) (fun k230 => ?_)
      refine st_aload c264_93 rfl ?_
      refine st_getI c264_94 hT197 (tf hT197 rfl rfl) fd_8_90 (fun e231 e232 => ?_)
      refine st_if_ge c264_97 (by omega) (fun k233 => ?_) (fun k234 => False.elim (by omega))
      refine st_aload c264_111 rfl ?_
      refine st_iconst c264_112 ?_
      refine st_putI c264_113 hT197 (tf hT197 rfl rfl) fd_8_77 (by omega) (by omega) (Ext_rf _) hS hF198 (by decide +kernel) (fun h235 hT236 hF237 hU238 => ?_)
      refine st_aload c264_116 rfl ?_
      refine st_getI c264_117 hT236 (tf hT236 rfl rfl) fd_8_90 (fun e239 e240 => ?_)
      have q241 : fI h235 64 90 = fI h196 64 90 := FUp_fIne hU238 (fun z => absurd z.2 (by decide))
      refine st_if_lt c264_120 (by omega) (fun k242 => False.elim (by omega)) (fun k243 => ?_)
      refine st_iconst c264_123 ?_
      refine st_aload c264_125 rfl ?_
      refine st_getI c264_126 hT236 (tf hT236 rfl rfl) fd_8_90 (fun e244 e245 => ?_)
      have q246 : fI h235 64 90 = fI h196 64 90 := FUp_fIne hU238 (fun z => absurd z.2 (by decide))
      refine st_isub c264_129 ?_
      refine MR_wrap (fun w247 e248 e249 e250 => ?_)
      refine st_ireturn c264_130 ?_
      have e251 := fI_bd (q := 64) hT236 (tf hT236 rfl rfl) fd_8_78
      have q252 : fI h235 64 78 = fI h196 64 78 := FUp_fIne hU238 (fun z => absurd z.2 (by decide))
      have fr254 : ∀ i : Int, 0 ≤ i → i < 220 * fI h 64 78 → aI h235 129 i = aI h 129 i := fun i a b => ((FUp_aI hU238 i)).trans ((x211 i a b))
      have fr255 : ∀ i : Int, 0 ≤ i → i < 220 * fI h 64 78 → aI h235 130 i = aI h 130 i := fun i a b => ((FUp_aI hU238 i)).trans ((x212 i a b))
      have iv253 := I4_kp pre0 (by omega) (fun t => (FUp_aI hU238 t).trans ((Fr_aI hL199 (tf hT103 rfl rfl) (by decide +kernel) t).trans ((Fr_aI hF104 (tf hT81 rfl rfl) (by decide +kernel) t).trans ((Fr_aI hF82 (tf hT58 rfl rfl) (by decide +kernel) t).trans ((FUp_aI hU60 t).trans ((FUp_aI hU56 t).trans ((FUp_aI hU52 t).trans ((FUp_aI hU48 t).trans (FUp_aI hU44 t))))))))) (aI_bd hT (tf (q := 128) (t := 106) hT rfl rfl) ay_106) fr254 fr255
      have e256 := fI_bd (q := 64) hT236 (tf hT236 rfl rfl) fd_8_77
      have q257 : fI h235 64 77 = 0 := FUp_fI hU238 (by omega) (by omega)
      have e258 := fI_bd (q := 64) hT236 (tf hT236 rfl rfl) fd_8_87
      have q259 : fI h235 64 87 = fI h196 64 87 := FUp_fIne hU238 (fun z => absurd z.2 (by decide))
      have e260 := fI_bd (q := 64) hT236 (tf hT236 rfl rfl) fd_8_88
      have q261 : fI h235 64 88 = fI h196 64 88 := FUp_fIne hU238 (fun z => absurd z.2 (by decide))
      have e262 := fI_bd (q := 64) hT (tf hT rfl rfl) fd_8_77
      have e263 := fI_bd (q := 64) hT (tf hT rfl rfl) fd_8_87
      have e264 := fI_bd (q := 64) hT (tf hT rfl rfl) fd_8_88
      have e265 := fI_bd (q := 64) hT (tf hT rfl rfl) fd_8_90
      exact hQ _ _ ⟨w247, rfl, by omega, iv253, ⟨(TT_fr hT hF237 (by decide +kernel)), Or.inr (Or.inr ⟨by omega, by omega, by omega, by omega, by omega, by omega, fI h235 64 90, RI_f x214 (by omega) (by omega), by omega⟩)⟩, hT236, hF237⟩
      obtain ⟨e266, a267, b268, cu269, pr270, ct271⟩ := RI_g x214 (by omega)
      have cf272 := CU_F cu269
      have ct273 := CU_t cu269 (c := 59) (by decide) (by decide) (by decide)
      have c0274 := CU_0 cu269
      refine st_aload c264_73 rfl ?_
      refine st_getI c264_74 hT197 (tf hT197 rfl rfl) fd_8_88 (fun e275 e276 => ?_)
      refine st_iconst c264_77 ?_
      refine st_icmp_ne c264_79 (by omega) (by omega) (fun k277 => ?_) (fun k278 => ?_)
      refine st_aload c264_93 rfl ?_
      refine st_getI c264_94 hT197 (tf hT197 rfl rfl) fd_8_90 (fun e279 e280 => ?_)
      refine st_if_ge c264_97 (by omega) (fun k281 => False.elim (by omega)) (fun k282 => ?_)
      refine st_aload c264_100 rfl ?_
      refine st_getI c264_101 hT197 (tf hT197 rfl rfl) fd_8_88 (fun e283 e284 => ?_)
      refine st_if_eq c264_104 (by omega) (fun k285 => ?_) (fun k286 => ?_)
      refine st_aload c264_111 rfl ?_
      refine st_iconst c264_112 ?_
      refine st_putI c264_113 hT197 (tf hT197 rfl rfl) fd_8_77 (by omega) (by omega) (Ext_rf _) hS hF198 (by decide +kernel) (fun h287 hT288 hF289 hU290 => ?_)
      refine st_aload c264_116 rfl ?_
      refine st_getI c264_117 hT288 (tf hT288 rfl rfl) fd_8_90 (fun e291 e292 => ?_)
      have q293 : fI h287 64 90 = fI h196 64 90 := FUp_fIne hU290 (fun z => absurd z.2 (by decide))
      refine st_if_lt c264_120 (by omega) (fun k294 => ?_) (fun k295 => False.elim (by omega))
      refine st_aload c264_131 rfl ?_
      refine st_getX (u := 125) c264_132 hT288 (tf hT288 rfl rfl) fd_8_79 rfl ?_
      refine st_aload c264_135 rfl ?_
      refine st_getI c264_136 hT288 (tf hT288 rfl rfl) fd_8_78 (fun e296 e297 => ?_)
      have q298 : fI h287 64 78 = fI h196 64 78 := FUp_fIne hU290 (fun z => absurd z.2 (by decide))
      refine st_iload c264_139 rfl ?_
      refine st_iast c264_140 hT288 (tf hT288 rfl rfl) ay_103 (by omega) (by omega) (by omega) (Ext_rf _) hS hF289 (by decide +kernel) (fun h299 hT300 hF301 hU302 => ?_)
      refine st_aload c264_141 rfl ?_
      refine st_getX (u := 126) c264_142 hT300 (tf hT300 rfl rfl) fd_8_80 rfl ?_
      refine st_aload c264_145 rfl ?_
      refine st_getI c264_146 hT300 (tf hT300 rfl rfl) fd_8_78 (fun e303 e304 => ?_)
      have q305 : fI h299 64 78 = fI h287 64 78 := AUp_fI hU302
      refine st_aload c264_149 rfl ?_
      refine st_callt (as := []) c264_150 cm_182 hT300 (tf hT300 rfl rfl) fd_8_0 rfl rfl rfl rfl (by omega) (K182 hT300 (d - 1) (by omega) _ (fun v h0 H => H)) (fun v1 h1 H => ?_)
      obtain ⟨z306, rfl, b307, rfl⟩ := H
      refine st_iast c264_153 hT300 (tf hT300 rfl rfl) ay_104 (by omega) (by omega) (by omega) (Ext_rf _) hS hF301 (by decide +kernel) (fun h308 hT309 hF310 hU311 => ?_)
      refine st_aload c264_154 rfl ?_
      refine st_getX (u := 127) c264_155 hT309 (tf hT309 rfl rfl) fd_8_81 rfl ?_
      refine st_aload c264_158 rfl ?_
      refine st_getI c264_159 hT309 (tf hT309 rfl rfl) fd_8_78 (fun e312 e313 => ?_)
      have q314 : fI h308 64 78 = fI h299 64 78 := AUp_fI hU311
      refine st_iload c264_162 rfl ?_
      refine st_iast c264_163 hT309 (tf hT309 rfl rfl) ay_105 (by omega) (by omega) (by omega) (Ext_rf _) hS hF310 (by decide +kernel) (fun h315 hT316 hF317 hU318 => ?_)
      refine st_aload c264_164 rfl ?_
      refine st_getX (u := 128) c264_165 hT316 (tf hT316 rfl rfl) fd_8_82 rfl ?_
      refine st_aload c264_168 rfl ?_
      refine st_getI c264_169 hT316 (tf hT316 rfl rfl) fd_8_78 (fun e319 e320 => ?_)
      have q321 : fI h315 64 78 = fI h308 64 78 := AUp_fI hU318
      refine st_aload c264_172 rfl ?_
      refine st_getI c264_173 hT316 (tf hT316 rfl rfl) fd_8_93 (fun e322 e323 => ?_)
      have q324 : fI h315 64 93 = fI h196 64 93 := (AUp_fI hU318).trans ((AUp_fI hU311).trans ((AUp_fI hU302).trans (FUp_fIne hU290 (fun z => absurd z.2 (by decide)))))
      refine st_iast c264_176 hT316 (tf hT316 rfl rfl) ay_106 (by omega) (by omega) (by omega) (Ext_rf _) hS hF317 (by decide +kernel) (fun h325 hT326 hF327 hU328 => ?_)
      refine st_aload c264_177 rfl ?_
      refine st_dup c264_178 rfl ?_
      refine st_getI c264_179 hT326 (tf hT326 rfl rfl) fd_8_78 (fun e329 e330 => ?_)
      have q331 : fI h325 64 78 = fI h315 64 78 := AUp_fI hU328
      refine st_iconst c264_182 ?_
      refine st_iadd c264_183 ?_
      refine st_putI c264_184 hT326 (tf hT326 rfl rfl) fd_8_78 (by omega) (by omega) (Ext_rf _) hS hF327 (by decide +kernel) (fun h332 hT333 hF334 hU335 => ?_)
      refine st_aload c264_187 rfl ?_
      refine st_getI c264_188 hT333 (tf hT333 rfl rfl) fd_8_78 (fun e336 e337 => ?_)
      have q338 : fI h332 64 78 = (fI h325 64 78) + 1 := FUp_fI hU335 (by omega) (by omega)
      refine st_iconst c264_191 ?_
      refine st_isub c264_192 ?_
      refine st_ireturn c264_193 ?_
      have fr340 : ∀ i : Int, 0 ≤ i → i < 220 * fI h 64 78 → aI h332 129 i = aI h 129 i := fun i a b => ((FUp_aI hU335 i)).trans (((AUp_aIne hU328 (by decide) i)).trans (((AUp_aIne hU318 (by decide) i)).trans (((AUp_aIne hU311 (by decide) i)).trans (((AUp_aIne hU302 (by decide) i)).trans (((FUp_aI hU290 i)).trans ((x211 i a b)))))))
      have fr341 : ∀ i : Int, 0 ≤ i → i < 220 * fI h 64 78 → aI h332 130 i = aI h 130 i := fun i a b => ((FUp_aI hU335 i)).trans (((AUp_aIne hU328 (by decide) i)).trans (((AUp_aIne hU318 (by decide) i)).trans (((AUp_aIne hU311 (by decide) i)).trans (((AUp_aIne hU302 (by decide) i)).trans (((FUp_aI hU290 i)).trans ((x212 i a b)))))))
      have fr342 : ∀ i : Int, 0 ≤ i → i < fI h 64 78 → aI h332 128 i = aI h 128 i := fun i a b => ((FUp_aI hU335 i)).trans ((((AUp_aI hU328 (by omega) (by omega) (by omega) a).trans (if_neg (by omega)))).trans (((AUp_aIne hU318 (by decide) i)).trans (((AUp_aIne hU311 (by decide) i)).trans (((AUp_aIne hU302 (by decide) i)).trans (((FUp_aI hU290 i)).trans (((Fr_aI hL199 (tf hT103 rfl rfl) (by decide +kernel) i)).trans (((Fr_aI hF104 (tf hT81 rfl rfl) (by decide +kernel) i)).trans (((Fr_aI hF82 (tf hT58 rfl rfl) (by decide +kernel) i)).trans (((FUp_aI hU60 i)).trans (((FUp_aI hU56 i)).trans (((FUp_aI hU52 i)).trans (((FUp_aI hU48 i)).trans ((FUp_aI hU44 i))))))))))))))
      have a1 : aI h332 128 (fI h 64 78) = fI h315 64 93 := (FUp_aI hU335 (fI h 64 78)).trans ((AUp_aI hU328 (by omega) (by omega) (by omega) (by omega)).trans (if_pos (by omega)))
      have gx := x213.resolve_left (by omega)
      have fr343 : ∀ i : Int, 0 ≤ i → i < 220 * fI h 64 78 + fI h196 64 93 → aI h332 129 i = aI h196 129 i := fun i a b => ((FUp_aI hU335 i)).trans (((AUp_aIne hU328 (by decide) i)).trans (((AUp_aIne hU318 (by decide) i)).trans (((AUp_aIne hU311 (by decide) i)).trans (((AUp_aIne hU302 (by decide) i)).trans ((FUp_aI hU290 i))))))
      have fr344 : ∀ i : Int, 0 ≤ i → i < 220 * fI h 64 78 + fI h196 64 93 → aI h332 130 i = aI h196 130 i := fun i a b => ((FUp_aI hU335 i)).trans (((AUp_aIne hU328 (by decide) i)).trans (((AUp_aIne hU318 (by decide) i)).trans (((AUp_aIne hU311 (by decide) i)).trans (((AUp_aIne hU302 (by decide) i)).trans ((FUp_aI hU290 i))))))
      have k1 : Zs h332 (220 * fI h 64 78) (fI h196 64 93) := Zs_mv gx (fun i a b => ⟨fr343 i (by omega) (by omega), fr344 i (by omega) (by omega)⟩)
      have iv339 := I4_add pre0 (by omega) fr342 (aI_bd hT (tf (q := 128) (t := 106) hT rfl rfl) ay_106) fr340 fr341 (by rw [a1, show fI h315 64 93 = fI h196 64 93 by omega]; exact k1)
      have e345 := fI_bd (q := 64) hT333 (tf hT333 rfl rfl) fd_8_77
      have q346 : fI h332 64 77 = 0 := (FUp_fIne hU335 (fun z => absurd z.2 (by decide))).trans ((AUp_fI hU328).trans ((AUp_fI hU318).trans ((AUp_fI hU311).trans ((AUp_fI hU302).trans (FUp_fI hU290 (by omega) (by omega))))))
      have e347 := fI_bd (q := 64) hT333 (tf hT333 rfl rfl) fd_8_87
      have q348 : fI h332 64 87 = fI h196 64 87 := (FUp_fIne hU335 (fun z => absurd z.2 (by decide))).trans ((AUp_fI hU328).trans ((AUp_fI hU318).trans ((AUp_fI hU311).trans ((AUp_fI hU302).trans (FUp_fIne hU290 (fun z => absurd z.2 (by decide)))))))
      have e349 := fI_bd (q := 64) hT333 (tf hT333 rfl rfl) fd_8_88
      have q350 : fI h332 64 88 = fI h196 64 88 := (FUp_fIne hU335 (fun z => absurd z.2 (by decide))).trans ((AUp_fI hU328).trans ((AUp_fI hU318).trans ((AUp_fI hU311).trans ((AUp_fI hU302).trans (FUp_fIne hU290 (fun z => absurd z.2 (by decide)))))))
      have e351 := fI_bd (q := 64) hT333 (tf hT333 rfl rfl) fd_8_90
      have q352 : fI h332 64 90 = fI h287 64 90 := (FUp_fIne hU335 (fun z => absurd z.2 (by decide))).trans ((AUp_fI hU328).trans ((AUp_fI hU318).trans ((AUp_fI hU311).trans (AUp_fI hU302))))
      have e353 := fI_bd (q := 64) hT (tf hT rfl rfl) fd_8_77
      have e354 := fI_bd (q := 64) hT (tf hT rfl rfl) fd_8_87
      have e355 := fI_bd (q := 64) hT (tf hT rfl rfl) fd_8_88
      have e356 := fI_bd (q := 64) hT (tf hT rfl rfl) fd_8_90
      exact hQ _ _ ⟨(fI h332 64 78) - 1, rfl, by omega, iv339, ⟨(TT_fr hT hF334 (by decide +kernel)), Or.inr (Or.inr ⟨by omega, by omega, by omega, by omega, by omega, by omega, fI h332 64 90, RI_ok pr270 ct271 (by omega) (by omega), by omega⟩)⟩, hT333, hF334⟩
      refine st_aload c264_107 rfl ?_
      refine st_callt (as := []) c264_108 cm_254 hT197 (tf hT197 rfl rfl) fd_8_0 rfl rfl rfl rfl (by omega) (K254 hT197 (Stb_mono hS (by decide +kernel)) (d - 1) (by omega) _ (fun v h0 H => H)) (fun v1 h357 H => ?_)
      obtain ⟨rfl, pf360, pf361, pf362, hT358, hF359⟩ := H
      have hF363 := Fr_cp hF198 hF359 (by decide +kernel : Wsub W254 W264 = true)
      have e364 := fI_bd (q := 64) hT358 (tf hT358 rfl rfl) fd_8_90
      refine st_aload c264_111 rfl ?_
      refine st_iconst c264_112 ?_
      refine st_putI c264_113 hT358 (tf hT358 rfl rfl) fd_8_77 (by omega) (by omega) (Ext_rf _) hS hF363 (by decide +kernel) (fun h365 hT366 hF367 hU368 => ?_)
      refine st_aload c264_116 rfl ?_
      refine st_getI c264_117 hT366 (tf hT366 rfl rfl) fd_8_90 (fun e369 e370 => ?_)
      have q371 : fI h365 64 90 = fI h357 64 90 := FUp_fIne hU368 (fun z => absurd z.2 (by decide))
      refine st_if_lt c264_120 (by omega) (fun k372 => False.elim (by omega)) (fun k373 => ?_)
      refine st_iconst c264_123 ?_
      refine st_aload c264_125 rfl ?_
      refine st_getI c264_126 hT366 (tf hT366 rfl rfl) fd_8_90 (fun e374 e375 => ?_)
      have q376 : fI h365 64 90 = fI h357 64 90 := FUp_fIne hU368 (fun z => absurd z.2 (by decide))
      refine st_isub c264_129 ?_
      refine MR_wrap (fun w377 e378 e379 e380 => ?_)
      refine st_ireturn c264_130 ?_
      have e381 := fI_bd (q := 64) hT366 (tf hT366 rfl rfl) fd_8_78
      have q382 : fI h365 64 78 = fI h196 64 78 := (FUp_fIne hU368 (fun z => absurd z.2 (by decide))).trans (Fr_fI hF359 (tf hT197 rfl rfl) (by decide +kernel))
      have fr384 : ∀ i : Int, 0 ≤ i → i < 220 * fI h 64 78 → aI h365 129 i = aI h 129 i := fun i a b => ((FUp_aI hU368 i)).trans (((Fr_aI hF359 (tf hT197 rfl rfl) (by decide +kernel) i)).trans ((x211 i a b)))
      have fr385 : ∀ i : Int, 0 ≤ i → i < 220 * fI h 64 78 → aI h365 130 i = aI h 130 i := fun i a b => ((FUp_aI hU368 i)).trans (((Fr_aI hF359 (tf hT197 rfl rfl) (by decide +kernel) i)).trans ((x212 i a b)))
      have iv383 := I4_kp pre0 (by omega) (fun t => (FUp_aI hU368 t).trans ((Fr_aI hF359 (tf hT197 rfl rfl) (by decide +kernel) t).trans ((Fr_aI hL199 (tf hT103 rfl rfl) (by decide +kernel) t).trans ((Fr_aI hF104 (tf hT81 rfl rfl) (by decide +kernel) t).trans ((Fr_aI hF82 (tf hT58 rfl rfl) (by decide +kernel) t).trans ((FUp_aI hU60 t).trans ((FUp_aI hU56 t).trans ((FUp_aI hU52 t).trans ((FUp_aI hU48 t).trans (FUp_aI hU44 t)))))))))) (aI_bd hT (tf (q := 128) (t := 106) hT rfl rfl) ay_106) fr384 fr385
      have e386 := fI_bd (q := 64) hT366 (tf hT366 rfl rfl) fd_8_77
      have q387 : fI h365 64 77 = 0 := FUp_fI hU368 (by omega) (by omega)
      have e388 := fI_bd (q := 64) hT366 (tf hT366 rfl rfl) fd_8_87
      have q389 : fI h365 64 87 = fI h196 64 87 := (FUp_fIne hU368 (fun z => absurd z.2 (by decide))).trans (Fr_fI hF359 (tf hT197 rfl rfl) (by decide +kernel))
      have e390 := fI_bd (q := 64) hT366 (tf hT366 rfl rfl) fd_8_88
      have q391 : fI h365 64 88 = fI h196 64 88 := (FUp_fIne hU368 (fun z => absurd z.2 (by decide))).trans (Fr_fI hF359 (tf hT197 rfl rfl) (by decide +kernel))
      have e392 := fI_bd (q := 64) hT (tf hT rfl rfl) fd_8_77
      have e393 := fI_bd (q := 64) hT (tf hT rfl rfl) fd_8_87
      have e394 := fI_bd (q := 64) hT (tf hT rfl rfl) fd_8_88
      have e395 := fI_bd (q := 64) hT (tf hT rfl rfl) fd_8_90
      have e396 := fI_bd (q := 64) hT358 (tf hT358 rfl rfl) fd_8_77
      have q397 : fI h357 64 77 = fI h196 64 77 := Fr_fI hF359 (tf hT197 rfl rfl) (by decide +kernel)
      have e398 := fI_bd (q := 64) hT358 (tf hT358 rfl rfl) fd_8_78
      have q399 : fI h357 64 78 = fI h196 64 78 := Fr_fI hF359 (tf hT197 rfl rfl) (by decide +kernel)
      have e400 := fI_bd (q := 64) hT358 (tf hT358 rfl rfl) fd_8_87
      have q401 : fI h357 64 87 = fI h196 64 87 := Fr_fI hF359 (tf hT197 rfl rfl) (by decide +kernel)
      have e402 := fI_bd (q := 64) hT358 (tf hT358 rfl rfl) fd_8_88
      have q403 : fI h357 64 88 = fI h196 64 88 := Fr_fI hF359 (tf hT197 rfl rfl) (by decide +kernel)
      exact hQ _ _ ⟨w377, rfl, by omega, iv383, ⟨(TT_fr hT hF367 (by decide +kernel)), Or.inr (Or.inr ⟨by omega, by omega, by omega, by omega, by omega, by omega, fI h365 64 90, RI_no pr270 ct271 (by omega) (by omega) (by omega) (by omega), by omega⟩)⟩, hT366, hF367⟩
      refine st_aload c264_82 rfl ?_
      refine st_callt (as := []) c264_83 cm_252 hT197 (tf hT197 rfl rfl) fd_8_0 rfl rfl rfl rfl (by omega) (K252 hT197 (Stb_mono hS (by decide +kernel)) (by omega) (CU_nx cu269) (d - 1) (by omega) _ (fun v h0 H => H)) (fun v1 h404 H => ?_)
      obtain ⟨rfl, pf407, pf408, pf409, pf410, pf411, hT405, hF406⟩ := H
      have hF412 := Fr_cp hF198 hF406 (by decide +kernel : Wsub W252 W264 = true)
      have e413 := fI_bd (q := 64) hT405 (tf hT405 rfl rfl) fd_8_86
      have e414 := fI_bd (q := 64) hT405 (tf hT405 rfl rfl) fd_8_87
      have e415 := fI_bd (q := 64) hT405 (tf hT405 rfl rfl) fd_8_88
      refine st_aload c264_86 rfl ?_
      have e416 := fI_bd (q := 64) hT405 (tf hT405 rfl rfl) fd_8_77
      have q417 : fI h404 64 77 = fI h196 64 77 := Fr_fI hF406 (tf hT197 rfl rfl) (by decide +kernel)
      have e418 := fI_bd (q := 64) hT405 (tf hT405 rfl rfl) fd_8_93
      have q419 : fI h404 64 93 = fI h196 64 93 := Fr_fI hF406 (tf hT197 rfl rfl) (by decide +kernel)
      have e420 := fI_bd (q := 64) hT405 (tf hT405 rfl rfl) fd_8_91
      have q421 : fI h404 64 91 = fI h196 64 91 := Fr_fI hF406 (tf hT197 rfl rfl) (by decide +kernel)
      have e422 := fI_bd (q := 64) hT405 (tf hT405 rfl rfl) fd_8_92
      have q423 : fI h404 64 92 = fI h196 64 92 := Fr_fI hF406 (tf hT197 rfl rfl) (by decide +kernel)
      have e424 := fI_bd (q := 64) hT405 (tf hT405 rfl rfl) fd_8_90
      have q425 : fI h404 64 90 = fI h196 64 90 := Fr_fI hF406 (tf hT197 rfl rfl) (by decide +kernel)
      refine st_callt (as := []) c264_87 cm_263 hT405 (tf hT405 rfl rfl) fd_8_0 rfl rfl rfl rfl (by omega) (K263 hT405 (Stb_mono hS (by decide +kernel)) (by omega) (by omega) (by omega) (by omega) (by omega) (by omega) pf411 (d - 1) (by omega) _ (fun v h0 H => H)) (fun v1 h426 H => ?_)
      obtain ⟨rfl, pf429, pf430, pf431, pf432, pf433, pf434, pf435, pf436, pf437, pf438, pf439, hT427, hF428⟩ := H
      have hF440 := Fr_cp hF412 hF428 (by decide +kernel : Wsub W263 W264 = true)
      have e441 := fI_bd (q := 64) hT427 (tf hT427 rfl rfl) fd_8_86
      have e442 := fI_bd (q := 64) hT427 (tf hT427 rfl rfl) fd_8_87
      have e443 := fI_bd (q := 64) hT427 (tf hT427 rfl rfl) fd_8_88
      have e444 := fI_bd (q := 64) hT427 (tf hT427 rfl rfl) fd_8_93
      have e445 := fI_bd (q := 64) hT427 (tf hT427 rfl rfl) fd_8_90
      have e446 := fI_bd (q := 64) hT427 (tf hT427 rfl rfl) fd_8_91
      refine st_goto c264_90 ?_
      have e447 := fI_bd (q := 64) hT427 (tf hT427 rfl rfl) fd_8_92
      have q448 : fI h426 64 92 = fI h404 64 92 := Fr_fI hF428 (tf hT405 rfl rfl) (by decide +kernel)
      have sg449 : 0 ≤ fI h426 64 90 ∨ Zs h426 (220 * fI h 64 78) (fI h426 64 93) := by
        rcases pf439 with q | q
        · exact Or.inl (by omega)
        · refine Or.inr ?_
          have gx := x213.resolve_left (by omega)
          have fr450 : ∀ i : Int, 0 ≤ i → i < 220 * fI h 64 78 + fI h196 64 93 → aI h426 129 i = aI h196 129 i := fun i a b => ((pf437 i a (by omega))).trans ((Fr_aI hF406 (tf hT197 rfl rfl) (by decide +kernel) i))
          have fr451 : ∀ i : Int, 0 ≤ i → i < 220 * fI h 64 78 + fI h196 64 93 → aI h426 130 i = aI h196 130 i := fun i a b => ((pf438 i a (by omega))).trans ((Fr_aI hF406 (tf hT197 rfl rfl) (by decide +kernel) i))
          have k1 : Zs h426 (220 * fI h 64 78) (fI h196 64 93) := Zs_mv gx (fun i a b => ⟨fr450 i (by omega) (by omega), fr451 i (by omega) (by omega)⟩)
          rw [show fI h426 64 93 = fI h196 64 93 + (fI h426 64 93 - fI h404 64 93) by omega]
          exact Zs_cat k1 (by rw [show 220 * fI h 64 78 + fI h196 64 93 = 220 * fI h404 64 92 + fI h404 64 93 by omega]; exact q)
      have e452 := fI_bd (q := 64) hT427 (tf hT427 rfl rfl) fd_8_77
      have q453 : fI h426 64 77 = fI h404 64 77 := Fr_fI hF428 (tf hT405 rfl rfl) (by decide +kernel)
      have e454 := fI_bd (q := 64) hT427 (tf hT427 rfl rfl) fd_8_78
      have q455 : fI h426 64 78 = fI h196 64 78 := (Fr_fI hF428 (tf hT405 rfl rfl) (by decide +kernel)).trans (Fr_fI hF406 (tf hT197 rfl rfl) (by decide +kernel))
      have fr456 : ∀ i : Int, 0 ≤ i → i < 220 * fI h 64 78 → aI h426 129 i = aI h 129 i := fun i a b => ((pf437 i a (by omega))).trans (((Fr_aI hF406 (tf hT197 rfl rfl) (by decide +kernel) i)).trans ((x211 i a b)))
      have fr457 : ∀ i : Int, 0 ≤ i → i < 220 * fI h 64 78 → aI h426 130 i = aI h 130 i := fun i a b => ((pf438 i a (by omega))).trans (((Fr_aI hF406 (tf hT197 rfl rfl) (by decide +kernel) i)).trans ((x212 i a b)))
      have e458 := fI_bd (q := 64) hT405 (tf hT405 rfl rfl) fd_8_78
      have q459 : fI h404 64 78 = fI h196 64 78 := Fr_fI hF406 (tf hT197 rfl rfl) (by decide +kernel)
      exact ih202 h426 (by omega) (by omega) (by omega) (by omega) (by omega) (by omega) (by omega) (by omega) fr456 fr457 sg449 (RI_s e266 pr270 ct271 (by omega) (by omega) pf429) hT427 hF440 (Fr_cp (Fr_cp hL199 hF406 (by decide +kernel)) hF428 (by decide +kernel))
  have e460 := fI_bd (q := 64) hT103 (tf hT103 rfl rfl) fd_8_92
  have q461 : fI h102 64 92 = fI h80 64 92 := Fr_fI hF104 (tf hT81 rfl rfl) (by decide +kernel)
  have sg462 : 0 ≤ fI h102 64 90 ∨ Zs h102 (220 * fI h 64 78) (fI h102 64 93) := by
    rcases pf115 with q | q
    · exact Or.inl (by omega)
    · refine Or.inr ?_
      rw [show 220 * fI h 64 78 = 220 * fI h80 64 92 + fI h80 64 93 by omega, show fI h102 64 93 = fI h102 64 93 - fI h80 64 93 by omega]
      exact q
  have e463 := fI_bd (q := 64) hT103 (tf hT103 rfl rfl) fd_8_77
  have q464 : fI h102 64 77 = fI h80 64 77 := Fr_fI hF104 (tf hT81 rfl rfl) (by decide +kernel)
  have e465 := fI_bd (q := 64) hT103 (tf hT103 rfl rfl) fd_8_78
  have q466 : fI h102 64 78 = fI h 64 78 := (Fr_fI hF104 (tf hT81 rfl rfl) (by decide +kernel)).trans ((Fr_fI hF82 (tf hT58 rfl rfl) (by decide +kernel)).trans ((FUp_fIne hU60 (fun z => absurd z.2 (by decide))).trans ((FUp_fIne hU56 (fun z => absurd z.2 (by decide))).trans ((FUp_fIne hU52 (fun z => absurd z.2 (by decide))).trans ((FUp_fIne hU48 (fun z => absurd z.2 (by decide))).trans (FUp_fIne hU44 (fun z => absurd z.2 (by decide))))))))
  have fr467 : ∀ i : Int, 0 ≤ i → i < 220 * fI h 64 78 → aI h102 129 i = aI h 129 i := fun i a b => ((pf113 i a (by omega))).trans (((Fr_aI hF82 (tf hT58 rfl rfl) (by decide +kernel) i)).trans (((FUp_aI hU60 i)).trans (((FUp_aI hU56 i)).trans (((FUp_aI hU52 i)).trans (((FUp_aI hU48 i)).trans ((FUp_aI hU44 i)))))))
  have fr468 : ∀ i : Int, 0 ≤ i → i < 220 * fI h 64 78 → aI h102 130 i = aI h 130 i := fun i a b => ((pf114 i a (by omega))).trans (((Fr_aI hF82 (tf hT58 rfl rfl) (by decide +kernel) i)).trans (((FUp_aI hU60 i)).trans (((FUp_aI hU56 i)).trans (((FUp_aI hU52 i)).trans (((FUp_aI hU48 i)).trans ((FUp_aI hU44 i)))))))
  have e469 := fI_bd (q := 64) hT81 (tf hT81 rfl rfl) fd_8_78
  have q470 : fI h80 64 78 = fI h 64 78 := (Fr_fI hF82 (tf hT58 rfl rfl) (by decide +kernel)).trans ((FUp_fIne hU60 (fun z => absurd z.2 (by decide))).trans ((FUp_fIne hU56 (fun z => absurd z.2 (by decide))).trans ((FUp_fIne hU52 (fun z => absurd z.2 (by decide))).trans ((FUp_fIne hU48 (fun z => absurd z.2 (by decide))).trans (FUp_fIne hU44 (fun z => absurd z.2 (by decide)))))))
  exact lp200 (((fI h102 64 77 - fI h102 64 86 : Int) + 1).toNat) h102 (by omega) (by omega) (by omega) (by omega) (by omega) (by omega) (by omega) (by omega) fr467 fr468 sg462 (RI_0 (by omega) pf105) hT103 hF116 (Fr_rf _ _ _)
  refine st_iconst c264_27 ?_
  refine st_ireturn c264_29 ?_
  have e471 := fI_bd (q := 64) hT (tf hT rfl rfl) fd_8_77
  have e472 := fI_bd (q := 64) hT (tf hT rfl rfl) fd_8_87
  have e473 := fI_bd (q := 64) hT (tf hT rfl rfl) fd_8_88
  have e474 := fI_bd (q := 64) hT (tf hT rfl rfl) fd_8_90
  have e475 := fI_bd (q := 64) hT (tf hT rfl rfl) fd_8_77
  have e476 := fI_bd (q := 64) hT (tf hT rfl rfl) fd_8_87
  have e477 := fI_bd (q := 64) hT (tf hT rfl rfl) fd_8_88
  have e478 := fI_bd (q := 64) hT (tf hT rfl rfl) fd_8_90
  exact hQ _ _ ⟨(-3), rfl, by omega, pre0, ⟨rfl, Or.inr (Or.inl ⟨by omega, by omega, by omega, by omega, by omega, by omega, by omega, by omega⟩)⟩, hT, hF⟩
