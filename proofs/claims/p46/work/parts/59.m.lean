theorem CP_bd {T : Int → Int} {n z : Int} (hn : 0 ≤ n) (h : CP T n z) : -1 ≤ z ∧ z ≤ n := by
  rcases h with ⟨b, -, e⟩ | ⟨i, -, e, g⟩
  · omega
  · have b := posn_bd T hn i.toNat
    have k := Tok_bd (tkf_ok T b.2)
    have e2 : z = (tkf T n (posn T n i.toNat)).1 := e
    omega
def W264 : List (Nat × Nat) := [(8, 77), (8, 78), (8, 86), (8, 87), (8, 88), (8, 89), (8, 90), (8, 91), (8, 92), (8, 93), (103, 0), (104, 0), (105, 0), (106, 0), (107, 0), (108, 0), (109, 0)]
set_option maxHeartbeats 0 in
theorem K264 {Ln : Nat} {xs : Nat → Int32} {τ : List Nat} {h : List mE} {E : EP} (hT : TH E τ h) (hS : Stb E W264) (p1 : Int) (hp1 : (-2147483648) ≤ p1 ∧ p1 ≤ 2147483647) (p2 : Int) (hp2 : (-2147483648) ≤ p2 ∧ p2 ≤ 2147483647) (pre0 : I4 h) (d : Nat) (hd : 87 ≤ d) (Q : Option Value → List mE → Prop) (hQ : ∀ v h', (∃ z : Int, v = some (vI z) ∧ ((-300) ≤ z ∧ z ≤ 15) ∧ (I4 h') ∧ (PTmR h h' p1 p2 z) ∧ TH E τ h' ∧ Fr τ W264 h h') → Q v h') : MR (mex Ln xs) d 264 0 [some (.ref 64), some (vI p1), some (vI p2)] [] h Q := by
  have hF := Fr_rf τ W264 h
  refine st_iload c264_0 rfl ?_
  refine st_iconst c264_1 ?_
  refine st_iconst c264_2 ?_
  refine st_calls (as := [vI p1, vI 0, vI 1]) c264_3 cm_180 rfl rfl rfl rfl (by omega) (K180 hT p1 (by omega) 0 (by omega) 1 (by omega) (d - 1) (by omega) _ (fun v h0 H => H)) (fun v1 h1 H => ?_)
  rcases H with ⟨rfl, pf1, rfl⟩ | ⟨rfl, pf2, pf3, rfl⟩
  refine st_if_eq c264_6 (by omega) (fun k4 => ?_) (fun k5 => False.elim (by omega))
  refine st_iconst c264_16 ?_
  refine st_ireturn c264_17 ?_
  have e6 := fI_bd (q := 64) hT (tf hT rfl rfl) fd_8_77
  have e7 := fI_bd (q := 64) hT (tf hT rfl rfl) fd_8_78
  have e8 := fI_bd (q := 64) hT (tf hT rfl rfl) fd_8_87
  have e9 := fI_bd (q := 64) hT (tf hT rfl rfl) fd_8_88
  have e10 := fI_bd (q := 64) hT (tf hT rfl rfl) fd_8_90
  have e11 := fI_bd (q := 64) hT (tf hT rfl rfl) fd_8_77
  have e12 := fI_bd (q := 64) hT (tf hT rfl rfl) fd_8_78
  have e13 := fI_bd (q := 64) hT (tf hT rfl rfl) fd_8_87
  have e14 := fI_bd (q := 64) hT (tf hT rfl rfl) fd_8_88
  have e15 := fI_bd (q := 64) hT (tf hT rfl rfl) fd_8_90
  exact hQ _ _ ⟨(-1), rfl, by omega, pre0, ⟨rfl, Or.inl ⟨by omega, by omega, by omega, by omega⟩⟩, hT, hF⟩
  refine st_if_eq c264_6 (by omega) (fun k16 => False.elim (by omega)) (fun k17 => ?_)
  refine st_iload c264_9 rfl ?_
  refine st_calls (as := [vI p2]) c264_10 cm_181 rfl rfl rfl rfl (by omega) (K181 hT p2 (by omega) (d - 1) (by omega) _ (fun v h0 H => H)) (fun v1 h1 H => ?_)
  rcases H with ⟨rfl, pf18, rfl⟩ | ⟨rfl, pf19, pf20, rfl⟩
  refine st_if_ne c264_13 (by omega) (fun k21 => False.elim (by omega)) (fun k22 => ?_)
  refine st_iconst c264_16 ?_
  refine st_ireturn c264_17 ?_
  have e23 := fI_bd (q := 64) hT (tf hT rfl rfl) fd_8_77
  have e24 := fI_bd (q := 64) hT (tf hT rfl rfl) fd_8_78
  have e25 := fI_bd (q := 64) hT (tf hT rfl rfl) fd_8_87
  have e26 := fI_bd (q := 64) hT (tf hT rfl rfl) fd_8_88
  have e27 := fI_bd (q := 64) hT (tf hT rfl rfl) fd_8_90
  have e28 := fI_bd (q := 64) hT (tf hT rfl rfl) fd_8_77
  have e29 := fI_bd (q := 64) hT (tf hT rfl rfl) fd_8_78
  have e30 := fI_bd (q := 64) hT (tf hT rfl rfl) fd_8_87
  have e31 := fI_bd (q := 64) hT (tf hT rfl rfl) fd_8_88
  have e32 := fI_bd (q := 64) hT (tf hT rfl rfl) fd_8_90
  exact hQ _ _ ⟨(-1), rfl, by omega, pre0, ⟨rfl, Or.inl ⟨by omega, by omega, by omega, by omega⟩⟩, hT, hF⟩
  refine st_if_ne c264_13 (by omega) (fun k33 => ?_) (fun k34 => False.elim (by omega))
  refine st_aload c264_18 rfl ?_
  refine st_getI c264_19 hT (tf hT rfl rfl) fd_8_78 (fun e35 e36 => ?_)
  refine st_iconst c264_22 ?_
  refine st_icmp_ne c264_24 (by omega) (by omega) (fun k37 => ?_) (fun k38 => ?_)
  refine st_aload c264_30 rfl ?_
  refine st_aload c264_31 rfl ?_
  refine st_getI c264_32 hT (tf hT rfl rfl) fd_8_78 (fun e39 e40 => ?_)
  refine st_putI c264_35 hT (tf hT rfl rfl) fd_8_92 (by omega) (by omega) (Ext_rf _) hS hF (by decide +kernel) (fun h41 hT42 hF43 hU44 => ?_)
  refine st_aload c264_38 rfl ?_
  refine st_iconst c264_39 ?_
  refine st_putI c264_40 hT42 (tf hT42 rfl rfl) fd_8_93 (by omega) (by omega) (Ext_rf _) hS hF43 (by decide +kernel) (fun h45 hT46 hF47 hU48 => ?_)
  refine st_aload c264_43 rfl ?_
  refine st_iconst c264_44 ?_
  refine st_putI c264_45 hT46 (tf hT46 rfl rfl) fd_8_90 (by omega) (by omega) (Ext_rf _) hS hF47 (by decide +kernel) (fun h49 hT50 hF51 hU52 => ?_)
  refine st_aload c264_48 rfl ?_
  refine st_iconst c264_49 ?_
  refine st_putI c264_50 hT50 (tf hT50 rfl rfl) fd_8_91 (by omega) (by omega) (Ext_rf _) hS hF51 (by decide +kernel) (fun h53 hT54 hF55 hU56 => ?_)
  refine st_aload c264_53 rfl ?_
  refine st_iconst c264_54 ?_
  refine st_putI c264_55 hT54 (tf hT54 rfl rfl) fd_8_87 (by omega) (by omega) (Ext_rf _) hS hF55 (by decide +kernel) (fun h57 hT58 hF59 hU60 => ?_)
  refine st_aload c264_58 rfl ?_
  have e61 := fI_bd (q := 64) hT58 (tf hT58 rfl rfl) fd_8_77
  have q62 : fI h57 64 77 = fI h 64 77 := (FUp_fIne hU60 (fun z => absurd z.2 (by decide))).trans ((FUp_fIne hU56 (fun z => absurd z.2 (by decide))).trans ((FUp_fIne hU52 (fun z => absurd z.2 (by decide))).trans ((FUp_fIne hU48 (fun z => absurd z.2 (by decide))).trans (FUp_fIne hU44 (fun z => absurd z.2 (by decide))))))
  have e63 := fI_bd (q := 64) hT58 (tf hT58 rfl rfl) fd_8_78
  have q64 : fI h57 64 78 = fI h 64 78 := (FUp_fIne hU60 (fun z => absurd z.2 (by decide))).trans ((FUp_fIne hU56 (fun z => absurd z.2 (by decide))).trans ((FUp_fIne hU52 (fun z => absurd z.2 (by decide))).trans ((FUp_fIne hU48 (fun z => absurd z.2 (by decide))).trans (FUp_fIne hU44 (fun z => absurd z.2 (by decide))))))
  have e65 := fI_bd (q := 64) hT58 (tf hT58 rfl rfl) fd_8_87
  have q66 : fI h57 64 87 = 0 := FUp_fI hU60 (by omega) (by omega)
  have e67 := fI_bd (q := 64) hT58 (tf hT58 rfl rfl) fd_8_88
  have q68 : fI h57 64 88 = fI h 64 88 := (FUp_fIne hU60 (fun z => absurd z.2 (by decide))).trans ((FUp_fIne hU56 (fun z => absurd z.2 (by decide))).trans ((FUp_fIne hU52 (fun z => absurd z.2 (by decide))).trans ((FUp_fIne hU48 (fun z => absurd z.2 (by decide))).trans (FUp_fIne hU44 (fun z => absurd z.2 (by decide))))))
  have e69 := fI_bd (q := 64) hT58 (tf hT58 rfl rfl) fd_8_90
  have q70 : fI h57 64 90 = (-1) := (FUp_fIne hU60 (fun z => absurd z.2 (by decide))).trans ((FUp_fIne hU56 (fun z => absurd z.2 (by decide))).trans (FUp_fI hU52 (by omega) (by omega)))
  have e71 := fI_bd (q := 64) hT (tf hT rfl rfl) fd_8_77
  have e72 := fI_bd (q := 64) hT (tf hT rfl rfl) fd_8_87
  have e73 := fI_bd (q := 64) hT (tf hT rfl rfl) fd_8_88
  have e74 := fI_bd (q := 64) hT (tf hT rfl rfl) fd_8_90
  have nx75 := NX_0 hT (TT_fr hT hF59 (by decide +kernel)) (by omega) (by omega) (by omega)
  have e76 := fI_bd (q := 64) hT58 (tf hT58 rfl rfl) fd_8_87
  have q77 : fI h57 64 87 = 0 := FUp_fI hU60 (by omega) (by omega)
  have e78 := fI_bd (q := 64) hT58 (tf hT58 rfl rfl) fd_8_77
  have q79 : fI h57 64 77 = fI h 64 77 := (FUp_fIne hU60 (fun z => absurd z.2 (by decide))).trans ((FUp_fIne hU56 (fun z => absurd z.2 (by decide))).trans ((FUp_fIne hU52 (fun z => absurd z.2 (by decide))).trans ((FUp_fIne hU48 (fun z => absurd z.2 (by decide))).trans (FUp_fIne hU44 (fun z => absurd z.2 (by decide))))))
  refine st_callt (as := []) c264_59 cm_252 hT58 (tf hT58 rfl rfl) fd_8_0 rfl rfl rfl rfl (by omega) (K252 hT58 (Stb_mono hS (by decide +kernel)) (by omega) nx75 (d - 1) (by omega) _ (fun v h0 H => H)) (fun v1 h80 H => ?_)
  obtain ⟨rfl, pf83, pf84, pf85, pf86, pf87, hT81, hF82⟩ := H
  have hF88 := Fr_cp hF59 hF82 (by decide +kernel : Wsub W252 W264 = true)
  have e89 := fI_bd (q := 64) hT81 (tf hT81 rfl rfl) fd_8_86
  have e90 := fI_bd (q := 64) hT81 (tf hT81 rfl rfl) fd_8_87
  have e91 := fI_bd (q := 64) hT81 (tf hT81 rfl rfl) fd_8_88
  refine st_aload c264_62 rfl ?_
  have e92 := fI_bd (q := 64) hT81 (tf hT81 rfl rfl) fd_8_77
  have q93 : fI h80 64 77 = fI h57 64 77 := Fr_fI hF82 (tf hT58 rfl rfl) (by decide +kernel)
  have e94 := fI_bd (q := 64) hT81 (tf hT81 rfl rfl) fd_8_93
  have q95 : fI h80 64 93 = 0 := (Fr_fI hF82 (tf hT58 rfl rfl) (by decide +kernel)).trans ((FUp_fIne hU60 (fun z => absurd z.2 (by decide))).trans ((FUp_fIne hU56 (fun z => absurd z.2 (by decide))).trans ((FUp_fIne hU52 (fun z => absurd z.2 (by decide))).trans (FUp_fI hU48 (by omega) (by omega)))))
  have e96 := fI_bd (q := 64) hT81 (tf hT81 rfl rfl) fd_8_91
  have q97 : fI h80 64 91 = 0 := (Fr_fI hF82 (tf hT58 rfl rfl) (by decide +kernel)).trans ((FUp_fIne hU60 (fun z => absurd z.2 (by decide))).trans (FUp_fI hU56 (by omega) (by omega)))
  have e98 := fI_bd (q := 64) hT81 (tf hT81 rfl rfl) fd_8_92
  have q99 : fI h80 64 92 = fI h 64 78 := (Fr_fI hF82 (tf hT58 rfl rfl) (by decide +kernel)).trans ((FUp_fIne hU60 (fun z => absurd z.2 (by decide))).trans ((FUp_fIne hU56 (fun z => absurd z.2 (by decide))).trans ((FUp_fIne hU52 (fun z => absurd z.2 (by decide))).trans ((FUp_fIne hU48 (fun z => absurd z.2 (by decide))).trans (FUp_fI hU44 (by omega) (by omega))))))
  have e100 := fI_bd (q := 64) hT81 (tf hT81 rfl rfl) fd_8_90
  have q101 : fI h80 64 90 = (-1) := (Fr_fI hF82 (tf hT58 rfl rfl) (by decide +kernel)).trans ((FUp_fIne hU60 (fun z => absurd z.2 (by decide))).trans ((FUp_fIne hU56 (fun z => absurd z.2 (by decide))).trans (FUp_fI hU52 (by omega) (by omega))))
  refine st_callt (as := []) c264_63 cm_263 hT81 (tf hT81 rfl rfl) fd_8_0 rfl rfl rfl rfl (by omega) (K263 hT81 (Stb_mono hS (by decide +kernel)) (by omega) (by omega) (by omega) (by omega) (by omega) (by omega) pf87 (d - 1) (by omega) _ (fun v h0 H => H)) (fun v1 h102 H => ?_)
  obtain ⟨rfl, pf105, pf106, pf107, pf108, pf109, pf110, pf111, pf112, pf113, pf114, pf115, hT103, hF104⟩ := H
  have hF116 := Fr_cp hF88 hF104 (by decide +kernel : Wsub W263 W264 = true)
  have e117 := fI_bd (q := 64) hT103 (tf hT103 rfl rfl) fd_8_86
  have e118 := fI_bd (q := 64) hT103 (tf hT103 rfl rfl) fd_8_87
  have e119 := fI_bd (q := 64) hT103 (tf hT103 rfl rfl) fd_8_88
  have e120 := fI_bd (q := 64) hT103 (tf hT103 rfl rfl) fd_8_93
  have e121 := fI_bd (q := 64) hT103 (tf hT103 rfl rfl) fd_8_90
  have e122 := fI_bd (q := 64) hT103 (tf hT103 rfl rfl) fd_8_91
  have lp200 : ∀ (n201 : Nat) (h196 : List mE), fI h196 64 77 - fI h196 64 86 < (n201 : Int) → fI h196 64 86 ≤ fI h196 64 87 → fI h196 64 87 ≤ fI h196 64 77 → fI h196 64 88 = 0 ∨ fI h196 64 86 + 1 ≤ fI h196 64 87 → fI h196 64 93 ≤ fI h196 64 86+1 → 0 ≤ fI h196 64 90 ∨ fI h196 64 91 = 0 → fI h196 64 92 = fI h 64 78 → fI h196 64 78 = fI h 64 78 → (∀ i : Int, 0 ≤ i → i < 220 * fI h 64 78 → aI h196 129 i = aI h 129 i) → (∀ i : Int, 0 ≤ i → i < 220 * fI h 64 78 → aI h196 130 i = aI h 130 i) → 0 ≤ fI h196 64 90 ∨ Zs h196 (220 * fI h 64 78) (fI h196 64 93) → RI (cS (TT h) (fI h 64 77)) (cF (TT h) (fI h 64 77)) (cP (TT h) (fI h 64 77)) h196 → TH E τ h196 → Fr τ W264 h h196 → Fr τ [(8, 86), (8, 87), (8, 88), (8, 89), (8, 90), (8, 91), (8, 93), (107, 0), (108, 0), (109, 0)] h102 h196 → MR (mex Ln xs) d 264 66 [some (.ref 64), some (vI p1), some (vI p2)] [] h196 Q := by
    intro n201
    induction n201 with
    | zero =>
      intro h196 hm203 x204 x205 x206 x207 x208 x209 x210 x211 x212 x213 x214 hT197 hF198 hL199
      exfalso; omega
    | succ n201 ih202 =>
      intro h196 hm203 x204 x205 x206 x207 x208 x209 x210 x211 x212 x213 x214 hT197 hF198 hL199
      have e215 := fI_bd (q := 64) hT197 (tf hT197 rfl rfl) fd_8_86
      have e216 := fI_bd (q := 64) hT197 (tf hT197 rfl rfl) fd_8_87
      have e217 := fI_bd (q := 64) hT197 (tf hT197 rfl rfl) fd_8_77
      have q218 : fI h196 64 77 = fI h80 64 77 := (Fr_fI hL199 (tf hT103 rfl rfl) (by decide +kernel)).trans (Fr_fI hF104 (tf hT81 rfl rfl) (by decide +kernel))
      have e219 := fI_bd (q := 64) hT197 (tf hT197 rfl rfl) fd_8_88
      have e220 := fI_bd (q := 64) hT197 (tf hT197 rfl rfl) fd_8_93
      have e221 := fI_bd (q := 64) hT197 (tf hT197 rfl rfl) fd_8_90
      have e222 := fI_bd (q := 64) hT197 (tf hT197 rfl rfl) fd_8_91
      have e223 := fI_bd (q := 64) hT197 (tf hT197 rfl rfl) fd_8_92
      have q224 : fI h196 64 92 = fI h80 64 92 := (Fr_fI hL199 (tf hT103 rfl rfl) (by decide +kernel)).trans (Fr_fI hF104 (tf hT81 rfl rfl) (by decide +kernel))
      have e225 := fI_bd (q := 64) hT197 (tf hT197 rfl rfl) fd_8_78
      have q226 : fI h196 64 78 = fI h 64 78 := (Fr_fI hL199 (tf hT103 rfl rfl) (by decide +kernel)).trans ((Fr_fI hF104 (tf hT81 rfl rfl) (by decide +kernel)).trans ((Fr_fI hF82 (tf hT58 rfl rfl) (by decide +kernel)).trans ((FUp_fIne hU60 (fun z => absurd z.2 (by decide))).trans ((FUp_fIne hU56 (fun z => absurd z.2 (by decide))).trans ((FUp_fIne hU52 (fun z => absurd z.2 (by decide))).trans ((FUp_fIne hU48 (fun z => absurd z.2 (by decide))).trans (FUp_fIne hU44 (fun z => absurd z.2 (by decide)))))))))
      refine st_aload c264_66 rfl ?_
      refine st_getI c264_67 hT197 (tf hT197 rfl rfl) fd_8_90 (fun e227 e228 => ?_)
      refine st_if_ge c264_70 (by omega) (fun k229 => ?_) (fun k230 => ?_)
      refine st_aload c264_93 rfl ?_
      refine st_getI c264_94 hT197 (tf hT197 rfl rfl) fd_8_90 (fun e231 e232 => ?_)
      refine st_if_ge c264_97 (by omega) (fun k233 => ?_) (fun k234 => False.elim (by omega))
      refine st_aload c264_111 rfl ?_
      refine st_iconst c264_112 ?_
      refine st_putI c264_113 hT197 (tf hT197 rfl rfl) fd_8_77 (by omega) (by omega) (Ext_rf _) hS hF198 (by decide +kernel) (fun h235 hT236 hF237 hU238 => ?_)
      refine st_aload c264_116 rfl ?_
      refine st_getI c264_117 hT236 (tf hT236 rfl rfl) fd_8_90 (fun e239 e240 => ?_)
      have q241 : fI h235 64 90 = fI h196 64 90 := FUp_fIne hU238 (fun z => absurd z.2 (by decide))
      refine st_if_lt c264_120 (by omega) (fun k242 => False.elim (by omega)) (fun k243 => ?_)
      refine st_iconst c264_123 ?_
      refine st_aload c264_125 rfl ?_
      refine st_getI c264_126 hT236 (tf hT236 rfl rfl) fd_8_90 (fun e244 e245 => ?_)
      have q246 : fI h235 64 90 = fI h196 64 90 := FUp_fIne hU238 (fun z => absurd z.2 (by decide))
      have e247 := fI_bd (q := 64) hT236 (tf hT236 rfl rfl) fd_8_77
      have q248 : fI h235 64 77 = 0 := FUp_fI hU238 (by omega) (by omega)
      have e249 := fI_bd (q := 64) hT236 (tf hT236 rfl rfl) fd_8_78
      have q250 : fI h235 64 78 = fI h196 64 78 := FUp_fIne hU238 (fun z => absurd z.2 (by decide))
      have e251 := fI_bd (q := 64) hT236 (tf hT236 rfl rfl) fd_8_87
      have q252 : fI h235 64 87 = fI h196 64 87 := FUp_fIne hU238 (fun z => absurd z.2 (by decide))
      have e253 := fI_bd (q := 64) hT236 (tf hT236 rfl rfl) fd_8_88
      have q254 : fI h235 64 88 = fI h196 64 88 := FUp_fIne hU238 (fun z => absurd z.2 (by decide))
      have e255 := fI_bd (q := 64) hT (tf hT rfl rfl) fd_8_77
      have e256 := fI_bd (q := 64) hT (tf hT rfl rfl) fd_8_87
      have e257 := fI_bd (q := 64) hT (tf hT rfl rfl) fd_8_88
      have e258 := fI_bd (q := 64) hT (tf hT rfl rfl) fd_8_90
      have cp259 : CP (TT h) (fI h 64 77) (fI h235 64 90) := RI_f x214 (by omega) (by omega)
      have cb260 := CP_bd (by omega) cp259
      refine st_isub c264_129 ?_
      refine st_ireturn c264_130 ?_
      have e261 := fI_bd (q := 64) hT236 (tf hT236 rfl rfl) fd_8_78
      have q262 : fI h235 64 78 = fI h196 64 78 := FUp_fIne hU238 (fun z => absurd z.2 (by decide))
      have fr264 : ∀ i : Int, 0 ≤ i → i < 220 * fI h 64 78 → aI h235 129 i = aI h 129 i := fun i a b => ((FUp_aI hU238 i)).trans ((x211 i a b))
      have fr265 : ∀ i : Int, 0 ≤ i → i < 220 * fI h 64 78 → aI h235 130 i = aI h 130 i := fun i a b => ((FUp_aI hU238 i)).trans ((x212 i a b))
      have iv263 := I4_kp pre0 (by omega) (fun t => (FUp_aI hU238 t).trans ((Fr_aI hL199 (tf hT103 rfl rfl) (by decide +kernel) t).trans ((Fr_aI hF104 (tf hT81 rfl rfl) (by decide +kernel) t).trans ((Fr_aI hF82 (tf hT58 rfl rfl) (by decide +kernel) t).trans ((FUp_aI hU60 t).trans ((FUp_aI hU56 t).trans ((FUp_aI hU52 t).trans ((FUp_aI hU48 t).trans (FUp_aI hU44 t))))))))) (aI_bd hT (tf (q := 128) (t := 106) hT rfl rfl) ay_106) fr264 fr265
      have e266 := fI_bd (q := 64) hT236 (tf hT236 rfl rfl) fd_8_77
      have q267 : fI h235 64 77 = 0 := FUp_fI hU238 (by omega) (by omega)
      have e268 := fI_bd (q := 64) hT236 (tf hT236 rfl rfl) fd_8_87
      have q269 : fI h235 64 87 = fI h196 64 87 := FUp_fIne hU238 (fun z => absurd z.2 (by decide))
      have e270 := fI_bd (q := 64) hT236 (tf hT236 rfl rfl) fd_8_88
      have q271 : fI h235 64 88 = fI h196 64 88 := FUp_fIne hU238 (fun z => absurd z.2 (by decide))
      have e272 := fI_bd (q := 64) hT (tf hT rfl rfl) fd_8_77
      have e273 := fI_bd (q := 64) hT (tf hT rfl rfl) fd_8_87
      have e274 := fI_bd (q := 64) hT (tf hT rfl rfl) fd_8_88
      have e275 := fI_bd (q := 64) hT (tf hT rfl rfl) fd_8_90
      have e276 := fI_bd (q := 64) hT236 (tf hT236 rfl rfl) fd_8_77
      have q277 : fI h235 64 77 = 0 := FUp_fI hU238 (by omega) (by omega)
      have e278 := fI_bd (q := 64) hT236 (tf hT236 rfl rfl) fd_8_87
      have q279 : fI h235 64 87 = fI h196 64 87 := FUp_fIne hU238 (fun z => absurd z.2 (by decide))
      have e280 := fI_bd (q := 64) hT236 (tf hT236 rfl rfl) fd_8_88
      have q281 : fI h235 64 88 = fI h196 64 88 := FUp_fIne hU238 (fun z => absurd z.2 (by decide))
      have e282 := fI_bd (q := 64) hT (tf hT rfl rfl) fd_8_77
      have e283 := fI_bd (q := 64) hT (tf hT rfl rfl) fd_8_87
      have e284 := fI_bd (q := 64) hT (tf hT rfl rfl) fd_8_88
      have e285 := fI_bd (q := 64) hT (tf hT rfl rfl) fd_8_90
      have cp286 : CP (TT h) (fI h 64 77) (fI h235 64 90) := RI_f x214 (by omega) (by omega)
      have cb287 := CP_bd (by omega) cp286
      exact hQ _ _ ⟨(-100) - (fI h235 64 90), rfl, by omega, iv263, ⟨(TT_fr hT hF237 (by decide +kernel)), Or.inr (Or.inr ⟨by omega, by omega, by omega, by omega, by omega, by omega, fI h235 64 90, cp286, by omega⟩)⟩, hT236, hF237⟩
      obtain ⟨e288, a289, b290, cu291, pr292, ct293⟩ := RI_g x214 (by omega)
      have cf294 := CU_F cu291
      have ct295 := CU_t cu291 (c := 59) (by decide) (by decide) (by decide)
      have c0296 := CU_0 cu291
      refine st_aload c264_73 rfl ?_
      refine st_getI c264_74 hT197 (tf hT197 rfl rfl) fd_8_88 (fun e297 e298 => ?_)
      refine st_iconst c264_77 ?_
      refine st_icmp_ne c264_79 (by omega) (by omega) (fun k299 => ?_) (fun k300 => ?_)
      refine st_aload c264_93 rfl ?_
      refine st_getI c264_94 hT197 (tf hT197 rfl rfl) fd_8_90 (fun e301 e302 => ?_)
      refine st_if_ge c264_97 (by omega) (fun k303 => False.elim (by omega)) (fun k304 => ?_)
      refine st_aload c264_100 rfl ?_
      refine st_getI c264_101 hT197 (tf hT197 rfl rfl) fd_8_88 (fun e305 e306 => ?_)
      refine st_if_eq c264_104 (by omega) (fun k307 => ?_) (fun k308 => ?_)
      refine st_aload c264_111 rfl ?_
      refine st_iconst c264_112 ?_
      refine st_putI c264_113 hT197 (tf hT197 rfl rfl) fd_8_77 (by omega) (by omega) (Ext_rf _) hS hF198 (by decide +kernel) (fun h309 hT310 hF311 hU312 => ?_)
      refine st_aload c264_116 rfl ?_
      refine st_getI c264_117 hT310 (tf hT310 rfl rfl) fd_8_90 (fun e313 e314 => ?_)
      have q315 : fI h309 64 90 = fI h196 64 90 := FUp_fIne hU312 (fun z => absurd z.2 (by decide))
      refine st_if_lt c264_120 (by omega) (fun k316 => ?_) (fun k317 => False.elim (by omega))
      refine st_aload c264_131 rfl ?_
      refine st_getX (u := 125) c264_132 hT310 (tf hT310 rfl rfl) fd_8_79 rfl ?_
      refine st_aload c264_135 rfl ?_
      refine st_getI c264_136 hT310 (tf hT310 rfl rfl) fd_8_78 (fun e318 e319 => ?_)
      have q320 : fI h309 64 78 = fI h196 64 78 := FUp_fIne hU312 (fun z => absurd z.2 (by decide))
      refine st_iload c264_139 rfl ?_
      refine st_iast c264_140 hT310 (tf hT310 rfl rfl) ay_103 (by omega) (by omega) (by omega) (Ext_rf _) hS hF311 (by decide +kernel) (fun h321 hT322 hF323 hU324 => ?_)
      refine st_aload c264_141 rfl ?_
      refine st_getX (u := 126) c264_142 hT322 (tf hT322 rfl rfl) fd_8_80 rfl ?_
      refine st_aload c264_145 rfl ?_
      refine st_getI c264_146 hT322 (tf hT322 rfl rfl) fd_8_78 (fun e325 e326 => ?_)
      have q327 : fI h321 64 78 = fI h309 64 78 := AUp_fI hU324
      refine st_aload c264_149 rfl ?_
      refine st_callt (as := []) c264_150 cm_182 hT322 (tf hT322 rfl rfl) fd_8_0 rfl rfl rfl rfl (by omega) (K182 hT322 (d - 1) (by omega) _ (fun v h0 H => H)) (fun v1 h1 H => ?_)
      obtain ⟨z328, rfl, b329, rfl⟩ := H
      refine st_iast c264_153 hT322 (tf hT322 rfl rfl) ay_104 (by omega) (by omega) (by omega) (Ext_rf _) hS hF323 (by decide +kernel) (fun h330 hT331 hF332 hU333 => ?_)
      refine st_aload c264_154 rfl ?_
      refine st_getX (u := 127) c264_155 hT331 (tf hT331 rfl rfl) fd_8_81 rfl ?_
      refine st_aload c264_158 rfl ?_
      refine st_getI c264_159 hT331 (tf hT331 rfl rfl) fd_8_78 (fun e334 e335 => ?_)
      have q336 : fI h330 64 78 = fI h321 64 78 := AUp_fI hU333
      refine st_iload c264_162 rfl ?_
      refine st_iast c264_163 hT331 (tf hT331 rfl rfl) ay_105 (by omega) (by omega) (by omega) (Ext_rf _) hS hF332 (by decide +kernel) (fun h337 hT338 hF339 hU340 => ?_)
      refine st_aload c264_164 rfl ?_
      refine st_getX (u := 128) c264_165 hT338 (tf hT338 rfl rfl) fd_8_82 rfl ?_
      refine st_aload c264_168 rfl ?_
      refine st_getI c264_169 hT338 (tf hT338 rfl rfl) fd_8_78 (fun e341 e342 => ?_)
      have q343 : fI h337 64 78 = fI h330 64 78 := AUp_fI hU340
      refine st_aload c264_172 rfl ?_
      refine st_getI c264_173 hT338 (tf hT338 rfl rfl) fd_8_93 (fun e344 e345 => ?_)
      have q346 : fI h337 64 93 = fI h196 64 93 := (AUp_fI hU340).trans ((AUp_fI hU333).trans ((AUp_fI hU324).trans (FUp_fIne hU312 (fun z => absurd z.2 (by decide)))))
      refine st_iast c264_176 hT338 (tf hT338 rfl rfl) ay_106 (by omega) (by omega) (by omega) (Ext_rf _) hS hF339 (by decide +kernel) (fun h347 hT348 hF349 hU350 => ?_)
      refine st_aload c264_177 rfl ?_
      refine st_dup c264_178 rfl ?_
      refine st_getI c264_179 hT348 (tf hT348 rfl rfl) fd_8_78 (fun e351 e352 => ?_)
      have q353 : fI h347 64 78 = fI h337 64 78 := AUp_fI hU350
      refine st_iconst c264_182 ?_
      refine st_iadd c264_183 ?_
      refine st_putI c264_184 hT348 (tf hT348 rfl rfl) fd_8_78 (by omega) (by omega) (Ext_rf _) hS hF349 (by decide +kernel) (fun h354 hT355 hF356 hU357 => ?_)
      refine st_aload c264_187 rfl ?_
      refine st_getI c264_188 hT355 (tf hT355 rfl rfl) fd_8_78 (fun e358 e359 => ?_)
      have q360 : fI h354 64 78 = (fI h347 64 78) + 1 := FUp_fI hU357 (by omega) (by omega)
      refine st_iconst c264_191 ?_
      refine st_isub c264_192 ?_
      refine st_ireturn c264_193 ?_
      have fr362 : ∀ i : Int, 0 ≤ i → i < 220 * fI h 64 78 → aI h354 129 i = aI h 129 i := fun i a b => ((FUp_aI hU357 i)).trans (((AUp_aIne hU350 (by decide) i)).trans (((AUp_aIne hU340 (by decide) i)).trans (((AUp_aIne hU333 (by decide) i)).trans (((AUp_aIne hU324 (by decide) i)).trans (((FUp_aI hU312 i)).trans ((x211 i a b)))))))
      have fr363 : ∀ i : Int, 0 ≤ i → i < 220 * fI h 64 78 → aI h354 130 i = aI h 130 i := fun i a b => ((FUp_aI hU357 i)).trans (((AUp_aIne hU350 (by decide) i)).trans (((AUp_aIne hU340 (by decide) i)).trans (((AUp_aIne hU333 (by decide) i)).trans (((AUp_aIne hU324 (by decide) i)).trans (((FUp_aI hU312 i)).trans ((x212 i a b)))))))
      have fr364 : ∀ i : Int, 0 ≤ i → i < fI h 64 78 → aI h354 128 i = aI h 128 i := fun i a b => ((FUp_aI hU357 i)).trans ((((AUp_aI hU350 (by omega) (by omega) (by omega) a).trans (if_neg (by omega)))).trans (((AUp_aIne hU340 (by decide) i)).trans (((AUp_aIne hU333 (by decide) i)).trans (((AUp_aIne hU324 (by decide) i)).trans (((FUp_aI hU312 i)).trans (((Fr_aI hL199 (tf hT103 rfl rfl) (by decide +kernel) i)).trans (((Fr_aI hF104 (tf hT81 rfl rfl) (by decide +kernel) i)).trans (((Fr_aI hF82 (tf hT58 rfl rfl) (by decide +kernel) i)).trans (((FUp_aI hU60 i)).trans (((FUp_aI hU56 i)).trans (((FUp_aI hU52 i)).trans (((FUp_aI hU48 i)).trans ((FUp_aI hU44 i))))))))))))))
      have a1 : aI h354 128 (fI h 64 78) = fI h337 64 93 := (FUp_aI hU357 (fI h 64 78)).trans ((AUp_aI hU350 (by omega) (by omega) (by omega) (by omega)).trans (if_pos (by omega)))
      have gx := x213.resolve_left (by omega)
      have fr365 : ∀ i : Int, 0 ≤ i → i < 220 * fI h 64 78 + fI h196 64 93 → aI h354 129 i = aI h196 129 i := fun i a b => ((FUp_aI hU357 i)).trans (((AUp_aIne hU350 (by decide) i)).trans (((AUp_aIne hU340 (by decide) i)).trans (((AUp_aIne hU333 (by decide) i)).trans (((AUp_aIne hU324 (by decide) i)).trans ((FUp_aI hU312 i))))))
      have fr366 : ∀ i : Int, 0 ≤ i → i < 220 * fI h 64 78 + fI h196 64 93 → aI h354 130 i = aI h196 130 i := fun i a b => ((FUp_aI hU357 i)).trans (((AUp_aIne hU350 (by decide) i)).trans (((AUp_aIne hU340 (by decide) i)).trans (((AUp_aIne hU333 (by decide) i)).trans (((AUp_aIne hU324 (by decide) i)).trans ((FUp_aI hU312 i))))))
      have k1 : Zs h354 (220 * fI h 64 78) (fI h196 64 93) := Zs_mv gx (fun i a b => ⟨fr365 i (by omega) (by omega), fr366 i (by omega) (by omega)⟩)
      have iv361 := I4_add pre0 (by omega) fr364 (aI_bd hT (tf (q := 128) (t := 106) hT rfl rfl) ay_106) fr362 fr363 (by rw [a1, show fI h337 64 93 = fI h196 64 93 by omega]; exact k1)
      have e367 := fI_bd (q := 64) hT355 (tf hT355 rfl rfl) fd_8_77
      have q368 : fI h354 64 77 = 0 := (FUp_fIne hU357 (fun z => absurd z.2 (by decide))).trans ((AUp_fI hU350).trans ((AUp_fI hU340).trans ((AUp_fI hU333).trans ((AUp_fI hU324).trans (FUp_fI hU312 (by omega) (by omega))))))
      have e369 := fI_bd (q := 64) hT355 (tf hT355 rfl rfl) fd_8_87
      have q370 : fI h354 64 87 = fI h196 64 87 := (FUp_fIne hU357 (fun z => absurd z.2 (by decide))).trans ((AUp_fI hU350).trans ((AUp_fI hU340).trans ((AUp_fI hU333).trans ((AUp_fI hU324).trans (FUp_fIne hU312 (fun z => absurd z.2 (by decide)))))))
      have e371 := fI_bd (q := 64) hT355 (tf hT355 rfl rfl) fd_8_88
      have q372 : fI h354 64 88 = fI h196 64 88 := (FUp_fIne hU357 (fun z => absurd z.2 (by decide))).trans ((AUp_fI hU350).trans ((AUp_fI hU340).trans ((AUp_fI hU333).trans ((AUp_fI hU324).trans (FUp_fIne hU312 (fun z => absurd z.2 (by decide)))))))
      have e373 := fI_bd (q := 64) hT355 (tf hT355 rfl rfl) fd_8_90
      have q374 : fI h354 64 90 = fI h309 64 90 := (FUp_fIne hU357 (fun z => absurd z.2 (by decide))).trans ((AUp_fI hU350).trans ((AUp_fI hU340).trans ((AUp_fI hU333).trans (AUp_fI hU324))))
      have e375 := fI_bd (q := 64) hT (tf hT rfl rfl) fd_8_77
      have e376 := fI_bd (q := 64) hT (tf hT rfl rfl) fd_8_87
      have e377 := fI_bd (q := 64) hT (tf hT rfl rfl) fd_8_88
      have e378 := fI_bd (q := 64) hT (tf hT rfl rfl) fd_8_90
      have e379 := fI_bd (q := 64) hT355 (tf hT355 rfl rfl) fd_8_77
      have q380 : fI h354 64 77 = 0 := (FUp_fIne hU357 (fun z => absurd z.2 (by decide))).trans ((AUp_fI hU350).trans ((AUp_fI hU340).trans ((AUp_fI hU333).trans ((AUp_fI hU324).trans (FUp_fI hU312 (by omega) (by omega))))))
      have e381 := fI_bd (q := 64) hT355 (tf hT355 rfl rfl) fd_8_87
      have q382 : fI h354 64 87 = fI h196 64 87 := (FUp_fIne hU357 (fun z => absurd z.2 (by decide))).trans ((AUp_fI hU350).trans ((AUp_fI hU340).trans ((AUp_fI hU333).trans ((AUp_fI hU324).trans (FUp_fIne hU312 (fun z => absurd z.2 (by decide)))))))
      have e383 := fI_bd (q := 64) hT355 (tf hT355 rfl rfl) fd_8_88
      have q384 : fI h354 64 88 = fI h196 64 88 := (FUp_fIne hU357 (fun z => absurd z.2 (by decide))).trans ((AUp_fI hU350).trans ((AUp_fI hU340).trans ((AUp_fI hU333).trans ((AUp_fI hU324).trans (FUp_fIne hU312 (fun z => absurd z.2 (by decide)))))))
      have e385 := fI_bd (q := 64) hT355 (tf hT355 rfl rfl) fd_8_90
      have q386 : fI h354 64 90 = fI h309 64 90 := (FUp_fIne hU357 (fun z => absurd z.2 (by decide))).trans ((AUp_fI hU350).trans ((AUp_fI hU340).trans ((AUp_fI hU333).trans (AUp_fI hU324))))
      have e387 := fI_bd (q := 64) hT (tf hT rfl rfl) fd_8_77
      have e388 := fI_bd (q := 64) hT (tf hT rfl rfl) fd_8_87
      have e389 := fI_bd (q := 64) hT (tf hT rfl rfl) fd_8_88
      have e390 := fI_bd (q := 64) hT (tf hT rfl rfl) fd_8_90
      have cp391 : CP (TT h) (fI h 64 77) (fI h354 64 90) := RI_ok pr292 ct293 (by omega) (by omega)
      have cb392 := CP_bd (by omega) cp391
      exact hQ _ _ ⟨(fI h354 64 78) - 1, rfl, by omega, iv361, ⟨(TT_fr hT hF356 (by decide +kernel)), Or.inr (Or.inr ⟨by omega, by omega, by omega, by omega, by omega, by omega, fI h354 64 90, cp391, by omega⟩)⟩, hT355, hF356⟩
      refine st_aload c264_107 rfl ?_
      refine st_callt (as := []) c264_108 cm_254 hT197 (tf hT197 rfl rfl) fd_8_0 rfl rfl rfl rfl (by omega) (K254 hT197 (Stb_mono hS (by decide +kernel)) (d - 1) (by omega) _ (fun v h0 H => H)) (fun v1 h393 H => ?_)
      obtain ⟨rfl, pf396, pf397, pf398, hT394, hF395⟩ := H
      have hF399 := Fr_cp hF198 hF395 (by decide +kernel : Wsub W254 W264 = true)
      have e400 := fI_bd (q := 64) hT394 (tf hT394 rfl rfl) fd_8_90
      refine st_aload c264_111 rfl ?_
      refine st_iconst c264_112 ?_
      refine st_putI c264_113 hT394 (tf hT394 rfl rfl) fd_8_77 (by omega) (by omega) (Ext_rf _) hS hF399 (by decide +kernel) (fun h401 hT402 hF403 hU404 => ?_)
      refine st_aload c264_116 rfl ?_
      refine st_getI c264_117 hT402 (tf hT402 rfl rfl) fd_8_90 (fun e405 e406 => ?_)
      have q407 : fI h401 64 90 = fI h393 64 90 := FUp_fIne hU404 (fun z => absurd z.2 (by decide))
      refine st_if_lt c264_120 (by omega) (fun k408 => False.elim (by omega)) (fun k409 => ?_)
      refine st_iconst c264_123 ?_
      refine st_aload c264_125 rfl ?_
      refine st_getI c264_126 hT402 (tf hT402 rfl rfl) fd_8_90 (fun e410 e411 => ?_)
      have q412 : fI h401 64 90 = fI h393 64 90 := FUp_fIne hU404 (fun z => absurd z.2 (by decide))
      have e413 := fI_bd (q := 64) hT402 (tf hT402 rfl rfl) fd_8_77
      have q414 : fI h401 64 77 = 0 := FUp_fI hU404 (by omega) (by omega)
      have e415 := fI_bd (q := 64) hT402 (tf hT402 rfl rfl) fd_8_78
      have q416 : fI h401 64 78 = fI h196 64 78 := (FUp_fIne hU404 (fun z => absurd z.2 (by decide))).trans (Fr_fI hF395 (tf hT197 rfl rfl) (by decide +kernel))
      have e417 := fI_bd (q := 64) hT402 (tf hT402 rfl rfl) fd_8_87
      have q418 : fI h401 64 87 = fI h196 64 87 := (FUp_fIne hU404 (fun z => absurd z.2 (by decide))).trans (Fr_fI hF395 (tf hT197 rfl rfl) (by decide +kernel))
      have e419 := fI_bd (q := 64) hT402 (tf hT402 rfl rfl) fd_8_88
      have q420 : fI h401 64 88 = fI h196 64 88 := (FUp_fIne hU404 (fun z => absurd z.2 (by decide))).trans (Fr_fI hF395 (tf hT197 rfl rfl) (by decide +kernel))
      have e421 := fI_bd (q := 64) hT (tf hT rfl rfl) fd_8_77
      have e422 := fI_bd (q := 64) hT (tf hT rfl rfl) fd_8_87
      have e423 := fI_bd (q := 64) hT (tf hT rfl rfl) fd_8_88
      have e424 := fI_bd (q := 64) hT (tf hT rfl rfl) fd_8_90
      have e425 := fI_bd (q := 64) hT394 (tf hT394 rfl rfl) fd_8_77
      have q426 : fI h393 64 77 = fI h196 64 77 := Fr_fI hF395 (tf hT197 rfl rfl) (by decide +kernel)
      have e427 := fI_bd (q := 64) hT394 (tf hT394 rfl rfl) fd_8_78
      have q428 : fI h393 64 78 = fI h196 64 78 := Fr_fI hF395 (tf hT197 rfl rfl) (by decide +kernel)
      have e429 := fI_bd (q := 64) hT394 (tf hT394 rfl rfl) fd_8_87
      have q430 : fI h393 64 87 = fI h196 64 87 := Fr_fI hF395 (tf hT197 rfl rfl) (by decide +kernel)
      have e431 := fI_bd (q := 64) hT394 (tf hT394 rfl rfl) fd_8_88
      have q432 : fI h393 64 88 = fI h196 64 88 := Fr_fI hF395 (tf hT197 rfl rfl) (by decide +kernel)
      have cp433 : CP (TT h) (fI h 64 77) (fI h401 64 90) := RI_no pr292 ct293 (by omega) (by omega) (by omega) (by omega)
      have cb434 := CP_bd (by omega) cp433
      refine st_isub c264_129 ?_
      refine st_ireturn c264_130 ?_
      have e435 := fI_bd (q := 64) hT402 (tf hT402 rfl rfl) fd_8_78
      have q436 : fI h401 64 78 = fI h196 64 78 := (FUp_fIne hU404 (fun z => absurd z.2 (by decide))).trans (Fr_fI hF395 (tf hT197 rfl rfl) (by decide +kernel))
      have fr438 : ∀ i : Int, 0 ≤ i → i < 220 * fI h 64 78 → aI h401 129 i = aI h 129 i := fun i a b => ((FUp_aI hU404 i)).trans (((Fr_aI hF395 (tf hT197 rfl rfl) (by decide +kernel) i)).trans ((x211 i a b)))
      have fr439 : ∀ i : Int, 0 ≤ i → i < 220 * fI h 64 78 → aI h401 130 i = aI h 130 i := fun i a b => ((FUp_aI hU404 i)).trans (((Fr_aI hF395 (tf hT197 rfl rfl) (by decide +kernel) i)).trans ((x212 i a b)))
      have iv437 := I4_kp pre0 (by omega) (fun t => (FUp_aI hU404 t).trans ((Fr_aI hF395 (tf hT197 rfl rfl) (by decide +kernel) t).trans ((Fr_aI hL199 (tf hT103 rfl rfl) (by decide +kernel) t).trans ((Fr_aI hF104 (tf hT81 rfl rfl) (by decide +kernel) t).trans ((Fr_aI hF82 (tf hT58 rfl rfl) (by decide +kernel) t).trans ((FUp_aI hU60 t).trans ((FUp_aI hU56 t).trans ((FUp_aI hU52 t).trans ((FUp_aI hU48 t).trans (FUp_aI hU44 t)))))))))) (aI_bd hT (tf (q := 128) (t := 106) hT rfl rfl) ay_106) fr438 fr439
      have e440 := fI_bd (q := 64) hT402 (tf hT402 rfl rfl) fd_8_77
      have q441 : fI h401 64 77 = 0 := FUp_fI hU404 (by omega) (by omega)
      have e442 := fI_bd (q := 64) hT402 (tf hT402 rfl rfl) fd_8_87
      have q443 : fI h401 64 87 = fI h196 64 87 := (FUp_fIne hU404 (fun z => absurd z.2 (by decide))).trans (Fr_fI hF395 (tf hT197 rfl rfl) (by decide +kernel))
      have e444 := fI_bd (q := 64) hT402 (tf hT402 rfl rfl) fd_8_88
      have q445 : fI h401 64 88 = fI h196 64 88 := (FUp_fIne hU404 (fun z => absurd z.2 (by decide))).trans (Fr_fI hF395 (tf hT197 rfl rfl) (by decide +kernel))
      have e446 := fI_bd (q := 64) hT (tf hT rfl rfl) fd_8_77
      have e447 := fI_bd (q := 64) hT (tf hT rfl rfl) fd_8_87
      have e448 := fI_bd (q := 64) hT (tf hT rfl rfl) fd_8_88
      have e449 := fI_bd (q := 64) hT (tf hT rfl rfl) fd_8_90
      have e450 := fI_bd (q := 64) hT402 (tf hT402 rfl rfl) fd_8_77
      have q451 : fI h401 64 77 = 0 := FUp_fI hU404 (by omega) (by omega)
      have e452 := fI_bd (q := 64) hT402 (tf hT402 rfl rfl) fd_8_87
      have q453 : fI h401 64 87 = fI h196 64 87 := (FUp_fIne hU404 (fun z => absurd z.2 (by decide))).trans (Fr_fI hF395 (tf hT197 rfl rfl) (by decide +kernel))
      have e454 := fI_bd (q := 64) hT402 (tf hT402 rfl rfl) fd_8_88
      have q455 : fI h401 64 88 = fI h196 64 88 := (FUp_fIne hU404 (fun z => absurd z.2 (by decide))).trans (Fr_fI hF395 (tf hT197 rfl rfl) (by decide +kernel))
      have e456 := fI_bd (q := 64) hT (tf hT rfl rfl) fd_8_77
      have e457 := fI_bd (q := 64) hT (tf hT rfl rfl) fd_8_87
      have e458 := fI_bd (q := 64) hT (tf hT rfl rfl) fd_8_88
      have e459 := fI_bd (q := 64) hT (tf hT rfl rfl) fd_8_90
      have e460 := fI_bd (q := 64) hT394 (tf hT394 rfl rfl) fd_8_77
      have q461 : fI h393 64 77 = fI h196 64 77 := Fr_fI hF395 (tf hT197 rfl rfl) (by decide +kernel)
      have e462 := fI_bd (q := 64) hT394 (tf hT394 rfl rfl) fd_8_78
      have q463 : fI h393 64 78 = fI h196 64 78 := Fr_fI hF395 (tf hT197 rfl rfl) (by decide +kernel)
      have e464 := fI_bd (q := 64) hT394 (tf hT394 rfl rfl) fd_8_87
      have q465 : fI h393 64 87 = fI h196 64 87 := Fr_fI hF395 (tf hT197 rfl rfl) (by decide +kernel)
      have e466 := fI_bd (q := 64) hT394 (tf hT394 rfl rfl) fd_8_88
      have q467 : fI h393 64 88 = fI h196 64 88 := Fr_fI hF395 (tf hT197 rfl rfl) (by decide +kernel)
      have cp468 : CP (TT h) (fI h 64 77) (fI h401 64 90) := RI_no pr292 ct293 (by omega) (by omega) (by omega) (by omega)
      have cb469 := CP_bd (by omega) cp468
      exact hQ _ _ ⟨(-100) - (fI h401 64 90), rfl, by omega, iv437, ⟨(TT_fr hT hF403 (by decide +kernel)), Or.inr (Or.inr ⟨by omega, by omega, by omega, by omega, by omega, by omega, fI h401 64 90, cp468, by omega⟩)⟩, hT402, hF403⟩
      refine st_aload c264_82 rfl ?_
      refine st_callt (as := []) c264_83 cm_252 hT197 (tf hT197 rfl rfl) fd_8_0 rfl rfl rfl rfl (by omega) (K252 hT197 (Stb_mono hS (by decide +kernel)) (by omega) (CU_nx cu291) (d - 1) (by omega) _ (fun v h0 H => H)) (fun v1 h470 H => ?_)
      obtain ⟨rfl, pf473, pf474, pf475, pf476, pf477, hT471, hF472⟩ := H
      have hF478 := Fr_cp hF198 hF472 (by decide +kernel : Wsub W252 W264 = true)
      have e479 := fI_bd (q := 64) hT471 (tf hT471 rfl rfl) fd_8_86
      have e480 := fI_bd (q := 64) hT471 (tf hT471 rfl rfl) fd_8_87
      have e481 := fI_bd (q := 64) hT471 (tf hT471 rfl rfl) fd_8_88
      refine st_aload c264_86 rfl ?_
      have e482 := fI_bd (q := 64) hT471 (tf hT471 rfl rfl) fd_8_77
      have q483 : fI h470 64 77 = fI h196 64 77 := Fr_fI hF472 (tf hT197 rfl rfl) (by decide +kernel)
      have e484 := fI_bd (q := 64) hT471 (tf hT471 rfl rfl) fd_8_93
      have q485 : fI h470 64 93 = fI h196 64 93 := Fr_fI hF472 (tf hT197 rfl rfl) (by decide +kernel)
      have e486 := fI_bd (q := 64) hT471 (tf hT471 rfl rfl) fd_8_91
      have q487 : fI h470 64 91 = fI h196 64 91 := Fr_fI hF472 (tf hT197 rfl rfl) (by decide +kernel)
      have e488 := fI_bd (q := 64) hT471 (tf hT471 rfl rfl) fd_8_92
      have q489 : fI h470 64 92 = fI h196 64 92 := Fr_fI hF472 (tf hT197 rfl rfl) (by decide +kernel)
      have e490 := fI_bd (q := 64) hT471 (tf hT471 rfl rfl) fd_8_90
      have q491 : fI h470 64 90 = fI h196 64 90 := Fr_fI hF472 (tf hT197 rfl rfl) (by decide +kernel)
      refine st_callt (as := []) c264_87 cm_263 hT471 (tf hT471 rfl rfl) fd_8_0 rfl rfl rfl rfl (by omega) (K263 hT471 (Stb_mono hS (by decide +kernel)) (by omega) (by omega) (by omega) (by omega) (by omega) (by omega) pf477 (d - 1) (by omega) _ (fun v h0 H => H)) (fun v1 h492 H => ?_)
      obtain ⟨rfl, pf495, pf496, pf497, pf498, pf499, pf500, pf501, pf502, pf503, pf504, pf505, hT493, hF494⟩ := H
      have hF506 := Fr_cp hF478 hF494 (by decide +kernel : Wsub W263 W264 = true)
      have e507 := fI_bd (q := 64) hT493 (tf hT493 rfl rfl) fd_8_86
      have e508 := fI_bd (q := 64) hT493 (tf hT493 rfl rfl) fd_8_87
      have e509 := fI_bd (q := 64) hT493 (tf hT493 rfl rfl) fd_8_88
      have e510 := fI_bd (q := 64) hT493 (tf hT493 rfl rfl) fd_8_93
      have e511 := fI_bd (q := 64) hT493 (tf hT493 rfl rfl) fd_8_90
      have e512 := fI_bd (q := 64) hT493 (tf hT493 rfl rfl) fd_8_91
      refine st_goto c264_90 ?_
      have e513 := fI_bd (q := 64) hT493 (tf hT493 rfl rfl) fd_8_92
      have q514 : fI h492 64 92 = fI h470 64 92 := Fr_fI hF494 (tf hT471 rfl rfl) (by decide +kernel)
      have sg515 : 0 ≤ fI h492 64 90 ∨ Zs h492 (220 * fI h 64 78) (fI h492 64 93) := by
        rcases pf505 with q | q
        · exact Or.inl (by omega)
        · refine Or.inr ?_
          have gx := x213.resolve_left (by omega)
          have fr516 : ∀ i : Int, 0 ≤ i → i < 220 * fI h 64 78 + fI h196 64 93 → aI h492 129 i = aI h196 129 i := fun i a b => ((pf503 i a (by omega))).trans ((Fr_aI hF472 (tf hT197 rfl rfl) (by decide +kernel) i))
          have fr517 : ∀ i : Int, 0 ≤ i → i < 220 * fI h 64 78 + fI h196 64 93 → aI h492 130 i = aI h196 130 i := fun i a b => ((pf504 i a (by omega))).trans ((Fr_aI hF472 (tf hT197 rfl rfl) (by decide +kernel) i))
          have k1 : Zs h492 (220 * fI h 64 78) (fI h196 64 93) := Zs_mv gx (fun i a b => ⟨fr516 i (by omega) (by omega), fr517 i (by omega) (by omega)⟩)
          rw [show fI h492 64 93 = fI h196 64 93 + (fI h492 64 93 - fI h470 64 93) by omega]
          exact Zs_cat k1 (by rw [show 220 * fI h 64 78 + fI h196 64 93 = 220 * fI h470 64 92 + fI h470 64 93 by omega]; exact q)
      have e518 := fI_bd (q := 64) hT493 (tf hT493 rfl rfl) fd_8_77
      have q519 : fI h492 64 77 = fI h470 64 77 := Fr_fI hF494 (tf hT471 rfl rfl) (by decide +kernel)
      have e520 := fI_bd (q := 64) hT493 (tf hT493 rfl rfl) fd_8_78
      have q521 : fI h492 64 78 = fI h196 64 78 := (Fr_fI hF494 (tf hT471 rfl rfl) (by decide +kernel)).trans (Fr_fI hF472 (tf hT197 rfl rfl) (by decide +kernel))
      have fr522 : ∀ i : Int, 0 ≤ i → i < 220 * fI h 64 78 → aI h492 129 i = aI h 129 i := fun i a b => ((pf503 i a (by omega))).trans (((Fr_aI hF472 (tf hT197 rfl rfl) (by decide +kernel) i)).trans ((x211 i a b)))
      have fr523 : ∀ i : Int, 0 ≤ i → i < 220 * fI h 64 78 → aI h492 130 i = aI h 130 i := fun i a b => ((pf504 i a (by omega))).trans (((Fr_aI hF472 (tf hT197 rfl rfl) (by decide +kernel) i)).trans ((x212 i a b)))
      have e524 := fI_bd (q := 64) hT471 (tf hT471 rfl rfl) fd_8_78
      have q525 : fI h470 64 78 = fI h196 64 78 := Fr_fI hF472 (tf hT197 rfl rfl) (by decide +kernel)
      exact ih202 h492 (by omega) (by omega) (by omega) (by omega) (by omega) (by omega) (by omega) (by omega) fr522 fr523 sg515 (RI_s e288 pr292 ct293 (by omega) (by omega) pf495) hT493 hF506 (Fr_cp (Fr_cp hL199 hF472 (by decide +kernel)) hF494 (by decide +kernel))
  have e526 := fI_bd (q := 64) hT103 (tf hT103 rfl rfl) fd_8_92
  have q527 : fI h102 64 92 = fI h80 64 92 := Fr_fI hF104 (tf hT81 rfl rfl) (by decide +kernel)
  have sg528 : 0 ≤ fI h102 64 90 ∨ Zs h102 (220 * fI h 64 78) (fI h102 64 93) := by
    rcases pf115 with q | q
    · exact Or.inl (by omega)
    · refine Or.inr ?_
      rw [show 220 * fI h 64 78 = 220 * fI h80 64 92 + fI h80 64 93 by omega, show fI h102 64 93 = fI h102 64 93 - fI h80 64 93 by omega]
      exact q
  have e529 := fI_bd (q := 64) hT103 (tf hT103 rfl rfl) fd_8_77
  have q530 : fI h102 64 77 = fI h80 64 77 := Fr_fI hF104 (tf hT81 rfl rfl) (by decide +kernel)
  have e531 := fI_bd (q := 64) hT103 (tf hT103 rfl rfl) fd_8_78
  have q532 : fI h102 64 78 = fI h 64 78 := (Fr_fI hF104 (tf hT81 rfl rfl) (by decide +kernel)).trans ((Fr_fI hF82 (tf hT58 rfl rfl) (by decide +kernel)).trans ((FUp_fIne hU60 (fun z => absurd z.2 (by decide))).trans ((FUp_fIne hU56 (fun z => absurd z.2 (by decide))).trans ((FUp_fIne hU52 (fun z => absurd z.2 (by decide))).trans ((FUp_fIne hU48 (fun z => absurd z.2 (by decide))).trans (FUp_fIne hU44 (fun z => absurd z.2 (by decide))))))))
  have fr533 : ∀ i : Int, 0 ≤ i → i < 220 * fI h 64 78 → aI h102 129 i = aI h 129 i := fun i a b => ((pf113 i a (by omega))).trans (((Fr_aI hF82 (tf hT58 rfl rfl) (by decide +kernel) i)).trans (((FUp_aI hU60 i)).trans (((FUp_aI hU56 i)).trans (((FUp_aI hU52 i)).trans (((FUp_aI hU48 i)).trans ((FUp_aI hU44 i)))))))
  have fr534 : ∀ i : Int, 0 ≤ i → i < 220 * fI h 64 78 → aI h102 130 i = aI h 130 i := fun i a b => ((pf114 i a (by omega))).trans (((Fr_aI hF82 (tf hT58 rfl rfl) (by decide +kernel) i)).trans (((FUp_aI hU60 i)).trans (((FUp_aI hU56 i)).trans (((FUp_aI hU52 i)).trans (((FUp_aI hU48 i)).trans ((FUp_aI hU44 i)))))))
  have e535 := fI_bd (q := 64) hT81 (tf hT81 rfl rfl) fd_8_78
  have q536 : fI h80 64 78 = fI h 64 78 := (Fr_fI hF82 (tf hT58 rfl rfl) (by decide +kernel)).trans ((FUp_fIne hU60 (fun z => absurd z.2 (by decide))).trans ((FUp_fIne hU56 (fun z => absurd z.2 (by decide))).trans ((FUp_fIne hU52 (fun z => absurd z.2 (by decide))).trans ((FUp_fIne hU48 (fun z => absurd z.2 (by decide))).trans (FUp_fIne hU44 (fun z => absurd z.2 (by decide)))))))
  exact lp200 (((fI h102 64 77 - fI h102 64 86 : Int) + 1).toNat) h102 (by omega) (by omega) (by omega) (by omega) (by omega) (by omega) (by omega) (by omega) fr533 fr534 sg528 (RI_0 (by omega) pf105) hT103 hF116 (Fr_rf _ _ _)
  refine st_iconst c264_27 ?_
  refine st_ireturn c264_29 ?_
  have e537 := fI_bd (q := 64) hT (tf hT rfl rfl) fd_8_77
  have e538 := fI_bd (q := 64) hT (tf hT rfl rfl) fd_8_87
  have e539 := fI_bd (q := 64) hT (tf hT rfl rfl) fd_8_88
  have e540 := fI_bd (q := 64) hT (tf hT rfl rfl) fd_8_90
  have e541 := fI_bd (q := 64) hT (tf hT rfl rfl) fd_8_77
  have e542 := fI_bd (q := 64) hT (tf hT rfl rfl) fd_8_87
  have e543 := fI_bd (q := 64) hT (tf hT rfl rfl) fd_8_88
  have e544 := fI_bd (q := 64) hT (tf hT rfl rfl) fd_8_90
  exact hQ _ _ ⟨(-3), rfl, by omega, pre0, ⟨rfl, Or.inr (Or.inl ⟨by omega, by omega, by omega, by omega, by omega, by omega, by omega, by omega⟩)⟩, hT, hF⟩
