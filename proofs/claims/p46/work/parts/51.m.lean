def Wp9 : List (Nat × Nat) := [(6, 6), (6, 7), (6, 9), (39, 0)]
abbrev C109 (k : Int) : Prop := ∀ {S F : Int → Int} {Ln : Nat} {xs : Nat → Int32} {τ : List Nat} {h : List mE} {E : EP} (hT : TH E τ h) (hS : Stb E Wp9) (pt : TB S F h) (d : Nat) (hd : 64 - 6 * k ≤ (d : Int)) (Q : Option Value → List mE → Prop) (hQ : ∀ v h', (v = none ∧ (fI h 54 9≤fI h' 54 9) ∧ (∀ i : Int, 0 ≤ i → i < fI h 54 9 → aI h' 59 i = aI h 59 i) ∧ (0 ≤ fI h' 54 7 ∨ fI h 54 6 + 1 ≤ fI h' 54 6) ∧ (fI h 54 7 < 0 ∨ 0 ≤ fI h' 54 7) ∧ (CMx S F 0 k h h') ∧ TH E τ h' ∧ Fr τ Wp9 h h') → Q v h'), MR (mex Ln xs) d 109 0 [some (.ref 54), some (vI k), none, none] [] h Q
set_option maxHeartbeats 0 in
theorem K111 {S F : Int → Int} {Ln : Nat} {xs : Nat → Int32} {τ : List Nat} {h : List mE} {E : EP} (hT : TH E τ h) (hS : Stb E Wp9) (p1 : Int) (hp1 : 0 ≤ p1 ∧ p1 ≤ 8) (pre0 : p1 < 8 → C109 (p1 + 1)) (pre1 : TB S F h) (d : Nat) (hd : 62 - 6 * p1 ≤ (d : Int)) (Q : Option Value → List mE → Prop) (hQ : ∀ v h', (v = none ∧ (fI h 54 9≤fI h' 54 9) ∧ (∀ i : Int, 0 ≤ i → i < fI h 54 9 → aI h' 59 i = aI h 59 i) ∧ (0 ≤ fI h' 54 7 ∨ fI h 54 6 + 1 ≤ fI h' 54 6) ∧ (fI h 54 7 < 0 ∨ 0 ≤ fI h' 54 7) ∧ (CMx S F 2 p1 h h') ∧ TH E τ h' ∧ Fr τ Wp9 h h') → Q v h') : MR (mex Ln xs) d 111 0 [some (.ref 54), some (vI p1), none, none] [] h Q := by
  have hF := Fr_rf τ Wp9 h
  have e0 := fI_bd (q := 54) hT (tf hT rfl rfl) fd_6_6
  refine st_aload c111_0 rfl ?_
  have e1 := fI_bd (q := 54) hT (tf hT rfl rfl) fd_6_6
  have e2 := fI_bd (q := 54) hT (tf hT rfl rfl) fd_6_5
  refine st_callt (as := []) c111_1 cm_102 hT (tf hT rfl rfl) fd_6_0 rfl rfl rfl rfl (by omega) (K102 hT pre1 (d - 1) (by omega) _ (fun v h0 H => H)) (fun v1 h1 H => ?_)
  obtain ⟨z5, rfl, b6, pf3, pf4, rfl⟩ := H
  refine st_istore (L' := [some (.ref 54), some (vI p1), some (vI z5), none]) c111_4 rfl rfl ?_
  refine st_iload c111_5 rfl ?_
  refine st_iconst c111_6 ?_
  refine st_icmp_eq c111_8 (by omega) (by omega) (fun k7 => ?_) (fun k8 => ?_)
  refine st_iconst c111_17 ?_
  refine st_goto c111_18 ?_
  refine st_istore (L' := [some (.ref 54), some (vI p1), some (vI z5), some (vI 1)]) c111_22 rfl rfl ?_
  refine st_iload c111_23 rfl ?_
  refine st_iconst c111_24 ?_
  refine st_icmp_ne c111_26 (by omega) (by omega) (fun k9 => ?_) (fun k10 => False.elim (by omega))
  refine st_iload c111_38 rfl ?_
  refine st_if_lt c111_39 (by omega) (fun k11 => False.elim (by omega)) (fun k12 => ?_)
  refine st_iload c111_42 rfl ?_
  refine st_iconst c111_43 ?_
  refine st_icmp_ge c111_45 (by omega) (by omega) (fun k13 => ?_) (fun k14 => False.elim (by omega))
  refine st_iload c111_66 rfl ?_
  refine st_if_eq c111_67 (by omega) (fun k15 => False.elim (by omega)) (fun k16 => ?_)
  refine st_aload c111_70 rfl ?_
  refine st_dup c111_71 rfl ?_
  refine st_getI c111_72 hT (tf hT rfl rfl) fd_6_6 (fun e17 e18 => ?_)
  refine st_iconst c111_75 ?_
  refine st_iadd c111_76 ?_
  refine st_putI c111_77 hT (tf hT rfl rfl) fd_6_6 (by omega) (by omega) (Ext_rf _) hS hF (by decide +kernel) (fun h19 hT20 hF21 hU22 => ?_)
  refine st_iload c111_80 rfl ?_
  refine st_iconst c111_81 ?_
  refine st_icmp_ge c111_83 (by omega) (by omega) (fun k23 => ?_) (fun k24 => ?_)
  refine st_aload c111_96 rfl ?_
  refine st_callt (as := []) c111_97 cm_105 hT20 (tf hT20 rfl rfl) fd_6_0 rfl rfl rfl rfl (by omega) (K105 hT20 (Stb_mono hS (by decide +kernel)) (TB_fr pre1 hT hF21 (by decide +kernel)) (d - 1) (by omega) _ (fun v h0 H => H)) (fun v1 h25 H => ?_)
  obtain ⟨rfl, pf28, pf29, hT26, hF27⟩ := H
  have hF30 := Fr_cp hF21 hF27 (by decide +kernel : Wsub W105 Wp9 = true)
  have e31 := fI_bd (q := 54) hT26 (tf hT26 rfl rfl) fd_6_7
  refine st_return c111_100 ?_
  have e32 := fI_bd (q := 54) hT26 (tf hT26 rfl rfl) fd_6_9
  have q33 : fI h25 54 9 = fI h 54 9 := (Fr_fI hF27 (tf hT20 rfl rfl) (by decide +kernel)).trans (FUp_fIne hU22 (fun z => absurd z.2 (by decide)))
  have e34 := fI_bd (q := 54) hT26 (tf hT26 rfl rfl) fd_6_6
  have q35 : fI h25 54 6 = (fI h 54 6) + 1 := (Fr_fI hF27 (tf hT20 rfl rfl) (by decide +kernel)).trans (FUp_fI hU22 (by omega) (by omega))
  have fr36 : ∀ i : Int, 0 ≤ i → i < fI h 54 9 → aI h25 59 i = aI h 59 i := fun i a b => ((Fr_aI hF27 (tf hT20 rfl rfl) (by decide +kernel) i)).trans ((FUp_aI hU22 i))
  have e37 := fI_bd (q := 54) hT (tf hT rfl rfl) fd_6_7
  have e38 := fI_bd (q := 54) hT20 (tf hT20 rfl rfl) fd_6_6
  have q39 : fI h19 54 6 = (fI h 54 6) + 1 := FUp_fI hU22 (by omega) (by omega)
  have e40 := fI_bd (q := 54) hT20 (tf hT20 rfl rfl) fd_6_7
  have q41 : fI h19 54 7 = fI h 54 7 := FUp_fIne hU22 (fun z => absurd z.2 (by decide))
  exact hQ _ _ ⟨rfl, by omega, fr36, by omega, by omega, CM_pf pre1 (fI_bd (q := 54) hT (tf hT rfl rfl) fd_6_6).1 (by omega) (by omega) (by omega) (by omega) pf29, hT26, hF30⟩
  refine st_aload c111_86 rfl ?_
  refine st_iconst c111_87 ?_
  have e42 := fI_bd (q := 54) hT20 (tf hT20 rfl rfl) fd_6_7
  have q43 : fI h19 54 7 = fI h 54 7 := FUp_fIne hU22 (fun z => absurd z.2 (by decide))
  have e44 := fI_bd (q := 54) hT20 (tf hT20 rfl rfl) fd_6_6
  have q45 : fI h19 54 6 = (fI h 54 6) + 1 := FUp_fI hU22 (by omega) (by omega)
  refine st_callt (as := [vI 1040]) c111_90 cm_103 hT20 (tf hT20 rfl rfl) fd_6_0 rfl rfl rfl rfl (by omega) (K103b hT20 (Stb_mono hS (by decide +kernel)) 1040 (by omega) (TB_fr pre1 hT hF21 (by decide +kernel)) (d - 1) (by omega) _ (fun v h0 H => H)) (fun v1 h46 H => ?_)
  rcases H with ⟨rfl, pf49, pf50, pf51, hT47, hF48⟩ | ⟨rfl, pf52, pf53, pf54, pf55, hT47, hF48⟩
  have hF56 := Fr_cp hF21 hF48 (by decide +kernel : Wsub W103b Wp9 = true)
  have e57 := fI_bd (q := 54) hT47 (tf hT47 rfl rfl) fd_6_6
  have e58 := fI_bd (q := 54) hT47 (tf hT47 rfl rfl) fd_6_7
  have q59 : fI h46 54 7 = fI h19 54 7 := Fr_fI hF48 (tf hT20 rfl rfl) (by decide +kernel)
  refine st_if_ne c111_93 (by omega) (fun k60 => False.elim (by omega)) (fun k61 => ?_)
  refine st_aload c111_96 rfl ?_
  refine st_callt (as := []) c111_97 cm_105 hT47 (tf hT47 rfl rfl) fd_6_0 rfl rfl rfl rfl (by omega) (K105 hT47 (Stb_mono hS (by decide +kernel)) (TB_fr pre1 hT hF56 (by decide +kernel)) (d - 1) (by omega) _ (fun v h0 H => H)) (fun v1 h62 H => ?_)
  obtain ⟨rfl, pf65, pf66, hT63, hF64⟩ := H
  have hF67 := Fr_cp hF56 hF64 (by decide +kernel : Wsub W105 Wp9 = true)
  have e68 := fI_bd (q := 54) hT63 (tf hT63 rfl rfl) fd_6_7
  refine st_return c111_100 ?_
  have e69 := fI_bd (q := 54) hT63 (tf hT63 rfl rfl) fd_6_9
  have q70 : fI h62 54 9 = fI h 54 9 := (Fr_fI hF64 (tf hT47 rfl rfl) (by decide +kernel)).trans ((Fr_fI hF48 (tf hT20 rfl rfl) (by decide +kernel)).trans (FUp_fIne hU22 (fun z => absurd z.2 (by decide))))
  have e71 := fI_bd (q := 54) hT63 (tf hT63 rfl rfl) fd_6_6
  have q72 : fI h62 54 6 = fI h46 54 6 := Fr_fI hF64 (tf hT47 rfl rfl) (by decide +kernel)
  have fr73 : ∀ i : Int, 0 ≤ i → i < fI h 54 9 → aI h62 59 i = aI h 59 i := fun i a b => ((Fr_aI hF64 (tf hT47 rfl rfl) (by decide +kernel) i)).trans (((Fr_aI hF48 (tf hT20 rfl rfl) (by decide +kernel) i)).trans ((FUp_aI hU22 i)))
  have e74 := fI_bd (q := 54) hT (tf hT rfl rfl) fd_6_7
  have cg75 := congrArg S (show fI h46 54 6 = fI h19 54 6 by omega)
  exact hQ _ _ ⟨rfl, by omega, fr73, by omega, by omega, CM_pf pre1 (fI_bd (q := 54) hT (tf hT rfl rfl) fd_6_6).1 (by omega) (by omega) (by omega) (by omega) pf66, hT63, hF67⟩
  have hF76 := Fr_cp hF21 hF48 (by decide +kernel : Wsub W103b Wp9 = true)
  have e77 := fI_bd (q := 54) hT47 (tf hT47 rfl rfl) fd_6_6
  have e78 := fI_bd (q := 54) hT47 (tf hT47 rfl rfl) fd_6_7
  have q79 : fI h46 54 7 = fI h19 54 7 := Fr_fI hF48 (tf hT20 rfl rfl) (by decide +kernel)
  refine st_if_ne c111_93 (by omega) (fun k80 => ?_) (fun k81 => False.elim (by omega))
  refine st_aload c111_101 rfl ?_
  refine st_iload c111_102 rfl ?_
  refine st_iconst c111_103 ?_
  refine st_iadd c111_104 ?_
  have e82 := fI_bd (q := 54) hT47 (tf hT47 rfl rfl) fd_6_9
  have q83 : fI h46 54 9 = fI h 54 9 := (Fr_fI hF48 (tf hT20 rfl rfl) (by decide +kernel)).trans (FUp_fIne hU22 (fun z => absurd z.2 (by decide)))
  refine st_callt (as := [vI (p1 + 1)]) c111_105 cm_109 hT47 (tf hT47 rfl rfl) fd_6_0 rfl rfl rfl rfl (by omega) ((pre0 (by omega)) hT47 (Stb_mono hS (by decide +kernel)) (TB_fr pre1 hT hF76 (by decide +kernel)) (d - 1) (by omega) _ (fun v h0 H => H)) (fun v1 h84 H => ?_)
  obtain ⟨rfl, pf87, pf88, pf89, pf90, pf91, hT85, hF86⟩ := H
  have hF92 := Fr_cp hF76 hF86 (by decide +kernel : Wsub Wp9 Wp9 = true)
  have e93 := fI_bd (q := 54) hT85 (tf hT85 rfl rfl) fd_6_9
  have e94 := fI_bd (q := 54) hT85 (tf hT85 rfl rfl) fd_6_7
  have e95 := fI_bd (q := 54) hT85 (tf hT85 rfl rfl) fd_6_6
  refine st_iload c111_108 rfl ?_
  refine st_if_eq c111_109 (by omega) (fun k96 => False.elim (by omega)) (fun k97 => ?_)
  refine st_aload c111_112 rfl ?_
  refine st_iconst c111_113 ?_
  refine st_callt (as := [vI 1044]) c111_116 cm_104 hT85 (tf hT85 rfl rfl) fd_6_0 rfl rfl rfl rfl (by omega) (K104b hT85 (Stb_mono hS (by decide +kernel)) 1044 (by omega) (TB_fr pre1 hT hF92 (by decide +kernel)) (d - 1) (by omega) _ (fun v h0 H => H)) (fun v1 h98 H => ?_)
  obtain ⟨rfl, pf101, pf102, pf103, hT99, hF100⟩ := H
  have hF104 := Fr_cp hF92 hF100 (by decide +kernel : Wsub W104b Wp9 = true)
  have e105 := fI_bd (q := 54) hT99 (tf hT99 rfl rfl) fd_6_7
  have e106 := fI_bd (q := 54) hT99 (tf hT99 rfl rfl) fd_6_6
  refine st_aload c111_119 rfl ?_
  refine st_iload c111_120 rfl ?_
  refine st_iconst c111_121 ?_
  refine st_iadd c111_122 ?_
  have e107 := fI_bd (q := 54) hT99 (tf hT99 rfl rfl) fd_6_9
  have q108 : fI h98 54 9 = fI h84 54 9 := Fr_fI hF100 (tf hT85 rfl rfl) (by decide +kernel)
  refine st_callt (as := [vI (p1 + 1)]) c111_123 cm_109 hT99 (tf hT99 rfl rfl) fd_6_0 rfl rfl rfl rfl (by omega) ((pre0 (by omega)) hT99 (Stb_mono hS (by decide +kernel)) (TB_fr pre1 hT hF104 (by decide +kernel)) (d - 1) (by omega) _ (fun v h0 H => H)) (fun v1 h109 H => ?_)
  obtain ⟨rfl, pf112, pf113, pf114, pf115, pf116, hT110, hF111⟩ := H
  have hF117 := Fr_cp hF104 hF111 (by decide +kernel : Wsub Wp9 Wp9 = true)
  have e118 := fI_bd (q := 54) hT110 (tf hT110 rfl rfl) fd_6_9
  have e119 := fI_bd (q := 54) hT110 (tf hT110 rfl rfl) fd_6_7
  have e120 := fI_bd (q := 54) hT110 (tf hT110 rfl rfl) fd_6_6
  refine st_aload c111_126 rfl ?_
  refine st_iload c111_127 rfl ?_
  refine st_ineg c111_128 ?_
  refine st_callt (as := [vI (-z5)]) c111_129 cm_107 hT110 (tf hT110 rfl rfl) fd_6_0 rfl rfl rfl rfl (by omega) (K107 hT110 (Stb_mono hS (by decide +kernel)) (-z5) (by omega) (d - 1) (by omega) _ (fun v h0 H => H)) (fun v1 h121 H => ?_)
  obtain ⟨rfl, pf124, pf125, pf126, pf127, hT122, hF123⟩ := H
  have hF128 := Fr_cp hF117 hF123 (by decide +kernel : Wsub W107 Wp9 = true)
  have e129 := fI_bd (q := 54) hT122 (tf hT122 rfl rfl) fd_6_9
  refine st_aload c111_132 rfl ?_
  refine st_iconst c111_133 ?_
  have e130 := fI_bd (q := 54) hT122 (tf hT122 rfl rfl) fd_6_7
  have q131 : fI h121 54 7 = fI h109 54 7 := Fr_fI hF123 (tf hT110 rfl rfl) (by decide +kernel)
  have e132 := fI_bd (q := 54) hT122 (tf hT122 rfl rfl) fd_6_6
  have q133 : fI h121 54 6 = fI h109 54 6 := Fr_fI hF123 (tf hT110 rfl rfl) (by decide +kernel)
  refine st_callt (as := [vI 1041]) c111_136 cm_104 hT122 (tf hT122 rfl rfl) fd_6_0 rfl rfl rfl rfl (by omega) (K104b hT122 (Stb_mono hS (by decide +kernel)) 1041 (by omega) (TB_fr pre1 hT hF128 (by decide +kernel)) (d - 1) (by omega) _ (fun v h0 H => H)) (fun v1 h134 H => ?_)
  obtain ⟨rfl, pf137, pf138, pf139, hT135, hF136⟩ := H
  have hF140 := Fr_cp hF128 hF136 (by decide +kernel : Wsub W104b Wp9 = true)
  have e141 := fI_bd (q := 54) hT135 (tf hT135 rfl rfl) fd_6_7
  have e142 := fI_bd (q := 54) hT135 (tf hT135 rfl rfl) fd_6_6
  refine st_return c111_139 ?_
  have e143 := fI_bd (q := 54) hT135 (tf hT135 rfl rfl) fd_6_9
  have q144 : fI h134 54 9 = fI h121 54 9 := Fr_fI hF136 (tf hT122 rfl rfl) (by decide +kernel)
  have fr145 : ∀ i : Int, 0 ≤ i → i < fI h 54 9 → aI h134 59 i = aI h 59 i := fun i a b => ((Fr_aI hF136 (tf hT122 rfl rfl) (by decide +kernel) i)).trans (((pf127 i a (by omega))).trans (((pf113 i a (by omega))).trans (((Fr_aI hF100 (tf hT85 rfl rfl) (by decide +kernel) i)).trans (((pf88 i a (by omega))).trans (((Fr_aI hF48 (tf hT20 rfl rfl) (by decide +kernel) i)).trans ((FUp_aI hU22 i)))))))
  have e146 := fI_bd (q := 54) hT (tf hT rfl rfl) fd_6_7
  exact hQ _ _ ⟨rfl, by omega, fr145, by omega, by omega, CM_p pre1 (by omega) (by omega) (by omega) (by omega) (by omega) (by omega) (by omega) pf91 pf103 (fI_bd (q := 54) hT85 (tf hT85 rfl rfl) fd_6_6).1 pf116 (by omega) (by omega) (fI_bd (q := 54) hT110 (tf hT110 rfl rfl) fd_6_6).1 pf139, hT135, hF140⟩
  refine st_iload c111_11 rfl ?_
  refine st_iconst c111_12 ?_
  refine st_icmp_ne c111_14 (by omega) (by omega) (fun k147 => ?_) (fun k148 => ?_)
  refine st_iconst c111_21 ?_
  refine st_istore (L' := [some (.ref 54), some (vI p1), some (vI z5), some (vI 0)]) c111_22 rfl rfl ?_
  refine st_iload c111_23 rfl ?_
  refine st_iconst c111_24 ?_
  refine st_icmp_ne c111_26 (by omega) (by omega) (fun k149 => ?_) (fun k150 => ?_)
  refine st_iload c111_38 rfl ?_
  refine st_if_lt c111_39 (by omega) (fun k151 => ?_) (fun k152 => ?_)
  refine st_iload c111_66 rfl ?_
  refine st_if_eq c111_67 (by omega) (fun k153 => ?_) (fun k154 => False.elim (by omega))
  refine st_iload c111_80 rfl ?_
  refine st_iconst c111_81 ?_
  refine st_icmp_ge c111_83 (by omega) (by omega) (fun k155 => ?_) (fun k156 => ?_)
  refine st_aload c111_96 rfl ?_
  refine st_callt (as := []) c111_97 cm_105 hT (tf hT rfl rfl) fd_6_0 rfl rfl rfl rfl (by omega) (K105 hT (Stb_mono hS (by decide +kernel)) pre1 (d - 1) (by omega) _ (fun v h0 H => H)) (fun v1 h157 H => ?_)
  obtain ⟨rfl, pf160, pf161, hT158, hF159⟩ := H
  have hF162 := Fr_cp hF hF159 (by decide +kernel : Wsub W105 Wp9 = true)
  have e163 := fI_bd (q := 54) hT158 (tf hT158 rfl rfl) fd_6_7
  refine st_return c111_100 ?_
  have e164 := fI_bd (q := 54) hT158 (tf hT158 rfl rfl) fd_6_9
  have q165 : fI h157 54 9 = fI h 54 9 := Fr_fI hF159 (tf hT rfl rfl) (by decide +kernel)
  have e166 := fI_bd (q := 54) hT158 (tf hT158 rfl rfl) fd_6_6
  have q167 : fI h157 54 6 = fI h 54 6 := Fr_fI hF159 (tf hT rfl rfl) (by decide +kernel)
  have fr168 : ∀ i : Int, 0 ≤ i → i < fI h 54 9 → aI h157 59 i = aI h 59 i := fun i a b => (Fr_aI hF159 (tf hT rfl rfl) (by decide +kernel) i)
  have e169 := fI_bd (q := 54) hT (tf hT rfl rfl) fd_6_7
  have e170 := fI_bd (q := 54) hT (tf hT rfl rfl) fd_6_7
  exact hQ _ _ ⟨rfl, by omega, fr168, by omega, by omega, CM_nf pre1 (fI_bd (q := 54) hT (tf hT rfl rfl) fd_6_6).1 (by omega) (by omega) (by omega) (by omega) (by omega) pf161, hT158, hF162⟩
  refine st_aload c111_86 rfl ?_
  refine st_iconst c111_87 ?_
  have e171 := fI_bd (q := 54) hT (tf hT rfl rfl) fd_6_7
  refine st_callt (as := [vI 1040]) c111_90 cm_103 hT (tf hT rfl rfl) fd_6_0 rfl rfl rfl rfl (by omega) (K103b hT (Stb_mono hS (by decide +kernel)) 1040 (by omega) pre1 (d - 1) (by omega) _ (fun v h0 H => H)) (fun v1 h172 H => ?_)
  rcases H with ⟨rfl, pf175, pf176, pf177, hT173, hF174⟩ | ⟨rfl, pf178, pf179, pf180, pf181, hT173, hF174⟩
  have hF182 := Fr_cp hF hF174 (by decide +kernel : Wsub W103b Wp9 = true)
  have e183 := fI_bd (q := 54) hT173 (tf hT173 rfl rfl) fd_6_6
  have e184 := fI_bd (q := 54) hT173 (tf hT173 rfl rfl) fd_6_7
  have q185 : fI h172 54 7 = fI h 54 7 := Fr_fI hF174 (tf hT rfl rfl) (by decide +kernel)
  refine st_if_ne c111_93 (by omega) (fun k186 => False.elim (by omega)) (fun k187 => ?_)
  refine st_aload c111_96 rfl ?_
  refine st_callt (as := []) c111_97 cm_105 hT173 (tf hT173 rfl rfl) fd_6_0 rfl rfl rfl rfl (by omega) (K105 hT173 (Stb_mono hS (by decide +kernel)) (TB_fr pre1 hT hF182 (by decide +kernel)) (d - 1) (by omega) _ (fun v h0 H => H)) (fun v1 h188 H => ?_)
  obtain ⟨rfl, pf191, pf192, hT189, hF190⟩ := H
  have hF193 := Fr_cp hF182 hF190 (by decide +kernel : Wsub W105 Wp9 = true)
  have e194 := fI_bd (q := 54) hT189 (tf hT189 rfl rfl) fd_6_7
  refine st_return c111_100 ?_
  have e195 := fI_bd (q := 54) hT189 (tf hT189 rfl rfl) fd_6_9
  have q196 : fI h188 54 9 = fI h 54 9 := (Fr_fI hF190 (tf hT173 rfl rfl) (by decide +kernel)).trans (Fr_fI hF174 (tf hT rfl rfl) (by decide +kernel))
  have e197 := fI_bd (q := 54) hT189 (tf hT189 rfl rfl) fd_6_6
  have q198 : fI h188 54 6 = fI h172 54 6 := Fr_fI hF190 (tf hT173 rfl rfl) (by decide +kernel)
  have fr199 : ∀ i : Int, 0 ≤ i → i < fI h 54 9 → aI h188 59 i = aI h 59 i := fun i a b => ((Fr_aI hF190 (tf hT173 rfl rfl) (by decide +kernel) i)).trans ((Fr_aI hF174 (tf hT rfl rfl) (by decide +kernel) i))
  have cg200 := congrArg S (show fI h172 54 6 = fI h 54 6 by omega)
  exact hQ _ _ ⟨rfl, by omega, fr199, by omega, by omega, CM_nf pre1 (fI_bd (q := 54) hT (tf hT rfl rfl) fd_6_6).1 (by omega) (by omega) (by omega) (by omega) (by omega) pf192, hT189, hF193⟩
  have hF201 := Fr_cp hF hF174 (by decide +kernel : Wsub W103b Wp9 = true)
  have e202 := fI_bd (q := 54) hT173 (tf hT173 rfl rfl) fd_6_6
  have e203 := fI_bd (q := 54) hT173 (tf hT173 rfl rfl) fd_6_7
  have q204 : fI h172 54 7 = fI h 54 7 := Fr_fI hF174 (tf hT rfl rfl) (by decide +kernel)
  refine st_if_ne c111_93 (by omega) (fun k205 => ?_) (fun k206 => False.elim (by omega))
  refine st_aload c111_101 rfl ?_
  refine st_iload c111_102 rfl ?_
  refine st_iconst c111_103 ?_
  refine st_iadd c111_104 ?_
  have e207 := fI_bd (q := 54) hT173 (tf hT173 rfl rfl) fd_6_9
  have q208 : fI h172 54 9 = fI h 54 9 := Fr_fI hF174 (tf hT rfl rfl) (by decide +kernel)
  refine st_callt (as := [vI (p1 + 1)]) c111_105 cm_109 hT173 (tf hT173 rfl rfl) fd_6_0 rfl rfl rfl rfl (by omega) ((pre0 (by omega)) hT173 (Stb_mono hS (by decide +kernel)) (TB_fr pre1 hT hF201 (by decide +kernel)) (d - 1) (by omega) _ (fun v h0 H => H)) (fun v1 h209 H => ?_)
  obtain ⟨rfl, pf212, pf213, pf214, pf215, pf216, hT210, hF211⟩ := H
  have hF217 := Fr_cp hF201 hF211 (by decide +kernel : Wsub Wp9 Wp9 = true)
  have e218 := fI_bd (q := 54) hT210 (tf hT210 rfl rfl) fd_6_9
  have e219 := fI_bd (q := 54) hT210 (tf hT210 rfl rfl) fd_6_7
  have e220 := fI_bd (q := 54) hT210 (tf hT210 rfl rfl) fd_6_6
  refine st_iload c111_108 rfl ?_
  refine st_if_eq c111_109 (by omega) (fun k221 => ?_) (fun k222 => False.elim (by omega))
  refine st_aload c111_132 rfl ?_
  refine st_iconst c111_133 ?_
  refine st_callt (as := [vI 1041]) c111_136 cm_104 hT210 (tf hT210 rfl rfl) fd_6_0 rfl rfl rfl rfl (by omega) (K104b hT210 (Stb_mono hS (by decide +kernel)) 1041 (by omega) (TB_fr pre1 hT hF217 (by decide +kernel)) (d - 1) (by omega) _ (fun v h0 H => H)) (fun v1 h223 H => ?_)
  obtain ⟨rfl, pf226, pf227, pf228, hT224, hF225⟩ := H
  have hF229 := Fr_cp hF217 hF225 (by decide +kernel : Wsub W104b Wp9 = true)
  have e230 := fI_bd (q := 54) hT224 (tf hT224 rfl rfl) fd_6_7
  have e231 := fI_bd (q := 54) hT224 (tf hT224 rfl rfl) fd_6_6
  refine st_return c111_139 ?_
  have e232 := fI_bd (q := 54) hT224 (tf hT224 rfl rfl) fd_6_9
  have q233 : fI h223 54 9 = fI h209 54 9 := Fr_fI hF225 (tf hT210 rfl rfl) (by decide +kernel)
  have fr234 : ∀ i : Int, 0 ≤ i → i < fI h 54 9 → aI h223 59 i = aI h 59 i := fun i a b => ((Fr_aI hF225 (tf hT210 rfl rfl) (by decide +kernel) i)).trans (((pf213 i a (by omega))).trans ((Fr_aI hF174 (tf hT rfl rfl) (by decide +kernel) i)))
  exact hQ _ _ ⟨rfl, by omega, fr234, by omega, by omega, CM_n pre1 (by omega) (by omega) (by omega) (by omega) (by omega) pf216 pf228 (fI_bd (q := 54) hT210 (tf hT210 rfl rfl) fd_6_6).1, hT224, hF229⟩
  refine st_iload c111_42 rfl ?_
  refine st_iconst c111_43 ?_
  refine st_icmp_ge c111_45 (by omega) (by omega) (fun k235 => ?_) (fun k236 => ?_)
  refine st_iload c111_66 rfl ?_
  refine st_if_eq c111_67 (by omega) (fun k237 => ?_) (fun k238 => False.elim (by omega))
  refine st_iload c111_80 rfl ?_
  refine st_iconst c111_81 ?_
  refine st_icmp_ge c111_83 (by omega) (by omega) (fun k239 => ?_) (fun k240 => ?_)
  refine st_aload c111_96 rfl ?_
  refine st_callt (as := []) c111_97 cm_105 hT (tf hT rfl rfl) fd_6_0 rfl rfl rfl rfl (by omega) (K105 hT (Stb_mono hS (by decide +kernel)) pre1 (d - 1) (by omega) _ (fun v h0 H => H)) (fun v1 h241 H => ?_)
  obtain ⟨rfl, pf244, pf245, hT242, hF243⟩ := H
  have hF246 := Fr_cp hF hF243 (by decide +kernel : Wsub W105 Wp9 = true)
  have e247 := fI_bd (q := 54) hT242 (tf hT242 rfl rfl) fd_6_7
  refine st_return c111_100 ?_
  have e248 := fI_bd (q := 54) hT242 (tf hT242 rfl rfl) fd_6_9
  have q249 : fI h241 54 9 = fI h 54 9 := Fr_fI hF243 (tf hT rfl rfl) (by decide +kernel)
  have e250 := fI_bd (q := 54) hT242 (tf hT242 rfl rfl) fd_6_6
  have q251 : fI h241 54 6 = fI h 54 6 := Fr_fI hF243 (tf hT rfl rfl) (by decide +kernel)
  have fr252 : ∀ i : Int, 0 ≤ i → i < fI h 54 9 → aI h241 59 i = aI h 59 i := fun i a b => (Fr_aI hF243 (tf hT rfl rfl) (by decide +kernel) i)
  have e253 := fI_bd (q := 54) hT (tf hT rfl rfl) fd_6_7
  have e254 := fI_bd (q := 54) hT (tf hT rfl rfl) fd_6_7
  exact hQ _ _ ⟨rfl, by omega, fr252, by omega, by omega, CM_nf pre1 (fI_bd (q := 54) hT (tf hT rfl rfl) fd_6_6).1 (by omega) (by omega) (by omega) (by omega) (by omega) pf245, hT242, hF246⟩
  refine st_aload c111_86 rfl ?_
  refine st_iconst c111_87 ?_
  have e255 := fI_bd (q := 54) hT (tf hT rfl rfl) fd_6_7
  refine st_callt (as := [vI 1040]) c111_90 cm_103 hT (tf hT rfl rfl) fd_6_0 rfl rfl rfl rfl (by omega) (K103b hT (Stb_mono hS (by decide +kernel)) 1040 (by omega) pre1 (d - 1) (by omega) _ (fun v h0 H => H)) (fun v1 h256 H => ?_)
  rcases H with ⟨rfl, pf259, pf260, pf261, hT257, hF258⟩ | ⟨rfl, pf262, pf263, pf264, pf265, hT257, hF258⟩
  have hF266 := Fr_cp hF hF258 (by decide +kernel : Wsub W103b Wp9 = true)
  have e267 := fI_bd (q := 54) hT257 (tf hT257 rfl rfl) fd_6_6
  have e268 := fI_bd (q := 54) hT257 (tf hT257 rfl rfl) fd_6_7
  have q269 : fI h256 54 7 = fI h 54 7 := Fr_fI hF258 (tf hT rfl rfl) (by decide +kernel)
  refine st_if_ne c111_93 (by omega) (fun k270 => False.elim (by omega)) (fun k271 => ?_)
  refine st_aload c111_96 rfl ?_
  refine st_callt (as := []) c111_97 cm_105 hT257 (tf hT257 rfl rfl) fd_6_0 rfl rfl rfl rfl (by omega) (K105 hT257 (Stb_mono hS (by decide +kernel)) (TB_fr pre1 hT hF266 (by decide +kernel)) (d - 1) (by omega) _ (fun v h0 H => H)) (fun v1 h272 H => ?_)
  obtain ⟨rfl, pf275, pf276, hT273, hF274⟩ := H
  have hF277 := Fr_cp hF266 hF274 (by decide +kernel : Wsub W105 Wp9 = true)
  have e278 := fI_bd (q := 54) hT273 (tf hT273 rfl rfl) fd_6_7
  refine st_return c111_100 ?_
  have e279 := fI_bd (q := 54) hT273 (tf hT273 rfl rfl) fd_6_9
  have q280 : fI h272 54 9 = fI h 54 9 := (Fr_fI hF274 (tf hT257 rfl rfl) (by decide +kernel)).trans (Fr_fI hF258 (tf hT rfl rfl) (by decide +kernel))
  have e281 := fI_bd (q := 54) hT273 (tf hT273 rfl rfl) fd_6_6
  have q282 : fI h272 54 6 = fI h256 54 6 := Fr_fI hF274 (tf hT257 rfl rfl) (by decide +kernel)
  have fr283 : ∀ i : Int, 0 ≤ i → i < fI h 54 9 → aI h272 59 i = aI h 59 i := fun i a b => ((Fr_aI hF274 (tf hT257 rfl rfl) (by decide +kernel) i)).trans ((Fr_aI hF258 (tf hT rfl rfl) (by decide +kernel) i))
  have cg284 := congrArg S (show fI h256 54 6 = fI h 54 6 by omega)
  exact hQ _ _ ⟨rfl, by omega, fr283, by omega, by omega, CM_nf pre1 (fI_bd (q := 54) hT (tf hT rfl rfl) fd_6_6).1 (by omega) (by omega) (by omega) (by omega) (by omega) pf276, hT273, hF277⟩
  have hF285 := Fr_cp hF hF258 (by decide +kernel : Wsub W103b Wp9 = true)
  have e286 := fI_bd (q := 54) hT257 (tf hT257 rfl rfl) fd_6_6
  have e287 := fI_bd (q := 54) hT257 (tf hT257 rfl rfl) fd_6_7
  have q288 : fI h256 54 7 = fI h 54 7 := Fr_fI hF258 (tf hT rfl rfl) (by decide +kernel)
  refine st_if_ne c111_93 (by omega) (fun k289 => ?_) (fun k290 => False.elim (by omega))
  refine st_aload c111_101 rfl ?_
  refine st_iload c111_102 rfl ?_
  refine st_iconst c111_103 ?_
  refine st_iadd c111_104 ?_
  have e291 := fI_bd (q := 54) hT257 (tf hT257 rfl rfl) fd_6_9
  have q292 : fI h256 54 9 = fI h 54 9 := Fr_fI hF258 (tf hT rfl rfl) (by decide +kernel)
  refine st_callt (as := [vI (p1 + 1)]) c111_105 cm_109 hT257 (tf hT257 rfl rfl) fd_6_0 rfl rfl rfl rfl (by omega) ((pre0 (by omega)) hT257 (Stb_mono hS (by decide +kernel)) (TB_fr pre1 hT hF285 (by decide +kernel)) (d - 1) (by omega) _ (fun v h0 H => H)) (fun v1 h293 H => ?_)
  obtain ⟨rfl, pf296, pf297, pf298, pf299, pf300, hT294, hF295⟩ := H
  have hF301 := Fr_cp hF285 hF295 (by decide +kernel : Wsub Wp9 Wp9 = true)
  have e302 := fI_bd (q := 54) hT294 (tf hT294 rfl rfl) fd_6_9
  have e303 := fI_bd (q := 54) hT294 (tf hT294 rfl rfl) fd_6_7
  have e304 := fI_bd (q := 54) hT294 (tf hT294 rfl rfl) fd_6_6
  refine st_iload c111_108 rfl ?_
  refine st_if_eq c111_109 (by omega) (fun k305 => ?_) (fun k306 => False.elim (by omega))
  refine st_aload c111_132 rfl ?_
  refine st_iconst c111_133 ?_
  refine st_callt (as := [vI 1041]) c111_136 cm_104 hT294 (tf hT294 rfl rfl) fd_6_0 rfl rfl rfl rfl (by omega) (K104b hT294 (Stb_mono hS (by decide +kernel)) 1041 (by omega) (TB_fr pre1 hT hF301 (by decide +kernel)) (d - 1) (by omega) _ (fun v h0 H => H)) (fun v1 h307 H => ?_)
  obtain ⟨rfl, pf310, pf311, pf312, hT308, hF309⟩ := H
  have hF313 := Fr_cp hF301 hF309 (by decide +kernel : Wsub W104b Wp9 = true)
  have e314 := fI_bd (q := 54) hT308 (tf hT308 rfl rfl) fd_6_7
  have e315 := fI_bd (q := 54) hT308 (tf hT308 rfl rfl) fd_6_6
  refine st_return c111_139 ?_
  have e316 := fI_bd (q := 54) hT308 (tf hT308 rfl rfl) fd_6_9
  have q317 : fI h307 54 9 = fI h293 54 9 := Fr_fI hF309 (tf hT294 rfl rfl) (by decide +kernel)
  have fr318 : ∀ i : Int, 0 ≤ i → i < fI h 54 9 → aI h307 59 i = aI h 59 i := fun i a b => ((Fr_aI hF309 (tf hT294 rfl rfl) (by decide +kernel) i)).trans (((pf297 i a (by omega))).trans ((Fr_aI hF258 (tf hT rfl rfl) (by decide +kernel) i)))
  exact hQ _ _ ⟨rfl, by omega, fr318, by omega, by omega, CM_n pre1 (by omega) (by omega) (by omega) (by omega) (by omega) pf300 pf312 (fI_bd (q := 54) hT294 (tf hT294 rfl rfl) fd_6_6).1, hT308, hF313⟩
  refine st_aload c111_48 rfl ?_
  refine st_dup c111_49 rfl ?_
  refine st_getI c111_50 hT (tf hT rfl rfl) fd_6_6 (fun e319 e320 => ?_)
  refine st_iconst c111_53 ?_
  refine st_iadd c111_54 ?_
  refine st_putI c111_55 hT (tf hT rfl rfl) fd_6_6 (by omega) (by omega) (Ext_rf _) hS hF (by decide +kernel) (fun h321 hT322 hF323 hU324 => ?_)
  refine st_aload c111_58 rfl ?_
  refine st_iconst c111_59 ?_
  refine st_iload c111_60 rfl ?_
  refine st_isub c111_61 ?_
  have e325 := fI_bd (q := 54) hT322 (tf hT322 rfl rfl) fd_6_9
  have q326 : fI h321 54 9 = fI h 54 9 := FUp_fIne hU324 (fun z => absurd z.2 (by decide))
  refine st_callt (as := [vI ((-1) - z5)]) c111_62 cm_107 hT322 (tf hT322 rfl rfl) fd_6_0 rfl rfl rfl rfl (by omega) (K107 hT322 (Stb_mono hS (by decide +kernel)) ((-1) - z5) (by omega) (d - 1) (by omega) _ (fun v h0 H => H)) (fun v1 h327 H => ?_)
  obtain ⟨rfl, pf330, pf331, pf332, pf333, hT328, hF329⟩ := H
  have hF334 := Fr_cp hF323 hF329 (by decide +kernel : Wsub W107 Wp9 = true)
  have e335 := fI_bd (q := 54) hT328 (tf hT328 rfl rfl) fd_6_9
  refine st_return c111_65 ?_
  have e336 := fI_bd (q := 54) hT328 (tf hT328 rfl rfl) fd_6_7
  have q337 : fI h327 54 7 = fI h 54 7 := (Fr_fI hF329 (tf hT322 rfl rfl) (by decide +kernel)).trans (FUp_fIne hU324 (fun z => absurd z.2 (by decide)))
  have e338 := fI_bd (q := 54) hT328 (tf hT328 rfl rfl) fd_6_6
  have q339 : fI h327 54 6 = (fI h 54 6) + 1 := (Fr_fI hF329 (tf hT322 rfl rfl) (by decide +kernel)).trans (FUp_fI hU324 (by omega) (by omega))
  have fr340 : ∀ i : Int, 0 ≤ i → i < fI h 54 9 → aI h327 59 i = aI h 59 i := fun i a b => ((pf333 i a (by omega))).trans ((FUp_aI hU324 i))
  have e341 := fI_bd (q := 54) hT (tf hT rfl rfl) fd_6_7
  exact hQ _ _ ⟨rfl, by omega, fr340, by omega, by omega, CM_one (by omega) (by omega) (by omega), hT328, hF334⟩
  refine st_aload c111_29 rfl ?_
  refine st_aload c111_30 rfl ?_
  have e342 := fI_bd (q := 54) hT (tf hT rfl rfl) fd_6_7
  refine st_callt (as := []) c111_31 cm_106 hT (tf hT rfl rfl) fd_6_0 rfl rfl rfl rfl (by omega) (K106 hT (Stb_mono hS (by decide +kernel)) pre1 (d - 1) (by omega) _ (fun v h0 H => H)) (fun v1 h343 H => ?_)
  obtain ⟨z349, rfl, b350, pf346, pf347, pf348, hT344, hF345⟩ := H
  have hF351 := Fr_cp hF hF345 (by decide +kernel : Wsub W106 Wp9 = true)
  have e352 := fI_bd (q := 54) hT344 (tf hT344 rfl rfl) fd_6_7
  have e353 := fI_bd (q := 54) hT344 (tf hT344 rfl rfl) fd_6_6
  have e354 := fI_bd (q := 54) hT344 (tf hT344 rfl rfl) fd_6_9
  have q355 : fI h343 54 9 = fI h 54 9 := Fr_fI hF345 (tf hT rfl rfl) (by decide +kernel)
  refine st_callt (as := [vI z349]) c111_34 cm_107 hT344 (tf hT344 rfl rfl) fd_6_0 rfl rfl rfl rfl (by omega) (K107 hT344 (Stb_mono hS (by decide +kernel)) z349 (by omega) (d - 1) (by omega) _ (fun v h0 H => H)) (fun v1 h356 H => ?_)
  obtain ⟨rfl, pf359, pf360, pf361, pf362, hT357, hF358⟩ := H
  have hF363 := Fr_cp hF351 hF358 (by decide +kernel : Wsub W107 Wp9 = true)
  have e364 := fI_bd (q := 54) hT357 (tf hT357 rfl rfl) fd_6_9
  refine st_return c111_37 ?_
  have e365 := fI_bd (q := 54) hT357 (tf hT357 rfl rfl) fd_6_7
  have q366 : fI h356 54 7 = fI h343 54 7 := Fr_fI hF358 (tf hT344 rfl rfl) (by decide +kernel)
  have e367 := fI_bd (q := 54) hT357 (tf hT357 rfl rfl) fd_6_6
  have q368 : fI h356 54 6 = fI h343 54 6 := Fr_fI hF358 (tf hT344 rfl rfl) (by decide +kernel)
  have fr369 : ∀ i : Int, 0 ≤ i → i < fI h 54 9 → aI h356 59 i = aI h 59 i := fun i a b => ((pf362 i a (by omega))).trans ((Fr_aI hF345 (tf hT rfl rfl) (by decide +kernel) i))
  exact hQ _ _ ⟨rfl, by omega, fr369, by omega, by omega, CM_num (by omega) pf348 (by omega) (by omega), hT357, hF363⟩
  refine st_iconst c111_17 ?_
  refine st_goto c111_18 ?_
  refine st_istore (L' := [some (.ref 54), some (vI p1), some (vI z5), some (vI 1)]) c111_22 rfl rfl ?_
  refine st_iload c111_23 rfl ?_
  refine st_iconst c111_24 ?_
  refine st_icmp_ne c111_26 (by omega) (by omega) (fun k370 => ?_) (fun k371 => False.elim (by omega))
  refine st_iload c111_38 rfl ?_
  refine st_if_lt c111_39 (by omega) (fun k372 => False.elim (by omega)) (fun k373 => ?_)
  refine st_iload c111_42 rfl ?_
  refine st_iconst c111_43 ?_
  refine st_icmp_ge c111_45 (by omega) (by omega) (fun k374 => ?_) (fun k375 => False.elim (by omega))
  refine st_iload c111_66 rfl ?_
  refine st_if_eq c111_67 (by omega) (fun k376 => False.elim (by omega)) (fun k377 => ?_)
  refine st_aload c111_70 rfl ?_
  refine st_dup c111_71 rfl ?_
  refine st_getI c111_72 hT (tf hT rfl rfl) fd_6_6 (fun e378 e379 => ?_)
  refine st_iconst c111_75 ?_
  refine st_iadd c111_76 ?_
  refine st_putI c111_77 hT (tf hT rfl rfl) fd_6_6 (by omega) (by omega) (Ext_rf _) hS hF (by decide +kernel) (fun h380 hT381 hF382 hU383 => ?_)
  refine st_iload c111_80 rfl ?_
  refine st_iconst c111_81 ?_
  refine st_icmp_ge c111_83 (by omega) (by omega) (fun k384 => ?_) (fun k385 => ?_)
  refine st_aload c111_96 rfl ?_
  refine st_callt (as := []) c111_97 cm_105 hT381 (tf hT381 rfl rfl) fd_6_0 rfl rfl rfl rfl (by omega) (K105 hT381 (Stb_mono hS (by decide +kernel)) (TB_fr pre1 hT hF382 (by decide +kernel)) (d - 1) (by omega) _ (fun v h0 H => H)) (fun v1 h386 H => ?_)
  obtain ⟨rfl, pf389, pf390, hT387, hF388⟩ := H
  have hF391 := Fr_cp hF382 hF388 (by decide +kernel : Wsub W105 Wp9 = true)
  have e392 := fI_bd (q := 54) hT387 (tf hT387 rfl rfl) fd_6_7
  refine st_return c111_100 ?_
  have e393 := fI_bd (q := 54) hT387 (tf hT387 rfl rfl) fd_6_9
  have q394 : fI h386 54 9 = fI h 54 9 := (Fr_fI hF388 (tf hT381 rfl rfl) (by decide +kernel)).trans (FUp_fIne hU383 (fun z => absurd z.2 (by decide)))
  have e395 := fI_bd (q := 54) hT387 (tf hT387 rfl rfl) fd_6_6
  have q396 : fI h386 54 6 = (fI h 54 6) + 1 := (Fr_fI hF388 (tf hT381 rfl rfl) (by decide +kernel)).trans (FUp_fI hU383 (by omega) (by omega))
  have fr397 : ∀ i : Int, 0 ≤ i → i < fI h 54 9 → aI h386 59 i = aI h 59 i := fun i a b => ((Fr_aI hF388 (tf hT381 rfl rfl) (by decide +kernel) i)).trans ((FUp_aI hU383 i))
  have e398 := fI_bd (q := 54) hT (tf hT rfl rfl) fd_6_7
  have e399 := fI_bd (q := 54) hT381 (tf hT381 rfl rfl) fd_6_6
  have q400 : fI h380 54 6 = (fI h 54 6) + 1 := FUp_fI hU383 (by omega) (by omega)
  have e401 := fI_bd (q := 54) hT381 (tf hT381 rfl rfl) fd_6_7
  have q402 : fI h380 54 7 = fI h 54 7 := FUp_fIne hU383 (fun z => absurd z.2 (by decide))
  exact hQ _ _ ⟨rfl, by omega, fr397, by omega, by omega, CM_pf pre1 (fI_bd (q := 54) hT (tf hT rfl rfl) fd_6_6).1 (by omega) (by omega) (by omega) (by omega) pf390, hT387, hF391⟩
  refine st_aload c111_86 rfl ?_
  refine st_iconst c111_87 ?_
  have e403 := fI_bd (q := 54) hT381 (tf hT381 rfl rfl) fd_6_7
  have q404 : fI h380 54 7 = fI h 54 7 := FUp_fIne hU383 (fun z => absurd z.2 (by decide))
  have e405 := fI_bd (q := 54) hT381 (tf hT381 rfl rfl) fd_6_6
  have q406 : fI h380 54 6 = (fI h 54 6) + 1 := FUp_fI hU383 (by omega) (by omega)
  refine st_callt (as := [vI 1040]) c111_90 cm_103 hT381 (tf hT381 rfl rfl) fd_6_0 rfl rfl rfl rfl (by omega) (K103b hT381 (Stb_mono hS (by decide +kernel)) 1040 (by omega) (TB_fr pre1 hT hF382 (by decide +kernel)) (d - 1) (by omega) _ (fun v h0 H => H)) (fun v1 h407 H => ?_)
  rcases H with ⟨rfl, pf410, pf411, pf412, hT408, hF409⟩ | ⟨rfl, pf413, pf414, pf415, pf416, hT408, hF409⟩
  have hF417 := Fr_cp hF382 hF409 (by decide +kernel : Wsub W103b Wp9 = true)
  have e418 := fI_bd (q := 54) hT408 (tf hT408 rfl rfl) fd_6_6
  have e419 := fI_bd (q := 54) hT408 (tf hT408 rfl rfl) fd_6_7
  have q420 : fI h407 54 7 = fI h380 54 7 := Fr_fI hF409 (tf hT381 rfl rfl) (by decide +kernel)
  refine st_if_ne c111_93 (by omega) (fun k421 => False.elim (by omega)) (fun k422 => ?_)
  refine st_aload c111_96 rfl ?_
  refine st_callt (as := []) c111_97 cm_105 hT408 (tf hT408 rfl rfl) fd_6_0 rfl rfl rfl rfl (by omega) (K105 hT408 (Stb_mono hS (by decide +kernel)) (TB_fr pre1 hT hF417 (by decide +kernel)) (d - 1) (by omega) _ (fun v h0 H => H)) (fun v1 h423 H => ?_)
  obtain ⟨rfl, pf426, pf427, hT424, hF425⟩ := H
  have hF428 := Fr_cp hF417 hF425 (by decide +kernel : Wsub W105 Wp9 = true)
  have e429 := fI_bd (q := 54) hT424 (tf hT424 rfl rfl) fd_6_7
  refine st_return c111_100 ?_
  have e430 := fI_bd (q := 54) hT424 (tf hT424 rfl rfl) fd_6_9
  have q431 : fI h423 54 9 = fI h 54 9 := (Fr_fI hF425 (tf hT408 rfl rfl) (by decide +kernel)).trans ((Fr_fI hF409 (tf hT381 rfl rfl) (by decide +kernel)).trans (FUp_fIne hU383 (fun z => absurd z.2 (by decide))))
  have e432 := fI_bd (q := 54) hT424 (tf hT424 rfl rfl) fd_6_6
  have q433 : fI h423 54 6 = fI h407 54 6 := Fr_fI hF425 (tf hT408 rfl rfl) (by decide +kernel)
  have fr434 : ∀ i : Int, 0 ≤ i → i < fI h 54 9 → aI h423 59 i = aI h 59 i := fun i a b => ((Fr_aI hF425 (tf hT408 rfl rfl) (by decide +kernel) i)).trans (((Fr_aI hF409 (tf hT381 rfl rfl) (by decide +kernel) i)).trans ((FUp_aI hU383 i)))
  have e435 := fI_bd (q := 54) hT (tf hT rfl rfl) fd_6_7
  have cg436 := congrArg S (show fI h407 54 6 = fI h380 54 6 by omega)
  exact hQ _ _ ⟨rfl, by omega, fr434, by omega, by omega, CM_pf pre1 (fI_bd (q := 54) hT (tf hT rfl rfl) fd_6_6).1 (by omega) (by omega) (by omega) (by omega) pf427, hT424, hF428⟩
  have hF437 := Fr_cp hF382 hF409 (by decide +kernel : Wsub W103b Wp9 = true)
  have e438 := fI_bd (q := 54) hT408 (tf hT408 rfl rfl) fd_6_6
  have e439 := fI_bd (q := 54) hT408 (tf hT408 rfl rfl) fd_6_7
  have q440 : fI h407 54 7 = fI h380 54 7 := Fr_fI hF409 (tf hT381 rfl rfl) (by decide +kernel)
  refine st_if_ne c111_93 (by omega) (fun k441 => ?_) (fun k442 => False.elim (by omega))
  refine st_aload c111_101 rfl ?_
  refine st_iload c111_102 rfl ?_
  refine st_iconst c111_103 ?_
  refine st_iadd c111_104 ?_
  have e443 := fI_bd (q := 54) hT408 (tf hT408 rfl rfl) fd_6_9
  have q444 : fI h407 54 9 = fI h 54 9 := (Fr_fI hF409 (tf hT381 rfl rfl) (by decide +kernel)).trans (FUp_fIne hU383 (fun z => absurd z.2 (by decide)))
  refine st_callt (as := [vI (p1 + 1)]) c111_105 cm_109 hT408 (tf hT408 rfl rfl) fd_6_0 rfl rfl rfl rfl (by omega) ((pre0 (by omega)) hT408 (Stb_mono hS (by decide +kernel)) (TB_fr pre1 hT hF437 (by decide +kernel)) (d - 1) (by omega) _ (fun v h0 H => H)) (fun v1 h445 H => ?_)
  obtain ⟨rfl, pf448, pf449, pf450, pf451, pf452, hT446, hF447⟩ := H
  have hF453 := Fr_cp hF437 hF447 (by decide +kernel : Wsub Wp9 Wp9 = true)
  have e454 := fI_bd (q := 54) hT446 (tf hT446 rfl rfl) fd_6_9
  have e455 := fI_bd (q := 54) hT446 (tf hT446 rfl rfl) fd_6_7
  have e456 := fI_bd (q := 54) hT446 (tf hT446 rfl rfl) fd_6_6
  refine st_iload c111_108 rfl ?_
  refine st_if_eq c111_109 (by omega) (fun k457 => False.elim (by omega)) (fun k458 => ?_)
  refine st_aload c111_112 rfl ?_
  refine st_iconst c111_113 ?_
  refine st_callt (as := [vI 1044]) c111_116 cm_104 hT446 (tf hT446 rfl rfl) fd_6_0 rfl rfl rfl rfl (by omega) (K104b hT446 (Stb_mono hS (by decide +kernel)) 1044 (by omega) (TB_fr pre1 hT hF453 (by decide +kernel)) (d - 1) (by omega) _ (fun v h0 H => H)) (fun v1 h459 H => ?_)
  obtain ⟨rfl, pf462, pf463, pf464, hT460, hF461⟩ := H
  have hF465 := Fr_cp hF453 hF461 (by decide +kernel : Wsub W104b Wp9 = true)
  have e466 := fI_bd (q := 54) hT460 (tf hT460 rfl rfl) fd_6_7
  have e467 := fI_bd (q := 54) hT460 (tf hT460 rfl rfl) fd_6_6
  refine st_aload c111_119 rfl ?_
  refine st_iload c111_120 rfl ?_
  refine st_iconst c111_121 ?_
  refine st_iadd c111_122 ?_
  have e468 := fI_bd (q := 54) hT460 (tf hT460 rfl rfl) fd_6_9
  have q469 : fI h459 54 9 = fI h445 54 9 := Fr_fI hF461 (tf hT446 rfl rfl) (by decide +kernel)
  refine st_callt (as := [vI (p1 + 1)]) c111_123 cm_109 hT460 (tf hT460 rfl rfl) fd_6_0 rfl rfl rfl rfl (by omega) ((pre0 (by omega)) hT460 (Stb_mono hS (by decide +kernel)) (TB_fr pre1 hT hF465 (by decide +kernel)) (d - 1) (by omega) _ (fun v h0 H => H)) (fun v1 h470 H => ?_)
  obtain ⟨rfl, pf473, pf474, pf475, pf476, pf477, hT471, hF472⟩ := H
  have hF478 := Fr_cp hF465 hF472 (by decide +kernel : Wsub Wp9 Wp9 = true)
  have e479 := fI_bd (q := 54) hT471 (tf hT471 rfl rfl) fd_6_9
  have e480 := fI_bd (q := 54) hT471 (tf hT471 rfl rfl) fd_6_7
  have e481 := fI_bd (q := 54) hT471 (tf hT471 rfl rfl) fd_6_6
  refine st_aload c111_126 rfl ?_
  refine st_iload c111_127 rfl ?_
  refine st_ineg c111_128 ?_
  refine st_callt (as := [vI (-z5)]) c111_129 cm_107 hT471 (tf hT471 rfl rfl) fd_6_0 rfl rfl rfl rfl (by omega) (K107 hT471 (Stb_mono hS (by decide +kernel)) (-z5) (by omega) (d - 1) (by omega) _ (fun v h0 H => H)) (fun v1 h482 H => ?_)
  obtain ⟨rfl, pf485, pf486, pf487, pf488, hT483, hF484⟩ := H
  have hF489 := Fr_cp hF478 hF484 (by decide +kernel : Wsub W107 Wp9 = true)
  have e490 := fI_bd (q := 54) hT483 (tf hT483 rfl rfl) fd_6_9
  refine st_aload c111_132 rfl ?_
  refine st_iconst c111_133 ?_
  have e491 := fI_bd (q := 54) hT483 (tf hT483 rfl rfl) fd_6_7
  have q492 : fI h482 54 7 = fI h470 54 7 := Fr_fI hF484 (tf hT471 rfl rfl) (by decide +kernel)
  have e493 := fI_bd (q := 54) hT483 (tf hT483 rfl rfl) fd_6_6
  have q494 : fI h482 54 6 = fI h470 54 6 := Fr_fI hF484 (tf hT471 rfl rfl) (by decide +kernel)
  refine st_callt (as := [vI 1041]) c111_136 cm_104 hT483 (tf hT483 rfl rfl) fd_6_0 rfl rfl rfl rfl (by omega) (K104b hT483 (Stb_mono hS (by decide +kernel)) 1041 (by omega) (TB_fr pre1 hT hF489 (by decide +kernel)) (d - 1) (by omega) _ (fun v h0 H => H)) (fun v1 h495 H => ?_)
  obtain ⟨rfl, pf498, pf499, pf500, hT496, hF497⟩ := H
  have hF501 := Fr_cp hF489 hF497 (by decide +kernel : Wsub W104b Wp9 = true)
  have e502 := fI_bd (q := 54) hT496 (tf hT496 rfl rfl) fd_6_7
  have e503 := fI_bd (q := 54) hT496 (tf hT496 rfl rfl) fd_6_6
  refine st_return c111_139 ?_
  have e504 := fI_bd (q := 54) hT496 (tf hT496 rfl rfl) fd_6_9
  have q505 : fI h495 54 9 = fI h482 54 9 := Fr_fI hF497 (tf hT483 rfl rfl) (by decide +kernel)
  have fr506 : ∀ i : Int, 0 ≤ i → i < fI h 54 9 → aI h495 59 i = aI h 59 i := fun i a b => ((Fr_aI hF497 (tf hT483 rfl rfl) (by decide +kernel) i)).trans (((pf488 i a (by omega))).trans (((pf474 i a (by omega))).trans (((Fr_aI hF461 (tf hT446 rfl rfl) (by decide +kernel) i)).trans (((pf449 i a (by omega))).trans (((Fr_aI hF409 (tf hT381 rfl rfl) (by decide +kernel) i)).trans ((FUp_aI hU383 i)))))))
  have e507 := fI_bd (q := 54) hT (tf hT rfl rfl) fd_6_7
  exact hQ _ _ ⟨rfl, by omega, fr506, by omega, by omega, CM_p pre1 (by omega) (by omega) (by omega) (by omega) (by omega) (by omega) (by omega) pf452 pf464 (fI_bd (q := 54) hT446 (tf hT446 rfl rfl) fd_6_6).1 pf477 (by omega) (by omega) (fI_bd (q := 54) hT471 (tf hT471 rfl rfl) fd_6_6).1 pf500, hT496, hF501⟩
set_option maxHeartbeats 0 in
theorem K110 {S F : Int → Int} {Ln : Nat} {xs : Nat → Int32} {τ : List Nat} {h : List mE} {E : EP} (hT : TH E τ h) (hS : Stb E Wp9) (p1 : Int) (hp1 : 0 ≤ p1 ∧ p1 ≤ 8) (pre0 : p1 < 8 → C109 (p1 + 1)) (pre1 : TB S F h) (d : Nat) (hd : 63 - 6 * p1 ≤ (d : Int)) (Q : Option Value → List mE → Prop) (hQ : ∀ v h', (v = none ∧ (fI h 54 9≤fI h' 54 9) ∧ (∀ i : Int, 0 ≤ i → i < fI h 54 9 → aI h' 59 i = aI h 59 i) ∧ (0 ≤ fI h' 54 7 ∨ fI h 54 6 + 1 ≤ fI h' 54 6) ∧ (fI h 54 7 < 0 ∨ 0 ≤ fI h' 54 7) ∧ (CMx S F 1 p1 h h') ∧ TH E τ h' ∧ Fr τ Wp9 h h') → Q v h') : MR (mex Ln xs) d 110 0 [some (.ref 54), some (vI p1), none, none] [] h Q := by
  have hF := Fr_rf τ Wp9 h
  refine st_aload c110_0 rfl ?_
  refine st_iload c110_1 rfl ?_
  have e1 := fI_bd (q := 54) hT (tf hT rfl rfl) fd_6_9
  have e2 := fI_bd (q := 54) hT (tf hT rfl rfl) fd_6_6
  have e3 := fI_bd (q := 54) hT (tf hT rfl rfl) fd_6_7
  refine st_callt (as := [vI p1]) c110_2 cm_111 hT (tf hT rfl rfl) fd_6_0 rfl rfl rfl rfl (by omega) (K111 hT (Stb_mono hS (by decide +kernel)) p1 (by omega) pre0 pre1 (d - 1) (by omega) _ (fun v h0 H => H)) (fun v1 h4 H => ?_)
  obtain ⟨rfl, pf7, pf8, pf9, pf10, pf11, hT5, hF6⟩ := H
  have hF12 := Fr_cp hF hF6 (by decide +kernel : Wsub Wp9 Wp9 = true)
  have e13 := fI_bd (q := 54) hT5 (tf hT5 rfl rfl) fd_6_9
  have e14 := fI_bd (q := 54) hT5 (tf hT5 rfl rfl) fd_6_7
  have e15 := fI_bd (q := 54) hT5 (tf hT5 rfl rfl) fd_6_6
  refine st_aload c110_5 rfl ?_
  refine st_getI c110_6 hT5 (tf hT5 rfl rfl) fd_6_5 (fun e16 e17 => ?_)
  have q18 : fI h4 54 5 = fI h 54 5 := Fr_fI hF6 (tf hT rfl rfl) (by decide +kernel)
  refine st_istore (L' := [some (.ref 54), some (vI p1), some (vI (fI h4 54 5)), none]) c110_9 rfl rfl ?_
  have lp112 : ∀ (n113 : Nat) (z107 : Int) (h108 : List mE), (z107 : Int) - 0 < (n113 : Int) → 0 ≤ z107 ∧ z107 ≤ 201 → CL S F 1 4 p1 h h108 → fI h 54 9 ≤ fI h108 54 9 → (∀ i : Int, 0 ≤ i → i < fI h 54 9 → aI h108 59 i = aI h 59 i) → 0 ≤ fI h108 54 7 ∨ fI h 54 5 - z107 + 1 ≤ fI h108 54 6 → fI h 54 7 < 0 ∨ 0 ≤ fI h108 54 7 → 0 ≤ fI h108 54 7 ∨ fI h 54 6 + 1 ≤ fI h108 54 6 → TH E τ h108 → Fr τ Wp9 h h108 → Fr τ [(6, 6), (6, 7), (6, 9), (39, 0)] h4 h108 → MR (mex Ln xs) d 110 10 [some (.ref 54), some (vI p1), some (vI z107), none] [] h108 Q := by
    intro n113
    induction n113 with
    | zero =>
      intro z107 h108 hm115 b116 x117 x118 x119 x120 x121 x122 hT109 hF110 hL111
      exfalso; omega
    | succ n113 ih114 =>
      intro z107 h108 hm115 b116 x117 x118 x119 x120 x121 x122 hT109 hF110 hL111
      have e123 := fI_bd (q := 54) hT109 (tf hT109 rfl rfl) fd_6_9
      have e124 := fI_bd (q := 54) hT109 (tf hT109 rfl rfl) fd_6_7
      have e125 := fI_bd (q := 54) hT109 (tf hT109 rfl rfl) fd_6_6
      refine st_iload c110_10 rfl ?_
      refine st_if_le c110_11 (by omega) (fun k126 => ?_) (fun k127 => ?_)
      refine st_return c110_68 ?_
      have fr128 : ∀ i : Int, 0 ≤ i → i < fI h 54 9 → aI h108 59 i = aI h 59 i := fun i a b => (x119 i a b)
      have e129 := fI_bd (q := 54) hT109 (tf hT109 rfl rfl) fd_6_5
      have q130 : fI h108 54 5 = fI h4 54 5 := Fr_fI hL111 (tf hT5 rfl rfl) (by decide +kernel)
      have tb131 := TB_at (TB_fr pre1 hT hF110 (by decide +kernel)) (a := fI h108 54 6) (fI_bd (q := 54) hT109 (tf hT109 rfl rfl) fd_6_6).1
      exact hQ _ _ ⟨rfl, by omega, fr128, by omega, by omega, CL_end1 x117 (by omega), hT109, hF110⟩
      refine st_aload c110_14 rfl ?_
      refine st_getI c110_15 hT109 (tf hT109 rfl rfl) fd_6_7 (fun e132 e133 => ?_)
      refine st_if_ge c110_18 (by omega) (fun k134 => ?_) (fun k135 => ?_)
      refine st_return c110_68 ?_
      have fr136 : ∀ i : Int, 0 ≤ i → i < fI h 54 9 → aI h108 59 i = aI h 59 i := fun i a b => (x119 i a b)
      have e137 := fI_bd (q := 54) hT109 (tf hT109 rfl rfl) fd_6_5
      have q138 : fI h108 54 5 = fI h4 54 5 := Fr_fI hL111 (tf hT5 rfl rfl) (by decide +kernel)
      have tb139 := TB_at (TB_fr pre1 hT hF110 (by decide +kernel)) (a := fI h108 54 6) (fI_bd (q := 54) hT109 (tf hT109 rfl rfl) fd_6_6).1
      exact hQ _ _ ⟨rfl, by omega, fr136, by omega, by omega, CL_end1 x117 (by omega), hT109, hF110⟩
      refine st_aload c110_21 rfl ?_
      have e140 := fI_bd (q := 54) hT109 (tf hT109 rfl rfl) fd_6_5
      have q141 : fI h108 54 5 = fI h4 54 5 := Fr_fI hL111 (tf hT5 rfl rfl) (by decide +kernel)
      refine st_callt (as := []) c110_22 cm_102 hT109 (tf hT109 rfl rfl) fd_6_0 rfl rfl rfl rfl (by omega) (K102 hT109 (TB_fr pre1 hT hF110 (by decide +kernel)) (d - 1) (by omega) _ (fun v h0 H => H)) (fun v1 h1 H => ?_)
      obtain ⟨z144, rfl, b145, pf142, pf143, rfl⟩ := H
      refine st_istore (L' := [some (.ref 54), some (vI p1), some (vI z107), some (vI z144)]) c110_25 rfl rfl ?_
      refine st_iload c110_26 rfl ?_
      refine st_iconst c110_27 ?_
      refine st_icmp_eq c110_30 (by omega) (by omega) (fun k146 => ?_) (fun k147 => ?_)
      refine st_aload c110_41 rfl ?_
      refine st_dup c110_42 rfl ?_
      refine st_getI c110_43 hT109 (tf hT109 rfl rfl) fd_6_6 (fun e148 e149 => ?_)
      refine st_iconst c110_46 ?_
      refine st_iadd c110_47 ?_
      refine st_putI c110_48 hT109 (tf hT109 rfl rfl) fd_6_6 (by omega) (by omega) (Ext_rf _) hS hF110 (by decide +kernel) (fun h150 hT151 hF152 hU153 => ?_)
      refine st_aload c110_51 rfl ?_
      refine st_iload c110_52 rfl ?_
      have e154 := fI_bd (q := 54) hT151 (tf hT151 rfl rfl) fd_6_9
      have q155 : fI h150 54 9 = fI h108 54 9 := FUp_fIne hU153 (fun z => absurd z.2 (by decide))
      have e156 := fI_bd (q := 54) hT151 (tf hT151 rfl rfl) fd_6_6
      have q157 : fI h150 54 6 = (fI h108 54 6) + 1 := FUp_fI hU153 (by omega) (by omega)
      have e158 := fI_bd (q := 54) hT151 (tf hT151 rfl rfl) fd_6_7
      have q159 : fI h150 54 7 = fI h108 54 7 := FUp_fIne hU153 (fun z => absurd z.2 (by decide))
      refine st_callt (as := [vI p1]) c110_53 cm_111 hT151 (tf hT151 rfl rfl) fd_6_0 rfl rfl rfl rfl (by omega) (K111 hT151 (Stb_mono hS (by decide +kernel)) p1 (by omega) pre0 (TB_fr pre1 hT hF152 (by decide +kernel)) (d - 1) (by omega) _ (fun v h0 H => H)) (fun v1 h160 H => ?_)
      obtain ⟨rfl, pf163, pf164, pf165, pf166, pf167, hT161, hF162⟩ := H
      have hF168 := Fr_cp hF152 hF162 (by decide +kernel : Wsub Wp9 Wp9 = true)
      have e169 := fI_bd (q := 54) hT161 (tf hT161 rfl rfl) fd_6_9
      have e170 := fI_bd (q := 54) hT161 (tf hT161 rfl rfl) fd_6_7
      have e171 := fI_bd (q := 54) hT161 (tf hT161 rfl rfl) fd_6_6
      refine st_aload c110_56 rfl ?_
      refine st_iload c110_57 rfl ?_
      refine st_ineg c110_58 ?_
      refine st_callt (as := [vI (-z144)]) c110_59 cm_107 hT161 (tf hT161 rfl rfl) fd_6_0 rfl rfl rfl rfl (by omega) (K107 hT161 (Stb_mono hS (by decide +kernel)) (-z144) (by omega) (d - 1) (by omega) _ (fun v h0 H => H)) (fun v1 h172 H => ?_)
      obtain ⟨rfl, pf175, pf176, pf177, pf178, hT173, hF174⟩ := H
      have hF179 := Fr_cp hF168 hF174 (by decide +kernel : Wsub W107 Wp9 = true)
      have e180 := fI_bd (q := 54) hT173 (tf hT173 rfl rfl) fd_6_9
      refine st_iinc (L' := [some (.ref 54), some (vI p1), some (vI (z107 + (-1))), some (vI z144)]) c110_62 rfl rfl rfl ?_
      refine st_goto c110_65 ?_
      refine MR_weak (A := [some (.ref 54), some (vI p1), some (vI (z107 + (-1))), none]) (Lle_s (Lle_s (Lle_s (Lle_n (Lle_0))))) ?_
      have e181 := fI_bd (q := 54) hT173 (tf hT173 rfl rfl) fd_6_7
      have q182 : fI h172 54 7 = fI h160 54 7 := Fr_fI hF174 (tf hT161 rfl rfl) (by decide +kernel)
      have e183 := fI_bd (q := 54) hT173 (tf hT173 rfl rfl) fd_6_6
      have q184 : fI h172 54 6 = fI h160 54 6 := Fr_fI hF174 (tf hT161 rfl rfl) (by decide +kernel)
      have fr185 : ∀ i : Int, 0 ≤ i → i < fI h 54 9 → aI h172 59 i = aI h 59 i := fun i a b => ((pf178 i a (by omega))).trans (((pf164 i a (by omega))).trans (((FUp_aI hU153 i)).trans ((x119 i a b))))
      exact ih114 (z107 + (-1)) h172 (by omega) (by omega) (CL_s1 x117 (by omega) (by omega) (by omega) (by omega) pf167 (by omega) (by omega)) (by omega) fr185 (by omega) (by omega) (by omega) hT173 hF179 (Fr_cp (Fr_cp (FUp_Fr hL111 hU153 (fun u hu => by rw [ty_1 hu (tf hT173 rfl rfl)]; decide)) hF162 (by decide +kernel)) hF174 (by decide +kernel))
      refine st_iload c110_33 rfl ?_
      refine st_iconst c110_34 ?_
      refine st_icmp_eq c110_37 (by omega) (by omega) (fun k186 => ?_) (fun k187 => ?_)
      refine st_aload c110_41 rfl ?_
      refine st_dup c110_42 rfl ?_
      refine st_getI c110_43 hT109 (tf hT109 rfl rfl) fd_6_6 (fun e188 e189 => ?_)
      refine st_iconst c110_46 ?_
      refine st_iadd c110_47 ?_
      refine st_putI c110_48 hT109 (tf hT109 rfl rfl) fd_6_6 (by omega) (by omega) (Ext_rf _) hS hF110 (by decide +kernel) (fun h190 hT191 hF192 hU193 => ?_)
      refine st_aload c110_51 rfl ?_
      refine st_iload c110_52 rfl ?_
      have e194 := fI_bd (q := 54) hT191 (tf hT191 rfl rfl) fd_6_9
      have q195 : fI h190 54 9 = fI h108 54 9 := FUp_fIne hU193 (fun z => absurd z.2 (by decide))
      have e196 := fI_bd (q := 54) hT191 (tf hT191 rfl rfl) fd_6_6
      have q197 : fI h190 54 6 = (fI h108 54 6) + 1 := FUp_fI hU193 (by omega) (by omega)
      have e198 := fI_bd (q := 54) hT191 (tf hT191 rfl rfl) fd_6_7
      have q199 : fI h190 54 7 = fI h108 54 7 := FUp_fIne hU193 (fun z => absurd z.2 (by decide))
      refine st_callt (as := [vI p1]) c110_53 cm_111 hT191 (tf hT191 rfl rfl) fd_6_0 rfl rfl rfl rfl (by omega) (K111 hT191 (Stb_mono hS (by decide +kernel)) p1 (by omega) pre0 (TB_fr pre1 hT hF192 (by decide +kernel)) (d - 1) (by omega) _ (fun v h0 H => H)) (fun v1 h200 H => ?_)
      obtain ⟨rfl, pf203, pf204, pf205, pf206, pf207, hT201, hF202⟩ := H
      have hF208 := Fr_cp hF192 hF202 (by decide +kernel : Wsub Wp9 Wp9 = true)
      have e209 := fI_bd (q := 54) hT201 (tf hT201 rfl rfl) fd_6_9
      have e210 := fI_bd (q := 54) hT201 (tf hT201 rfl rfl) fd_6_7
      have e211 := fI_bd (q := 54) hT201 (tf hT201 rfl rfl) fd_6_6
      refine st_aload c110_56 rfl ?_
      refine st_iload c110_57 rfl ?_
      refine st_ineg c110_58 ?_
      refine st_callt (as := [vI (-z144)]) c110_59 cm_107 hT201 (tf hT201 rfl rfl) fd_6_0 rfl rfl rfl rfl (by omega) (K107 hT201 (Stb_mono hS (by decide +kernel)) (-z144) (by omega) (d - 1) (by omega) _ (fun v h0 H => H)) (fun v1 h212 H => ?_)
      obtain ⟨rfl, pf215, pf216, pf217, pf218, hT213, hF214⟩ := H
      have hF219 := Fr_cp hF208 hF214 (by decide +kernel : Wsub W107 Wp9 = true)
      have e220 := fI_bd (q := 54) hT213 (tf hT213 rfl rfl) fd_6_9
      refine st_iinc (L' := [some (.ref 54), some (vI p1), some (vI (z107 + (-1))), some (vI z144)]) c110_62 rfl rfl rfl ?_
      refine st_goto c110_65 ?_
      refine MR_weak (A := [some (.ref 54), some (vI p1), some (vI (z107 + (-1))), none]) (Lle_s (Lle_s (Lle_s (Lle_n (Lle_0))))) ?_
      have e221 := fI_bd (q := 54) hT213 (tf hT213 rfl rfl) fd_6_7
      have q222 : fI h212 54 7 = fI h200 54 7 := Fr_fI hF214 (tf hT201 rfl rfl) (by decide +kernel)
      have e223 := fI_bd (q := 54) hT213 (tf hT213 rfl rfl) fd_6_6
      have q224 : fI h212 54 6 = fI h200 54 6 := Fr_fI hF214 (tf hT201 rfl rfl) (by decide +kernel)
      have fr225 : ∀ i : Int, 0 ≤ i → i < fI h 54 9 → aI h212 59 i = aI h 59 i := fun i a b => ((pf218 i a (by omega))).trans (((pf204 i a (by omega))).trans (((FUp_aI hU193 i)).trans ((x119 i a b))))
      exact ih114 (z107 + (-1)) h212 (by omega) (by omega) (CL_s1 x117 (by omega) (by omega) (by omega) (by omega) pf207 (by omega) (by omega)) (by omega) fr225 (by omega) (by omega) (by omega) hT213 hF219 (Fr_cp (Fr_cp (FUp_Fr hL111 hU193 (fun u hu => by rw [ty_1 hu (tf hT213 rfl rfl)]; decide)) hF202 (by decide +kernel)) hF214 (by decide +kernel))
      refine st_return c110_40 ?_
      have fr226 : ∀ i : Int, 0 ≤ i → i < fI h 54 9 → aI h108 59 i = aI h 59 i := fun i a b => (x119 i a b)
      have tb227 := TB_at (TB_fr pre1 hT hF110 (by decide +kernel)) (a := fI h108 54 6) (fI_bd (q := 54) hT109 (tf hT109 rfl rfl) fd_6_6).1
      exact hQ _ _ ⟨rfl, by omega, fr226, by omega, by omega, CL_end1 x117 (by omega), hT109, hF110⟩
  have fr228 : ∀ i : Int, 0 ≤ i → i < fI h 54 9 → aI h4 59 i = aI h 59 i := fun i a b => (pf8 i a (by omega))
  exact lp112 (((((fI h4 54 5) : Int) - 0 : Int) + 1).toNat) (fI h4 54 5) h4 (by omega) (by omega) (CL_1 pf11) (by omega) fr228 (by omega) (by omega) (by omega) hT5 hF12 (Fr_rf _ _ _)
set_option maxHeartbeats 0 in
theorem K109 {S F : Int → Int} {Ln : Nat} {xs : Nat → Int32} {τ : List Nat} {h : List mE} {E : EP} (hT : TH E τ h) (hS : Stb E Wp9) (p1 : Int) (hp1 : 0 ≤ p1 ∧ p1 ≤ 8) (pre0 : p1 < 8 → C109 (p1 + 1)) (pre1 : TB S F h) (d : Nat) (hd : 64 - 6 * p1 ≤ (d : Int)) (Q : Option Value → List mE → Prop) (hQ : ∀ v h', (v = none ∧ (fI h 54 9≤fI h' 54 9) ∧ (∀ i : Int, 0 ≤ i → i < fI h 54 9 → aI h' 59 i = aI h 59 i) ∧ (0 ≤ fI h' 54 7 ∨ fI h 54 6 + 1 ≤ fI h' 54 6) ∧ (fI h 54 7 < 0 ∨ 0 ≤ fI h' 54 7) ∧ (CMx S F 0 p1 h h') ∧ TH E τ h' ∧ Fr τ Wp9 h h') → Q v h') : MR (mex Ln xs) d 109 0 [some (.ref 54), some (vI p1), none, none] [] h Q := by
  have hF := Fr_rf τ Wp9 h
  refine st_aload c109_0 rfl ?_
  refine st_iload c109_1 rfl ?_
  have e1 := fI_bd (q := 54) hT (tf hT rfl rfl) fd_6_9
  have e2 := fI_bd (q := 54) hT (tf hT rfl rfl) fd_6_6
  have e3 := fI_bd (q := 54) hT (tf hT rfl rfl) fd_6_7
  refine st_callt (as := [vI p1]) c109_2 cm_110 hT (tf hT rfl rfl) fd_6_0 rfl rfl rfl rfl (by omega) (K110 hT (Stb_mono hS (by decide +kernel)) p1 (by omega) pre0 pre1 (d - 1) (by omega) _ (fun v h0 H => H)) (fun v1 h4 H => ?_)
  obtain ⟨rfl, pf7, pf8, pf9, pf10, pf11, hT5, hF6⟩ := H
  have hF12 := Fr_cp hF hF6 (by decide +kernel : Wsub Wp9 Wp9 = true)
  have e13 := fI_bd (q := 54) hT5 (tf hT5 rfl rfl) fd_6_9
  have e14 := fI_bd (q := 54) hT5 (tf hT5 rfl rfl) fd_6_7
  have e15 := fI_bd (q := 54) hT5 (tf hT5 rfl rfl) fd_6_6
  refine st_aload c109_5 rfl ?_
  refine st_getI c109_6 hT5 (tf hT5 rfl rfl) fd_6_5 (fun e16 e17 => ?_)
  have q18 : fI h4 54 5 = fI h 54 5 := Fr_fI hF6 (tf hT rfl rfl) (by decide +kernel)
  refine st_istore (L' := [some (.ref 54), some (vI p1), some (vI (fI h4 54 5)), none]) c109_9 rfl rfl ?_
  have lp112 : ∀ (n113 : Nat) (z107 : Int) (h108 : List mE), (z107 : Int) - 0 < (n113 : Int) → 0 ≤ z107 ∧ z107 ≤ 201 → CL S F 0 3 p1 h h108 → fI h 54 9 ≤ fI h108 54 9 → (∀ i : Int, 0 ≤ i → i < fI h 54 9 → aI h108 59 i = aI h 59 i) → 0 ≤ fI h108 54 7 ∨ fI h 54 5 - z107 + 1 ≤ fI h108 54 6 → fI h 54 7 < 0 ∨ 0 ≤ fI h108 54 7 → 0 ≤ fI h108 54 7 ∨ fI h 54 6 + 1 ≤ fI h108 54 6 → TH E τ h108 → Fr τ Wp9 h h108 → Fr τ [(6, 6), (6, 7), (6, 9), (39, 0)] h4 h108 → MR (mex Ln xs) d 109 10 [some (.ref 54), some (vI p1), some (vI z107), none] [] h108 Q := by
    intro n113
    induction n113 with
    | zero =>
      intro z107 h108 hm115 b116 x117 x118 x119 x120 x121 x122 hT109 hF110 hL111
      exfalso; omega
    | succ n113 ih114 =>
      intro z107 h108 hm115 b116 x117 x118 x119 x120 x121 x122 hT109 hF110 hL111
      have e123 := fI_bd (q := 54) hT109 (tf hT109 rfl rfl) fd_6_9
      have e124 := fI_bd (q := 54) hT109 (tf hT109 rfl rfl) fd_6_7
      have e125 := fI_bd (q := 54) hT109 (tf hT109 rfl rfl) fd_6_6
      refine st_iload c109_10 rfl ?_
      refine st_if_le c109_11 (by omega) (fun k126 => ?_) (fun k127 => ?_)
      refine st_return c109_68 ?_
      have fr128 : ∀ i : Int, 0 ≤ i → i < fI h 54 9 → aI h108 59 i = aI h 59 i := fun i a b => (x119 i a b)
      have e129 := fI_bd (q := 54) hT109 (tf hT109 rfl rfl) fd_6_5
      have q130 : fI h108 54 5 = fI h4 54 5 := Fr_fI hL111 (tf hT5 rfl rfl) (by decide +kernel)
      have tb131 := TB_at (TB_fr pre1 hT hF110 (by decide +kernel)) (a := fI h108 54 6) (fI_bd (q := 54) hT109 (tf hT109 rfl rfl) fd_6_6).1
      exact hQ _ _ ⟨rfl, by omega, fr128, by omega, by omega, CL_end0 x117 (by omega), hT109, hF110⟩
      refine st_aload c109_14 rfl ?_
      refine st_getI c109_15 hT109 (tf hT109 rfl rfl) fd_6_7 (fun e132 e133 => ?_)
      refine st_if_ge c109_18 (by omega) (fun k134 => ?_) (fun k135 => ?_)
      refine st_return c109_68 ?_
      have fr136 : ∀ i : Int, 0 ≤ i → i < fI h 54 9 → aI h108 59 i = aI h 59 i := fun i a b => (x119 i a b)
      have e137 := fI_bd (q := 54) hT109 (tf hT109 rfl rfl) fd_6_5
      have q138 : fI h108 54 5 = fI h4 54 5 := Fr_fI hL111 (tf hT5 rfl rfl) (by decide +kernel)
      have tb139 := TB_at (TB_fr pre1 hT hF110 (by decide +kernel)) (a := fI h108 54 6) (fI_bd (q := 54) hT109 (tf hT109 rfl rfl) fd_6_6).1
      exact hQ _ _ ⟨rfl, by omega, fr136, by omega, by omega, CL_end0 x117 (by omega), hT109, hF110⟩
      refine st_aload c109_21 rfl ?_
      have e140 := fI_bd (q := 54) hT109 (tf hT109 rfl rfl) fd_6_5
      have q141 : fI h108 54 5 = fI h4 54 5 := Fr_fI hL111 (tf hT5 rfl rfl) (by decide +kernel)
      refine st_callt (as := []) c109_22 cm_102 hT109 (tf hT109 rfl rfl) fd_6_0 rfl rfl rfl rfl (by omega) (K102 hT109 (TB_fr pre1 hT hF110 (by decide +kernel)) (d - 1) (by omega) _ (fun v h0 H => H)) (fun v1 h1 H => ?_)
      obtain ⟨z144, rfl, b145, pf142, pf143, rfl⟩ := H
      refine st_istore (L' := [some (.ref 54), some (vI p1), some (vI z107), some (vI z144)]) c109_25 rfl rfl ?_
      refine st_iload c109_26 rfl ?_
      refine st_iconst c109_27 ?_
      refine st_icmp_eq c109_30 (by omega) (by omega) (fun k146 => ?_) (fun k147 => ?_)
      refine st_aload c109_41 rfl ?_
      refine st_dup c109_42 rfl ?_
      refine st_getI c109_43 hT109 (tf hT109 rfl rfl) fd_6_6 (fun e148 e149 => ?_)
      refine st_iconst c109_46 ?_
      refine st_iadd c109_47 ?_
      refine st_putI c109_48 hT109 (tf hT109 rfl rfl) fd_6_6 (by omega) (by omega) (Ext_rf _) hS hF110 (by decide +kernel) (fun h150 hT151 hF152 hU153 => ?_)
      refine st_aload c109_51 rfl ?_
      refine st_iload c109_52 rfl ?_
      have e154 := fI_bd (q := 54) hT151 (tf hT151 rfl rfl) fd_6_9
      have q155 : fI h150 54 9 = fI h108 54 9 := FUp_fIne hU153 (fun z => absurd z.2 (by decide))
      have e156 := fI_bd (q := 54) hT151 (tf hT151 rfl rfl) fd_6_6
      have q157 : fI h150 54 6 = (fI h108 54 6) + 1 := FUp_fI hU153 (by omega) (by omega)
      have e158 := fI_bd (q := 54) hT151 (tf hT151 rfl rfl) fd_6_7
      have q159 : fI h150 54 7 = fI h108 54 7 := FUp_fIne hU153 (fun z => absurd z.2 (by decide))
      refine st_callt (as := [vI p1]) c109_53 cm_110 hT151 (tf hT151 rfl rfl) fd_6_0 rfl rfl rfl rfl (by omega) (K110 hT151 (Stb_mono hS (by decide +kernel)) p1 (by omega) pre0 (TB_fr pre1 hT hF152 (by decide +kernel)) (d - 1) (by omega) _ (fun v h0 H => H)) (fun v1 h160 H => ?_)
      obtain ⟨rfl, pf163, pf164, pf165, pf166, pf167, hT161, hF162⟩ := H
      have hF168 := Fr_cp hF152 hF162 (by decide +kernel : Wsub Wp9 Wp9 = true)
      have e169 := fI_bd (q := 54) hT161 (tf hT161 rfl rfl) fd_6_9
      have e170 := fI_bd (q := 54) hT161 (tf hT161 rfl rfl) fd_6_7
      have e171 := fI_bd (q := 54) hT161 (tf hT161 rfl rfl) fd_6_6
      refine st_aload c109_56 rfl ?_
      refine st_iload c109_57 rfl ?_
      refine st_ineg c109_58 ?_
      refine st_callt (as := [vI (-z144)]) c109_59 cm_107 hT161 (tf hT161 rfl rfl) fd_6_0 rfl rfl rfl rfl (by omega) (K107 hT161 (Stb_mono hS (by decide +kernel)) (-z144) (by omega) (d - 1) (by omega) _ (fun v h0 H => H)) (fun v1 h172 H => ?_)
      obtain ⟨rfl, pf175, pf176, pf177, pf178, hT173, hF174⟩ := H
      have hF179 := Fr_cp hF168 hF174 (by decide +kernel : Wsub W107 Wp9 = true)
      have e180 := fI_bd (q := 54) hT173 (tf hT173 rfl rfl) fd_6_9
      refine st_iinc (L' := [some (.ref 54), some (vI p1), some (vI (z107 + (-1))), some (vI z144)]) c109_62 rfl rfl rfl ?_
      refine st_goto c109_65 ?_
      refine MR_weak (A := [some (.ref 54), some (vI p1), some (vI (z107 + (-1))), none]) (Lle_s (Lle_s (Lle_s (Lle_n (Lle_0))))) ?_
      have e181 := fI_bd (q := 54) hT173 (tf hT173 rfl rfl) fd_6_7
      have q182 : fI h172 54 7 = fI h160 54 7 := Fr_fI hF174 (tf hT161 rfl rfl) (by decide +kernel)
      have e183 := fI_bd (q := 54) hT173 (tf hT173 rfl rfl) fd_6_6
      have q184 : fI h172 54 6 = fI h160 54 6 := Fr_fI hF174 (tf hT161 rfl rfl) (by decide +kernel)
      have fr185 : ∀ i : Int, 0 ≤ i → i < fI h 54 9 → aI h172 59 i = aI h 59 i := fun i a b => ((pf178 i a (by omega))).trans (((pf164 i a (by omega))).trans (((FUp_aI hU153 i)).trans ((x119 i a b))))
      exact ih114 (z107 + (-1)) h172 (by omega) (by omega) (CL_s0 x117 (by omega) (by omega) (by omega) (by omega) pf167 (by omega) (by omega)) (by omega) fr185 (by omega) (by omega) (by omega) hT173 hF179 (Fr_cp (Fr_cp (FUp_Fr hL111 hU153 (fun u hu => by rw [ty_1 hu (tf hT173 rfl rfl)]; decide)) hF162 (by decide +kernel)) hF174 (by decide +kernel))
      refine st_iload c109_33 rfl ?_
      refine st_iconst c109_34 ?_
      refine st_icmp_eq c109_37 (by omega) (by omega) (fun k186 => ?_) (fun k187 => ?_)
      refine st_aload c109_41 rfl ?_
      refine st_dup c109_42 rfl ?_
      refine st_getI c109_43 hT109 (tf hT109 rfl rfl) fd_6_6 (fun e188 e189 => ?_)
      refine st_iconst c109_46 ?_
      refine st_iadd c109_47 ?_
      refine st_putI c109_48 hT109 (tf hT109 rfl rfl) fd_6_6 (by omega) (by omega) (Ext_rf _) hS hF110 (by decide +kernel) (fun h190 hT191 hF192 hU193 => ?_)
      refine st_aload c109_51 rfl ?_
      refine st_iload c109_52 rfl ?_
      have e194 := fI_bd (q := 54) hT191 (tf hT191 rfl rfl) fd_6_9
      have q195 : fI h190 54 9 = fI h108 54 9 := FUp_fIne hU193 (fun z => absurd z.2 (by decide))
      have e196 := fI_bd (q := 54) hT191 (tf hT191 rfl rfl) fd_6_6
      have q197 : fI h190 54 6 = (fI h108 54 6) + 1 := FUp_fI hU193 (by omega) (by omega)
      have e198 := fI_bd (q := 54) hT191 (tf hT191 rfl rfl) fd_6_7
      have q199 : fI h190 54 7 = fI h108 54 7 := FUp_fIne hU193 (fun z => absurd z.2 (by decide))
      refine st_callt (as := [vI p1]) c109_53 cm_110 hT191 (tf hT191 rfl rfl) fd_6_0 rfl rfl rfl rfl (by omega) (K110 hT191 (Stb_mono hS (by decide +kernel)) p1 (by omega) pre0 (TB_fr pre1 hT hF192 (by decide +kernel)) (d - 1) (by omega) _ (fun v h0 H => H)) (fun v1 h200 H => ?_)
      obtain ⟨rfl, pf203, pf204, pf205, pf206, pf207, hT201, hF202⟩ := H
      have hF208 := Fr_cp hF192 hF202 (by decide +kernel : Wsub Wp9 Wp9 = true)
      have e209 := fI_bd (q := 54) hT201 (tf hT201 rfl rfl) fd_6_9
      have e210 := fI_bd (q := 54) hT201 (tf hT201 rfl rfl) fd_6_7
      have e211 := fI_bd (q := 54) hT201 (tf hT201 rfl rfl) fd_6_6
      refine st_aload c109_56 rfl ?_
      refine st_iload c109_57 rfl ?_
      refine st_ineg c109_58 ?_
      refine st_callt (as := [vI (-z144)]) c109_59 cm_107 hT201 (tf hT201 rfl rfl) fd_6_0 rfl rfl rfl rfl (by omega) (K107 hT201 (Stb_mono hS (by decide +kernel)) (-z144) (by omega) (d - 1) (by omega) _ (fun v h0 H => H)) (fun v1 h212 H => ?_)
      obtain ⟨rfl, pf215, pf216, pf217, pf218, hT213, hF214⟩ := H
      have hF219 := Fr_cp hF208 hF214 (by decide +kernel : Wsub W107 Wp9 = true)
      have e220 := fI_bd (q := 54) hT213 (tf hT213 rfl rfl) fd_6_9
      refine st_iinc (L' := [some (.ref 54), some (vI p1), some (vI (z107 + (-1))), some (vI z144)]) c109_62 rfl rfl rfl ?_
      refine st_goto c109_65 ?_
      refine MR_weak (A := [some (.ref 54), some (vI p1), some (vI (z107 + (-1))), none]) (Lle_s (Lle_s (Lle_s (Lle_n (Lle_0))))) ?_
      have e221 := fI_bd (q := 54) hT213 (tf hT213 rfl rfl) fd_6_7
      have q222 : fI h212 54 7 = fI h200 54 7 := Fr_fI hF214 (tf hT201 rfl rfl) (by decide +kernel)
      have e223 := fI_bd (q := 54) hT213 (tf hT213 rfl rfl) fd_6_6
      have q224 : fI h212 54 6 = fI h200 54 6 := Fr_fI hF214 (tf hT201 rfl rfl) (by decide +kernel)
      have fr225 : ∀ i : Int, 0 ≤ i → i < fI h 54 9 → aI h212 59 i = aI h 59 i := fun i a b => ((pf218 i a (by omega))).trans (((pf204 i a (by omega))).trans (((FUp_aI hU193 i)).trans ((x119 i a b))))
      exact ih114 (z107 + (-1)) h212 (by omega) (by omega) (CL_s0 x117 (by omega) (by omega) (by omega) (by omega) pf207 (by omega) (by omega)) (by omega) fr225 (by omega) (by omega) (by omega) hT213 hF219 (Fr_cp (Fr_cp (FUp_Fr hL111 hU193 (fun u hu => by rw [ty_1 hu (tf hT213 rfl rfl)]; decide)) hF202 (by decide +kernel)) hF214 (by decide +kernel))
      refine st_return c109_40 ?_
      have fr226 : ∀ i : Int, 0 ≤ i → i < fI h 54 9 → aI h108 59 i = aI h 59 i := fun i a b => (x119 i a b)
      have tb227 := TB_at (TB_fr pre1 hT hF110 (by decide +kernel)) (a := fI h108 54 6) (fI_bd (q := 54) hT109 (tf hT109 rfl rfl) fd_6_6).1
      exact hQ _ _ ⟨rfl, by omega, fr226, by omega, by omega, CL_end0 x117 (by omega), hT109, hF110⟩
  have fr228 : ∀ i : Int, 0 ≤ i → i < fI h 54 9 → aI h4 59 i = aI h 59 i := fun i a b => (pf8 i a (by omega))
  exact lp112 (((((fI h4 54 5) : Int) - 0 : Int) + 1).toNat) (fI h4 54 5) h4 (by omega) (by omega) (CL_0 pf11) (by omega) fr228 (by omega) (by omega) (by omega) hT5 hF12 (Fr_rf _ _ _)
theorem C109_all : ∀ (n : Nat) (k : Int), 0 ≤ k → k ≤ 8 → 8 - k ≤ (n : Int) → C109 k := by
  intro n
  induction n with
  | zero =>
    intro k h0 h8 hn S F Ln xs τ h E hT hS pt d hd Q hQ
    exact K109 hT hS k ⟨h0, h8⟩ (fun hl => by omega) pt d hd Q hQ
  | succ n ih =>
    intro k h0 h8 hn S F Ln xs τ h E hT hS pt d hd Q hQ
    exact K109 hT hS k ⟨h0, h8⟩ (fun hl => ih (k + 1) (by omega) (by omega) (by omega)) pt d hd Q hQ
theorem K109z : C109 0 := C109_all 8 0 (by decide) (by decide) (by decide)
def W108 : List (Nat × Nat) := [(6, 6), (6, 7), (6, 9), (39, 0)]
set_option maxHeartbeats 0 in
theorem K108 {S F : Int → Int} {Ln : Nat} {xs : Nat → Int32} {τ : List Nat} {h : List mE} {E : EP} (hT : TH E τ h) (hS : Stb E W108) (pre0 : I7 h) (pre1 : TB S F h) (d : Nat) (hd : 86 ≤ d) (Q : Option Value → List mE → Prop) (hQ : ∀ v h', (v = none ∧ (I7 h') ∧ (0 ≤ fI h' 54 7 ∨ fI h 54 6 + 1 ≤ fI h' 54 6) ∧ (fI h 54 7 < 0 ∨ 0 ≤ fI h' 54 7) ∧ (CMx S F 5 0 h h') ∧ TH E τ h' ∧ Fr τ W108 h h') → Q v h') : MR (mex Ln xs) d 108 0 [some (.ref 54), none, none, none] [] h Q := by
  have hF := Fr_rf τ W108 h
  have z9 := fI_bd (q := 54) hT (tf hT rfl rfl) fd_6_9
  refine st_iconst c108_0 ?_
  refine st_istore (L' := [some (.ref 54), some (vI 0), none, none]) c108_1 rfl rfl ?_
  refine st_iconst c108_2 ?_
  refine st_istore (L' := [some (.ref 54), some (vI 0), some (vI 999999), none]) c108_4 rfl rfl ?_
  refine st_aload c108_5 rfl ?_
  refine st_iconst c108_6 ?_
  have e1 := fI_bd (q := 54) hT (tf hT rfl rfl) fd_6_7
  have e2 := fI_bd (q := 54) hT (tf hT rfl rfl) fd_6_6
  refine st_callt (as := [vI 14]) c108_8 cm_103 hT (tf hT rfl rfl) fd_6_0 rfl rfl rfl rfl (by omega) (K103a hT (Stb_mono hS (by decide +kernel)) 14 (by omega) pre1 (d - 1) (by omega) _ (fun v h0 H => H)) (fun v1 h3 H => ?_)
  rcases H with ⟨rfl, pf6, pf7, pf8, hT4, hF5⟩ | ⟨rfl, pf9, pf10, pf11, pf12, hT4, hF5⟩
  have hF13 := Fr_cp hF hF5 (by decide +kernel : Wsub W103a W108 = true)
  have e14 := fI_bd (q := 54) hT4 (tf hT4 rfl rfl) fd_6_6
  have e15 := fI_bd (q := 54) hT4 (tf hT4 rfl rfl) fd_6_7
  have q16 : fI h3 54 7 = fI h 54 7 := Fr_fI hF5 (tf hT rfl rfl) (by decide +kernel)
  refine st_if_eq c108_11 (by omega) (fun k17 => ?_) (fun k18 => False.elim (by omega))
  refine st_aload c108_42 rfl ?_
  refine st_iload c108_43 rfl ?_
  have e19 := fI_bd (q := 54) hT4 (tf hT4 rfl rfl) fd_6_9
  have q20 : fI h3 54 9 = fI h 54 9 := Fr_fI hF5 (tf hT rfl rfl) (by decide +kernel)
  refine st_callt (as := [vI 0]) c108_44 cm_107 hT4 (tf hT4 rfl rfl) fd_6_0 rfl rfl rfl rfl (by omega) (K107 hT4 (Stb_mono hS (by decide +kernel)) 0 (by omega) (d - 1) (by omega) _ (fun v h0 H => H)) (fun v1 h21 H => ?_)
  obtain ⟨rfl, pf24, pf25, pf26, pf27, hT22, hF23⟩ := H
  have hF28 := Fr_cp hF13 hF23 (by decide +kernel : Wsub W107 W108 = true)
  have e29 := fI_bd (q := 54) hT22 (tf hT22 rfl rfl) fd_6_9
  refine st_aload c108_47 rfl ?_
  refine st_iload c108_48 rfl ?_
  refine st_callt (as := [vI 999999]) c108_49 cm_107 hT22 (tf hT22 rfl rfl) fd_6_0 rfl rfl rfl rfl (by omega) (K107 hT22 (Stb_mono hS (by decide +kernel)) 999999 (by omega) (d - 1) (by omega) _ (fun v h0 H => H)) (fun v1 h30 H => ?_)
  obtain ⟨rfl, pf33, pf34, pf35, pf36, hT31, hF32⟩ := H
  have hF37 := Fr_cp hF28 hF32 (by decide +kernel : Wsub W107 W108 = true)
  have e38 := fI_bd (q := 54) hT31 (tf hT31 rfl rfl) fd_6_9
  refine st_aload c108_52 rfl ?_
  refine st_getI c108_53 hT31 (tf hT31 rfl rfl) fd_6_9 (fun e39 e40 => ?_)
  refine st_istore (L' := [some (.ref 54), some (vI 0), some (vI 999999), some (vI (fI h30 54 9))]) c108_56 rfl rfl ?_
  refine st_aload c108_57 rfl ?_
  refine st_iconst c108_58 ?_
  refine st_callt (as := [vI 0]) c108_59 cm_107 hT31 (tf hT31 rfl rfl) fd_6_0 rfl rfl rfl rfl (by omega) (K107 hT31 (Stb_mono hS (by decide +kernel)) 0 (by omega) (d - 1) (by omega) _ (fun v h0 H => H)) (fun v1 h41 H => ?_)
  obtain ⟨rfl, pf44, pf45, pf46, pf47, hT42, hF43⟩ := H
  have hF48 := Fr_cp hF37 hF43 (by decide +kernel : Wsub W107 W108 = true)
  have e49 := fI_bd (q := 54) hT42 (tf hT42 rfl rfl) fd_6_9
  refine st_aload c108_62 rfl ?_
  refine st_iconst c108_63 ?_
  have e50 := fI_bd (q := 54) hT42 (tf hT42 rfl rfl) fd_6_6
  have q51 : fI h41 54 6 = fI h3 54 6 := (Fr_fI hF43 (tf hT31 rfl rfl) (by decide +kernel)).trans ((Fr_fI hF32 (tf hT22 rfl rfl) (by decide +kernel)).trans (Fr_fI hF23 (tf hT4 rfl rfl) (by decide +kernel)))
  have e52 := fI_bd (q := 54) hT42 (tf hT42 rfl rfl) fd_6_7
  have q53 : fI h41 54 7 = fI h3 54 7 := (Fr_fI hF43 (tf hT31 rfl rfl) (by decide +kernel)).trans ((Fr_fI hF32 (tf hT22 rfl rfl) (by decide +kernel)).trans (Fr_fI hF23 (tf hT4 rfl rfl) (by decide +kernel)))
  refine st_callt (as := [vI 0]) c108_64 cm_109 hT42 (tf hT42 rfl rfl) fd_6_0 rfl rfl rfl rfl (by omega) (K109z hT42 (Stb_mono hS (by decide +kernel)) (TB_fr pre1 hT hF48 (by decide +kernel)) (d - 1) (by omega) _ (fun v h0 H => H)) (fun v1 h54 H => ?_)
  obtain ⟨rfl, pf57, pf58, pf59, pf60, pf61, hT55, hF56⟩ := H
  have hF62 := Fr_cp hF48 hF56 (by decide +kernel : Wsub Wp9 W108 = true)
  have e63 := fI_bd (q := 54) hT55 (tf hT55 rfl rfl) fd_6_9
  have e64 := fI_bd (q := 54) hT55 (tf hT55 rfl rfl) fd_6_7
  have e65 := fI_bd (q := 54) hT55 (tf hT55 rfl rfl) fd_6_6
  refine st_iload c108_67 rfl ?_
  refine st_aload c108_68 rfl ?_
  refine st_getX (u := 59) c108_69 hT55 (tf hT55 rfl rfl) fd_6_8 rfl ?_
  refine st_alenC (z := 800) c108_72 hT55 (tf hT55 rfl rfl) ay_39 rfl rfl rfl ?_
  refine st_icmp_ge c108_73 (by omega) (by omega) (fun k66 => ?_) (fun k67 => ?_)
  refine st_return c108_86 ?_
  have fr68 : ∀ i : Int, 0 ≤ i → i < fI h 54 9 → aI h54 59 i = aI h 59 i := fun i a b => ((pf58 i a (by omega))).trans (((pf47 i a (by omega))).trans (((pf36 i a (by omega))).trans (((pf27 i a (by omega))).trans ((Fr_aI hF5 (tf hT rfl rfl) (by decide +kernel) i)))))
  have iv69 := I7_step pre0 (by omega) (by omega) (by omega) (by omega) (fun hl => by omega) fr68
  exact hQ _ _ ⟨rfl, iv69, by omega, by omega, CM_s0 (by omega) (by omega) (by omega) pf61 (by omega) (by omega), hT55, hF62⟩
  refine st_aload c108_76 rfl ?_
  refine st_getX (u := 59) c108_77 hT55 (tf hT55 rfl rfl) fd_6_8 rfl ?_
  refine st_iload c108_80 rfl ?_
  refine st_aload c108_81 rfl ?_
  refine st_getI c108_82 hT55 (tf hT55 rfl rfl) fd_6_9 (fun e70 e71 => ?_)
  refine st_iast c108_85 hT55 (tf hT55 rfl rfl) ay_39 (by omega) (by omega) (by omega) (Ext_rf _) hS hF62 (by decide +kernel) (fun h72 hT73 hF74 hU75 => ?_)
  refine st_return c108_86 ?_
  have e76 := fI_bd (q := 54) hT73 (tf hT73 rfl rfl) fd_6_7
  have q77 : fI h72 54 7 = fI h54 54 7 := AUp_fI hU75
  have e78 := fI_bd (q := 54) hT73 (tf hT73 rfl rfl) fd_6_6
  have q79 : fI h72 54 6 = fI h54 54 6 := AUp_fI hU75
  have e80 := fI_bd (q := 54) hT73 (tf hT73 rfl rfl) fd_6_9
  have q81 : fI h72 54 9 = fI h54 54 9 := AUp_fI hU75
  have fr82 : ∀ i : Int, 0 ≤ i → i < fI h 54 9 → aI h72 59 i = aI h 59 i := fun i a b => (((AUp_aI hU75 (by omega) (by omega) (by omega) a).trans (if_neg (by omega)))).trans (((pf58 i a (by omega))).trans (((pf47 i a (by omega))).trans (((pf36 i a (by omega))).trans (((pf27 i a (by omega))).trans ((Fr_aI hF5 (tf hT rfl rfl) (by decide +kernel) i))))))
  have iv83 := I7_step pre0 (by omega) (by omega) (by omega) (by omega) (fun _ => by rw [show fI h 54 9 + 2 = fI h30 54 9 by omega]; exact ((AUp_aI hU75 (by omega) (by omega) (by omega) (by omega)).trans (if_pos rfl)).trans (by omega)) fr82
  exact hQ _ _ ⟨rfl, iv83, by omega, by omega, CM_s0 (by omega) (by omega) (by omega) pf61 (by omega) (by omega), hT73, hF74⟩
  have hF84 := Fr_cp hF hF5 (by decide +kernel : Wsub W103a W108 = true)
  have e85 := fI_bd (q := 54) hT4 (tf hT4 rfl rfl) fd_6_6
  have e86 := fI_bd (q := 54) hT4 (tf hT4 rfl rfl) fd_6_7
  have q87 : fI h3 54 7 = fI h 54 7 := Fr_fI hF5 (tf hT rfl rfl) (by decide +kernel)
  refine st_if_eq c108_11 (by omega) (fun k88 => False.elim (by omega)) (fun k89 => ?_)
  refine st_aload c108_14 rfl ?_
  refine st_callt (as := []) c108_15 cm_106 hT4 (tf hT4 rfl rfl) fd_6_0 rfl rfl rfl rfl (by omega) (K106 hT4 (Stb_mono hS (by decide +kernel)) (TB_fr pre1 hT hF84 (by decide +kernel)) (d - 1) (by omega) _ (fun v h0 H => H)) (fun v1 h90 H => ?_)
  obtain ⟨z96, rfl, b97, pf93, pf94, pf95, hT91, hF92⟩ := H
  have hF98 := Fr_cp hF84 hF92 (by decide +kernel : Wsub W106 W108 = true)
  have e99 := fI_bd (q := 54) hT91 (tf hT91 rfl rfl) fd_6_7
  have e100 := fI_bd (q := 54) hT91 (tf hT91 rfl rfl) fd_6_6
  refine st_istore (L' := [some (.ref 54), some (vI z96), some (vI 999999), none]) c108_18 rfl rfl ?_
  refine st_aload c108_19 rfl ?_
  refine st_iconst c108_20 ?_
  refine st_callt (as := [vI 16]) c108_22 cm_103 hT91 (tf hT91 rfl rfl) fd_6_0 rfl rfl rfl rfl (by omega) (K103a hT91 (Stb_mono hS (by decide +kernel)) 16 (by omega) (TB_fr pre1 hT hF98 (by decide +kernel)) (d - 1) (by omega) _ (fun v h0 H => H)) (fun v1 h101 H => ?_)
  rcases H with ⟨rfl, pf104, pf105, pf106, hT102, hF103⟩ | ⟨rfl, pf107, pf108, pf109, pf110, hT102, hF103⟩
  have hF111 := Fr_cp hF98 hF103 (by decide +kernel : Wsub W103a W108 = true)
  have e112 := fI_bd (q := 54) hT102 (tf hT102 rfl rfl) fd_6_6
  have e113 := fI_bd (q := 54) hT102 (tf hT102 rfl rfl) fd_6_7
  have q114 : fI h101 54 7 = fI h90 54 7 := Fr_fI hF103 (tf hT91 rfl rfl) (by decide +kernel)
  refine st_if_eq c108_25 (by omega) (fun k115 => ?_) (fun k116 => False.elim (by omega))
  refine st_aload c108_36 rfl ?_
  refine st_iconst c108_37 ?_
  refine st_callt (as := [vI 15]) c108_39 cm_104 hT102 (tf hT102 rfl rfl) fd_6_0 rfl rfl rfl rfl (by omega) (K104a hT102 (Stb_mono hS (by decide +kernel)) 15 (by omega) (TB_fr pre1 hT hF111 (by decide +kernel)) (d - 1) (by omega) _ (fun v h0 H => H)) (fun v1 h117 H => ?_)
  obtain ⟨rfl, pf120, pf121, pf122, hT118, hF119⟩ := H
  have hF123 := Fr_cp hF111 hF119 (by decide +kernel : Wsub W104a W108 = true)
  have e124 := fI_bd (q := 54) hT118 (tf hT118 rfl rfl) fd_6_7
  have e125 := fI_bd (q := 54) hT118 (tf hT118 rfl rfl) fd_6_6
  refine st_aload c108_42 rfl ?_
  refine st_iload c108_43 rfl ?_
  have e126 := fI_bd (q := 54) hT118 (tf hT118 rfl rfl) fd_6_9
  have q127 : fI h117 54 9 = fI h 54 9 := (Fr_fI hF119 (tf hT102 rfl rfl) (by decide +kernel)).trans ((Fr_fI hF103 (tf hT91 rfl rfl) (by decide +kernel)).trans ((Fr_fI hF92 (tf hT4 rfl rfl) (by decide +kernel)).trans (Fr_fI hF5 (tf hT rfl rfl) (by decide +kernel))))
  refine st_callt (as := [vI z96]) c108_44 cm_107 hT118 (tf hT118 rfl rfl) fd_6_0 rfl rfl rfl rfl (by omega) (K107 hT118 (Stb_mono hS (by decide +kernel)) z96 (by omega) (d - 1) (by omega) _ (fun v h0 H => H)) (fun v1 h128 H => ?_)
  obtain ⟨rfl, pf131, pf132, pf133, pf134, hT129, hF130⟩ := H
  have hF135 := Fr_cp hF123 hF130 (by decide +kernel : Wsub W107 W108 = true)
  have e136 := fI_bd (q := 54) hT129 (tf hT129 rfl rfl) fd_6_9
  refine st_aload c108_47 rfl ?_
  refine st_iload c108_48 rfl ?_
  refine st_callt (as := [vI 999999]) c108_49 cm_107 hT129 (tf hT129 rfl rfl) fd_6_0 rfl rfl rfl rfl (by omega) (K107 hT129 (Stb_mono hS (by decide +kernel)) 999999 (by omega) (d - 1) (by omega) _ (fun v h0 H => H)) (fun v1 h137 H => ?_)
  obtain ⟨rfl, pf140, pf141, pf142, pf143, hT138, hF139⟩ := H
  have hF144 := Fr_cp hF135 hF139 (by decide +kernel : Wsub W107 W108 = true)
  have e145 := fI_bd (q := 54) hT138 (tf hT138 rfl rfl) fd_6_9
  refine st_aload c108_52 rfl ?_
  refine st_getI c108_53 hT138 (tf hT138 rfl rfl) fd_6_9 (fun e146 e147 => ?_)
  refine st_istore (L' := [some (.ref 54), some (vI z96), some (vI 999999), some (vI (fI h137 54 9))]) c108_56 rfl rfl ?_
  refine st_aload c108_57 rfl ?_
  refine st_iconst c108_58 ?_
  refine st_callt (as := [vI 0]) c108_59 cm_107 hT138 (tf hT138 rfl rfl) fd_6_0 rfl rfl rfl rfl (by omega) (K107 hT138 (Stb_mono hS (by decide +kernel)) 0 (by omega) (d - 1) (by omega) _ (fun v h0 H => H)) (fun v1 h148 H => ?_)
  obtain ⟨rfl, pf151, pf152, pf153, pf154, hT149, hF150⟩ := H
  have hF155 := Fr_cp hF144 hF150 (by decide +kernel : Wsub W107 W108 = true)
  have e156 := fI_bd (q := 54) hT149 (tf hT149 rfl rfl) fd_6_9
  refine st_aload c108_62 rfl ?_
  refine st_iconst c108_63 ?_
  have e157 := fI_bd (q := 54) hT149 (tf hT149 rfl rfl) fd_6_6
  have q158 : fI h148 54 6 = fI h117 54 6 := (Fr_fI hF150 (tf hT138 rfl rfl) (by decide +kernel)).trans ((Fr_fI hF139 (tf hT129 rfl rfl) (by decide +kernel)).trans (Fr_fI hF130 (tf hT118 rfl rfl) (by decide +kernel)))
  have e159 := fI_bd (q := 54) hT149 (tf hT149 rfl rfl) fd_6_7
  have q160 : fI h148 54 7 = fI h117 54 7 := (Fr_fI hF150 (tf hT138 rfl rfl) (by decide +kernel)).trans ((Fr_fI hF139 (tf hT129 rfl rfl) (by decide +kernel)).trans (Fr_fI hF130 (tf hT118 rfl rfl) (by decide +kernel)))
  refine st_callt (as := [vI 0]) c108_64 cm_109 hT149 (tf hT149 rfl rfl) fd_6_0 rfl rfl rfl rfl (by omega) (K109z hT149 (Stb_mono hS (by decide +kernel)) (TB_fr pre1 hT hF155 (by decide +kernel)) (d - 1) (by omega) _ (fun v h0 H => H)) (fun v1 h161 H => ?_)
  obtain ⟨rfl, pf164, pf165, pf166, pf167, pf168, hT162, hF163⟩ := H
  have hF169 := Fr_cp hF155 hF163 (by decide +kernel : Wsub Wp9 W108 = true)
  have e170 := fI_bd (q := 54) hT162 (tf hT162 rfl rfl) fd_6_9
  have e171 := fI_bd (q := 54) hT162 (tf hT162 rfl rfl) fd_6_7
  have e172 := fI_bd (q := 54) hT162 (tf hT162 rfl rfl) fd_6_6
  refine st_iload c108_67 rfl ?_
  refine st_aload c108_68 rfl ?_
  refine st_getX (u := 59) c108_69 hT162 (tf hT162 rfl rfl) fd_6_8 rfl ?_
  refine st_alenC (z := 800) c108_72 hT162 (tf hT162 rfl rfl) ay_39 rfl rfl rfl ?_
  refine st_icmp_ge c108_73 (by omega) (by omega) (fun k173 => ?_) (fun k174 => ?_)
  refine st_return c108_86 ?_
  have fr175 : ∀ i : Int, 0 ≤ i → i < fI h 54 9 → aI h161 59 i = aI h 59 i := fun i a b => ((pf165 i a (by omega))).trans (((pf154 i a (by omega))).trans (((pf143 i a (by omega))).trans (((pf134 i a (by omega))).trans (((Fr_aI hF119 (tf hT102 rfl rfl) (by decide +kernel) i)).trans (((Fr_aI hF103 (tf hT91 rfl rfl) (by decide +kernel) i)).trans (((Fr_aI hF92 (tf hT4 rfl rfl) (by decide +kernel) i)).trans ((Fr_aI hF5 (tf hT rfl rfl) (by decide +kernel) i))))))))
  have iv176 := I7_step pre0 (by omega) (by omega) (by omega) (by omega) (fun hl => by omega) fr175
  exact hQ _ _ ⟨rfl, iv176, by omega, by omega, CM_s2 pre1 (fI_bd (q := 54) hT (tf hT rfl rfl) fd_6_6).1 (by omega) (by omega) (by omega) (by omega) pf95 (by omega) (by omega) (by omega) pf122 (by omega) (by omega) pf168 (by omega) (by omega), hT162, hF169⟩
  refine st_aload c108_76 rfl ?_
  refine st_getX (u := 59) c108_77 hT162 (tf hT162 rfl rfl) fd_6_8 rfl ?_
  refine st_iload c108_80 rfl ?_
  refine st_aload c108_81 rfl ?_
  refine st_getI c108_82 hT162 (tf hT162 rfl rfl) fd_6_9 (fun e177 e178 => ?_)
  refine st_iast c108_85 hT162 (tf hT162 rfl rfl) ay_39 (by omega) (by omega) (by omega) (Ext_rf _) hS hF169 (by decide +kernel) (fun h179 hT180 hF181 hU182 => ?_)
  refine st_return c108_86 ?_
  have e183 := fI_bd (q := 54) hT180 (tf hT180 rfl rfl) fd_6_7
  have q184 : fI h179 54 7 = fI h161 54 7 := AUp_fI hU182
  have e185 := fI_bd (q := 54) hT180 (tf hT180 rfl rfl) fd_6_6
  have q186 : fI h179 54 6 = fI h161 54 6 := AUp_fI hU182
  have e187 := fI_bd (q := 54) hT180 (tf hT180 rfl rfl) fd_6_9
  have q188 : fI h179 54 9 = fI h161 54 9 := AUp_fI hU182
  have fr189 : ∀ i : Int, 0 ≤ i → i < fI h 54 9 → aI h179 59 i = aI h 59 i := fun i a b => (((AUp_aI hU182 (by omega) (by omega) (by omega) a).trans (if_neg (by omega)))).trans (((pf165 i a (by omega))).trans (((pf154 i a (by omega))).trans (((pf143 i a (by omega))).trans (((pf134 i a (by omega))).trans (((Fr_aI hF119 (tf hT102 rfl rfl) (by decide +kernel) i)).trans (((Fr_aI hF103 (tf hT91 rfl rfl) (by decide +kernel) i)).trans (((Fr_aI hF92 (tf hT4 rfl rfl) (by decide +kernel) i)).trans ((Fr_aI hF5 (tf hT rfl rfl) (by decide +kernel) i)))))))))
  have iv190 := I7_step pre0 (by omega) (by omega) (by omega) (by omega) (fun _ => by rw [show fI h 54 9 + 2 = fI h137 54 9 by omega]; exact ((AUp_aI hU182 (by omega) (by omega) (by omega) (by omega)).trans (if_pos rfl)).trans (by omega)) fr189
  exact hQ _ _ ⟨rfl, iv190, by omega, by omega, CM_s2 pre1 (fI_bd (q := 54) hT (tf hT rfl rfl) fd_6_6).1 (by omega) (by omega) (by omega) (by omega) pf95 (by omega) (by omega) (by omega) pf122 (by omega) (by omega) pf168 (by omega) (by omega), hT180, hF181⟩
  have hF191 := Fr_cp hF98 hF103 (by decide +kernel : Wsub W103a W108 = true)
  have e192 := fI_bd (q := 54) hT102 (tf hT102 rfl rfl) fd_6_6
  have e193 := fI_bd (q := 54) hT102 (tf hT102 rfl rfl) fd_6_7
  have q194 : fI h101 54 7 = fI h90 54 7 := Fr_fI hF103 (tf hT91 rfl rfl) (by decide +kernel)
  refine st_if_eq c108_25 (by omega) (fun k195 => False.elim (by omega)) (fun k196 => ?_)
  refine st_aload c108_28 rfl ?_
  refine st_callt (as := []) c108_29 cm_106 hT102 (tf hT102 rfl rfl) fd_6_0 rfl rfl rfl rfl (by omega) (K106 hT102 (Stb_mono hS (by decide +kernel)) (TB_fr pre1 hT hF191 (by decide +kernel)) (d - 1) (by omega) _ (fun v h0 H => H)) (fun v1 h197 H => ?_)
  obtain ⟨z203, rfl, b204, pf200, pf201, pf202, hT198, hF199⟩ := H
  have hF205 := Fr_cp hF191 hF199 (by decide +kernel : Wsub W106 W108 = true)
  have e206 := fI_bd (q := 54) hT198 (tf hT198 rfl rfl) fd_6_7
  have e207 := fI_bd (q := 54) hT198 (tf hT198 rfl rfl) fd_6_6
  refine st_istore (L' := [some (.ref 54), some (vI z96), some (vI z203), none]) c108_32 rfl rfl ?_
  refine st_goto c108_33 ?_
  refine st_aload c108_42 rfl ?_
  refine st_iload c108_43 rfl ?_
  have e208 := fI_bd (q := 54) hT198 (tf hT198 rfl rfl) fd_6_9
  have q209 : fI h197 54 9 = fI h 54 9 := (Fr_fI hF199 (tf hT102 rfl rfl) (by decide +kernel)).trans ((Fr_fI hF103 (tf hT91 rfl rfl) (by decide +kernel)).trans ((Fr_fI hF92 (tf hT4 rfl rfl) (by decide +kernel)).trans (Fr_fI hF5 (tf hT rfl rfl) (by decide +kernel))))
  refine st_callt (as := [vI z96]) c108_44 cm_107 hT198 (tf hT198 rfl rfl) fd_6_0 rfl rfl rfl rfl (by omega) (K107 hT198 (Stb_mono hS (by decide +kernel)) z96 (by omega) (d - 1) (by omega) _ (fun v h0 H => H)) (fun v1 h210 H => ?_)
  obtain ⟨rfl, pf213, pf214, pf215, pf216, hT211, hF212⟩ := H
  have hF217 := Fr_cp hF205 hF212 (by decide +kernel : Wsub W107 W108 = true)
  have e218 := fI_bd (q := 54) hT211 (tf hT211 rfl rfl) fd_6_9
  refine st_aload c108_47 rfl ?_
  refine st_iload c108_48 rfl ?_
  refine st_callt (as := [vI z203]) c108_49 cm_107 hT211 (tf hT211 rfl rfl) fd_6_0 rfl rfl rfl rfl (by omega) (K107 hT211 (Stb_mono hS (by decide +kernel)) z203 (by omega) (d - 1) (by omega) _ (fun v h0 H => H)) (fun v1 h219 H => ?_)
  obtain ⟨rfl, pf222, pf223, pf224, pf225, hT220, hF221⟩ := H
  have hF226 := Fr_cp hF217 hF221 (by decide +kernel : Wsub W107 W108 = true)
  have e227 := fI_bd (q := 54) hT220 (tf hT220 rfl rfl) fd_6_9
  refine st_aload c108_52 rfl ?_
  refine st_getI c108_53 hT220 (tf hT220 rfl rfl) fd_6_9 (fun e228 e229 => ?_)
  refine st_istore (L' := [some (.ref 54), some (vI z96), some (vI z203), some (vI (fI h219 54 9))]) c108_56 rfl rfl ?_
  refine st_aload c108_57 rfl ?_
  refine st_iconst c108_58 ?_
  refine st_callt (as := [vI 0]) c108_59 cm_107 hT220 (tf hT220 rfl rfl) fd_6_0 rfl rfl rfl rfl (by omega) (K107 hT220 (Stb_mono hS (by decide +kernel)) 0 (by omega) (d - 1) (by omega) _ (fun v h0 H => H)) (fun v1 h230 H => ?_)
  obtain ⟨rfl, pf233, pf234, pf235, pf236, hT231, hF232⟩ := H
  have hF237 := Fr_cp hF226 hF232 (by decide +kernel : Wsub W107 W108 = true)
  have e238 := fI_bd (q := 54) hT231 (tf hT231 rfl rfl) fd_6_9
  refine st_aload c108_62 rfl ?_
  refine st_iconst c108_63 ?_
  have e239 := fI_bd (q := 54) hT231 (tf hT231 rfl rfl) fd_6_6
  have q240 : fI h230 54 6 = fI h197 54 6 := (Fr_fI hF232 (tf hT220 rfl rfl) (by decide +kernel)).trans ((Fr_fI hF221 (tf hT211 rfl rfl) (by decide +kernel)).trans (Fr_fI hF212 (tf hT198 rfl rfl) (by decide +kernel)))
  have e241 := fI_bd (q := 54) hT231 (tf hT231 rfl rfl) fd_6_7
  have q242 : fI h230 54 7 = fI h197 54 7 := (Fr_fI hF232 (tf hT220 rfl rfl) (by decide +kernel)).trans ((Fr_fI hF221 (tf hT211 rfl rfl) (by decide +kernel)).trans (Fr_fI hF212 (tf hT198 rfl rfl) (by decide +kernel)))
  refine st_callt (as := [vI 0]) c108_64 cm_109 hT231 (tf hT231 rfl rfl) fd_6_0 rfl rfl rfl rfl (by omega) (K109z hT231 (Stb_mono hS (by decide +kernel)) (TB_fr pre1 hT hF237 (by decide +kernel)) (d - 1) (by omega) _ (fun v h0 H => H)) (fun v1 h243 H => ?_)
  obtain ⟨rfl, pf246, pf247, pf248, pf249, pf250, hT244, hF245⟩ := H
  have hF251 := Fr_cp hF237 hF245 (by decide +kernel : Wsub Wp9 W108 = true)
  have e252 := fI_bd (q := 54) hT244 (tf hT244 rfl rfl) fd_6_9
  have e253 := fI_bd (q := 54) hT244 (tf hT244 rfl rfl) fd_6_7
  have e254 := fI_bd (q := 54) hT244 (tf hT244 rfl rfl) fd_6_6
  refine st_iload c108_67 rfl ?_
  refine st_aload c108_68 rfl ?_
  refine st_getX (u := 59) c108_69 hT244 (tf hT244 rfl rfl) fd_6_8 rfl ?_
  refine st_alenC (z := 800) c108_72 hT244 (tf hT244 rfl rfl) ay_39 rfl rfl rfl ?_
  refine st_icmp_ge c108_73 (by omega) (by omega) (fun k255 => ?_) (fun k256 => ?_)
  refine st_return c108_86 ?_
  have fr257 : ∀ i : Int, 0 ≤ i → i < fI h 54 9 → aI h243 59 i = aI h 59 i := fun i a b => ((pf247 i a (by omega))).trans (((pf236 i a (by omega))).trans (((pf225 i a (by omega))).trans (((pf216 i a (by omega))).trans (((Fr_aI hF199 (tf hT102 rfl rfl) (by decide +kernel) i)).trans (((Fr_aI hF103 (tf hT91 rfl rfl) (by decide +kernel) i)).trans (((Fr_aI hF92 (tf hT4 rfl rfl) (by decide +kernel) i)).trans ((Fr_aI hF5 (tf hT rfl rfl) (by decide +kernel) i))))))))
  have iv258 := I7_step pre0 (by omega) (by omega) (by omega) (by omega) (fun hl => by omega) fr257
  exact hQ _ _ ⟨rfl, iv258, by omega, by omega, CM_s1 pre1 (fI_bd (q := 54) hT (tf hT rfl rfl) fd_6_6).1 (by omega) (by omega) (by omega) (by omega) pf95 (by omega) (by omega) (by omega) (by omega) pf202 (by omega) (by omega) pf250 (by omega) (by omega), hT244, hF251⟩
  refine st_aload c108_76 rfl ?_
  refine st_getX (u := 59) c108_77 hT244 (tf hT244 rfl rfl) fd_6_8 rfl ?_
  refine st_iload c108_80 rfl ?_
  refine st_aload c108_81 rfl ?_
  refine st_getI c108_82 hT244 (tf hT244 rfl rfl) fd_6_9 (fun e259 e260 => ?_)
  refine st_iast c108_85 hT244 (tf hT244 rfl rfl) ay_39 (by omega) (by omega) (by omega) (Ext_rf _) hS hF251 (by decide +kernel) (fun h261 hT262 hF263 hU264 => ?_)
  refine st_return c108_86 ?_
  have e265 := fI_bd (q := 54) hT262 (tf hT262 rfl rfl) fd_6_7
  have q266 : fI h261 54 7 = fI h243 54 7 := AUp_fI hU264
  have e267 := fI_bd (q := 54) hT262 (tf hT262 rfl rfl) fd_6_6
  have q268 : fI h261 54 6 = fI h243 54 6 := AUp_fI hU264
  have e269 := fI_bd (q := 54) hT262 (tf hT262 rfl rfl) fd_6_9
  have q270 : fI h261 54 9 = fI h243 54 9 := AUp_fI hU264
  have fr271 : ∀ i : Int, 0 ≤ i → i < fI h 54 9 → aI h261 59 i = aI h 59 i := fun i a b => (((AUp_aI hU264 (by omega) (by omega) (by omega) a).trans (if_neg (by omega)))).trans (((pf247 i a (by omega))).trans (((pf236 i a (by omega))).trans (((pf225 i a (by omega))).trans (((pf216 i a (by omega))).trans (((Fr_aI hF199 (tf hT102 rfl rfl) (by decide +kernel) i)).trans (((Fr_aI hF103 (tf hT91 rfl rfl) (by decide +kernel) i)).trans (((Fr_aI hF92 (tf hT4 rfl rfl) (by decide +kernel) i)).trans ((Fr_aI hF5 (tf hT rfl rfl) (by decide +kernel) i)))))))))
  have iv272 := I7_step pre0 (by omega) (by omega) (by omega) (by omega) (fun _ => by rw [show fI h 54 9 + 2 = fI h219 54 9 by omega]; exact ((AUp_aI hU264 (by omega) (by omega) (by omega) (by omega)).trans (if_pos rfl)).trans (by omega)) fr271
  exact hQ _ _ ⟨rfl, iv272, by omega, by omega, CM_s1 pre1 (fI_bd (q := 54) hT (tf hT rfl rfl) fd_6_6).1 (by omega) (by omega) (by omega) (by omega) pf95 (by omega) (by omega) (by omega) (by omega) pf202 (by omega) (by omega) pf250 (by omega) (by omega), hT262, hF263⟩
def W94 : List (Nat × Nat) := [(6, 5), (6, 6), (6, 7), (6, 9), (36, 0), (37, 0), (38, 0), (39, 0)]
set_option maxHeartbeats 0 in
theorem K94 {Ln : Nat} {xs : Nat → Int32} {τ : List Nat} {h : List mE} {E : EP} (hT : TH E τ h) (hS : Stb E W94) (d : Nat) (hd : 87 ≤ d) (Q : Option Value → List mE → Prop) (hQ : ∀ v h', (∃ z : Int, v = some (vI z) ∧ ((-2147483648) ≤ z ∧ z ≤ 2147483647) ∧ (I7 h') ∧ (CP (aI h 55) (fI h 54 1) z) ∧ TH E τ h' ∧ Fr τ W94 h h') → Q v h') : MR (mex Ln xs) d 94 0 [some (.ref 54), none, none] [] h Q := by
  have hF := Fr_rf τ W94 h
  refine st_aload c94_0 rfl ?_
  have e1 := fI_bd (q := 54) hT (tf hT rfl rfl) fd_6_1
  refine st_callt (as := []) c94_1 cm_96 hT (tf hT rfl rfl) fd_6_0 rfl rfl rfl rfl (by omega) (K96 hT (Stb_mono hS (by decide +kernel)) (d - 1) (by omega) _ (fun v h0 H => H)) (fun v1 h2 H => ?_)
  obtain ⟨rfl, pf5, hT3, hF4⟩ := H
  have hF6 := Fr_cp hF hF4 (by decide +kernel : Wsub W96 W94 = true)
  refine st_aload c94_4 rfl ?_
  refine st_iconst c94_5 ?_
  refine st_putI c94_6 hT3 (tf hT3 rfl rfl) fd_6_6 (by omega) (by omega) (Ext_rf _) hS hF6 (by decide +kernel) (fun h7 hT8 hF9 hU10 => ?_)
  refine st_aload c94_9 rfl ?_
  refine st_iconst c94_10 ?_
  refine st_putI c94_11 hT8 (tf hT8 rfl rfl) fd_6_7 (by omega) (by omega) (Ext_rf _) hS hF9 (by decide +kernel) (fun h11 hT12 hF13 hU14 => ?_)
  refine st_aload c94_14 rfl ?_
  refine st_iconst c94_15 ?_
  refine st_putI c94_16 hT12 (tf hT12 rfl rfl) fd_6_9 (by omega) (by omega) (Ext_rf _) hS hF13 (by decide +kernel) (fun h15 hT16 hF17 hU18 => ?_)
  refine st_iconst c94_19 ?_
  refine st_istore (L' := [some (.ref 54), some (vI 1), none]) c94_20 rfl rfl ?_
  refine st_iconst c94_21 ?_
  refine st_istore (L' := [some (.ref 54), some (vI 1), some (vI 0)]) c94_22 rfl rfl ?_
  have lp305 : ∀ (n306 : Nat) (z299 : Int) (z300 : Int) (h301 : List mE), (201 : Int) - z300 < (n306 : Int) → 0 ≤ z299 ∧ z299 ≤ 1 → 0 ≤ z300 ∧ z300 ≤ 201 → I7 h301 → CI (cS (aI h 55) (fI h 54 1)) (cF (aI h 55) (fI h 54 1)) h301 z299 → 0 ≤ fI h301 54 7 ∨ z299 = 0 ∨ 2 * z300 ≤ fI h301 54 6 → TH E τ h301 → Fr τ W94 h h301 → Fr τ [(6, 6), (6, 7), (6, 9), (39, 0)] h15 h301 → MR (mex Ln xs) d 94 23 [some (.ref 54), some (vI z299), some (vI z300)] [] h301 Q := by
    intro n306
    induction n306 with
    | zero =>
      intro z299 z300 h301 hm308 b309 b310 x311 x312 x313 hT302 hF303 hL304
      exfalso; omega
    | succ n306 ih307 =>
      intro z299 z300 h301 hm308 b309 b310 x311 x312 x313 hT302 hF303 hL304
      have e314 := fI_bd (q := 54) hT302 (tf hT302 rfl rfl) fd_6_7
      have e315 := fI_bd (q := 54) hT302 (tf hT302 rfl rfl) fd_6_6
      refine st_iload c94_23 rfl ?_
      refine st_if_eq c94_24 (by omega) (fun k316 => ?_) (fun k317 => ?_)
      refine st_aload c94_52 rfl ?_
      have e318 := fI_bd (q := 54) hT302 (tf hT302 rfl rfl) fd_6_5
      have q319 : fI h301 54 5 = fI h2 54 5 := (Fr_fI hL304 (tf hT16 rfl rfl) (by decide +kernel)).trans ((FUp_fIne hU18 (fun z => absurd z.2 (by decide))).trans ((FUp_fIne hU14 (fun z => absurd z.2 (by decide))).trans (FUp_fIne hU10 (fun z => absurd z.2 (by decide)))))
      refine st_callt (as := []) c94_53 cm_102 hT302 (tf hT302 rfl rfl) fd_6_0 rfl rfl rfl rfl (by omega) (K102 hT302 (TB_fr (TB_fr (TB_fr (TB_fr pf5 hT3 (FUp_1 hU10 (tf hT3 rfl rfl)) (by decide +kernel)) hT8 (FUp_1 hU14 (tf hT8 rfl rfl)) (by decide +kernel)) hT12 (FUp_1 hU18 (tf hT12 rfl rfl)) (by decide +kernel)) hT16 hL304 (by decide +kernel)) (d - 1) (by omega) _ (fun v h0 H => H)) (fun v1 h1 H => ?_)
      obtain ⟨z322, rfl, b323, pf320, pf321, rfl⟩ := H
      refine st_iconst c94_56 ?_
      refine st_icmp_eq c94_58 (by omega) (by omega) (fun k324 => ?_) (fun k325 => ?_)
      refine st_aload c94_65 rfl ?_
      refine st_getI c94_66 hT302 (tf hT302 rfl rfl) fd_6_7 (fun e326 e327 => ?_)
      refine st_ireturn c94_69 ?_
      exact hQ _ _ ⟨fI h301 54 7, rfl, by omega, x311, CI_end x312 (TB_fr (TB_fr (TB_fr (TB_fr pf5 hT3 (FUp_1 hU10 (tf hT3 rfl rfl)) (by decide +kernel)) hT8 (FUp_1 hU14 (tf hT8 rfl rfl)) (by decide +kernel)) hT12 (FUp_1 hU18 (tf hT12 rfl rfl)) (by decide +kernel)) hT16 hL304 (by decide +kernel)) (fI_bd (q := 54) hT302 (tf hT302 rfl rfl) fd_6_6).1 (by omega) (by omega), hT302, hF303⟩
      refine st_aload c94_61 rfl ?_
      refine st_callt (as := []) c94_62 cm_105 hT302 (tf hT302 rfl rfl) fd_6_0 rfl rfl rfl rfl (by omega) (K105 hT302 (Stb_mono hS (by decide +kernel)) (TB_fr (TB_fr (TB_fr (TB_fr pf5 hT3 (FUp_1 hU10 (tf hT3 rfl rfl)) (by decide +kernel)) hT8 (FUp_1 hU14 (tf hT8 rfl rfl)) (by decide +kernel)) hT12 (FUp_1 hU18 (tf hT12 rfl rfl)) (by decide +kernel)) hT16 hL304 (by decide +kernel)) (d - 1) (by omega) _ (fun v h0 H => H)) (fun v1 h328 H => ?_)
      obtain ⟨rfl, pf331, pf332, hT329, hF330⟩ := H
      have hF333 := Fr_cp hF303 hF330 (by decide +kernel : Wsub W105 W94 = true)
      have e334 := fI_bd (q := 54) hT329 (tf hT329 rfl rfl) fd_6_7
      refine st_aload c94_65 rfl ?_
      refine st_getI c94_66 hT329 (tf hT329 rfl rfl) fd_6_7 (fun e335 e336 => ?_)
      refine st_ireturn c94_69 ?_
      have e337 := fI_bd (q := 54) hT329 (tf hT329 rfl rfl) fd_6_6
      have q338 : fI h328 54 6 = fI h301 54 6 := Fr_fI hF330 (tf hT302 rfl rfl) (by decide +kernel)
      obtain ⟨fl339, fl340⟩ := pf332
      exact hQ _ _ ⟨fI h328 54 7, rfl, by omega, (I7_fr x311 hT302 hF330 (by decide +kernel)), CI_end x312 (TB_fr (TB_fr (TB_fr (TB_fr pf5 hT3 (FUp_1 hU10 (tf hT3 rfl rfl)) (by decide +kernel)) hT8 (FUp_1 hU14 (tf hT8 rfl rfl)) (by decide +kernel)) hT12 (FUp_1 hU18 (tf hT12 rfl rfl)) (by decide +kernel)) hT16 hL304 (by decide +kernel)) (fI_bd (q := 54) hT302 (tf hT302 rfl rfl) fd_6_6).1 (by omega) (by omega), hT329, hF333⟩
      refine st_iload c94_27 rfl ?_
      refine st_iconst c94_28 ?_
      refine st_icmp_gt c94_31 (by omega) (by omega) (fun k341 => ?_) (fun k342 => ?_)
      refine st_aload c94_52 rfl ?_
      have e343 := fI_bd (q := 54) hT302 (tf hT302 rfl rfl) fd_6_5
      have q344 : fI h301 54 5 = fI h2 54 5 := (Fr_fI hL304 (tf hT16 rfl rfl) (by decide +kernel)).trans ((FUp_fIne hU18 (fun z => absurd z.2 (by decide))).trans ((FUp_fIne hU14 (fun z => absurd z.2 (by decide))).trans (FUp_fIne hU10 (fun z => absurd z.2 (by decide)))))
      refine st_callt (as := []) c94_53 cm_102 hT302 (tf hT302 rfl rfl) fd_6_0 rfl rfl rfl rfl (by omega) (K102 hT302 (TB_fr (TB_fr (TB_fr (TB_fr pf5 hT3 (FUp_1 hU10 (tf hT3 rfl rfl)) (by decide +kernel)) hT8 (FUp_1 hU14 (tf hT8 rfl rfl)) (by decide +kernel)) hT12 (FUp_1 hU18 (tf hT12 rfl rfl)) (by decide +kernel)) hT16 hL304 (by decide +kernel)) (d - 1) (by omega) _ (fun v h0 H => H)) (fun v1 h1 H => ?_)
      obtain ⟨z347, rfl, b348, pf345, pf346, rfl⟩ := H
      refine st_iconst c94_56 ?_
      refine st_icmp_eq c94_58 (by omega) (by omega) (fun k349 => ?_) (fun k350 => ?_)
      refine st_aload c94_65 rfl ?_
      refine st_getI c94_66 hT302 (tf hT302 rfl rfl) fd_6_7 (fun e351 e352 => ?_)
      refine st_ireturn c94_69 ?_
      exact hQ _ _ ⟨fI h301 54 7, rfl, by omega, x311, CI_end x312 (TB_fr (TB_fr (TB_fr (TB_fr pf5 hT3 (FUp_1 hU10 (tf hT3 rfl rfl)) (by decide +kernel)) hT8 (FUp_1 hU14 (tf hT8 rfl rfl)) (by decide +kernel)) hT12 (FUp_1 hU18 (tf hT12 rfl rfl)) (by decide +kernel)) hT16 hL304 (by decide +kernel)) (fI_bd (q := 54) hT302 (tf hT302 rfl rfl) fd_6_6).1 (by omega) (by omega), hT302, hF303⟩
      refine st_aload c94_61 rfl ?_
      refine st_callt (as := []) c94_62 cm_105 hT302 (tf hT302 rfl rfl) fd_6_0 rfl rfl rfl rfl (by omega) (K105 hT302 (Stb_mono hS (by decide +kernel)) (TB_fr (TB_fr (TB_fr (TB_fr pf5 hT3 (FUp_1 hU10 (tf hT3 rfl rfl)) (by decide +kernel)) hT8 (FUp_1 hU14 (tf hT8 rfl rfl)) (by decide +kernel)) hT12 (FUp_1 hU18 (tf hT12 rfl rfl)) (by decide +kernel)) hT16 hL304 (by decide +kernel)) (d - 1) (by omega) _ (fun v h0 H => H)) (fun v1 h353 H => ?_)
      obtain ⟨rfl, pf356, pf357, hT354, hF355⟩ := H
      have hF358 := Fr_cp hF303 hF355 (by decide +kernel : Wsub W105 W94 = true)
      have e359 := fI_bd (q := 54) hT354 (tf hT354 rfl rfl) fd_6_7
      refine st_aload c94_65 rfl ?_
      refine st_getI c94_66 hT354 (tf hT354 rfl rfl) fd_6_7 (fun e360 e361 => ?_)
      refine st_ireturn c94_69 ?_
      have e362 := fI_bd (q := 54) hT354 (tf hT354 rfl rfl) fd_6_6
      have q363 : fI h353 54 6 = fI h301 54 6 := Fr_fI hF355 (tf hT302 rfl rfl) (by decide +kernel)
      obtain ⟨fl364, fl365⟩ := pf357
      exact hQ _ _ ⟨fI h353 54 7, rfl, by omega, (I7_fr x311 hT302 hF355 (by decide +kernel)), CI_end x312 (TB_fr (TB_fr (TB_fr (TB_fr pf5 hT3 (FUp_1 hU10 (tf hT3 rfl rfl)) (by decide +kernel)) hT8 (FUp_1 hU14 (tf hT8 rfl rfl)) (by decide +kernel)) hT12 (FUp_1 hU18 (tf hT12 rfl rfl)) (by decide +kernel)) hT16 hL304 (by decide +kernel)) (fI_bd (q := 54) hT302 (tf hT302 rfl rfl) fd_6_6).1 (by omega) (by omega), hT354, hF358⟩
      refine st_aload c94_34 rfl ?_
      refine st_callt (as := []) c94_35 cm_108 hT302 (tf hT302 rfl rfl) fd_6_0 rfl rfl rfl rfl (by omega) (K108 hT302 (Stb_mono hS (by decide +kernel)) x311 (TB_fr (TB_fr (TB_fr (TB_fr pf5 hT3 (FUp_1 hU10 (tf hT3 rfl rfl)) (by decide +kernel)) hT8 (FUp_1 hU14 (tf hT8 rfl rfl)) (by decide +kernel)) hT12 (FUp_1 hU18 (tf hT12 rfl rfl)) (by decide +kernel)) hT16 hL304 (by decide +kernel)) (d - 1) (by omega) _ (fun v h0 H => H)) (fun v1 h366 H => ?_)
      obtain ⟨rfl, pf369, pf370, pf371, pf372, hT367, hF368⟩ := H
      have hF373 := Fr_cp hF303 hF368 (by decide +kernel : Wsub W108 W94 = true)
      have e374 := fI_bd (q := 54) hT367 (tf hT367 rfl rfl) fd_6_7
      have e375 := fI_bd (q := 54) hT367 (tf hT367 rfl rfl) fd_6_6
      refine st_aload c94_38 rfl ?_
      refine st_iconst c94_39 ?_
      refine st_callt (as := [vI 1059]) c94_42 cm_103 hT367 (tf hT367 rfl rfl) fd_6_0 rfl rfl rfl rfl (by omega) (K103b hT367 (Stb_mono hS (by decide +kernel)) 1059 (by omega) (TB_fr (TB_fr (TB_fr (TB_fr (TB_fr pf5 hT3 (FUp_1 hU10 (tf hT3 rfl rfl)) (by decide +kernel)) hT8 (FUp_1 hU14 (tf hT8 rfl rfl)) (by decide +kernel)) hT12 (FUp_1 hU18 (tf hT12 rfl rfl)) (by decide +kernel)) hT16 hL304 (by decide +kernel)) hT302 hF368 (by decide +kernel)) (d - 1) (by omega) _ (fun v h0 H => H)) (fun v1 h376 H => ?_)
      rcases H with ⟨rfl, pf379, pf380, pf381, hT377, hF378⟩ | ⟨rfl, pf382, pf383, pf384, pf385, hT377, hF378⟩
      have hF386 := Fr_cp hF373 hF378 (by decide +kernel : Wsub W103b W94 = true)
      have e387 := fI_bd (q := 54) hT377 (tf hT377 rfl rfl) fd_6_6
      have e388 := fI_bd (q := 54) hT377 (tf hT377 rfl rfl) fd_6_7
      have q389 : fI h376 54 7 = fI h366 54 7 := Fr_fI hF378 (tf hT367 rfl rfl) (by decide +kernel)
      refine st_istore (L' := [some (.ref 54), some (vI 0), some (vI z300)]) c94_45 rfl rfl ?_
      refine st_iinc (L' := [some (.ref 54), some (vI 0), some (vI (z300 + 1))]) c94_46 rfl rfl rfl ?_
      refine st_goto c94_49 ?_
      exact ih307 0 (z300 + 1) h376 (by omega) (by omega) (by omega) ((I7_fr pf369 hT367 hF378 (by decide +kernel))) (CI_s0 x312 (by omega) pf372 (by omega) (by omega) (by omega)) (by omega) hT377 hF386 (Fr_cp (Fr_cp hL304 hF368 (by decide +kernel)) hF378 (by decide +kernel))
      have hF390 := Fr_cp hF373 hF378 (by decide +kernel : Wsub W103b W94 = true)
      have e391 := fI_bd (q := 54) hT377 (tf hT377 rfl rfl) fd_6_6
      have e392 := fI_bd (q := 54) hT377 (tf hT377 rfl rfl) fd_6_7
      have q393 : fI h376 54 7 = fI h366 54 7 := Fr_fI hF378 (tf hT367 rfl rfl) (by decide +kernel)
      refine st_istore (L' := [some (.ref 54), some (vI 1), some (vI z300)]) c94_45 rfl rfl ?_
      refine st_iinc (L' := [some (.ref 54), some (vI 1), some (vI (z300 + 1))]) c94_46 rfl rfl rfl ?_
      refine st_goto c94_49 ?_
      exact ih307 1 (z300 + 1) h376 (by omega) (by omega) (by omega) ((I7_fr pf369 hT367 hF378 (by decide +kernel))) (CI_s1 x312 (by omega) pf372 (by omega) (by omega) (by omega) (by omega)) (by omega) hT377 hF390 (Fr_cp (Fr_cp hL304 hF368 (by decide +kernel)) hF378 (by decide +kernel))
  have e394 := fI_bd (q := 54) hT16 (tf hT16 rfl rfl) fd_6_7
  have q395 : fI h15 54 7 = (-1) := (FUp_fIne hU18 (fun z => absurd z.2 (by decide))).trans (FUp_fI hU14 (by omega) (by omega))
  have e396 := fI_bd (q := 54) hT16 (tf hT16 rfl rfl) fd_6_6
  have q397 : fI h15 54 6 = 0 := (FUp_fIne hU18 (fun z => absurd z.2 (by decide))).trans ((FUp_fIne hU14 (fun z => absurd z.2 (by decide))).trans (FUp_fI hU10 (by omega) (by omega)))
  exact lp305 ((((201 : Int) - 0 : Int) + 1).toNat) 1 0 h15 (by omega) (by omega) (by omega) ((I7_0 (FUp_fI hU18 (by decide) (by decide)))) (CI_0 (by omega) (by omega)) (by omega) hT16 hF17 (Fr_rf _ _ _)
