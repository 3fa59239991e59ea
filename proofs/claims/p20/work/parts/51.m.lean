def Wp9 : List (Nat × Nat) := [(6, 6), (6, 7), (6, 9), (39, 0)]
abbrev C109 (k : Int) : Prop := ∀ {Ln : Nat} {xs : Nat → Int32} {τ : List Nat} {h : List mE} {E : EP} (hT : TH E τ h) (hS : Stb E Wp9) (d : Nat) (hd : 64 - 6 * k ≤ (d : Int)) (Q : Option Value → List mE → Prop) (hQ : ∀ v h', (v = none ∧ (fI h 54 9≤fI h' 54 9) ∧ (∀ i : Int, 0 ≤ i → i < fI h 54 9 → aI h' 59 i = aI h 59 i) ∧ TH E τ h' ∧ Fr τ Wp9 h h') → Q v h'), MR (mex Ln xs) d 109 0 [some (.ref 54), some (vI k), none, none] [] h Q
set_option maxHeartbeats 0 in
theorem K111 {Ln : Nat} {xs : Nat → Int32} {τ : List Nat} {h : List mE} {E : EP} (hT : TH E τ h) (hS : Stb E Wp9) (p1 : Int) (hp1 : 0 ≤ p1 ∧ p1 ≤ 8) (pre0 : p1 < 8 → C109 (p1 + 1)) (d : Nat) (hd : 62 - 6 * p1 ≤ (d : Int)) (Q : Option Value → List mE → Prop) (hQ : ∀ v h', (v = none ∧ (fI h 54 9≤fI h' 54 9) ∧ (∀ i : Int, 0 ≤ i → i < fI h 54 9 → aI h' 59 i = aI h 59 i) ∧ TH E τ h' ∧ Fr τ Wp9 h h') → Q v h') : MR (mex Ln xs) d 111 0 [some (.ref 54), some (vI p1), none, none] [] h Q := by
  have hF := Fr_rf τ Wp9 h
  refine st_aload c111_0 rfl ?_
  have e1 := fI_bd (q := 54) hT (tf hT rfl rfl) fd_6_6
  have e2 := fI_bd (q := 54) hT (tf hT rfl rfl) fd_6_5
  refine st_callt (as := []) c111_1 cm_102 hT (tf hT rfl rfl) fd_6_0 rfl rfl rfl rfl (by omega) (K102 hT (d - 1) (by omega) _ (fun v h0 H => H)) (fun v1 h1 H => ?_)
  obtain ⟨z4, rfl, b5, pf3, rfl⟩ := H
  refine st_istore (L' := [some (.ref 54), some (vI p1), some (vI z4), none]) c111_4 rfl rfl ?_
  refine st_iload c111_5 rfl ?_
  refine st_iconst c111_6 ?_
  refine st_icmp_eq c111_8 (by omega) (by omega) (fun k6 => ?_) (fun k7 => ?_)
  refine st_iconst c111_17 ?_
  refine st_goto c111_18 ?_
  refine st_istore (L' := [some (.ref 54), some (vI p1), some (vI z4), some (vI 1)]) c111_22 rfl rfl ?_
  refine st_iload c111_23 rfl ?_
  refine st_iconst c111_24 ?_
  refine st_icmp_ne c111_26 (by omega) (by omega) (fun k8 => ?_) (fun k9 => False.elim (by omega))
  refine st_iload c111_38 rfl ?_
  refine st_if_lt c111_39 (by omega) (fun k10 => False.elim (by omega)) (fun k11 => ?_)
  refine st_iload c111_42 rfl ?_
  refine st_iconst c111_43 ?_
  refine st_icmp_ge c111_45 (by omega) (by omega) (fun k12 => ?_) (fun k13 => False.elim (by omega))
  refine st_iload c111_66 rfl ?_
  refine st_if_eq c111_67 (by omega) (fun k14 => False.elim (by omega)) (fun k15 => ?_)
  refine st_aload c111_70 rfl ?_
  refine st_dup c111_71 rfl ?_
  refine st_getI c111_72 hT (tf hT rfl rfl) fd_6_6 (fun e16 e17 => ?_)
  refine st_iconst c111_75 ?_
  refine st_iadd c111_76 ?_
  refine st_putI c111_77 hT (tf hT rfl rfl) fd_6_6 (by omega) (by omega) (Ext_rf _) hS hF (by decide +kernel) (fun h18 hT19 hF20 hU21 => ?_)
  refine st_iload c111_80 rfl ?_
  refine st_iconst c111_81 ?_
  refine st_icmp_ge c111_83 (by omega) (by omega) (fun k22 => ?_) (fun k23 => ?_)
  refine st_aload c111_96 rfl ?_
  refine st_callt (as := []) c111_97 cm_105 hT19 (tf hT19 rfl rfl) fd_6_0 rfl rfl rfl rfl (by omega) (K105 hT19 (Stb_mono hS (by decide +kernel)) (d - 1) (by omega) _ (fun v h0 H => H)) (fun v1 h24 H => ?_)
  obtain ⟨rfl, hT25, hF26⟩ := H
  have hF27 := Fr_cp hF20 hF26 (by decide +kernel : Wsub W105 Wp9 = true)
  refine st_return c111_100 ?_
  have e28 := fI_bd (q := 54) hT25 (tf hT25 rfl rfl) fd_6_9
  have q29 : fI h24 54 9 = fI h 54 9 := (Fr_fI hF26 (tf hT19 rfl rfl) (by decide +kernel)).trans (FUp_fIne hU21 (fun z => absurd z.2 (by decide)))
  have fr30 : ∀ i : Int, 0 ≤ i → i < fI h 54 9 → aI h24 59 i = aI h 59 i := fun i a b => ((Fr_aI hF26 (tf hT19 rfl rfl) (by decide +kernel) i)).trans ((FUp_aI hU21 i))
  exact hQ _ _ ⟨rfl, by omega, fr30, hT25, hF27⟩
  refine st_aload c111_86 rfl ?_
  refine st_iconst c111_87 ?_
  refine st_callt (as := [vI 1040]) c111_90 cm_103 hT19 (tf hT19 rfl rfl) fd_6_0 rfl rfl rfl rfl (by omega) (K103b hT19 (Stb_mono hS (by decide +kernel)) 1040 (by omega) (d - 1) (by omega) _ (fun v h0 H => H)) (fun v1 h31 H => ?_)
  rcases H with ⟨rfl, hT32, hF33⟩ | ⟨rfl, hT32, hF33⟩
  have hF34 := Fr_cp hF20 hF33 (by decide +kernel : Wsub W103b Wp9 = true)
  refine st_if_ne c111_93 (by omega) (fun k35 => False.elim (by omega)) (fun k36 => ?_)
  refine st_aload c111_96 rfl ?_
  refine st_callt (as := []) c111_97 cm_105 hT32 (tf hT32 rfl rfl) fd_6_0 rfl rfl rfl rfl (by omega) (K105 hT32 (Stb_mono hS (by decide +kernel)) (d - 1) (by omega) _ (fun v h0 H => H)) (fun v1 h37 H => ?_)
  obtain ⟨rfl, hT38, hF39⟩ := H
  have hF40 := Fr_cp hF34 hF39 (by decide +kernel : Wsub W105 Wp9 = true)
  refine st_return c111_100 ?_
  have e41 := fI_bd (q := 54) hT38 (tf hT38 rfl rfl) fd_6_9
  have q42 : fI h37 54 9 = fI h 54 9 := (Fr_fI hF39 (tf hT32 rfl rfl) (by decide +kernel)).trans ((Fr_fI hF33 (tf hT19 rfl rfl) (by decide +kernel)).trans (FUp_fIne hU21 (fun z => absurd z.2 (by decide))))
  have fr43 : ∀ i : Int, 0 ≤ i → i < fI h 54 9 → aI h37 59 i = aI h 59 i := fun i a b => ((Fr_aI hF39 (tf hT32 rfl rfl) (by decide +kernel) i)).trans (((Fr_aI hF33 (tf hT19 rfl rfl) (by decide +kernel) i)).trans ((FUp_aI hU21 i)))
  exact hQ _ _ ⟨rfl, by omega, fr43, hT38, hF40⟩
  have hF44 := Fr_cp hF20 hF33 (by decide +kernel : Wsub W103b Wp9 = true)
  refine st_if_ne c111_93 (by omega) (fun k45 => ?_) (fun k46 => False.elim (by omega))
  refine st_aload c111_101 rfl ?_
  refine st_iload c111_102 rfl ?_
  refine st_iconst c111_103 ?_
  refine st_iadd c111_104 ?_
  have e47 := fI_bd (q := 54) hT32 (tf hT32 rfl rfl) fd_6_9
  have q48 : fI h31 54 9 = fI h 54 9 := (Fr_fI hF33 (tf hT19 rfl rfl) (by decide +kernel)).trans (FUp_fIne hU21 (fun z => absurd z.2 (by decide)))
  refine st_callt (as := [vI (p1 + 1)]) c111_105 cm_109 hT32 (tf hT32 rfl rfl) fd_6_0 rfl rfl rfl rfl (by omega) ((pre0 (by omega)) hT32 (Stb_mono hS (by decide +kernel)) (d - 1) (by omega) _ (fun v h0 H => H)) (fun v1 h49 H => ?_)
  obtain ⟨rfl, pf52, pf53, hT50, hF51⟩ := H
  have hF54 := Fr_cp hF44 hF51 (by decide +kernel : Wsub Wp9 Wp9 = true)
  have e55 := fI_bd (q := 54) hT50 (tf hT50 rfl rfl) fd_6_9
  refine st_iload c111_108 rfl ?_
  refine st_if_eq c111_109 (by omega) (fun k56 => False.elim (by omega)) (fun k57 => ?_)
  refine st_aload c111_112 rfl ?_
  refine st_iconst c111_113 ?_
  refine st_callt (as := [vI 1044]) c111_116 cm_104 hT50 (tf hT50 rfl rfl) fd_6_0 rfl rfl rfl rfl (by omega) (K104b hT50 (Stb_mono hS (by decide +kernel)) 1044 (by omega) (d - 1) (by omega) _ (fun v h0 H => H)) (fun v1 h58 H => ?_)
  obtain ⟨rfl, hT59, hF60⟩ := H
  have hF61 := Fr_cp hF54 hF60 (by decide +kernel : Wsub W104b Wp9 = true)
  refine st_aload c111_119 rfl ?_
  refine st_iload c111_120 rfl ?_
  refine st_iconst c111_121 ?_
  refine st_iadd c111_122 ?_
  have e62 := fI_bd (q := 54) hT59 (tf hT59 rfl rfl) fd_6_9
  have q63 : fI h58 54 9 = fI h49 54 9 := Fr_fI hF60 (tf hT50 rfl rfl) (by decide +kernel)
  refine st_callt (as := [vI (p1 + 1)]) c111_123 cm_109 hT59 (tf hT59 rfl rfl) fd_6_0 rfl rfl rfl rfl (by omega) ((pre0 (by omega)) hT59 (Stb_mono hS (by decide +kernel)) (d - 1) (by omega) _ (fun v h0 H => H)) (fun v1 h64 H => ?_)
  obtain ⟨rfl, pf67, pf68, hT65, hF66⟩ := H
  have hF69 := Fr_cp hF61 hF66 (by decide +kernel : Wsub Wp9 Wp9 = true)
  have e70 := fI_bd (q := 54) hT65 (tf hT65 rfl rfl) fd_6_9
  refine st_aload c111_126 rfl ?_
  refine st_iload c111_127 rfl ?_
  refine st_ineg c111_128 ?_
  refine st_callt (as := [vI (-z4)]) c111_129 cm_107 hT65 (tf hT65 rfl rfl) fd_6_0 rfl rfl rfl rfl (by omega) (K107 hT65 (Stb_mono hS (by decide +kernel)) (-z4) (by omega) (d - 1) (by omega) _ (fun v h0 H => H)) (fun v1 h71 H => ?_)
  obtain ⟨rfl, pf74, pf75, pf76, pf77, hT72, hF73⟩ := H
  have hF78 := Fr_cp hF69 hF73 (by decide +kernel : Wsub W107 Wp9 = true)
  have e79 := fI_bd (q := 54) hT72 (tf hT72 rfl rfl) fd_6_9
  refine st_aload c111_132 rfl ?_
  refine st_iconst c111_133 ?_
  refine st_callt (as := [vI 1041]) c111_136 cm_104 hT72 (tf hT72 rfl rfl) fd_6_0 rfl rfl rfl rfl (by omega) (K104b hT72 (Stb_mono hS (by decide +kernel)) 1041 (by omega) (d - 1) (by omega) _ (fun v h0 H => H)) (fun v1 h80 H => ?_)
  obtain ⟨rfl, hT81, hF82⟩ := H
  have hF83 := Fr_cp hF78 hF82 (by decide +kernel : Wsub W104b Wp9 = true)
  refine st_return c111_139 ?_
  have e84 := fI_bd (q := 54) hT81 (tf hT81 rfl rfl) fd_6_9
  have q85 : fI h80 54 9 = fI h71 54 9 := Fr_fI hF82 (tf hT72 rfl rfl) (by decide +kernel)
  have fr86 : ∀ i : Int, 0 ≤ i → i < fI h 54 9 → aI h80 59 i = aI h 59 i := fun i a b => ((Fr_aI hF82 (tf hT72 rfl rfl) (by decide +kernel) i)).trans (((pf77 i a (by omega))).trans (((pf68 i a (by omega))).trans (((Fr_aI hF60 (tf hT50 rfl rfl) (by decide +kernel) i)).trans (((pf53 i a (by omega))).trans (((Fr_aI hF33 (tf hT19 rfl rfl) (by decide +kernel) i)).trans ((FUp_aI hU21 i)))))))
  exact hQ _ _ ⟨rfl, by omega, fr86, hT81, hF83⟩
  refine st_iload c111_11 rfl ?_
  refine st_iconst c111_12 ?_
  refine st_icmp_ne c111_14 (by omega) (by omega) (fun k87 => ?_) (fun k88 => ?_)
  refine st_iconst c111_21 ?_
  refine st_istore (L' := [some (.ref 54), some (vI p1), some (vI z4), some (vI 0)]) c111_22 rfl rfl ?_
  refine st_iload c111_23 rfl ?_
  refine st_iconst c111_24 ?_
  refine st_icmp_ne c111_26 (by omega) (by omega) (fun k89 => ?_) (fun k90 => ?_)
  refine st_iload c111_38 rfl ?_
  refine st_if_lt c111_39 (by omega) (fun k91 => ?_) (fun k92 => ?_)
  refine st_iload c111_66 rfl ?_
  refine st_if_eq c111_67 (by omega) (fun k93 => ?_) (fun k94 => False.elim (by omega))
  refine st_iload c111_80 rfl ?_
  refine st_iconst c111_81 ?_
  refine st_icmp_ge c111_83 (by omega) (by omega) (fun k95 => ?_) (fun k96 => ?_)
  refine st_aload c111_96 rfl ?_
  refine st_callt (as := []) c111_97 cm_105 hT (tf hT rfl rfl) fd_6_0 rfl rfl rfl rfl (by omega) (K105 hT (Stb_mono hS (by decide +kernel)) (d - 1) (by omega) _ (fun v h0 H => H)) (fun v1 h97 H => ?_)
  obtain ⟨rfl, hT98, hF99⟩ := H
  have hF100 := Fr_cp hF hF99 (by decide +kernel : Wsub W105 Wp9 = true)
  refine st_return c111_100 ?_
  have e101 := fI_bd (q := 54) hT98 (tf hT98 rfl rfl) fd_6_9
  have q102 : fI h97 54 9 = fI h 54 9 := Fr_fI hF99 (tf hT rfl rfl) (by decide +kernel)
  have fr103 : ∀ i : Int, 0 ≤ i → i < fI h 54 9 → aI h97 59 i = aI h 59 i := fun i a b => (Fr_aI hF99 (tf hT rfl rfl) (by decide +kernel) i)
  exact hQ _ _ ⟨rfl, by omega, fr103, hT98, hF100⟩
  refine st_aload c111_86 rfl ?_
  refine st_iconst c111_87 ?_
  refine st_callt (as := [vI 1040]) c111_90 cm_103 hT (tf hT rfl rfl) fd_6_0 rfl rfl rfl rfl (by omega) (K103b hT (Stb_mono hS (by decide +kernel)) 1040 (by omega) (d - 1) (by omega) _ (fun v h0 H => H)) (fun v1 h104 H => ?_)
  rcases H with ⟨rfl, hT105, hF106⟩ | ⟨rfl, hT105, hF106⟩
  have hF107 := Fr_cp hF hF106 (by decide +kernel : Wsub W103b Wp9 = true)
  refine st_if_ne c111_93 (by omega) (fun k108 => False.elim (by omega)) (fun k109 => ?_)
  refine st_aload c111_96 rfl ?_
  refine st_callt (as := []) c111_97 cm_105 hT105 (tf hT105 rfl rfl) fd_6_0 rfl rfl rfl rfl (by omega) (K105 hT105 (Stb_mono hS (by decide +kernel)) (d - 1) (by omega) _ (fun v h0 H => H)) (fun v1 h110 H => ?_)
  obtain ⟨rfl, hT111, hF112⟩ := H
  have hF113 := Fr_cp hF107 hF112 (by decide +kernel : Wsub W105 Wp9 = true)
  refine st_return c111_100 ?_
  have e114 := fI_bd (q := 54) hT111 (tf hT111 rfl rfl) fd_6_9
  have q115 : fI h110 54 9 = fI h 54 9 := (Fr_fI hF112 (tf hT105 rfl rfl) (by decide +kernel)).trans (Fr_fI hF106 (tf hT rfl rfl) (by decide +kernel))
  have fr116 : ∀ i : Int, 0 ≤ i → i < fI h 54 9 → aI h110 59 i = aI h 59 i := fun i a b => ((Fr_aI hF112 (tf hT105 rfl rfl) (by decide +kernel) i)).trans ((Fr_aI hF106 (tf hT rfl rfl) (by decide +kernel) i))
  exact hQ _ _ ⟨rfl, by omega, fr116, hT111, hF113⟩
  have hF117 := Fr_cp hF hF106 (by decide +kernel : Wsub W103b Wp9 = true)
  refine st_if_ne c111_93 (by omega) (fun k118 => ?_) (fun k119 => False.elim (by omega))
  refine st_aload c111_101 rfl ?_
  refine st_iload c111_102 rfl ?_
  refine st_iconst c111_103 ?_
  refine st_iadd c111_104 ?_
  have e120 := fI_bd (q := 54) hT105 (tf hT105 rfl rfl) fd_6_9
  have q121 : fI h104 54 9 = fI h 54 9 := Fr_fI hF106 (tf hT rfl rfl) (by decide +kernel)
  refine st_callt (as := [vI (p1 + 1)]) c111_105 cm_109 hT105 (tf hT105 rfl rfl) fd_6_0 rfl rfl rfl rfl (by omega) ((pre0 (by omega)) hT105 (Stb_mono hS (by decide +kernel)) (d - 1) (by omega) _ (fun v h0 H => H)) (fun v1 h122 H => ?_)
  obtain ⟨rfl, pf125, pf126, hT123, hF124⟩ := H
  have hF127 := Fr_cp hF117 hF124 (by decide +kernel : Wsub Wp9 Wp9 = true)
  have e128 := fI_bd (q := 54) hT123 (tf hT123 rfl rfl) fd_6_9
  refine st_iload c111_108 rfl ?_
  refine st_if_eq c111_109 (by omega) (fun k129 => ?_) (fun k130 => False.elim (by omega))
  refine st_aload c111_132 rfl ?_
  refine st_iconst c111_133 ?_
  refine st_callt (as := [vI 1041]) c111_136 cm_104 hT123 (tf hT123 rfl rfl) fd_6_0 rfl rfl rfl rfl (by omega) (K104b hT123 (Stb_mono hS (by decide +kernel)) 1041 (by omega) (d - 1) (by omega) _ (fun v h0 H => H)) (fun v1 h131 H => ?_)
  obtain ⟨rfl, hT132, hF133⟩ := H
  have hF134 := Fr_cp hF127 hF133 (by decide +kernel : Wsub W104b Wp9 = true)
  refine st_return c111_139 ?_
  have e135 := fI_bd (q := 54) hT132 (tf hT132 rfl rfl) fd_6_9
  have q136 : fI h131 54 9 = fI h122 54 9 := Fr_fI hF133 (tf hT123 rfl rfl) (by decide +kernel)
  have fr137 : ∀ i : Int, 0 ≤ i → i < fI h 54 9 → aI h131 59 i = aI h 59 i := fun i a b => ((Fr_aI hF133 (tf hT123 rfl rfl) (by decide +kernel) i)).trans (((pf126 i a (by omega))).trans ((Fr_aI hF106 (tf hT rfl rfl) (by decide +kernel) i)))
  exact hQ _ _ ⟨rfl, by omega, fr137, hT132, hF134⟩
  refine st_iload c111_42 rfl ?_
  refine st_iconst c111_43 ?_
  refine st_icmp_ge c111_45 (by omega) (by omega) (fun k138 => ?_) (fun k139 => ?_)
  refine st_iload c111_66 rfl ?_
  refine st_if_eq c111_67 (by omega) (fun k140 => ?_) (fun k141 => False.elim (by omega))
  refine st_iload c111_80 rfl ?_
  refine st_iconst c111_81 ?_
  refine st_icmp_ge c111_83 (by omega) (by omega) (fun k142 => ?_) (fun k143 => ?_)
  refine st_aload c111_96 rfl ?_
  refine st_callt (as := []) c111_97 cm_105 hT (tf hT rfl rfl) fd_6_0 rfl rfl rfl rfl (by omega) (K105 hT (Stb_mono hS (by decide +kernel)) (d - 1) (by omega) _ (fun v h0 H => H)) (fun v1 h144 H => ?_)
  obtain ⟨rfl, hT145, hF146⟩ := H
  have hF147 := Fr_cp hF hF146 (by decide +kernel : Wsub W105 Wp9 = true)
  refine st_return c111_100 ?_
  have e148 := fI_bd (q := 54) hT145 (tf hT145 rfl rfl) fd_6_9
  have q149 : fI h144 54 9 = fI h 54 9 := Fr_fI hF146 (tf hT rfl rfl) (by decide +kernel)
  have fr150 : ∀ i : Int, 0 ≤ i → i < fI h 54 9 → aI h144 59 i = aI h 59 i := fun i a b => (Fr_aI hF146 (tf hT rfl rfl) (by decide +kernel) i)
  exact hQ _ _ ⟨rfl, by omega, fr150, hT145, hF147⟩
  refine st_aload c111_86 rfl ?_
  refine st_iconst c111_87 ?_
  refine st_callt (as := [vI 1040]) c111_90 cm_103 hT (tf hT rfl rfl) fd_6_0 rfl rfl rfl rfl (by omega) (K103b hT (Stb_mono hS (by decide +kernel)) 1040 (by omega) (d - 1) (by omega) _ (fun v h0 H => H)) (fun v1 h151 H => ?_)
  rcases H with ⟨rfl, hT152, hF153⟩ | ⟨rfl, hT152, hF153⟩
  have hF154 := Fr_cp hF hF153 (by decide +kernel : Wsub W103b Wp9 = true)
  refine st_if_ne c111_93 (by omega) (fun k155 => False.elim (by omega)) (fun k156 => ?_)
  refine st_aload c111_96 rfl ?_
  refine st_callt (as := []) c111_97 cm_105 hT152 (tf hT152 rfl rfl) fd_6_0 rfl rfl rfl rfl (by omega) (K105 hT152 (Stb_mono hS (by decide +kernel)) (d - 1) (by omega) _ (fun v h0 H => H)) (fun v1 h157 H => ?_)
  obtain ⟨rfl, hT158, hF159⟩ := H
  have hF160 := Fr_cp hF154 hF159 (by decide +kernel : Wsub W105 Wp9 = true)
  refine st_return c111_100 ?_
  have e161 := fI_bd (q := 54) hT158 (tf hT158 rfl rfl) fd_6_9
  have q162 : fI h157 54 9 = fI h 54 9 := (Fr_fI hF159 (tf hT152 rfl rfl) (by decide +kernel)).trans (Fr_fI hF153 (tf hT rfl rfl) (by decide +kernel))
  have fr163 : ∀ i : Int, 0 ≤ i → i < fI h 54 9 → aI h157 59 i = aI h 59 i := fun i a b => ((Fr_aI hF159 (tf hT152 rfl rfl) (by decide +kernel) i)).trans ((Fr_aI hF153 (tf hT rfl rfl) (by decide +kernel) i))
  exact hQ _ _ ⟨rfl, by omega, fr163, hT158, hF160⟩
  have hF164 := Fr_cp hF hF153 (by decide +kernel : Wsub W103b Wp9 = true)
  refine st_if_ne c111_93 (by omega) (fun k165 => ?_) (fun k166 => False.elim (by omega))
  refine st_aload c111_101 rfl ?_
  refine st_iload c111_102 rfl ?_
  refine st_iconst c111_103 ?_
  refine st_iadd c111_104 ?_
  have e167 := fI_bd (q := 54) hT152 (tf hT152 rfl rfl) fd_6_9
  have q168 : fI h151 54 9 = fI h 54 9 := Fr_fI hF153 (tf hT rfl rfl) (by decide +kernel)
  refine st_callt (as := [vI (p1 + 1)]) c111_105 cm_109 hT152 (tf hT152 rfl rfl) fd_6_0 rfl rfl rfl rfl (by omega) ((pre0 (by omega)) hT152 (Stb_mono hS (by decide +kernel)) (d - 1) (by omega) _ (fun v h0 H => H)) (fun v1 h169 H => ?_)
  obtain ⟨rfl, pf172, pf173, hT170, hF171⟩ := H
  have hF174 := Fr_cp hF164 hF171 (by decide +kernel : Wsub Wp9 Wp9 = true)
  have e175 := fI_bd (q := 54) hT170 (tf hT170 rfl rfl) fd_6_9
  refine st_iload c111_108 rfl ?_
  refine st_if_eq c111_109 (by omega) (fun k176 => ?_) (fun k177 => False.elim (by omega))
  refine st_aload c111_132 rfl ?_
  refine st_iconst c111_133 ?_
  refine st_callt (as := [vI 1041]) c111_136 cm_104 hT170 (tf hT170 rfl rfl) fd_6_0 rfl rfl rfl rfl (by omega) (K104b hT170 (Stb_mono hS (by decide +kernel)) 1041 (by omega) (d - 1) (by omega) _ (fun v h0 H => H)) (fun v1 h178 H => ?_)
  obtain ⟨rfl, hT179, hF180⟩ := H
  have hF181 := Fr_cp hF174 hF180 (by decide +kernel : Wsub W104b Wp9 = true)
  refine st_return c111_139 ?_
  have e182 := fI_bd (q := 54) hT179 (tf hT179 rfl rfl) fd_6_9
  have q183 : fI h178 54 9 = fI h169 54 9 := Fr_fI hF180 (tf hT170 rfl rfl) (by decide +kernel)
  have fr184 : ∀ i : Int, 0 ≤ i → i < fI h 54 9 → aI h178 59 i = aI h 59 i := fun i a b => ((Fr_aI hF180 (tf hT170 rfl rfl) (by decide +kernel) i)).trans (((pf173 i a (by omega))).trans ((Fr_aI hF153 (tf hT rfl rfl) (by decide +kernel) i)))
  exact hQ _ _ ⟨rfl, by omega, fr184, hT179, hF181⟩
  refine st_aload c111_48 rfl ?_
  refine st_dup c111_49 rfl ?_
  refine st_getI c111_50 hT (tf hT rfl rfl) fd_6_6 (fun e185 e186 => ?_)
  refine st_iconst c111_53 ?_
  refine st_iadd c111_54 ?_
  refine st_putI c111_55 hT (tf hT rfl rfl) fd_6_6 (by omega) (by omega) (Ext_rf _) hS hF (by decide +kernel) (fun h187 hT188 hF189 hU190 => ?_)
  refine st_aload c111_58 rfl ?_
  refine st_iconst c111_59 ?_
  refine st_iload c111_60 rfl ?_
  refine st_isub c111_61 ?_
  have e191 := fI_bd (q := 54) hT188 (tf hT188 rfl rfl) fd_6_9
  have q192 : fI h187 54 9 = fI h 54 9 := FUp_fIne hU190 (fun z => absurd z.2 (by decide))
  refine st_callt (as := [vI ((-1) - z4)]) c111_62 cm_107 hT188 (tf hT188 rfl rfl) fd_6_0 rfl rfl rfl rfl (by omega) (K107 hT188 (Stb_mono hS (by decide +kernel)) ((-1) - z4) (by omega) (d - 1) (by omega) _ (fun v h0 H => H)) (fun v1 h193 H => ?_)
  obtain ⟨rfl, pf196, pf197, pf198, pf199, hT194, hF195⟩ := H
  have hF200 := Fr_cp hF189 hF195 (by decide +kernel : Wsub W107 Wp9 = true)
  have e201 := fI_bd (q := 54) hT194 (tf hT194 rfl rfl) fd_6_9
  refine st_return c111_65 ?_
  have fr202 : ∀ i : Int, 0 ≤ i → i < fI h 54 9 → aI h193 59 i = aI h 59 i := fun i a b => ((pf199 i a (by omega))).trans ((FUp_aI hU190 i))
  exact hQ _ _ ⟨rfl, by omega, fr202, hT194, hF200⟩
  refine st_aload c111_29 rfl ?_
  refine st_aload c111_30 rfl ?_
  refine st_callt (as := []) c111_31 cm_106 hT (tf hT rfl rfl) fd_6_0 rfl rfl rfl rfl (by omega) (K106 hT (Stb_mono hS (by decide +kernel)) (d - 1) (by omega) _ (fun v h0 H => H)) (fun v1 h203 H => ?_)
  obtain ⟨z206, rfl, b207, hT204, hF205⟩ := H
  have hF208 := Fr_cp hF hF205 (by decide +kernel : Wsub W106 Wp9 = true)
  have e209 := fI_bd (q := 54) hT204 (tf hT204 rfl rfl) fd_6_9
  have q210 : fI h203 54 9 = fI h 54 9 := Fr_fI hF205 (tf hT rfl rfl) (by decide +kernel)
  refine st_callt (as := [vI z206]) c111_34 cm_107 hT204 (tf hT204 rfl rfl) fd_6_0 rfl rfl rfl rfl (by omega) (K107 hT204 (Stb_mono hS (by decide +kernel)) z206 (by omega) (d - 1) (by omega) _ (fun v h0 H => H)) (fun v1 h211 H => ?_)
  obtain ⟨rfl, pf214, pf215, pf216, pf217, hT212, hF213⟩ := H
  have hF218 := Fr_cp hF208 hF213 (by decide +kernel : Wsub W107 Wp9 = true)
  have e219 := fI_bd (q := 54) hT212 (tf hT212 rfl rfl) fd_6_9
  refine st_return c111_37 ?_
  have fr220 : ∀ i : Int, 0 ≤ i → i < fI h 54 9 → aI h211 59 i = aI h 59 i := fun i a b => ((pf217 i a (by omega))).trans ((Fr_aI hF205 (tf hT rfl rfl) (by decide +kernel) i))
  exact hQ _ _ ⟨rfl, by omega, fr220, hT212, hF218⟩
  refine st_iconst c111_17 ?_
  refine st_goto c111_18 ?_
  refine st_istore (L' := [some (.ref 54), some (vI p1), some (vI z4), some (vI 1)]) c111_22 rfl rfl ?_
  refine st_iload c111_23 rfl ?_
  refine st_iconst c111_24 ?_
  refine st_icmp_ne c111_26 (by omega) (by omega) (fun k221 => ?_) (fun k222 => False.elim (by omega))
  refine st_iload c111_38 rfl ?_
  refine st_if_lt c111_39 (by omega) (fun k223 => False.elim (by omega)) (fun k224 => ?_)
  refine st_iload c111_42 rfl ?_
  refine st_iconst c111_43 ?_
  refine st_icmp_ge c111_45 (by omega) (by omega) (fun k225 => ?_) (fun k226 => False.elim (by omega))
  refine st_iload c111_66 rfl ?_
  refine st_if_eq c111_67 (by omega) (fun k227 => False.elim (by omega)) (fun k228 => ?_)
  refine st_aload c111_70 rfl ?_
  refine st_dup c111_71 rfl ?_
  refine st_getI c111_72 hT (tf hT rfl rfl) fd_6_6 (fun e229 e230 => ?_)
  refine st_iconst c111_75 ?_
  refine st_iadd c111_76 ?_
  refine st_putI c111_77 hT (tf hT rfl rfl) fd_6_6 (by omega) (by omega) (Ext_rf _) hS hF (by decide +kernel) (fun h231 hT232 hF233 hU234 => ?_)
  refine st_iload c111_80 rfl ?_
  refine st_iconst c111_81 ?_
  refine st_icmp_ge c111_83 (by omega) (by omega) (fun k235 => ?_) (fun k236 => ?_)
  refine st_aload c111_96 rfl ?_
  refine st_callt (as := []) c111_97 cm_105 hT232 (tf hT232 rfl rfl) fd_6_0 rfl rfl rfl rfl (by omega) (K105 hT232 (Stb_mono hS (by decide +kernel)) (d - 1) (by omega) _ (fun v h0 H => H)) (fun v1 h237 H => ?_)
  obtain ⟨rfl, hT238, hF239⟩ := H
  have hF240 := Fr_cp hF233 hF239 (by decide +kernel : Wsub W105 Wp9 = true)
  refine st_return c111_100 ?_
  have e241 := fI_bd (q := 54) hT238 (tf hT238 rfl rfl) fd_6_9
  have q242 : fI h237 54 9 = fI h 54 9 := (Fr_fI hF239 (tf hT232 rfl rfl) (by decide +kernel)).trans (FUp_fIne hU234 (fun z => absurd z.2 (by decide)))
  have fr243 : ∀ i : Int, 0 ≤ i → i < fI h 54 9 → aI h237 59 i = aI h 59 i := fun i a b => ((Fr_aI hF239 (tf hT232 rfl rfl) (by decide +kernel) i)).trans ((FUp_aI hU234 i))
  exact hQ _ _ ⟨rfl, by omega, fr243, hT238, hF240⟩
  refine st_aload c111_86 rfl ?_
  refine st_iconst c111_87 ?_
  refine st_callt (as := [vI 1040]) c111_90 cm_103 hT232 (tf hT232 rfl rfl) fd_6_0 rfl rfl rfl rfl (by omega) (K103b hT232 (Stb_mono hS (by decide +kernel)) 1040 (by omega) (d - 1) (by omega) _ (fun v h0 H => H)) (fun v1 h244 H => ?_)
  rcases H with ⟨rfl, hT245, hF246⟩ | ⟨rfl, hT245, hF246⟩
  have hF247 := Fr_cp hF233 hF246 (by decide +kernel : Wsub W103b Wp9 = true)
  refine st_if_ne c111_93 (by omega) (fun k248 => False.elim (by omega)) (fun k249 => ?_)
  refine st_aload c111_96 rfl ?_
  refine st_callt (as := []) c111_97 cm_105 hT245 (tf hT245 rfl rfl) fd_6_0 rfl rfl rfl rfl (by omega) (K105 hT245 (Stb_mono hS (by decide +kernel)) (d - 1) (by omega) _ (fun v h0 H => H)) (fun v1 h250 H => ?_)
  obtain ⟨rfl, hT251, hF252⟩ := H
  have hF253 := Fr_cp hF247 hF252 (by decide +kernel : Wsub W105 Wp9 = true)
  refine st_return c111_100 ?_
  have e254 := fI_bd (q := 54) hT251 (tf hT251 rfl rfl) fd_6_9
  have q255 : fI h250 54 9 = fI h 54 9 := (Fr_fI hF252 (tf hT245 rfl rfl) (by decide +kernel)).trans ((Fr_fI hF246 (tf hT232 rfl rfl) (by decide +kernel)).trans (FUp_fIne hU234 (fun z => absurd z.2 (by decide))))
  have fr256 : ∀ i : Int, 0 ≤ i → i < fI h 54 9 → aI h250 59 i = aI h 59 i := fun i a b => ((Fr_aI hF252 (tf hT245 rfl rfl) (by decide +kernel) i)).trans (((Fr_aI hF246 (tf hT232 rfl rfl) (by decide +kernel) i)).trans ((FUp_aI hU234 i)))
  exact hQ _ _ ⟨rfl, by omega, fr256, hT251, hF253⟩
  have hF257 := Fr_cp hF233 hF246 (by decide +kernel : Wsub W103b Wp9 = true)
  refine st_if_ne c111_93 (by omega) (fun k258 => ?_) (fun k259 => False.elim (by omega))
  refine st_aload c111_101 rfl ?_
  refine st_iload c111_102 rfl ?_
  refine st_iconst c111_103 ?_
  refine st_iadd c111_104 ?_
  have e260 := fI_bd (q := 54) hT245 (tf hT245 rfl rfl) fd_6_9
  have q261 : fI h244 54 9 = fI h 54 9 := (Fr_fI hF246 (tf hT232 rfl rfl) (by decide +kernel)).trans (FUp_fIne hU234 (fun z => absurd z.2 (by decide)))
  refine st_callt (as := [vI (p1 + 1)]) c111_105 cm_109 hT245 (tf hT245 rfl rfl) fd_6_0 rfl rfl rfl rfl (by omega) ((pre0 (by omega)) hT245 (Stb_mono hS (by decide +kernel)) (d - 1) (by omega) _ (fun v h0 H => H)) (fun v1 h262 H => ?_)
  obtain ⟨rfl, pf265, pf266, hT263, hF264⟩ := H
  have hF267 := Fr_cp hF257 hF264 (by decide +kernel : Wsub Wp9 Wp9 = true)
  have e268 := fI_bd (q := 54) hT263 (tf hT263 rfl rfl) fd_6_9
  refine st_iload c111_108 rfl ?_
  refine st_if_eq c111_109 (by omega) (fun k269 => False.elim (by omega)) (fun k270 => ?_)
  refine st_aload c111_112 rfl ?_
  refine st_iconst c111_113 ?_
  refine st_callt (as := [vI 1044]) c111_116 cm_104 hT263 (tf hT263 rfl rfl) fd_6_0 rfl rfl rfl rfl (by omega) (K104b hT263 (Stb_mono hS (by decide +kernel)) 1044 (by omega) (d - 1) (by omega) _ (fun v h0 H => H)) (fun v1 h271 H => ?_)
  obtain ⟨rfl, hT272, hF273⟩ := H
  have hF274 := Fr_cp hF267 hF273 (by decide +kernel : Wsub W104b Wp9 = true)
  refine st_aload c111_119 rfl ?_
  refine st_iload c111_120 rfl ?_
  refine st_iconst c111_121 ?_
  refine st_iadd c111_122 ?_
  have e275 := fI_bd (q := 54) hT272 (tf hT272 rfl rfl) fd_6_9
  have q276 : fI h271 54 9 = fI h262 54 9 := Fr_fI hF273 (tf hT263 rfl rfl) (by decide +kernel)
  refine st_callt (as := [vI (p1 + 1)]) c111_123 cm_109 hT272 (tf hT272 rfl rfl) fd_6_0 rfl rfl rfl rfl (by omega) ((pre0 (by omega)) hT272 (Stb_mono hS (by decide +kernel)) (d - 1) (by omega) _ (fun v h0 H => H)) (fun v1 h277 H => ?_)
  obtain ⟨rfl, pf280, pf281, hT278, hF279⟩ := H
  have hF282 := Fr_cp hF274 hF279 (by decide +kernel : Wsub Wp9 Wp9 = true)
  have e283 := fI_bd (q := 54) hT278 (tf hT278 rfl rfl) fd_6_9
  refine st_aload c111_126 rfl ?_
  refine st_iload c111_127 rfl ?_
  refine st_ineg c111_128 ?_
  refine st_callt (as := [vI (-z4)]) c111_129 cm_107 hT278 (tf hT278 rfl rfl) fd_6_0 rfl rfl rfl rfl (by omega) (K107 hT278 (Stb_mono hS (by decide +kernel)) (-z4) (by omega) (d - 1) (by omega) _ (fun v h0 H => H)) (fun v1 h284 H => ?_)
  obtain ⟨rfl, pf287, pf288, pf289, pf290, hT285, hF286⟩ := H
  have hF291 := Fr_cp hF282 hF286 (by decide +kernel : Wsub W107 Wp9 = true)
  have e292 := fI_bd (q := 54) hT285 (tf hT285 rfl rfl) fd_6_9
  refine st_aload c111_132 rfl ?_
  refine st_iconst c111_133 ?_
  refine st_callt (as := [vI 1041]) c111_136 cm_104 hT285 (tf hT285 rfl rfl) fd_6_0 rfl rfl rfl rfl (by omega) (K104b hT285 (Stb_mono hS (by decide +kernel)) 1041 (by omega) (d - 1) (by omega) _ (fun v h0 H => H)) (fun v1 h293 H => ?_)
  obtain ⟨rfl, hT294, hF295⟩ := H
  have hF296 := Fr_cp hF291 hF295 (by decide +kernel : Wsub W104b Wp9 = true)
  refine st_return c111_139 ?_
  have e297 := fI_bd (q := 54) hT294 (tf hT294 rfl rfl) fd_6_9
  have q298 : fI h293 54 9 = fI h284 54 9 := Fr_fI hF295 (tf hT285 rfl rfl) (by decide +kernel)
  have fr299 : ∀ i : Int, 0 ≤ i → i < fI h 54 9 → aI h293 59 i = aI h 59 i := fun i a b => ((Fr_aI hF295 (tf hT285 rfl rfl) (by decide +kernel) i)).trans (((pf290 i a (by omega))).trans (((pf281 i a (by omega))).trans (((Fr_aI hF273 (tf hT263 rfl rfl) (by decide +kernel) i)).trans (((pf266 i a (by omega))).trans (((Fr_aI hF246 (tf hT232 rfl rfl) (by decide +kernel) i)).trans ((FUp_aI hU234 i)))))))
  exact hQ _ _ ⟨rfl, by omega, fr299, hT294, hF296⟩
set_option maxHeartbeats 0 in
theorem K110 {Ln : Nat} {xs : Nat → Int32} {τ : List Nat} {h : List mE} {E : EP} (hT : TH E τ h) (hS : Stb E Wp9) (p1 : Int) (hp1 : 0 ≤ p1 ∧ p1 ≤ 8) (pre0 : p1 < 8 → C109 (p1 + 1)) (d : Nat) (hd : 63 - 6 * p1 ≤ (d : Int)) (Q : Option Value → List mE → Prop) (hQ : ∀ v h', (v = none ∧ (fI h 54 9≤fI h' 54 9) ∧ (∀ i : Int, 0 ≤ i → i < fI h 54 9 → aI h' 59 i = aI h 59 i) ∧ TH E τ h' ∧ Fr τ Wp9 h h') → Q v h') : MR (mex Ln xs) d 110 0 [some (.ref 54), some (vI p1), none, none] [] h Q := by
  have hF := Fr_rf τ Wp9 h
  refine st_aload c110_0 rfl ?_
  refine st_iload c110_1 rfl ?_
  have e1 := fI_bd (q := 54) hT (tf hT rfl rfl) fd_6_9
  refine st_callt (as := [vI p1]) c110_2 cm_111 hT (tf hT rfl rfl) fd_6_0 rfl rfl rfl rfl (by omega) (K111 hT (Stb_mono hS (by decide +kernel)) p1 (by omega) pre0 (d - 1) (by omega) _ (fun v h0 H => H)) (fun v1 h2 H => ?_)
  obtain ⟨rfl, pf5, pf6, hT3, hF4⟩ := H
  have hF7 := Fr_cp hF hF4 (by decide +kernel : Wsub Wp9 Wp9 = true)
  have e8 := fI_bd (q := 54) hT3 (tf hT3 rfl rfl) fd_6_9
  refine st_aload c110_5 rfl ?_
  refine st_getI c110_6 hT3 (tf hT3 rfl rfl) fd_6_5 (fun e9 e10 => ?_)
  have q11 : fI h2 54 5 = fI h 54 5 := Fr_fI hF4 (tf hT rfl rfl) (by decide +kernel)
  refine st_istore (L' := [some (.ref 54), some (vI p1), some (vI (fI h2 54 5)), none]) c110_9 rfl rfl ?_
  have lp86 : ∀ (n87 : Nat) (z81 : Int) (h82 : List mE), (z81 : Int) - 0 < (n87 : Int) → 0 ≤ z81 ∧ z81 ≤ 201 → fI h 54 9 ≤ fI h82 54 9 → (∀ i : Int, 0 ≤ i → i < fI h 54 9 → aI h82 59 i = aI h 59 i) → TH E τ h82 → Fr τ Wp9 h h82 → Fr τ [(6, 6), (6, 7), (6, 9), (39, 0)] h2 h82 → MR (mex Ln xs) d 110 10 [some (.ref 54), some (vI p1), some (vI z81), none] [] h82 Q := by
    intro n87
    induction n87 with
    | zero =>
      intro z81 h82 hm89 b90 x91 x92 hT83 hF84 hL85
      exfalso; omega
    | succ n87 ih88 =>
      intro z81 h82 hm89 b90 x91 x92 hT83 hF84 hL85
      have e93 := fI_bd (q := 54) hT83 (tf hT83 rfl rfl) fd_6_9
      refine st_iload c110_10 rfl ?_
      refine st_if_le c110_11 (by omega) (fun k94 => ?_) (fun k95 => ?_)
      refine st_return c110_68 ?_
      have fr96 : ∀ i : Int, 0 ≤ i → i < fI h 54 9 → aI h82 59 i = aI h 59 i := fun i a b => (x92 i a b)
      exact hQ _ _ ⟨rfl, by omega, fr96, hT83, hF84⟩
      refine st_aload c110_14 rfl ?_
      refine st_getI c110_15 hT83 (tf hT83 rfl rfl) fd_6_7 (fun e97 e98 => ?_)
      refine st_if_ge c110_18 (by omega) (fun k99 => ?_) (fun k100 => ?_)
      refine st_return c110_68 ?_
      have fr101 : ∀ i : Int, 0 ≤ i → i < fI h 54 9 → aI h82 59 i = aI h 59 i := fun i a b => (x92 i a b)
      exact hQ _ _ ⟨rfl, by omega, fr101, hT83, hF84⟩
      refine st_aload c110_21 rfl ?_
      have e102 := fI_bd (q := 54) hT83 (tf hT83 rfl rfl) fd_6_6
      have e103 := fI_bd (q := 54) hT83 (tf hT83 rfl rfl) fd_6_5
      have q104 : fI h82 54 5 = fI h2 54 5 := Fr_fI hL85 (tf hT3 rfl rfl) (by decide +kernel)
      refine st_callt (as := []) c110_22 cm_102 hT83 (tf hT83 rfl rfl) fd_6_0 rfl rfl rfl rfl (by omega) (K102 hT83 (d - 1) (by omega) _ (fun v h0 H => H)) (fun v1 h1 H => ?_)
      obtain ⟨z106, rfl, b107, pf105, rfl⟩ := H
      refine st_istore (L' := [some (.ref 54), some (vI p1), some (vI z81), some (vI z106)]) c110_25 rfl rfl ?_
      refine st_iload c110_26 rfl ?_
      refine st_iconst c110_27 ?_
      refine st_icmp_eq c110_30 (by omega) (by omega) (fun k108 => ?_) (fun k109 => ?_)
      refine st_aload c110_41 rfl ?_
      refine st_dup c110_42 rfl ?_
      refine st_getI c110_43 hT83 (tf hT83 rfl rfl) fd_6_6 (fun e110 e111 => ?_)
      refine st_iconst c110_46 ?_
      refine st_iadd c110_47 ?_
      refine st_putI c110_48 hT83 (tf hT83 rfl rfl) fd_6_6 (by omega) (by omega) (Ext_rf _) hS hF84 (by decide +kernel) (fun h112 hT113 hF114 hU115 => ?_)
      refine st_aload c110_51 rfl ?_
      refine st_iload c110_52 rfl ?_
      have e116 := fI_bd (q := 54) hT113 (tf hT113 rfl rfl) fd_6_9
      have q117 : fI h112 54 9 = fI h82 54 9 := FUp_fIne hU115 (fun z => absurd z.2 (by decide))
      refine st_callt (as := [vI p1]) c110_53 cm_111 hT113 (tf hT113 rfl rfl) fd_6_0 rfl rfl rfl rfl (by omega) (K111 hT113 (Stb_mono hS (by decide +kernel)) p1 (by omega) pre0 (d - 1) (by omega) _ (fun v h0 H => H)) (fun v1 h118 H => ?_)
      obtain ⟨rfl, pf121, pf122, hT119, hF120⟩ := H
      have hF123 := Fr_cp hF114 hF120 (by decide +kernel : Wsub Wp9 Wp9 = true)
      have e124 := fI_bd (q := 54) hT119 (tf hT119 rfl rfl) fd_6_9
      refine st_aload c110_56 rfl ?_
      refine st_iload c110_57 rfl ?_
      refine st_ineg c110_58 ?_
      refine st_callt (as := [vI (-z106)]) c110_59 cm_107 hT119 (tf hT119 rfl rfl) fd_6_0 rfl rfl rfl rfl (by omega) (K107 hT119 (Stb_mono hS (by decide +kernel)) (-z106) (by omega) (d - 1) (by omega) _ (fun v h0 H => H)) (fun v1 h125 H => ?_)
      obtain ⟨rfl, pf128, pf129, pf130, pf131, hT126, hF127⟩ := H
      have hF132 := Fr_cp hF123 hF127 (by decide +kernel : Wsub W107 Wp9 = true)
      have e133 := fI_bd (q := 54) hT126 (tf hT126 rfl rfl) fd_6_9
      refine st_iinc (L' := [some (.ref 54), some (vI p1), some (vI (z81 + (-1))), some (vI z106)]) c110_62 rfl rfl rfl ?_
      refine st_goto c110_65 ?_
      refine MR_weak (A := [some (.ref 54), some (vI p1), some (vI (z81 + (-1))), none]) (Lle_s (Lle_s (Lle_s (Lle_n (Lle_0))))) ?_
      have fr134 : ∀ i : Int, 0 ≤ i → i < fI h 54 9 → aI h125 59 i = aI h 59 i := fun i a b => ((pf131 i a (by omega))).trans (((pf122 i a (by omega))).trans (((FUp_aI hU115 i)).trans ((x92 i a b))))
      exact ih88 (z81 + (-1)) h125 (by omega) (by omega) (by omega) fr134 hT126 hF132 (Fr_cp (Fr_cp (FUp_Fr hL85 hU115 (fun u hu => by rw [ty_1 hu (tf hT126 rfl rfl)]; decide)) hF120 (by decide +kernel)) hF127 (by decide +kernel))
      refine st_iload c110_33 rfl ?_
      refine st_iconst c110_34 ?_
      refine st_icmp_eq c110_37 (by omega) (by omega) (fun k135 => ?_) (fun k136 => ?_)
      refine st_aload c110_41 rfl ?_
      refine st_dup c110_42 rfl ?_
      refine st_getI c110_43 hT83 (tf hT83 rfl rfl) fd_6_6 (fun e137 e138 => ?_)
      refine st_iconst c110_46 ?_
      refine st_iadd c110_47 ?_
      refine st_putI c110_48 hT83 (tf hT83 rfl rfl) fd_6_6 (by omega) (by omega) (Ext_rf _) hS hF84 (by decide +kernel) (fun h139 hT140 hF141 hU142 => ?_)
      refine st_aload c110_51 rfl ?_
      refine st_iload c110_52 rfl ?_
      have e143 := fI_bd (q := 54) hT140 (tf hT140 rfl rfl) fd_6_9
      have q144 : fI h139 54 9 = fI h82 54 9 := FUp_fIne hU142 (fun z => absurd z.2 (by decide))
      refine st_callt (as := [vI p1]) c110_53 cm_111 hT140 (tf hT140 rfl rfl) fd_6_0 rfl rfl rfl rfl (by omega) (K111 hT140 (Stb_mono hS (by decide +kernel)) p1 (by omega) pre0 (d - 1) (by omega) _ (fun v h0 H => H)) (fun v1 h145 H => ?_)
      obtain ⟨rfl, pf148, pf149, hT146, hF147⟩ := H
      have hF150 := Fr_cp hF141 hF147 (by decide +kernel : Wsub Wp9 Wp9 = true)
      have e151 := fI_bd (q := 54) hT146 (tf hT146 rfl rfl) fd_6_9
      refine st_aload c110_56 rfl ?_
      refine st_iload c110_57 rfl ?_
      refine st_ineg c110_58 ?_
      refine st_callt (as := [vI (-z106)]) c110_59 cm_107 hT146 (tf hT146 rfl rfl) fd_6_0 rfl rfl rfl rfl (by omega) (K107 hT146 (Stb_mono hS (by decide +kernel)) (-z106) (by omega) (d - 1) (by omega) _ (fun v h0 H => H)) (fun v1 h152 H => ?_)
      obtain ⟨rfl, pf155, pf156, pf157, pf158, hT153, hF154⟩ := H
      have hF159 := Fr_cp hF150 hF154 (by decide +kernel : Wsub W107 Wp9 = true)
      have e160 := fI_bd (q := 54) hT153 (tf hT153 rfl rfl) fd_6_9
      refine st_iinc (L' := [some (.ref 54), some (vI p1), some (vI (z81 + (-1))), some (vI z106)]) c110_62 rfl rfl rfl ?_
      refine st_goto c110_65 ?_
      refine MR_weak (A := [some (.ref 54), some (vI p1), some (vI (z81 + (-1))), none]) (Lle_s (Lle_s (Lle_s (Lle_n (Lle_0))))) ?_
      have fr161 : ∀ i : Int, 0 ≤ i → i < fI h 54 9 → aI h152 59 i = aI h 59 i := fun i a b => ((pf158 i a (by omega))).trans (((pf149 i a (by omega))).trans (((FUp_aI hU142 i)).trans ((x92 i a b))))
      exact ih88 (z81 + (-1)) h152 (by omega) (by omega) (by omega) fr161 hT153 hF159 (Fr_cp (Fr_cp (FUp_Fr hL85 hU142 (fun u hu => by rw [ty_1 hu (tf hT153 rfl rfl)]; decide)) hF147 (by decide +kernel)) hF154 (by decide +kernel))
      refine st_return c110_40 ?_
      have fr162 : ∀ i : Int, 0 ≤ i → i < fI h 54 9 → aI h82 59 i = aI h 59 i := fun i a b => (x92 i a b)
      exact hQ _ _ ⟨rfl, by omega, fr162, hT83, hF84⟩
  have fr163 : ∀ i : Int, 0 ≤ i → i < fI h 54 9 → aI h2 59 i = aI h 59 i := fun i a b => (pf6 i a (by omega))
  exact lp86 (((((fI h2 54 5) : Int) - 0 : Int) + 1).toNat) (fI h2 54 5) h2 (by omega) (by omega) (by omega) fr163 hT3 hF7 (Fr_rf _ _ _)
set_option maxHeartbeats 0 in
theorem K109 {Ln : Nat} {xs : Nat → Int32} {τ : List Nat} {h : List mE} {E : EP} (hT : TH E τ h) (hS : Stb E Wp9) (p1 : Int) (hp1 : 0 ≤ p1 ∧ p1 ≤ 8) (pre0 : p1 < 8 → C109 (p1 + 1)) (d : Nat) (hd : 64 - 6 * p1 ≤ (d : Int)) (Q : Option Value → List mE → Prop) (hQ : ∀ v h', (v = none ∧ (fI h 54 9≤fI h' 54 9) ∧ (∀ i : Int, 0 ≤ i → i < fI h 54 9 → aI h' 59 i = aI h 59 i) ∧ TH E τ h' ∧ Fr τ Wp9 h h') → Q v h') : MR (mex Ln xs) d 109 0 [some (.ref 54), some (vI p1), none, none] [] h Q := by
  have hF := Fr_rf τ Wp9 h
  refine st_aload c109_0 rfl ?_
  refine st_iload c109_1 rfl ?_
  have e1 := fI_bd (q := 54) hT (tf hT rfl rfl) fd_6_9
  refine st_callt (as := [vI p1]) c109_2 cm_110 hT (tf hT rfl rfl) fd_6_0 rfl rfl rfl rfl (by omega) (K110 hT (Stb_mono hS (by decide +kernel)) p1 (by omega) pre0 (d - 1) (by omega) _ (fun v h0 H => H)) (fun v1 h2 H => ?_)
  obtain ⟨rfl, pf5, pf6, hT3, hF4⟩ := H
  have hF7 := Fr_cp hF hF4 (by decide +kernel : Wsub Wp9 Wp9 = true)
  have e8 := fI_bd (q := 54) hT3 (tf hT3 rfl rfl) fd_6_9
  refine st_aload c109_5 rfl ?_
  refine st_getI c109_6 hT3 (tf hT3 rfl rfl) fd_6_5 (fun e9 e10 => ?_)
  have q11 : fI h2 54 5 = fI h 54 5 := Fr_fI hF4 (tf hT rfl rfl) (by decide +kernel)
  refine st_istore (L' := [some (.ref 54), some (vI p1), some (vI (fI h2 54 5)), none]) c109_9 rfl rfl ?_
  have lp86 : ∀ (n87 : Nat) (z81 : Int) (h82 : List mE), (z81 : Int) - 0 < (n87 : Int) → 0 ≤ z81 ∧ z81 ≤ 201 → fI h 54 9 ≤ fI h82 54 9 → (∀ i : Int, 0 ≤ i → i < fI h 54 9 → aI h82 59 i = aI h 59 i) → TH E τ h82 → Fr τ Wp9 h h82 → Fr τ [(6, 6), (6, 7), (6, 9), (39, 0)] h2 h82 → MR (mex Ln xs) d 109 10 [some (.ref 54), some (vI p1), some (vI z81), none] [] h82 Q := by
    intro n87
    induction n87 with
    | zero =>
      intro z81 h82 hm89 b90 x91 x92 hT83 hF84 hL85
      exfalso; omega
    | succ n87 ih88 =>
      intro z81 h82 hm89 b90 x91 x92 hT83 hF84 hL85
      have e93 := fI_bd (q := 54) hT83 (tf hT83 rfl rfl) fd_6_9
      refine st_iload c109_10 rfl ?_
      refine st_if_le c109_11 (by omega) (fun k94 => ?_) (fun k95 => ?_)
      refine st_return c109_68 ?_
      have fr96 : ∀ i : Int, 0 ≤ i → i < fI h 54 9 → aI h82 59 i = aI h 59 i := fun i a b => (x92 i a b)
      exact hQ _ _ ⟨rfl, by omega, fr96, hT83, hF84⟩
      refine st_aload c109_14 rfl ?_
      refine st_getI c109_15 hT83 (tf hT83 rfl rfl) fd_6_7 (fun e97 e98 => ?_)
      refine st_if_ge c109_18 (by omega) (fun k99 => ?_) (fun k100 => ?_)
      refine st_return c109_68 ?_
      have fr101 : ∀ i : Int, 0 ≤ i → i < fI h 54 9 → aI h82 59 i = aI h 59 i := fun i a b => (x92 i a b)
      exact hQ _ _ ⟨rfl, by omega, fr101, hT83, hF84⟩
      refine st_aload c109_21 rfl ?_
      have e102 := fI_bd (q := 54) hT83 (tf hT83 rfl rfl) fd_6_6
      have e103 := fI_bd (q := 54) hT83 (tf hT83 rfl rfl) fd_6_5
      have q104 : fI h82 54 5 = fI h2 54 5 := Fr_fI hL85 (tf hT3 rfl rfl) (by decide +kernel)
      refine st_callt (as := []) c109_22 cm_102 hT83 (tf hT83 rfl rfl) fd_6_0 rfl rfl rfl rfl (by omega) (K102 hT83 (d - 1) (by omega) _ (fun v h0 H => H)) (fun v1 h1 H => ?_)
      obtain ⟨z106, rfl, b107, pf105, rfl⟩ := H
      refine st_istore (L' := [some (.ref 54), some (vI p1), some (vI z81), some (vI z106)]) c109_25 rfl rfl ?_
      refine st_iload c109_26 rfl ?_
      refine st_iconst c109_27 ?_
      refine st_icmp_eq c109_30 (by omega) (by omega) (fun k108 => ?_) (fun k109 => ?_)
      refine st_aload c109_41 rfl ?_
      refine st_dup c109_42 rfl ?_
      refine st_getI c109_43 hT83 (tf hT83 rfl rfl) fd_6_6 (fun e110 e111 => ?_)
      refine st_iconst c109_46 ?_
      refine st_iadd c109_47 ?_
      refine st_putI c109_48 hT83 (tf hT83 rfl rfl) fd_6_6 (by omega) (by omega) (Ext_rf _) hS hF84 (by decide +kernel) (fun h112 hT113 hF114 hU115 => ?_)
      refine st_aload c109_51 rfl ?_
      refine st_iload c109_52 rfl ?_
      have e116 := fI_bd (q := 54) hT113 (tf hT113 rfl rfl) fd_6_9
      have q117 : fI h112 54 9 = fI h82 54 9 := FUp_fIne hU115 (fun z => absurd z.2 (by decide))
      refine st_callt (as := [vI p1]) c109_53 cm_110 hT113 (tf hT113 rfl rfl) fd_6_0 rfl rfl rfl rfl (by omega) (K110 hT113 (Stb_mono hS (by decide +kernel)) p1 (by omega) pre0 (d - 1) (by omega) _ (fun v h0 H => H)) (fun v1 h118 H => ?_)
      obtain ⟨rfl, pf121, pf122, hT119, hF120⟩ := H
      have hF123 := Fr_cp hF114 hF120 (by decide +kernel : Wsub Wp9 Wp9 = true)
      have e124 := fI_bd (q := 54) hT119 (tf hT119 rfl rfl) fd_6_9
      refine st_aload c109_56 rfl ?_
      refine st_iload c109_57 rfl ?_
      refine st_ineg c109_58 ?_
      refine st_callt (as := [vI (-z106)]) c109_59 cm_107 hT119 (tf hT119 rfl rfl) fd_6_0 rfl rfl rfl rfl (by omega) (K107 hT119 (Stb_mono hS (by decide +kernel)) (-z106) (by omega) (d - 1) (by omega) _ (fun v h0 H => H)) (fun v1 h125 H => ?_)
      obtain ⟨rfl, pf128, pf129, pf130, pf131, hT126, hF127⟩ := H
      have hF132 := Fr_cp hF123 hF127 (by decide +kernel : Wsub W107 Wp9 = true)
      have e133 := fI_bd (q := 54) hT126 (tf hT126 rfl rfl) fd_6_9
      refine st_iinc (L' := [some (.ref 54), some (vI p1), some (vI (z81 + (-1))), some (vI z106)]) c109_62 rfl rfl rfl ?_
      refine st_goto c109_65 ?_
      refine MR_weak (A := [some (.ref 54), some (vI p1), some (vI (z81 + (-1))), none]) (Lle_s (Lle_s (Lle_s (Lle_n (Lle_0))))) ?_
      have fr134 : ∀ i : Int, 0 ≤ i → i < fI h 54 9 → aI h125 59 i = aI h 59 i := fun i a b => ((pf131 i a (by omega))).trans (((pf122 i a (by omega))).trans (((FUp_aI hU115 i)).trans ((x92 i a b))))
      exact ih88 (z81 + (-1)) h125 (by omega) (by omega) (by omega) fr134 hT126 hF132 (Fr_cp (Fr_cp (FUp_Fr hL85 hU115 (fun u hu => by rw [ty_1 hu (tf hT126 rfl rfl)]; decide)) hF120 (by decide +kernel)) hF127 (by decide +kernel))
      refine st_iload c109_33 rfl ?_
      refine st_iconst c109_34 ?_
      refine st_icmp_eq c109_37 (by omega) (by omega) (fun k135 => ?_) (fun k136 => ?_)
      refine st_aload c109_41 rfl ?_
      refine st_dup c109_42 rfl ?_
      refine st_getI c109_43 hT83 (tf hT83 rfl rfl) fd_6_6 (fun e137 e138 => ?_)
      refine st_iconst c109_46 ?_
      refine st_iadd c109_47 ?_
      refine st_putI c109_48 hT83 (tf hT83 rfl rfl) fd_6_6 (by omega) (by omega) (Ext_rf _) hS hF84 (by decide +kernel) (fun h139 hT140 hF141 hU142 => ?_)
      refine st_aload c109_51 rfl ?_
      refine st_iload c109_52 rfl ?_
      have e143 := fI_bd (q := 54) hT140 (tf hT140 rfl rfl) fd_6_9
      have q144 : fI h139 54 9 = fI h82 54 9 := FUp_fIne hU142 (fun z => absurd z.2 (by decide))
      refine st_callt (as := [vI p1]) c109_53 cm_110 hT140 (tf hT140 rfl rfl) fd_6_0 rfl rfl rfl rfl (by omega) (K110 hT140 (Stb_mono hS (by decide +kernel)) p1 (by omega) pre0 (d - 1) (by omega) _ (fun v h0 H => H)) (fun v1 h145 H => ?_)
      obtain ⟨rfl, pf148, pf149, hT146, hF147⟩ := H
      have hF150 := Fr_cp hF141 hF147 (by decide +kernel : Wsub Wp9 Wp9 = true)
      have e151 := fI_bd (q := 54) hT146 (tf hT146 rfl rfl) fd_6_9
      refine st_aload c109_56 rfl ?_
      refine st_iload c109_57 rfl ?_
      refine st_ineg c109_58 ?_
      refine st_callt (as := [vI (-z106)]) c109_59 cm_107 hT146 (tf hT146 rfl rfl) fd_6_0 rfl rfl rfl rfl (by omega) (K107 hT146 (Stb_mono hS (by decide +kernel)) (-z106) (by omega) (d - 1) (by omega) _ (fun v h0 H => H)) (fun v1 h152 H => ?_)
      obtain ⟨rfl, pf155, pf156, pf157, pf158, hT153, hF154⟩ := H
      have hF159 := Fr_cp hF150 hF154 (by decide +kernel : Wsub W107 Wp9 = true)
      have e160 := fI_bd (q := 54) hT153 (tf hT153 rfl rfl) fd_6_9
      refine st_iinc (L' := [some (.ref 54), some (vI p1), some (vI (z81 + (-1))), some (vI z106)]) c109_62 rfl rfl rfl ?_
      refine st_goto c109_65 ?_
      refine MR_weak (A := [some (.ref 54), some (vI p1), some (vI (z81 + (-1))), none]) (Lle_s (Lle_s (Lle_s (Lle_n (Lle_0))))) ?_
      have fr161 : ∀ i : Int, 0 ≤ i → i < fI h 54 9 → aI h152 59 i = aI h 59 i := fun i a b => ((pf158 i a (by omega))).trans (((pf149 i a (by omega))).trans (((FUp_aI hU142 i)).trans ((x92 i a b))))
      exact ih88 (z81 + (-1)) h152 (by omega) (by omega) (by omega) fr161 hT153 hF159 (Fr_cp (Fr_cp (FUp_Fr hL85 hU142 (fun u hu => by rw [ty_1 hu (tf hT153 rfl rfl)]; decide)) hF147 (by decide +kernel)) hF154 (by decide +kernel))
      refine st_return c109_40 ?_
      have fr162 : ∀ i : Int, 0 ≤ i → i < fI h 54 9 → aI h82 59 i = aI h 59 i := fun i a b => (x92 i a b)
      exact hQ _ _ ⟨rfl, by omega, fr162, hT83, hF84⟩
  have fr163 : ∀ i : Int, 0 ≤ i → i < fI h 54 9 → aI h2 59 i = aI h 59 i := fun i a b => (pf6 i a (by omega))
  exact lp86 (((((fI h2 54 5) : Int) - 0 : Int) + 1).toNat) (fI h2 54 5) h2 (by omega) (by omega) (by omega) fr163 hT3 hF7 (Fr_rf _ _ _)
theorem C109_all : ∀ (n : Nat) (k : Int), 0 ≤ k → k ≤ 8 → 8 - k ≤ (n : Int) → C109 k := by
  intro n
  induction n with
  | zero =>
    intro k h0 h8 hn Ln xs τ h E hT hS d hd Q hQ
    exact K109 hT hS k ⟨h0, h8⟩ (fun hl => by omega) d hd Q hQ
  | succ n ih =>
    intro k h0 h8 hn Ln xs τ h E hT hS d hd Q hQ
    exact K109 hT hS k ⟨h0, h8⟩ (fun hl => ih (k + 1) (by omega) (by omega) (by omega)) d hd Q hQ
theorem K109z : C109 0 := C109_all 8 0 (by decide) (by decide) (by decide)
def W108 : List (Nat × Nat) := [(6, 6), (6, 7), (6, 9), (39, 0)]
set_option maxHeartbeats 0 in
theorem K108 {Ln : Nat} {xs : Nat → Int32} {τ : List Nat} {h : List mE} {E : EP} (hT : TH E τ h) (hS : Stb E W108) (pre0 : I7 h) (d : Nat) (hd : 86 ≤ d) (Q : Option Value → List mE → Prop) (hQ : ∀ v h', (v = none ∧ (I7 h') ∧ TH E τ h' ∧ Fr τ W108 h h') → Q v h') : MR (mex Ln xs) d 108 0 [some (.ref 54), none, none, none] [] h Q := by
  have hF := Fr_rf τ W108 h
  have z9 := fI_bd (q := 54) hT (tf hT rfl rfl) fd_6_9
  refine st_iconst c108_0 ?_
  refine st_istore (L' := [some (.ref 54), some (vI 0), none, none]) c108_1 rfl rfl ?_
  refine st_iconst c108_2 ?_
  refine st_istore (L' := [some (.ref 54), some (vI 0), some (vI 999999), none]) c108_4 rfl rfl ?_
  refine st_aload c108_5 rfl ?_
  refine st_iconst c108_6 ?_
  refine st_callt (as := [vI 14]) c108_8 cm_103 hT (tf hT rfl rfl) fd_6_0 rfl rfl rfl rfl (by omega) (K103a hT (Stb_mono hS (by decide +kernel)) 14 (by omega) (d - 1) (by omega) _ (fun v h0 H => H)) (fun v1 h1 H => ?_)
  rcases H with ⟨rfl, hT2, hF3⟩ | ⟨rfl, hT2, hF3⟩
  have hF4 := Fr_cp hF hF3 (by decide +kernel : Wsub W103a W108 = true)
  refine st_if_eq c108_11 (by omega) (fun k5 => ?_) (fun k6 => False.elim (by omega))
  refine st_aload c108_42 rfl ?_
  refine st_iload c108_43 rfl ?_
  have e7 := fI_bd (q := 54) hT2 (tf hT2 rfl rfl) fd_6_9
  have q8 : fI h1 54 9 = fI h 54 9 := Fr_fI hF3 (tf hT rfl rfl) (by decide +kernel)
  refine st_callt (as := [vI 0]) c108_44 cm_107 hT2 (tf hT2 rfl rfl) fd_6_0 rfl rfl rfl rfl (by omega) (K107 hT2 (Stb_mono hS (by decide +kernel)) 0 (by omega) (d - 1) (by omega) _ (fun v h0 H => H)) (fun v1 h9 H => ?_)
  obtain ⟨rfl, pf12, pf13, pf14, pf15, hT10, hF11⟩ := H
  have hF16 := Fr_cp hF4 hF11 (by decide +kernel : Wsub W107 W108 = true)
  have e17 := fI_bd (q := 54) hT10 (tf hT10 rfl rfl) fd_6_9
  refine st_aload c108_47 rfl ?_
  refine st_iload c108_48 rfl ?_
  refine st_callt (as := [vI 999999]) c108_49 cm_107 hT10 (tf hT10 rfl rfl) fd_6_0 rfl rfl rfl rfl (by omega) (K107 hT10 (Stb_mono hS (by decide +kernel)) 999999 (by omega) (d - 1) (by omega) _ (fun v h0 H => H)) (fun v1 h18 H => ?_)
  obtain ⟨rfl, pf21, pf22, pf23, pf24, hT19, hF20⟩ := H
  have hF25 := Fr_cp hF16 hF20 (by decide +kernel : Wsub W107 W108 = true)
  have e26 := fI_bd (q := 54) hT19 (tf hT19 rfl rfl) fd_6_9
  refine st_aload c108_52 rfl ?_
  refine st_getI c108_53 hT19 (tf hT19 rfl rfl) fd_6_9 (fun e27 e28 => ?_)
  refine st_istore (L' := [some (.ref 54), some (vI 0), some (vI 999999), some (vI (fI h18 54 9))]) c108_56 rfl rfl ?_
  refine st_aload c108_57 rfl ?_
  refine st_iconst c108_58 ?_
  refine st_callt (as := [vI 0]) c108_59 cm_107 hT19 (tf hT19 rfl rfl) fd_6_0 rfl rfl rfl rfl (by omega) (K107 hT19 (Stb_mono hS (by decide +kernel)) 0 (by omega) (d - 1) (by omega) _ (fun v h0 H => H)) (fun v1 h29 H => ?_)
  obtain ⟨rfl, pf32, pf33, pf34, pf35, hT30, hF31⟩ := H
  have hF36 := Fr_cp hF25 hF31 (by decide +kernel : Wsub W107 W108 = true)
  have e37 := fI_bd (q := 54) hT30 (tf hT30 rfl rfl) fd_6_9
  refine st_aload c108_62 rfl ?_
  refine st_iconst c108_63 ?_
  refine st_callt (as := [vI 0]) c108_64 cm_109 hT30 (tf hT30 rfl rfl) fd_6_0 rfl rfl rfl rfl (by omega) (K109z hT30 (Stb_mono hS (by decide +kernel)) (d - 1) (by omega) _ (fun v h0 H => H)) (fun v1 h38 H => ?_)
  obtain ⟨rfl, pf41, pf42, hT39, hF40⟩ := H
  have hF43 := Fr_cp hF36 hF40 (by decide +kernel : Wsub Wp9 W108 = true)
  have e44 := fI_bd (q := 54) hT39 (tf hT39 rfl rfl) fd_6_9
  refine st_iload c108_67 rfl ?_
  refine st_aload c108_68 rfl ?_
  refine st_getX (u := 59) c108_69 hT39 (tf hT39 rfl rfl) fd_6_8 rfl ?_
  refine st_alenC (z := 800) c108_72 hT39 (tf hT39 rfl rfl) ay_39 rfl rfl rfl ?_
  refine st_icmp_ge c108_73 (by omega) (by omega) (fun k45 => ?_) (fun k46 => ?_)
  refine st_return c108_86 ?_
  have fr47 : ∀ i : Int, 0 ≤ i → i < fI h 54 9 → aI h38 59 i = aI h 59 i := fun i a b => ((pf42 i a (by omega))).trans (((pf35 i a (by omega))).trans (((pf24 i a (by omega))).trans (((pf15 i a (by omega))).trans ((Fr_aI hF3 (tf hT rfl rfl) (by decide +kernel) i)))))
  have iv48 := I7_step pre0 (by omega) (by omega) (by omega) (by omega) (fun hl => by omega) fr47
  exact hQ _ _ ⟨rfl, iv48, hT39, hF43⟩
  refine st_aload c108_76 rfl ?_
  refine st_getX (u := 59) c108_77 hT39 (tf hT39 rfl rfl) fd_6_8 rfl ?_
  refine st_iload c108_80 rfl ?_
  refine st_aload c108_81 rfl ?_
  refine st_getI c108_82 hT39 (tf hT39 rfl rfl) fd_6_9 (fun e49 e50 => ?_)
  refine st_iast c108_85 hT39 (tf hT39 rfl rfl) ay_39 (by omega) (by omega) (by omega) (Ext_rf _) hS hF43 (by decide +kernel) (fun h51 hT52 hF53 hU54 => ?_)
  refine st_return c108_86 ?_
  have e55 := fI_bd (q := 54) hT52 (tf hT52 rfl rfl) fd_6_9
  have q56 : fI h51 54 9 = fI h38 54 9 := AUp_fI hU54
  have fr57 : ∀ i : Int, 0 ≤ i → i < fI h 54 9 → aI h51 59 i = aI h 59 i := fun i a b => (((AUp_aI hU54 (by omega) (by omega) (by omega) a).trans (if_neg (by omega)))).trans (((pf42 i a (by omega))).trans (((pf35 i a (by omega))).trans (((pf24 i a (by omega))).trans (((pf15 i a (by omega))).trans ((Fr_aI hF3 (tf hT rfl rfl) (by decide +kernel) i))))))
  have iv58 := I7_step pre0 (by omega) (by omega) (by omega) (by omega) (fun _ => by rw [show fI h 54 9 + 2 = fI h18 54 9 by omega]; exact ((AUp_aI hU54 (by omega) (by omega) (by omega) (by omega)).trans (if_pos rfl)).trans (by omega)) fr57
  exact hQ _ _ ⟨rfl, iv58, hT52, hF53⟩
  have hF59 := Fr_cp hF hF3 (by decide +kernel : Wsub W103a W108 = true)
  refine st_if_eq c108_11 (by omega) (fun k60 => False.elim (by omega)) (fun k61 => ?_)
  refine st_aload c108_14 rfl ?_
  refine st_callt (as := []) c108_15 cm_106 hT2 (tf hT2 rfl rfl) fd_6_0 rfl rfl rfl rfl (by omega) (K106 hT2 (Stb_mono hS (by decide +kernel)) (d - 1) (by omega) _ (fun v h0 H => H)) (fun v1 h62 H => ?_)
  obtain ⟨z65, rfl, b66, hT63, hF64⟩ := H
  have hF67 := Fr_cp hF59 hF64 (by decide +kernel : Wsub W106 W108 = true)
  refine st_istore (L' := [some (.ref 54), some (vI z65), some (vI 999999), none]) c108_18 rfl rfl ?_
  refine st_aload c108_19 rfl ?_
  refine st_iconst c108_20 ?_
  refine st_callt (as := [vI 16]) c108_22 cm_103 hT63 (tf hT63 rfl rfl) fd_6_0 rfl rfl rfl rfl (by omega) (K103a hT63 (Stb_mono hS (by decide +kernel)) 16 (by omega) (d - 1) (by omega) _ (fun v h0 H => H)) (fun v1 h68 H => ?_)
  rcases H with ⟨rfl, hT69, hF70⟩ | ⟨rfl, hT69, hF70⟩
  have hF71 := Fr_cp hF67 hF70 (by decide +kernel : Wsub W103a W108 = true)
  refine st_if_eq c108_25 (by omega) (fun k72 => ?_) (fun k73 => False.elim (by omega))
  refine st_aload c108_36 rfl ?_
  refine st_iconst c108_37 ?_
  refine st_callt (as := [vI 15]) c108_39 cm_104 hT69 (tf hT69 rfl rfl) fd_6_0 rfl rfl rfl rfl (by omega) (K104a hT69 (Stb_mono hS (by decide +kernel)) 15 (by omega) (d - 1) (by omega) _ (fun v h0 H => H)) (fun v1 h74 H => ?_)
  obtain ⟨rfl, hT75, hF76⟩ := H
  have hF77 := Fr_cp hF71 hF76 (by decide +kernel : Wsub W104a W108 = true)
  refine st_aload c108_42 rfl ?_
  refine st_iload c108_43 rfl ?_
  have e78 := fI_bd (q := 54) hT75 (tf hT75 rfl rfl) fd_6_9
  have q79 : fI h74 54 9 = fI h 54 9 := (Fr_fI hF76 (tf hT69 rfl rfl) (by decide +kernel)).trans ((Fr_fI hF70 (tf hT63 rfl rfl) (by decide +kernel)).trans ((Fr_fI hF64 (tf hT2 rfl rfl) (by decide +kernel)).trans (Fr_fI hF3 (tf hT rfl rfl) (by decide +kernel))))
  refine st_callt (as := [vI z65]) c108_44 cm_107 hT75 (tf hT75 rfl rfl) fd_6_0 rfl rfl rfl rfl (by omega) (K107 hT75 (Stb_mono hS (by decide +kernel)) z65 (by omega) (d - 1) (by omega) _ (fun v h0 H => H)) (fun v1 h80 H => ?_)
  obtain ⟨rfl, pf83, pf84, pf85, pf86, hT81, hF82⟩ := H
  have hF87 := Fr_cp hF77 hF82 (by decide +kernel : Wsub W107 W108 = true)
  have e88 := fI_bd (q := 54) hT81 (tf hT81 rfl rfl) fd_6_9
  refine st_aload c108_47 rfl ?_
  refine st_iload c108_48 rfl ?_
  refine st_callt (as := [vI 999999]) c108_49 cm_107 hT81 (tf hT81 rfl rfl) fd_6_0 rfl rfl rfl rfl (by omega) (K107 hT81 (Stb_mono hS (by decide +kernel)) 999999 (by omega) (d - 1) (by omega) _ (fun v h0 H => H)) (fun v1 h89 H => ?_)
  obtain ⟨rfl, pf92, pf93, pf94, pf95, hT90, hF91⟩ := H
  have hF96 := Fr_cp hF87 hF91 (by decide +kernel : Wsub W107 W108 = true)
  have e97 := fI_bd (q := 54) hT90 (tf hT90 rfl rfl) fd_6_9
  refine st_aload c108_52 rfl ?_
  refine st_getI c108_53 hT90 (tf hT90 rfl rfl) fd_6_9 (fun e98 e99 => ?_)
  refine st_istore (L' := [some (.ref 54), some (vI z65), some (vI 999999), some (vI (fI h89 54 9))]) c108_56 rfl rfl ?_
  refine st_aload c108_57 rfl ?_
  refine st_iconst c108_58 ?_
  refine st_callt (as := [vI 0]) c108_59 cm_107 hT90 (tf hT90 rfl rfl) fd_6_0 rfl rfl rfl rfl (by omega) (K107 hT90 (Stb_mono hS (by decide +kernel)) 0 (by omega) (d - 1) (by omega) _ (fun v h0 H => H)) (fun v1 h100 H => ?_)
  obtain ⟨rfl, pf103, pf104, pf105, pf106, hT101, hF102⟩ := H
  have hF107 := Fr_cp hF96 hF102 (by decide +kernel : Wsub W107 W108 = true)
  have e108 := fI_bd (q := 54) hT101 (tf hT101 rfl rfl) fd_6_9
  refine st_aload c108_62 rfl ?_
  refine st_iconst c108_63 ?_
  refine st_callt (as := [vI 0]) c108_64 cm_109 hT101 (tf hT101 rfl rfl) fd_6_0 rfl rfl rfl rfl (by omega) (K109z hT101 (Stb_mono hS (by decide +kernel)) (d - 1) (by omega) _ (fun v h0 H => H)) (fun v1 h109 H => ?_)
  obtain ⟨rfl, pf112, pf113, hT110, hF111⟩ := H
  have hF114 := Fr_cp hF107 hF111 (by decide +kernel : Wsub Wp9 W108 = true)
  have e115 := fI_bd (q := 54) hT110 (tf hT110 rfl rfl) fd_6_9
  refine st_iload c108_67 rfl ?_
  refine st_aload c108_68 rfl ?_
  refine st_getX (u := 59) c108_69 hT110 (tf hT110 rfl rfl) fd_6_8 rfl ?_
  refine st_alenC (z := 800) c108_72 hT110 (tf hT110 rfl rfl) ay_39 rfl rfl rfl ?_
  refine st_icmp_ge c108_73 (by omega) (by omega) (fun k116 => ?_) (fun k117 => ?_)
  refine st_return c108_86 ?_
  have fr118 : ∀ i : Int, 0 ≤ i → i < fI h 54 9 → aI h109 59 i = aI h 59 i := fun i a b => ((pf113 i a (by omega))).trans (((pf106 i a (by omega))).trans (((pf95 i a (by omega))).trans (((pf86 i a (by omega))).trans (((Fr_aI hF76 (tf hT69 rfl rfl) (by decide +kernel) i)).trans (((Fr_aI hF70 (tf hT63 rfl rfl) (by decide +kernel) i)).trans (((Fr_aI hF64 (tf hT2 rfl rfl) (by decide +kernel) i)).trans ((Fr_aI hF3 (tf hT rfl rfl) (by decide +kernel) i))))))))
  have iv119 := I7_step pre0 (by omega) (by omega) (by omega) (by omega) (fun hl => by omega) fr118
  exact hQ _ _ ⟨rfl, iv119, hT110, hF114⟩
  refine st_aload c108_76 rfl ?_
  refine st_getX (u := 59) c108_77 hT110 (tf hT110 rfl rfl) fd_6_8 rfl ?_
  refine st_iload c108_80 rfl ?_
  refine st_aload c108_81 rfl ?_
  refine st_getI c108_82 hT110 (tf hT110 rfl rfl) fd_6_9 (fun e120 e121 => ?_)
  refine st_iast c108_85 hT110 (tf hT110 rfl rfl) ay_39 (by omega) (by omega) (by omega) (Ext_rf _) hS hF114 (by decide +kernel) (fun h122 hT123 hF124 hU125 => ?_)
  refine st_return c108_86 ?_
  have e126 := fI_bd (q := 54) hT123 (tf hT123 rfl rfl) fd_6_9
  have q127 : fI h122 54 9 = fI h109 54 9 := AUp_fI hU125
  have fr128 : ∀ i : Int, 0 ≤ i → i < fI h 54 9 → aI h122 59 i = aI h 59 i := fun i a b => (((AUp_aI hU125 (by omega) (by omega) (by omega) a).trans (if_neg (by omega)))).trans (((pf113 i a (by omega))).trans (((pf106 i a (by omega))).trans (((pf95 i a (by omega))).trans (((pf86 i a (by omega))).trans (((Fr_aI hF76 (tf hT69 rfl rfl) (by decide +kernel) i)).trans (((Fr_aI hF70 (tf hT63 rfl rfl) (by decide +kernel) i)).trans (((Fr_aI hF64 (tf hT2 rfl rfl) (by decide +kernel) i)).trans ((Fr_aI hF3 (tf hT rfl rfl) (by decide +kernel) i)))))))))
  have iv129 := I7_step pre0 (by omega) (by omega) (by omega) (by omega) (fun _ => by rw [show fI h 54 9 + 2 = fI h89 54 9 by omega]; exact ((AUp_aI hU125 (by omega) (by omega) (by omega) (by omega)).trans (if_pos rfl)).trans (by omega)) fr128
  exact hQ _ _ ⟨rfl, iv129, hT123, hF124⟩
  have hF130 := Fr_cp hF67 hF70 (by decide +kernel : Wsub W103a W108 = true)
  refine st_if_eq c108_25 (by omega) (fun k131 => False.elim (by omega)) (fun k132 => ?_)
  refine st_aload c108_28 rfl ?_
  refine st_callt (as := []) c108_29 cm_106 hT69 (tf hT69 rfl rfl) fd_6_0 rfl rfl rfl rfl (by omega) (K106 hT69 (Stb_mono hS (by decide +kernel)) (d - 1) (by omega) _ (fun v h0 H => H)) (fun v1 h133 H => ?_)
  obtain ⟨z136, rfl, b137, hT134, hF135⟩ := H
  have hF138 := Fr_cp hF130 hF135 (by decide +kernel : Wsub W106 W108 = true)
  refine st_istore (L' := [some (.ref 54), some (vI z65), some (vI z136), none]) c108_32 rfl rfl ?_
  refine st_goto c108_33 ?_
  refine st_aload c108_42 rfl ?_
  refine st_iload c108_43 rfl ?_
  have e139 := fI_bd (q := 54) hT134 (tf hT134 rfl rfl) fd_6_9
  have q140 : fI h133 54 9 = fI h 54 9 := (Fr_fI hF135 (tf hT69 rfl rfl) (by decide +kernel)).trans ((Fr_fI hF70 (tf hT63 rfl rfl) (by decide +kernel)).trans ((Fr_fI hF64 (tf hT2 rfl rfl) (by decide +kernel)).trans (Fr_fI hF3 (tf hT rfl rfl) (by decide +kernel))))
  refine st_callt (as := [vI z65]) c108_44 cm_107 hT134 (tf hT134 rfl rfl) fd_6_0 rfl rfl rfl rfl (by omega) (K107 hT134 (Stb_mono hS (by decide +kernel)) z65 (by omega) (d - 1) (by omega) _ (fun v h0 H => H)) (fun v1 h141 H => ?_)
  obtain ⟨rfl, pf144, pf145, pf146, pf147, hT142, hF143⟩ := H
  have hF148 := Fr_cp hF138 hF143 (by decide +kernel : Wsub W107 W108 = true)
  have e149 := fI_bd (q := 54) hT142 (tf hT142 rfl rfl) fd_6_9
  refine st_aload c108_47 rfl ?_
  refine st_iload c108_48 rfl ?_
  refine st_callt (as := [vI z136]) c108_49 cm_107 hT142 (tf hT142 rfl rfl) fd_6_0 rfl rfl rfl rfl (by omega) (K107 hT142 (Stb_mono hS (by decide +kernel)) z136 (by omega) (d - 1) (by omega) _ (fun v h0 H => H)) (fun v1 h150 H => ?_)
  obtain ⟨rfl, pf153, pf154, pf155, pf156, hT151, hF152⟩ := H
  have hF157 := Fr_cp hF148 hF152 (by decide +kernel : Wsub W107 W108 = true)
  have e158 := fI_bd (q := 54) hT151 (tf hT151 rfl rfl) fd_6_9
  refine st_aload c108_52 rfl ?_
  refine st_getI c108_53 hT151 (tf hT151 rfl rfl) fd_6_9 (fun e159 e160 => ?_)
  refine st_istore (L' := [some (.ref 54), some (vI z65), some (vI z136), some (vI (fI h150 54 9))]) c108_56 rfl rfl ?_
  refine st_aload c108_57 rfl ?_
  refine st_iconst c108_58 ?_
  refine st_callt (as := [vI 0]) c108_59 cm_107 hT151 (tf hT151 rfl rfl) fd_6_0 rfl rfl rfl rfl (by omega) (K107 hT151 (Stb_mono hS (by decide +kernel)) 0 (by omega) (d - 1) (by omega) _ (fun v h0 H => H)) (fun v1 h161 H => ?_)
  obtain ⟨rfl, pf164, pf165, pf166, pf167, hT162, hF163⟩ := H
  have hF168 := Fr_cp hF157 hF163 (by decide +kernel : Wsub W107 W108 = true)
  have e169 := fI_bd (q := 54) hT162 (tf hT162 rfl rfl) fd_6_9
  refine st_aload c108_62 rfl ?_
  refine st_iconst c108_63 ?_
  refine st_callt (as := [vI 0]) c108_64 cm_109 hT162 (tf hT162 rfl rfl) fd_6_0 rfl rfl rfl rfl (by omega) (K109z hT162 (Stb_mono hS (by decide +kernel)) (d - 1) (by omega) _ (fun v h0 H => H)) (fun v1 h170 H => ?_)
  obtain ⟨rfl, pf173, pf174, hT171, hF172⟩ := H
  have hF175 := Fr_cp hF168 hF172 (by decide +kernel : Wsub Wp9 W108 = true)
  have e176 := fI_bd (q := 54) hT171 (tf hT171 rfl rfl) fd_6_9
  refine st_iload c108_67 rfl ?_
  refine st_aload c108_68 rfl ?_
  refine st_getX (u := 59) c108_69 hT171 (tf hT171 rfl rfl) fd_6_8 rfl ?_
  refine st_alenC (z := 800) c108_72 hT171 (tf hT171 rfl rfl) ay_39 rfl rfl rfl ?_
  refine st_icmp_ge c108_73 (by omega) (by omega) (fun k177 => ?_) (fun k178 => ?_)
  refine st_return c108_86 ?_
  have fr179 : ∀ i : Int, 0 ≤ i → i < fI h 54 9 → aI h170 59 i = aI h 59 i := fun i a b => ((pf174 i a (by omega))).trans (((pf167 i a (by omega))).trans (((pf156 i a (by omega))).trans (((pf147 i a (by omega))).trans (((Fr_aI hF135 (tf hT69 rfl rfl) (by decide +kernel) i)).trans (((Fr_aI hF70 (tf hT63 rfl rfl) (by decide +kernel) i)).trans (((Fr_aI hF64 (tf hT2 rfl rfl) (by decide +kernel) i)).trans ((Fr_aI hF3 (tf hT rfl rfl) (by decide +kernel) i))))))))
  have iv180 := I7_step pre0 (by omega) (by omega) (by omega) (by omega) (fun hl => by omega) fr179
  exact hQ _ _ ⟨rfl, iv180, hT171, hF175⟩
  refine st_aload c108_76 rfl ?_
  refine st_getX (u := 59) c108_77 hT171 (tf hT171 rfl rfl) fd_6_8 rfl ?_
  refine st_iload c108_80 rfl ?_
  refine st_aload c108_81 rfl ?_
  refine st_getI c108_82 hT171 (tf hT171 rfl rfl) fd_6_9 (fun e181 e182 => ?_)
  refine st_iast c108_85 hT171 (tf hT171 rfl rfl) ay_39 (by omega) (by omega) (by omega) (Ext_rf _) hS hF175 (by decide +kernel) (fun h183 hT184 hF185 hU186 => ?_)
  refine st_return c108_86 ?_
  have e187 := fI_bd (q := 54) hT184 (tf hT184 rfl rfl) fd_6_9
  have q188 : fI h183 54 9 = fI h170 54 9 := AUp_fI hU186
  have fr189 : ∀ i : Int, 0 ≤ i → i < fI h 54 9 → aI h183 59 i = aI h 59 i := fun i a b => (((AUp_aI hU186 (by omega) (by omega) (by omega) a).trans (if_neg (by omega)))).trans (((pf174 i a (by omega))).trans (((pf167 i a (by omega))).trans (((pf156 i a (by omega))).trans (((pf147 i a (by omega))).trans (((Fr_aI hF135 (tf hT69 rfl rfl) (by decide +kernel) i)).trans (((Fr_aI hF70 (tf hT63 rfl rfl) (by decide +kernel) i)).trans (((Fr_aI hF64 (tf hT2 rfl rfl) (by decide +kernel) i)).trans ((Fr_aI hF3 (tf hT rfl rfl) (by decide +kernel) i)))))))))
  have iv190 := I7_step pre0 (by omega) (by omega) (by omega) (by omega) (fun _ => by rw [show fI h 54 9 + 2 = fI h150 54 9 by omega]; exact ((AUp_aI hU186 (by omega) (by omega) (by omega) (by omega)).trans (if_pos rfl)).trans (by omega)) fr189
  exact hQ _ _ ⟨rfl, iv190, hT184, hF185⟩
def W94 : List (Nat × Nat) := [(6, 5), (6, 6), (6, 7), (6, 9), (36, 0), (37, 0), (38, 0), (39, 0)]
set_option maxHeartbeats 0 in
theorem K94 {Ln : Nat} {xs : Nat → Int32} {τ : List Nat} {h : List mE} {E : EP} (hT : TH E τ h) (hS : Stb E W94) (d : Nat) (hd : 87 ≤ d) (Q : Option Value → List mE → Prop) (hQ : ∀ v h', (∃ z : Int, v = some (vI z) ∧ ((-2147483648) ≤ z ∧ z ≤ 2147483647) ∧ (I7 h') ∧ TH E τ h' ∧ Fr τ W94 h h') → Q v h') : MR (mex Ln xs) d 94 0 [some (.ref 54), none, none] [] h Q := by
  have hF := Fr_rf τ W94 h
  refine st_aload c94_0 rfl ?_
  refine st_callt (as := []) c94_1 cm_96 hT (tf hT rfl rfl) fd_6_0 rfl rfl rfl rfl (by omega) (K96 hT (Stb_mono hS (by decide +kernel)) (d - 1) (by omega) _ (fun v h0 H => H)) (fun v1 h1 H => ?_)
  obtain ⟨rfl, hT2, hF3⟩ := H
  have hF4 := Fr_cp hF hF3 (by decide +kernel : Wsub W96 W94 = true)
  refine st_aload c94_4 rfl ?_
  refine st_iconst c94_5 ?_
  refine st_putI c94_6 hT2 (tf hT2 rfl rfl) fd_6_6 (by omega) (by omega) (Ext_rf _) hS hF4 (by decide +kernel) (fun h5 hT6 hF7 hU8 => ?_)
  refine st_aload c94_9 rfl ?_
  refine st_iconst c94_10 ?_
  refine st_putI c94_11 hT6 (tf hT6 rfl rfl) fd_6_7 (by omega) (by omega) (Ext_rf _) hS hF7 (by decide +kernel) (fun h9 hT10 hF11 hU12 => ?_)
  refine st_aload c94_14 rfl ?_
  refine st_iconst c94_15 ?_
  refine st_putI c94_16 hT10 (tf hT10 rfl rfl) fd_6_9 (by omega) (by omega) (Ext_rf _) hS hF11 (by decide +kernel) (fun h13 hT14 hF15 hU16 => ?_)
  refine st_iconst c94_19 ?_
  refine st_istore (L' := [some (.ref 54), some (vI 1), none]) c94_20 rfl rfl ?_
  refine st_iconst c94_21 ?_
  refine st_istore (L' := [some (.ref 54), some (vI 1), some (vI 0)]) c94_22 rfl rfl ?_
  have lp163 : ∀ (n164 : Nat) (z157 : Int) (z158 : Int) (h159 : List mE), (201 : Int) - z158 < (n164 : Int) → 0 ≤ z157 ∧ z157 ≤ 1 → 0 ≤ z158 ∧ z158 ≤ 201 → I7 h159 → TH E τ h159 → Fr τ W94 h h159 → Fr τ [(6, 6), (6, 7), (6, 9), (39, 0)] h13 h159 → MR (mex Ln xs) d 94 23 [some (.ref 54), some (vI z157), some (vI z158)] [] h159 Q := by
    intro n164
    induction n164 with
    | zero =>
      intro z157 z158 h159 hm166 b167 b168 x169 hT160 hF161 hL162
      exfalso; omega
    | succ n164 ih165 =>
      intro z157 z158 h159 hm166 b167 b168 x169 hT160 hF161 hL162
      refine st_iload c94_23 rfl ?_
      refine st_if_eq c94_24 (by omega) (fun k170 => ?_) (fun k171 => ?_)
      refine st_aload c94_52 rfl ?_
      have e172 := fI_bd (q := 54) hT160 (tf hT160 rfl rfl) fd_6_6
      have e173 := fI_bd (q := 54) hT160 (tf hT160 rfl rfl) fd_6_5
      have q174 : fI h159 54 5 = fI h1 54 5 := (Fr_fI hL162 (tf hT14 rfl rfl) (by decide +kernel)).trans ((FUp_fIne hU16 (fun z => absurd z.2 (by decide))).trans ((FUp_fIne hU12 (fun z => absurd z.2 (by decide))).trans (FUp_fIne hU8 (fun z => absurd z.2 (by decide)))))
      refine st_callt (as := []) c94_53 cm_102 hT160 (tf hT160 rfl rfl) fd_6_0 rfl rfl rfl rfl (by omega) (K102 hT160 (d - 1) (by omega) _ (fun v h0 H => H)) (fun v1 h1 H => ?_)
      obtain ⟨z176, rfl, b177, pf175, rfl⟩ := H
      refine st_iconst c94_56 ?_
      refine st_icmp_eq c94_58 (by omega) (by omega) (fun k178 => ?_) (fun k179 => ?_)
      refine st_aload c94_65 rfl ?_
      refine st_getI c94_66 hT160 (tf hT160 rfl rfl) fd_6_7 (fun e180 e181 => ?_)
      refine st_ireturn c94_69 ?_
      exact hQ _ _ ⟨fI h159 54 7, rfl, by omega, x169, hT160, hF161⟩
      refine st_aload c94_61 rfl ?_
      refine st_callt (as := []) c94_62 cm_105 hT160 (tf hT160 rfl rfl) fd_6_0 rfl rfl rfl rfl (by omega) (K105 hT160 (Stb_mono hS (by decide +kernel)) (d - 1) (by omega) _ (fun v h0 H => H)) (fun v1 h182 H => ?_)
      obtain ⟨rfl, hT183, hF184⟩ := H
      have hF185 := Fr_cp hF161 hF184 (by decide +kernel : Wsub W105 W94 = true)
      refine st_aload c94_65 rfl ?_
      refine st_getI c94_66 hT183 (tf hT183 rfl rfl) fd_6_7 (fun e186 e187 => ?_)
      refine st_ireturn c94_69 ?_
      exact hQ _ _ ⟨fI h182 54 7, rfl, by omega, (I7_fr x169 hT160 hF184 (by decide +kernel)), hT183, hF185⟩
      refine st_iload c94_27 rfl ?_
      refine st_iconst c94_28 ?_
      refine st_icmp_gt c94_31 (by omega) (by omega) (fun k188 => ?_) (fun k189 => ?_)
      refine st_aload c94_52 rfl ?_
      have e190 := fI_bd (q := 54) hT160 (tf hT160 rfl rfl) fd_6_6
      have e191 := fI_bd (q := 54) hT160 (tf hT160 rfl rfl) fd_6_5
      have q192 : fI h159 54 5 = fI h1 54 5 := (Fr_fI hL162 (tf hT14 rfl rfl) (by decide +kernel)).trans ((FUp_fIne hU16 (fun z => absurd z.2 (by decide))).trans ((FUp_fIne hU12 (fun z => absurd z.2 (by decide))).trans (FUp_fIne hU8 (fun z => absurd z.2 (by decide)))))
      refine st_callt (as := []) c94_53 cm_102 hT160 (tf hT160 rfl rfl) fd_6_0 rfl rfl rfl rfl (by omega) (K102 hT160 (d - 1) (by omega) _ (fun v h0 H => H)) (fun v1 h1 H => ?_)
      obtain ⟨z194, rfl, b195, pf193, rfl⟩ := H
      refine st_iconst c94_56 ?_
      refine st_icmp_eq c94_58 (by omega) (by omega) (fun k196 => ?_) (fun k197 => ?_)
      refine st_aload c94_65 rfl ?_
      refine st_getI c94_66 hT160 (tf hT160 rfl rfl) fd_6_7 (fun e198 e199 => ?_)
      refine st_ireturn c94_69 ?_
      exact hQ _ _ ⟨fI h159 54 7, rfl, by omega, x169, hT160, hF161⟩
      refine st_aload c94_61 rfl ?_
      refine st_callt (as := []) c94_62 cm_105 hT160 (tf hT160 rfl rfl) fd_6_0 rfl rfl rfl rfl (by omega) (K105 hT160 (Stb_mono hS (by decide +kernel)) (d - 1) (by omega) _ (fun v h0 H => H)) (fun v1 h200 H => ?_)
      obtain ⟨rfl, hT201, hF202⟩ := H
      have hF203 := Fr_cp hF161 hF202 (by decide +kernel : Wsub W105 W94 = true)
      refine st_aload c94_65 rfl ?_
      refine st_getI c94_66 hT201 (tf hT201 rfl rfl) fd_6_7 (fun e204 e205 => ?_)
      refine st_ireturn c94_69 ?_
      exact hQ _ _ ⟨fI h200 54 7, rfl, by omega, (I7_fr x169 hT160 hF202 (by decide +kernel)), hT201, hF203⟩
      refine st_aload c94_34 rfl ?_
      refine st_callt (as := []) c94_35 cm_108 hT160 (tf hT160 rfl rfl) fd_6_0 rfl rfl rfl rfl (by omega) (K108 hT160 (Stb_mono hS (by decide +kernel)) x169 (d - 1) (by omega) _ (fun v h0 H => H)) (fun v1 h206 H => ?_)
      obtain ⟨rfl, pf209, hT207, hF208⟩ := H
      have hF210 := Fr_cp hF161 hF208 (by decide +kernel : Wsub W108 W94 = true)
      refine st_aload c94_38 rfl ?_
      refine st_iconst c94_39 ?_
      refine st_callt (as := [vI 1059]) c94_42 cm_103 hT207 (tf hT207 rfl rfl) fd_6_0 rfl rfl rfl rfl (by omega) (K103b hT207 (Stb_mono hS (by decide +kernel)) 1059 (by omega) (d - 1) (by omega) _ (fun v h0 H => H)) (fun v1 h211 H => ?_)
      rcases H with ⟨rfl, hT212, hF213⟩ | ⟨rfl, hT212, hF213⟩
      have hF214 := Fr_cp hF210 hF213 (by decide +kernel : Wsub W103b W94 = true)
      refine st_istore (L' := [some (.ref 54), some (vI 0), some (vI z158)]) c94_45 rfl rfl ?_
      refine st_iinc (L' := [some (.ref 54), some (vI 0), some (vI (z158 + 1))]) c94_46 rfl rfl rfl ?_
      refine st_goto c94_49 ?_
      exact ih165 0 (z158 + 1) h211 (by omega) (by omega) (by omega) ((I7_fr pf209 hT207 hF213 (by decide +kernel))) hT212 hF214 (Fr_cp (Fr_cp hL162 hF208 (by decide +kernel)) hF213 (by decide +kernel))
      have hF215 := Fr_cp hF210 hF213 (by decide +kernel : Wsub W103b W94 = true)
      refine st_istore (L' := [some (.ref 54), some (vI 1), some (vI z158)]) c94_45 rfl rfl ?_
      refine st_iinc (L' := [some (.ref 54), some (vI 1), some (vI (z158 + 1))]) c94_46 rfl rfl rfl ?_
      refine st_goto c94_49 ?_
      exact ih165 1 (z158 + 1) h211 (by omega) (by omega) (by omega) ((I7_fr pf209 hT207 hF213 (by decide +kernel))) hT212 hF215 (Fr_cp (Fr_cp hL162 hF208 (by decide +kernel)) hF213 (by decide +kernel))
  exact lp163 ((((201 : Int) - 0 : Int) + 1).toNat) 1 0 h13 (by omega) (by omega) (by omega) ((I7_0 (FUp_fI hU16 (by decide) (by decide)))) hT14 hF15 (Fr_rf _ _ _)
