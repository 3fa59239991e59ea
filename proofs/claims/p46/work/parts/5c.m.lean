def W132 : List (Nat × Nat) := [(1, 1), (11, 0), (11, 1), (11, 2), (11, 3), (116, 0), (117, 0)]
set_option maxHeartbeats 0 in
theorem K132 {Ln : Nat} {xs : Nat → Int32} {τ : List Nat} {h : List mE} (hT : TH Tr τ h) (p1 : Int) (hp1 : (-2147483648) ≤ p1 ∧ p1 ≤ 2147483647) (p2 : Int) (hp2 : (-2147483648) ≤ p2 ∧ p2 ≤ 2147483647) (pre0 : I1 τ h) (pre1 : I2 τ h) (pre2 : I8 h) (d : Nat) (hd : 5 ≤ d) (Q : Option Value → List mE → Prop) (hQ : ∀ v h', (∃ z : Int, v = some (vI z) ∧ ((-2147483648) ≤ z ∧ z ≤ 99999) ∧ ∃ τ' : List Nat, (∃ ts : List Nat, τ' = τ ++ ts ∧ gsT ts = true) ∧ TH Tr τ' h' ∧ Fr τ W132 h h' ∧ I1 τ' h' ∧ I2 τ' h') → Q v h') : MR (mex Ln xs) d 132 0 [some (.ref 4), some (vI p1), some (vI p2), none, none] [] h Q := by
  have hF := Fr_rf τ W132 h
  have hE := Ext_rf τ
  refine st_aload c132_0 rfl ?_
  refine st_iload c132_1 rfl ?_
  have e1 := fI_bd (q := 4) hT (tf hT rfl rfl) fd_1_7
  refine st_callt (as := [vI p1]) c132_2 cm_169 hT (tf hT rfl rfl) fd_1_0 rfl rfl rfl rfl (by omega) (K169 hT p1 (by omega) pre2 (d - 1) (by omega) _ (fun v h0 H => H)) (fun v1 h1 H => ?_)
  rcases H with ⟨rfl, nf8, rfl⟩ | ⟨r6, rfl, t7, pf2, pf3, pf4, pf5, rfl⟩
  refine st_astoreN (L' := [some (.ref 4), some (vI p1), some (vI p2), some .null, none]) c132_5 rfl rfl ?_
  refine st_aloadN c132_6 rfl ?_
  refine st_ifnullN c132_7 ?_
  refine st_iconst c132_27 ?_
  refine st_ireturn c132_28 ?_
  exact hQ _ _ ⟨(-1), rfl, by omega, _, ⟨[], (List.append_nil τ).symm, rfl⟩, hT, hF, pre0, pre1⟩
  refine st_astore (L' := [some (.ref 4), some (vI p1), some (vI p2), some (.ref r6), none]) c132_5 rfl rfl ?_
  refine st_aload c132_6 rfl ?_
  refine st_ifnullR c132_7 ?_
  refine st_iload c132_10 rfl ?_
  refine st_aload c132_11 rfl ?_
  refine st_getR c132_12 hT t7 fd_10_2 (u := 11) rfl (fun r9 e10 t11 => ?_)
  refine st_callt (as := []) c132_15 cm_58 hT t11 fd_11_0 rfl rfl rfl rfl (by omega) (K58 hT r9 t11 pre0 (d - 1) (by omega) _ (fun v h0 H => H)) (fun v1 h1 H => ?_)
  obtain ⟨z12, rfl, b13, rfl⟩ := H
  refine st_icmp_lt c132_18 (by omega) (by omega) (fun k14 => ?_) (fun k15 => ?_)
  refine st_iconst c132_27 ?_
  refine st_ireturn c132_28 ?_
  exact hQ _ _ ⟨(-1), rfl, by omega, _, ⟨[], (List.append_nil τ).symm, rfl⟩, hT, hF, pre0, pre1⟩
  refine st_iload c132_21 rfl ?_
  refine st_iconst c132_22 ?_
  refine st_icmp_le c132_24 (by omega) (by omega) (fun k16 => ?_) (fun k17 => ?_)
  refine st_aload c132_29 rfl ?_
  refine st_getI c132_30 hT t7 fd_10_3 (fun e18 e19 => ?_)
  refine st_iconst c132_33 ?_
  refine st_icmp_ne c132_34 (by omega) (by omega) (fun k20 => ?_) (fun k21 => ?_)
  refine st_aload c132_40 rfl ?_
  refine st_getNr c132_41 hT t7 fd_10_2 e10 ?_
  refine st_aload c132_44 rfl ?_
  refine st_getI c132_45 hT (tf hT rfl rfl) fd_1_0 (fun e22 e23 => ?_)
  refine st_callt (as := [vI (fI h 4 0)]) c132_48 cm_61 hT t11 fd_11_0 rfl rfl rfl rfl (by omega) (K61 hT r9 t11 (fI h 4 0) (by omega) pre0 (d - 1) (by omega) _ (fun v h0 H => H)) (fun v1 h1 H => ?_)
  rcases H with ⟨rfl, pf24, rfl⟩ | ⟨rfl, rfl⟩
  refine st_istore (L' := [some (.ref 4), some (vI p1), some (vI p2), some (.ref r6), some (vI 0)]) c132_51 rfl rfl ?_
  refine st_iload c132_53 rfl ?_
  refine st_if_eq c132_55 (by omega) (fun k25 => ?_) (fun k26 => False.elim (by omega))
  refine st_aload c132_71 rfl ?_
  refine st_getNr c132_72 hT t7 fd_10_2 e10 ?_
  refine st_aload c132_75 rfl ?_
  refine st_getI c132_76 hT (tf hT rfl rfl) fd_1_0 (fun e27 e28 => ?_)
  refine st_iload c132_79 rfl ?_
  refine st_callt (as := [vI (fI h 4 0), vI p2]) c132_80 cm_62 hT t11 fd_11_0 rfl rfl rfl rfl (by omega) (K62 hT r9 t11 (fI h 4 0) p2 (by omega) (by omega) pre0 pre1 (Or.inr pf24) (d - 1) (by omega) _ (fun v h0 H => H)) (fun v1 h29 H => ?_)
  obtain ⟨rfl, τ', ⟨ts, rfl, hg⟩, hT30, hF32, ix33, ix34, ix35⟩ := H
  have hF31 := Fr_cp hF hF32 (by decide +kernel : Wsub Wtl W132 = true)
  have hE := Ext_app (τ := τ) (ts := ts)
  have ix36 := ix34 pf24
  refine st_iload c132_83 rfl ?_
  refine st_if_eq c132_85 (by omega) (fun k37 => ?_) (fun k38 => False.elim (by omega))
  refine st_iload c132_98 rfl ?_
  refine st_ireturn c132_99 ?_
  exact hQ _ _ ⟨p2, rfl, by omega, _, ⟨ts, rfl, hg⟩, hT30, hF31, ix36, ix35⟩
  refine st_istore (L' := [some (.ref 4), some (vI p1), some (vI p2), some (.ref r6), some (vI 1)]) c132_51 rfl rfl ?_
  refine st_iload c132_53 rfl ?_
  refine st_if_eq c132_55 (by omega) (fun k39 => False.elim (by omega)) (fun k40 => ?_)
  refine st_aload c132_58 rfl ?_
  refine st_getI c132_59 hT (tf hT rfl rfl) fd_1_1 (fun e41 e42 => ?_)
  refine st_iconst c132_62 ?_
  refine st_icmp_lt c132_65 (by omega) (by omega) (fun k43 => ?_) (fun k44 => ?_)
  refine st_aload c132_71 rfl ?_
  refine st_getNr c132_72 hT t7 fd_10_2 e10 ?_
  refine st_aload c132_75 rfl ?_
  refine st_getI c132_76 hT (tf hT rfl rfl) fd_1_0 (fun e45 e46 => ?_)
  refine st_iload c132_79 rfl ?_
  have q55 := I1_sz pre0 t11
  refine st_callt (as := [vI (fI h 4 0), vI p2]) c132_80 cm_62 hT t11 fd_11_0 rfl rfl rfl rfl (by omega) (K62 hT r9 t11 (fI h 4 0) p2 (by omega) (by omega) pre0 pre1 (Or.inl (by omega)) (d - 1) (by omega) _ (fun v h0 H => H)) (fun v1 h47 H => ?_)
  obtain ⟨rfl, τ', ⟨ts, rfl, hg⟩, hT48, hF50, ix51, ix52, ix53⟩ := H
  have hF49 := Fr_cp hF hF50 (by decide +kernel : Wsub Wtl W132 = true)
  have hE := Ext_app (τ := τ) (ts := ts)
  refine st_iload c132_83 rfl ?_
  refine st_if_eq c132_85 (by omega) (fun k56 => False.elim (by omega)) (fun k57 => ?_)
  refine st_aload c132_88 rfl ?_
  refine st_dup c132_89 rfl ?_
  refine st_getI c132_90 hT48 (tf hT48 rfl rfl) fd_1_1 (fun e58 e59 => ?_)
  have q60 : fI h47 4 1 = fI h 4 1 := Fr_fI hF50 (tf hT rfl rfl) (by decide +kernel)
  refine st_iconst c132_93 ?_
  refine st_iadd c132_94 ?_
  refine st_putI c132_95 hT48 (tf hT48 rfl rfl) fd_1_1 (by omega) (by omega) hE Stb_T hF49 (by decide +kernel) (fun h61 hT62 hF63 hU64 => ?_)
  have iv65 := I1_up hT48 ix51 hU64 (by omega) (by omega)
  refine st_iload c132_98 rfl ?_
  refine st_ireturn c132_99 ?_
  exact hQ _ _ ⟨p2, rfl, by omega, _, ⟨ts, rfl, hg⟩, hT62, hF63, iv65, (I2_fr ix53 (FUp_1 hU64 (tf hT48 rfl rfl)) (by decide +kernel))⟩
  refine st_iconst c132_68 ?_
  refine st_ireturn c132_70 ?_
  exact hQ _ _ ⟨(-3), rfl, by omega, _, ⟨[], (List.append_nil τ).symm, rfl⟩, hT, hF, pre0, pre1⟩
  refine st_iconst c132_37 ?_
  refine st_ireturn c132_39 ?_
  exact hQ _ _ ⟨(-2), rfl, by omega, _, ⟨[], (List.append_nil τ).symm, rfl⟩, hT, hF, pre0, pre1⟩
  refine st_iconst c132_27 ?_
  refine st_ireturn c132_28 ?_
  exact hQ _ _ ⟨(-1), rfl, by omega, _, ⟨[], (List.append_nil τ).symm, rfl⟩, hT, hF, pre0, pre1⟩
