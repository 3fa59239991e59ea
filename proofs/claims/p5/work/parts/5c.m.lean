def W132 : List (Nat × Nat) := [(1, 1), (11, 0), (11, 1), (11, 2), (11, 3), (116, 0), (117, 0)]
set_option maxHeartbeats 0 in
theorem K132 {Ln : Nat} {xs : Nat → Int32} {τ : List Nat} {h : List mE} (hT : TH Tr τ h) (p1 : Int) (hp1 : (-2147483648) ≤ p1 ∧ p1 ≤ 2147483647) (p2 : Int) (hp2 : (-2147483648) ≤ p2 ∧ p2 ≤ 2147483647) (pre0 : I1 τ h) (pre1 : I2 τ h) (d : Nat) (hd : 5 ≤ d) (Q : Option Value → List mE → Prop) (hQ : ∀ v h', (∃ z : Int, v = some (vI z) ∧ ((-2147483648) ≤ z ∧ z ≤ 99999) ∧ ∃ τ' : List Nat, (∃ ts : List Nat, τ' = τ ++ ts ∧ gsT ts = true) ∧ TH Tr τ' h' ∧ Fr τ W132 h h' ∧ I1 τ' h' ∧ I2 τ' h') → Q v h') : MR (mex Ln xs) d 132 0 [some (.ref 4), some (vI p1), some (vI p2), none, none] [] h Q := by
  have hF := Fr_rf τ W132 h
  have hE := Ext_rf τ
  refine st_aload c132_0 rfl ?_
  refine st_iload c132_1 rfl ?_
  refine st_callt (as := [vI p1]) c132_2 cm_169 hT (tf hT rfl rfl) fd_1_0 rfl rfl rfl rfl (by omega) (K169 hT p1 (by omega) (d - 1) (by omega) _ (fun v h0 H => H)) (fun v1 h1 H => ?_)
  rcases H with ⟨rfl, rfl⟩ | ⟨r3, rfl, t4, pf1, pf2, rfl⟩
  refine st_astoreN (L' := [some (.ref 4), some (vI p1), some (vI p2), some .null, none]) c132_5 rfl rfl ?_
  refine st_aloadN c132_6 rfl ?_
  refine st_ifnullN c132_7 ?_
  refine st_iconst c132_27 ?_
  refine st_ireturn c132_28 ?_
  exact hQ _ _ ⟨(-1), rfl, by omega, _, ⟨[], (List.append_nil τ).symm, rfl⟩, hT, hF, pre0, pre1⟩
  refine st_astore (L' := [some (.ref 4), some (vI p1), some (vI p2), some (.ref r3), none]) c132_5 rfl rfl ?_
  refine st_aload c132_6 rfl ?_
  refine st_ifnullR c132_7 ?_
  refine st_iload c132_10 rfl ?_
  refine st_aload c132_11 rfl ?_
  refine st_getR c132_12 hT t4 fd_10_2 (u := 11) rfl (fun r5 e6 t7 => ?_)
  refine st_callt (as := []) c132_15 cm_58 hT t7 fd_11_0 rfl rfl rfl rfl (by omega) (K58 hT r5 t7 pre0 (d - 1) (by omega) _ (fun v h0 H => H)) (fun v1 h1 H => ?_)
  obtain ⟨z8, rfl, b9, rfl⟩ := H
  refine st_icmp_lt c132_18 (by omega) (by omega) (fun k10 => ?_) (fun k11 => ?_)
  refine st_iconst c132_27 ?_
  refine st_ireturn c132_28 ?_
  exact hQ _ _ ⟨(-1), rfl, by omega, _, ⟨[], (List.append_nil τ).symm, rfl⟩, hT, hF, pre0, pre1⟩
  refine st_iload c132_21 rfl ?_
  refine st_iconst c132_22 ?_
  refine st_icmp_le c132_24 (by omega) (by omega) (fun k12 => ?_) (fun k13 => ?_)
  refine st_aload c132_29 rfl ?_
  refine st_getI c132_30 hT t4 fd_10_3 (fun e14 e15 => ?_)
  refine st_iconst c132_33 ?_
  refine st_icmp_ne c132_34 (by omega) (by omega) (fun k16 => ?_) (fun k17 => ?_)
  refine st_aload c132_40 rfl ?_
  refine st_getNr c132_41 hT t4 fd_10_2 e6 ?_
  refine st_aload c132_44 rfl ?_
  refine st_getI c132_45 hT (tf hT rfl rfl) fd_1_0 (fun e18 e19 => ?_)
  refine st_callt (as := [vI (fI h 4 0)]) c132_48 cm_61 hT t7 fd_11_0 rfl rfl rfl rfl (by omega) (K61 hT r5 t7 (fI h 4 0) (by omega) pre0 (d - 1) (by omega) _ (fun v h0 H => H)) (fun v1 h1 H => ?_)
  rcases H with ⟨rfl, pf20, rfl⟩ | ⟨rfl, rfl⟩
  refine st_istore (L' := [some (.ref 4), some (vI p1), some (vI p2), some (.ref r3), some (vI 0)]) c132_51 rfl rfl ?_
  refine st_iload c132_53 rfl ?_
  refine st_if_eq c132_55 (by omega) (fun k21 => ?_) (fun k22 => False.elim (by omega))
  refine st_aload c132_71 rfl ?_
  refine st_getNr c132_72 hT t4 fd_10_2 e6 ?_
  refine st_aload c132_75 rfl ?_
  refine st_getI c132_76 hT (tf hT rfl rfl) fd_1_0 (fun e23 e24 => ?_)
  refine st_iload c132_79 rfl ?_
  refine st_callt (as := [vI (fI h 4 0), vI p2]) c132_80 cm_62 hT t7 fd_11_0 rfl rfl rfl rfl (by omega) (K62 hT r5 t7 (fI h 4 0) p2 (by omega) (by omega) pre0 pre1 (Or.inr pf20) (d - 1) (by omega) _ (fun v h0 H => H)) (fun v1 h25 H => ?_)
  obtain ⟨rfl, τ', ⟨ts, rfl, hg⟩, hT26, hF28, ix29, ix30, ix31⟩ := H
  have hF27 := Fr_cp hF hF28 (by decide +kernel : Wsub Wtl W132 = true)
  have hE := Ext_app (τ := τ) (ts := ts)
  have ix32 := ix30 pf20
  refine st_iload c132_83 rfl ?_
  refine st_if_eq c132_85 (by omega) (fun k33 => ?_) (fun k34 => False.elim (by omega))
  refine st_iload c132_98 rfl ?_
  refine st_ireturn c132_99 ?_
  exact hQ _ _ ⟨p2, rfl, by omega, _, ⟨ts, rfl, hg⟩, hT26, hF27, ix32, ix31⟩
  refine st_istore (L' := [some (.ref 4), some (vI p1), some (vI p2), some (.ref r3), some (vI 1)]) c132_51 rfl rfl ?_
  refine st_iload c132_53 rfl ?_
  refine st_if_eq c132_55 (by omega) (fun k35 => False.elim (by omega)) (fun k36 => ?_)
  refine st_aload c132_58 rfl ?_
  refine st_getI c132_59 hT (tf hT rfl rfl) fd_1_1 (fun e37 e38 => ?_)
  refine st_iconst c132_62 ?_
  refine st_icmp_lt c132_65 (by omega) (by omega) (fun k39 => ?_) (fun k40 => ?_)
  refine st_aload c132_71 rfl ?_
  refine st_getNr c132_72 hT t4 fd_10_2 e6 ?_
  refine st_aload c132_75 rfl ?_
  refine st_getI c132_76 hT (tf hT rfl rfl) fd_1_0 (fun e41 e42 => ?_)
  refine st_iload c132_79 rfl ?_
  have q51 := I1_sz pre0 t7
  refine st_callt (as := [vI (fI h 4 0), vI p2]) c132_80 cm_62 hT t7 fd_11_0 rfl rfl rfl rfl (by omega) (K62 hT r5 t7 (fI h 4 0) p2 (by omega) (by omega) pre0 pre1 (Or.inl (by omega)) (d - 1) (by omega) _ (fun v h0 H => H)) (fun v1 h43 H => ?_)
  obtain ⟨rfl, τ', ⟨ts, rfl, hg⟩, hT44, hF46, ix47, ix48, ix49⟩ := H
  have hF45 := Fr_cp hF hF46 (by decide +kernel : Wsub Wtl W132 = true)
  have hE := Ext_app (τ := τ) (ts := ts)
  refine st_iload c132_83 rfl ?_
  refine st_if_eq c132_85 (by omega) (fun k52 => False.elim (by omega)) (fun k53 => ?_)
  refine st_aload c132_88 rfl ?_
  refine st_dup c132_89 rfl ?_
  refine st_getI c132_90 hT44 (tf hT44 rfl rfl) fd_1_1 (fun e54 e55 => ?_)
  have q56 : fI h43 4 1 = fI h 4 1 := Fr_fI hF46 (tf hT rfl rfl) (by decide +kernel)
  refine st_iconst c132_93 ?_
  refine st_iadd c132_94 ?_
  refine st_putI c132_95 hT44 (tf hT44 rfl rfl) fd_1_1 (by omega) (by omega) hE Stb_T hF45 (by decide +kernel) (fun h57 hT58 hF59 hU60 => ?_)
  have iv61 := I1_up hT44 ix47 hU60 (by omega) (by omega)
  refine st_iload c132_98 rfl ?_
  refine st_ireturn c132_99 ?_
  exact hQ _ _ ⟨p2, rfl, by omega, _, ⟨ts, rfl, hg⟩, hT58, hF59, iv61, (I2_fr ix49 (FUp_1 hU60 (tf hT44 rfl rfl)) (by decide +kernel))⟩
  refine st_iconst c132_68 ?_
  refine st_ireturn c132_70 ?_
  exact hQ _ _ ⟨(-3), rfl, by omega, _, ⟨[], (List.append_nil τ).symm, rfl⟩, hT, hF, pre0, pre1⟩
  refine st_iconst c132_37 ?_
  refine st_ireturn c132_39 ?_
  exact hQ _ _ ⟨(-2), rfl, by omega, _, ⟨[], (List.append_nil τ).symm, rfl⟩, hT, hF, pre0, pre1⟩
  refine st_iconst c132_27 ?_
  refine st_ireturn c132_28 ?_
  exact hQ _ _ ⟨(-1), rfl, by omega, _, ⟨[], (List.append_nil τ).symm, rfl⟩, hT, hF, pre0, pre1⟩
