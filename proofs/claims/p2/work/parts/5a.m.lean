def W123 : List (Nat × Nat) := [(1, 5), (15, 0)]
set_option maxHeartbeats 0 in
theorem K123 {Ln : Nat} {xs : Nat → Int32} {τ : List Nat} {h : List mE} (hT : TH Tr τ h) (p1 : Int) (hp1 : (-2147483648) ≤ p1 ∧ p1 ≤ 2147483647) (p2 : Int) (hp2 : (-2147483648) ≤ p2 ∧ p2 ≤ 2147483647) (p3 : Int) (hp3 : (-2147483648) ≤ p3 ∧ p3 ≤ 2147483647) (p4 : Int) (hp4 : (-2147483648) ≤ p4 ∧ p4 ≤ 2147483647) (pre0 : I1 τ h) (pre1 : I2 τ h) (d : Nat) (hd : 3 ≤ d) (Q : Option Value → List mE → Prop) (hQ : ∀ v h', (∃ z : Int, v = some (vI z) ∧ ((-3) ≤ z ∧ z ≤ 14) ∧ ∃ τ' : List Nat, (∃ ts : List Nat, τ' = τ ++ ts ∧ gsT ts = true) ∧ TH Tr τ' h' ∧ Fr τ W123 h h' ∧ I1 τ' h' ∧ I2 τ' h') → Q v h') : MR (mex Ln xs) d 123 0 [some (.ref 4), some (vI p1), some (vI p2), some (vI p3), some (vI p4), none] [] h Q := by
  have hF := Fr_rf τ W123 h
  have hE := Ext_rf τ
  refine st_iload c123_0 rfl ?_
  refine st_iconst c123_1 ?_
  refine st_iconst c123_4 ?_
  refine st_calls (as := [vI p1, vI 1000, vI 99999]) c123_6 cm_166 rfl rfl rfl rfl (by omega) (K166 hT p1 (by omega) 1000 (by omega) 99999 (by omega) (d - 1) (by omega) _ (fun v h0 H => H)) (fun v1 h1 H => ?_)
  rcases H with ⟨rfl, rfl⟩ | ⟨rfl, pf1, pf2, rfl⟩
  refine st_if_eq c123_9 (by omega) (fun k3 => ?_) (fun k4 => False.elim (by omega))
  refine st_iconst c123_58 ?_
  refine st_istore (L' := [some (.ref 4), some (vI p1), some (vI p2), some (vI p3), some (vI p4), some (vI 0)]) c123_59 rfl rfl ?_
  refine st_iload c123_61 rfl ?_
  refine st_if_ne c123_63 (by omega) (fun k5 => False.elim (by omega)) (fun k6 => ?_)
  refine st_iconst c123_66 ?_
  refine st_ireturn c123_67 ?_
  exact hQ _ _ ⟨(-1), rfl, by omega, _, ⟨[], (List.append_nil τ).symm, rfl⟩, hT, hF, pre0, pre1⟩
  refine st_if_eq c123_9 (by omega) (fun k7 => False.elim (by omega)) (fun k8 => ?_)
  refine st_iload c123_12 rfl ?_
  refine st_iconst c123_13 ?_
  refine st_iconst c123_14 ?_
  refine st_calls (as := [vI p2, vI 1, vI 9999]) c123_17 cm_166 rfl rfl rfl rfl (by omega) (K166 hT p2 (by omega) 1 (by omega) 9999 (by omega) (d - 1) (by omega) _ (fun v h0 H => H)) (fun v1 h1 H => ?_)
  rcases H with ⟨rfl, rfl⟩ | ⟨rfl, pf9, pf10, rfl⟩
  refine st_if_eq c123_20 (by omega) (fun k11 => ?_) (fun k12 => False.elim (by omega))
  refine st_iconst c123_58 ?_
  refine st_istore (L' := [some (.ref 4), some (vI p1), some (vI p2), some (vI p3), some (vI p4), some (vI 0)]) c123_59 rfl rfl ?_
  refine st_iload c123_61 rfl ?_
  refine st_if_ne c123_63 (by omega) (fun k13 => False.elim (by omega)) (fun k14 => ?_)
  refine st_iconst c123_66 ?_
  refine st_ireturn c123_67 ?_
  exact hQ _ _ ⟨(-1), rfl, by omega, _, ⟨[], (List.append_nil τ).symm, rfl⟩, hT, hF, pre0, pre1⟩
  refine st_if_eq c123_20 (by omega) (fun k15 => False.elim (by omega)) (fun k16 => ?_)
  refine st_iload c123_23 rfl ?_
  refine st_iconst c123_24 ?_
  refine st_iconst c123_25 ?_
  refine st_calls (as := [vI p3, vI 0, vI 997]) c123_28 cm_166 rfl rfl rfl rfl (by omega) (K166 hT p3 (by omega) 0 (by omega) 997 (by omega) (d - 1) (by omega) _ (fun v h0 H => H)) (fun v1 h1 H => ?_)
  rcases H with ⟨rfl, rfl⟩ | ⟨rfl, pf17, pf18, rfl⟩
  refine st_if_eq c123_31 (by omega) (fun k19 => ?_) (fun k20 => False.elim (by omega))
  refine st_iconst c123_58 ?_
  refine st_istore (L' := [some (.ref 4), some (vI p1), some (vI p2), some (vI p3), some (vI p4), some (vI 0)]) c123_59 rfl rfl ?_
  refine st_iload c123_61 rfl ?_
  refine st_if_ne c123_63 (by omega) (fun k21 => False.elim (by omega)) (fun k22 => ?_)
  refine st_iconst c123_66 ?_
  refine st_ireturn c123_67 ?_
  exact hQ _ _ ⟨(-1), rfl, by omega, _, ⟨[], (List.append_nil τ).symm, rfl⟩, hT, hF, pre0, pre1⟩
  refine st_if_eq c123_31 (by omega) (fun k23 => False.elim (by omega)) (fun k24 => ?_)
  refine st_iload c123_34 rfl ?_
  refine st_iconst c123_35 ?_
  refine st_iremp c123_37 (by omega) (by omega) ?_
  refine st_iconst c123_38 ?_
  refine st_icmp_gt c123_40 (by omega) (by omega) (fun k25 => ?_) (fun k26 => ?_)
  refine st_iconst c123_58 ?_
  refine st_istore (L' := [some (.ref 4), some (vI p1), some (vI p2), some (vI p3), some (vI p4), some (vI 0)]) c123_59 rfl rfl ?_
  refine st_iload c123_61 rfl ?_
  refine st_if_ne c123_63 (by omega) (fun k27 => False.elim (by omega)) (fun k28 => ?_)
  refine st_iconst c123_66 ?_
  refine st_ireturn c123_67 ?_
  exact hQ _ _ ⟨(-1), rfl, by omega, _, ⟨[], (List.append_nil τ).symm, rfl⟩, hT, hF, pre0, pre1⟩
  refine st_iload c123_43 rfl ?_
  refine st_iconst c123_45 ?_
  refine st_iconst c123_46 ?_
  refine st_calls (as := [vI p4, vI 0, vI 99999]) c123_48 cm_166 rfl rfl rfl rfl (by omega) (K166 hT p4 (by omega) 0 (by omega) 99999 (by omega) (d - 1) (by omega) _ (fun v h0 H => H)) (fun v1 h1 H => ?_)
  rcases H with ⟨rfl, rfl⟩ | ⟨rfl, pf29, pf30, rfl⟩
  refine st_if_eq c123_51 (by omega) (fun k31 => ?_) (fun k32 => False.elim (by omega))
  refine st_iconst c123_58 ?_
  refine st_istore (L' := [some (.ref 4), some (vI p1), some (vI p2), some (vI p3), some (vI p4), some (vI 0)]) c123_59 rfl rfl ?_
  refine st_iload c123_61 rfl ?_
  refine st_if_ne c123_63 (by omega) (fun k33 => False.elim (by omega)) (fun k34 => ?_)
  refine st_iconst c123_66 ?_
  refine st_ireturn c123_67 ?_
  exact hQ _ _ ⟨(-1), rfl, by omega, _, ⟨[], (List.append_nil τ).symm, rfl⟩, hT, hF, pre0, pre1⟩
  refine st_if_eq c123_51 (by omega) (fun k35 => False.elim (by omega)) (fun k36 => ?_)
  refine st_iconst c123_54 ?_
  refine st_goto c123_55 ?_
  refine st_istore (L' := [some (.ref 4), some (vI p1), some (vI p2), some (vI p3), some (vI p4), some (vI 1)]) c123_59 rfl rfl ?_
  refine st_iload c123_61 rfl ?_
  refine st_if_ne c123_63 (by omega) (fun k37 => ?_) (fun k38 => False.elim (by omega))
  refine st_aload c123_68 rfl ?_
  refine st_getI c123_69 hT (tf hT rfl rfl) fd_1_5 (fun e39 e40 => ?_)
  refine st_iconst c123_72 ?_
  refine st_icmp_lt c123_74 (by omega) (by omega) (fun k41 => ?_) (fun k42 => ?_)
  refine st_aload c123_80 rfl ?_
  refine st_getX (u := 34) c123_81 hT (tf hT rfl rfl) fd_1_4 rfl ?_
  refine st_aload c123_84 rfl ?_
  refine st_getI c123_85 hT (tf hT rfl rfl) fd_1_5 (fun e43 e44 => ?_)
  refine tl_new (fs := [.int 0, .int 0, .int 0, .int 0, .int 0, .int 0, .null, .null]) c123_88 rfl rfl ?_
  obtain ⟨h45, eh46⟩ : ∃ x, x = h ++ [.inr (1, [.int 0, .int 0, .int 0, .int 0, .int 0, .int 0, .null, .null])] := ⟨_, rfl⟩
  rw [← eh46]
  have hT47 : TH Tr (τ ++ [0]) h45 := by rw [eh46]; exact TH_raw hT
  have hX49 : Fr τ [] h h45 := by rw [eh46]; exact Fr_app hT
  have hF48 : Fr τ W123 h h45 := Fr_tr hF (by rw [eh46]; exact Fr_app hT)
  refine st_dup c123_91 rfl ?_
  refine st_aload c123_92 rfl ?_
  refine st_getI c123_93 hT47 (tf hT47 rfl rfl) fd_1_5 (fun e50 e51 => ?_)
  have q52 : fI h45 4 5 = fI h 4 5 := Fr_fI hX49 (tf hT rfl rfl) rfl
  refine st_iload c123_96 rfl ?_
  refine st_iload c123_97 rfl ?_
  refine st_iload c123_98 rfl ?_
  refine st_iconst c123_99 ?_
  refine st_iremp c123_101 (by omega) (by omega) ?_
  refine st_iload c123_102 rfl ?_
  have ct53 := KI10 (X := mex Ln xs) (h := h) (fI h45 4 5) p1 (by omega) p2 (p3 % 10) p4 (d - 1) (by omega)
  rw [← eh46] at ct53
  refine st_callp (as := [vI (fI h45 4 5), vI p1, vI p2, vI (p3 % 10), vI p4]) c123_104 cm_10 rfl rfl rfl rfl (by omega) ct53 (fun v1 h1 H => ?_)
  obtain ⟨rfl, rfl⟩ := H
  obtain ⟨h54, eh55⟩ : ∃ x, x = h ++ [.inr (1, [vI (fI h45 4 5), vI (p1 / 1000), vI (p1 % 1000), vI p2, vI (p3 % 10), vI p4, .ref (h.length + 4 + 1), .ref (h.length + 4 + 2)]), .inl (0, (16, .inl (fun _ => 0))), .inl (1, (15, .inl (fun _ => 0)))] := ⟨_, rfl⟩
  rw [← eh55]
  have hT56 : TH Tr (τ ++ [9, 112, 113]) h54 := by
    rw [eh55]
    exact TH_app hT rfl (fun i t e h1 h2 => match i, h1, h2 with
        | 0, h1, h2 => by cases h1; cases h2; exact okC_o (fts := [(0, 0, 14), (0, (-2147483648), 2147483647), (0, (-2147483648), 2147483647), (0, (-2147483648), 2147483647), (0, (-2147483648), 2147483647), (0, (-2147483648), 2147483647), (2, 112, 0), (2, 113, 0)]) rfl (fun kk ft vv b1 b2 => match kk, b1, b2 with | 0, b1, b2 => by cases b1; cases b2; exact okV_i (by omega) (by omega) | 1, b1, b2 => by cases b1; cases b2; exact okV_i (by omega) (by omega) | 2, b1, b2 => by cases b1; cases b2; exact okV_i (by omega) (by omega) | 3, b1, b2 => by cases b1; cases b2; exact okV_i (by omega) (by omega) | 4, b1, b2 => by cases b1; cases b2; exact okV_i (by omega) (by omega) | 5, b1, b2 => by cases b1; cases b2; exact okV_i (by omega) (by omega) | 6, b1, b2 => by cases b1; cases b2; exact ⟨_, rfl, ty_new (k := 1) hT rfl⟩ | 7, b1, b2 => by cases b1; cases b2; exact ⟨_, rfl, ty_new (k := 2) hT rfl⟩ | n + 8, b1, b2 => by cases b1)
        | 1, h1, h2 => by cases h1; cases h2; exact okC_i (lo := (-2147483648)) (hi := 2147483647) (by omega) (by omega) ok_full
        | 2, h1, h2 => by cases h1; cases h2; exact okC_i (lo := 0) (hi := 1) (by omega) (by omega) ok_zero
        | n + 3, h1, h2 => by cases h1)
  have hX58 : Fr τ [] h h54 := by rw [eh55]; exact Fr_app hT
  have hF57 : Fr τ W123 h h54 := Fr_tr hF (by rw [eh55]; exact Fr_app hT)
  have hE := Ext_app (τ := τ) (ts := [9, 112, 113])
  have t60 : ty (τ ++ [9, 112, 113]) (h.length + 4) 9 := ty_new (k := 0) hT rfl
  have iv61 : I1 (τ ++ [9, 112, 113]) h54 := by rw [eh55]; exact I1_app0 pre0 hT rfl
  have iv62 : I2 (τ ++ [9, 112, 113]) h54 := by rw [eh55]; exact I2_app0 pre1 hT rfl
  refine st_aast c123_107 hT56 (tf hT56 rfl rfl) ay_15 t60 rfl fd_9_0 rfl (by omega) hE Stb_T hF57 (by decide +kernel) (fun h63 hT64 hF65 hU66 => ?_)
  refine st_aload c123_108 rfl ?_
  refine st_dup c123_109 rfl ?_
  refine st_getI c123_110 hT64 (tf hT64 rfl rfl) fd_1_5 (fun e67 e68 => ?_)
  have q69 : fI h63 4 5 = fI h 4 5 := (OUp_fI hU66).trans (Fr_fI hX58 (tf hT rfl rfl) rfl)
  refine st_dup_x1 c123_113 rfl rfl ?_
  refine st_iconst c123_114 ?_
  refine st_iadd c123_115 ?_
  refine st_putI c123_116 hT64 (tf hT64 rfl rfl) fd_1_5 (by omega) (by omega) hE Stb_T hF65 (by decide +kernel) (fun h70 hT71 hF72 hU73 => ?_)
  refine st_ireturn c123_119 ?_
  exact hQ _ _ ⟨fI h63 4 5, rfl, by omega, _, ⟨[9, 112, 113], rfl, rfl⟩, hT71, hF72, (I1_fr (I1_fr iv61 hT56 (OUp_1 hU66 (tf hT56 rfl rfl)) (by decide +kernel)) hT64 (FUp_1 hU73 (tf hT64 rfl rfl)) (by decide +kernel)), (I2_fr (I2_fr iv62 (OUp_1 hU66 (tf hT56 rfl rfl)) (by decide +kernel)) (FUp_1 hU73 (tf hT64 rfl rfl)) (by decide +kernel))⟩
  refine st_iconst c123_77 ?_
  refine st_ireturn c123_79 ?_
  exact hQ _ _ ⟨(-3), rfl, by omega, _, ⟨[], (List.append_nil τ).symm, rfl⟩, hT, hF, pre0, pre1⟩
def W126 : List (Nat × Nat) := [(1, 7), (16, 0)]
set_option maxHeartbeats 0 in
theorem K126 {Ln : Nat} {xs : Nat → Int32} {τ : List Nat} {h : List mE} (hT : TH Tr τ h) (p1 : Int) (hp1 : (-2147483648) ≤ p1 ∧ p1 ≤ 2147483647) (p2 : Int) (hp2 : (-2147483648) ≤ p2 ∧ p2 ≤ 2147483647) (p3 : Int) (hp3 : (-2147483648) ≤ p3 ∧ p3 ≤ 2147483647) (pre0 : I1 τ h) (pre1 : I2 τ h) (d : Nat) (hd : 3 ≤ d) (Q : Option Value → List mE → Prop) (hQ : ∀ v h', (∃ z : Int, v = some (vI z) ∧ ((-3) ≤ z ∧ z ≤ 89) ∧ ∃ τ' : List Nat, (∃ ts : List Nat, τ' = τ ++ ts ∧ gsT ts = true) ∧ TH Tr τ' h' ∧ Fr τ W126 h h' ∧ I1 τ' h' ∧ I2 τ' h') → Q v h') : MR (mex Ln xs) d 126 0 [some (.ref 4), some (vI p1), some (vI p2), some (vI p3), none] [] h Q := by
  have hF := Fr_rf τ W126 h
  have hE := Ext_rf τ
  refine st_aload c126_0 rfl ?_
  refine st_iload c126_1 rfl ?_
  refine st_callt (as := [vI p1]) c126_2 cm_168 hT (tf hT rfl rfl) fd_1_0 rfl rfl rfl rfl (by omega) (K168 hT p1 (by omega) (d - 1) (by omega) _ (fun v h0 H => H)) (fun v1 h1 H => ?_)
  rcases H with ⟨rfl, rfl⟩ | ⟨r3, rfl, t4, pf1, pf2, rfl⟩
  refine st_astoreN (L' := [some (.ref 4), some (vI p1), some (vI p2), some (vI p3), some .null]) c126_5 rfl rfl ?_
  refine st_aloadN c126_7 rfl ?_
  refine st_ifnullN c126_9 ?_
  refine st_iconst c126_33 ?_
  refine st_ireturn c126_34 ?_
  exact hQ _ _ ⟨(-1), rfl, by omega, _, ⟨[], (List.append_nil τ).symm, rfl⟩, hT, hF, pre0, pre1⟩
  refine st_astore (L' := [some (.ref 4), some (vI p1), some (vI p2), some (vI p3), some (.ref r3)]) c126_5 rfl rfl ?_
  refine st_aload c126_7 rfl ?_
  refine st_ifnullR c126_9 ?_
  refine st_aload c126_12 rfl ?_
  refine st_getX (u := 6) c126_13 hT (tf hT rfl rfl) fd_1_3 rfl ?_
  refine st_iload c126_16 rfl ?_
  have e5 := fI_bd (q := 6) hT (tf hT rfl rfl) fd_2_3
  refine st_callt (as := [vI p2]) c126_17 cm_86 hT (tf hT rfl rfl) fd_2_0 rfl rfl rfl rfl (by omega) (K86 hT p2 (by omega) (d - 1) (by omega) _ (fun v h0 H => H)) (fun v1 h1 H => ?_)
  rcases H with ⟨rfl, rfl⟩ | ⟨rfl, pf6, pf7, rfl⟩
  refine st_if_eq c126_20 (by omega) (fun k8 => ?_) (fun k9 => False.elim (by omega))
  refine st_iconst c126_33 ?_
  refine st_ireturn c126_34 ?_
  exact hQ _ _ ⟨(-1), rfl, by omega, _, ⟨[], (List.append_nil τ).symm, rfl⟩, hT, hF, pre0, pre1⟩
  refine st_if_eq c126_20 (by omega) (fun k10 => False.elim (by omega)) (fun k11 => ?_)
  refine st_iload c126_23 rfl ?_
  refine st_iconst c126_24 ?_
  refine st_iconst c126_25 ?_
  refine st_calls (as := [vI p3, vI 0, vI 99999]) c126_27 cm_166 rfl rfl rfl rfl (by omega) (K166 hT p3 (by omega) 0 (by omega) 99999 (by omega) (d - 1) (by omega) _ (fun v h0 H => H)) (fun v1 h1 H => ?_)
  rcases H with ⟨rfl, rfl⟩ | ⟨rfl, pf12, pf13, rfl⟩
  refine st_if_ne c126_30 (by omega) (fun k14 => False.elim (by omega)) (fun k15 => ?_)
  refine st_iconst c126_33 ?_
  refine st_ireturn c126_34 ?_
  exact hQ _ _ ⟨(-1), rfl, by omega, _, ⟨[], (List.append_nil τ).symm, rfl⟩, hT, hF, pre0, pre1⟩
  refine st_if_ne c126_30 (by omega) (fun k16 => ?_) (fun k17 => False.elim (by omega))
  refine st_aload c126_35 rfl ?_
  refine st_getI c126_36 hT (tf hT rfl rfl) fd_1_7 (fun e18 e19 => ?_)
  refine st_iconst c126_39 ?_
  refine st_icmp_lt c126_41 (by omega) (by omega) (fun k20 => ?_) (fun k21 => ?_)
  refine st_aload c126_47 rfl ?_
  refine st_getX (u := 35) c126_48 hT (tf hT rfl rfl) fd_1_6 rfl ?_
  refine st_aload c126_51 rfl ?_
  refine st_getI c126_52 hT (tf hT rfl rfl) fd_1_7 (fun e22 e23 => ?_)
  refine tl_new (fs := [.int 0, .null, .null, .int 0, .int 0, .int 0, .int 0, .int 0, .int 0, .null, .null, .int 0, .int 0, .null, .null, .int 0]) c126_55 rfl rfl ?_
  obtain ⟨h24, eh25⟩ : ∃ x, x = h ++ [.inr (4, [.int 0, .null, .null, .int 0, .int 0, .int 0, .int 0, .int 0, .int 0, .null, .null, .int 0, .int 0, .null, .null, .int 0])] := ⟨_, rfl⟩
  rw [← eh25]
  have hT26 : TH Tr (τ ++ [0]) h24 := by rw [eh25]; exact TH_raw hT
  have hX28 : Fr τ [] h h24 := by rw [eh25]; exact Fr_app hT
  have hF27 : Fr τ W126 h h24 := Fr_tr hF (by rw [eh25]; exact Fr_app hT)
  refine st_dup c126_58 rfl ?_
  refine st_aload c126_59 rfl ?_
  refine st_getI c126_60 hT26 (tf hT26 rfl rfl) fd_1_7 (fun e29 e30 => ?_)
  have q31 : fI h24 4 7 = fI h 4 7 := Fr_fI hX28 (tf hT rfl rfl) rfl
  refine st_aload c126_63 rfl ?_
  refine st_iload c126_65 rfl ?_
  refine st_aload c126_66 rfl ?_
  refine st_getI c126_67 hT26 (tf hT26 rfl rfl) fd_1_0 (fun e32 e33 => ?_)
  have q34 : fI h24 4 0 = fI h 4 0 := Fr_fI hX28 (tf hT rfl rfl) rfl
  refine st_iload c126_70 rfl ?_
  have ct35 := KI35 (X := mex Ln xs) (h := h) (fI h24 4 7) r3 p2 (fI h24 4 0) p3 (d - 1) (by omega)
  rw [← eh25] at ct35
  refine st_callp (as := [vI (fI h24 4 7), .ref r3, vI p2, vI (fI h24 4 0), vI p3]) c126_71 cm_35 rfl rfl rfl rfl (by omega) ct35 (fun v1 h1 H => ?_)
  obtain ⟨rfl, rfl⟩ := H
  obtain ⟨h36, eh37⟩ : ∃ x, x = h ++ [.inr (4, [vI (fI h24 4 7), .ref r3, .ref (h.length + 4 + 3), .int 0, vI p2, .int 0, vI (-1), vI (fI h24 4 0), .int 0, .null, .null, vI (-1), vI (-1), .ref (h.length + 4 + 1), .ref (h.length + 4 + 2), .int 0]), .inl (0, (5, .inl (fun _ => 0))), .inl (0, (5, .inl (fun _ => 0))), .inr (6, [.ref (h.length + 4 + 4), .ref (h.length + 4 + 5), vI 1, vI 1]), .inl (0, (4, .inl (upd (fun _ => 0) 0 (Int32.ofInt (fI h24 4 0))))), .inl (0, (4, .inl (upd (fun _ => 0) 0 (Int32.ofInt p3))))] := ⟨_, rfl⟩
  rw [← eh37]
  have hT38 : TH Tr (τ ++ [10, 114, 115, 11, 116, 117]) h36 := by
    rw [eh37]
    exact TH_app hT rfl (fun i t e h1 h2 => match i, h1, h2 with
        | 0, h1, h2 => by cases h1; cases h2; exact okC_o (fts := [(0, (-2147483648), 2147483647), (2, 9, 0), (2, 11, 0), (0, (-2147483648), 2147483647), (0, (-2147483648), 2147483647), (0, (-2147483648), 2147483647), (0, (-2147483648), 2147483647), (0, (-2147483648), 2147483647), (0, (-2147483648), 2147483647), (3, 12, 0), (3, 12, 0), (0, (-2147483648), 2147483647), (0, (-2147483648), 2147483647), (2, 114, 0), (2, 115, 0), (0, 0, 5)]) rfl (fun kk ft vv b1 b2 => match kk, b1, b2 with | 0, b1, b2 => by cases b1; cases b2; exact okV_i (by omega) (by omega) | 1, b1, b2 => by cases b1; cases b2; exact ⟨_, rfl, (Ext_ty Ext_app t4)⟩ | 2, b1, b2 => by cases b1; cases b2; exact ⟨_, rfl, ty_new (k := 3) hT rfl⟩ | 3, b1, b2 => by cases b1; cases b2; exact okV_0 (by decide) | 4, b1, b2 => by cases b1; cases b2; exact okV_i (by omega) (by omega) | 5, b1, b2 => by cases b1; cases b2; exact okV_0 (by decide) | 6, b1, b2 => by cases b1; cases b2; exact okV_i (by omega) (by omega) | 7, b1, b2 => by cases b1; cases b2; exact okV_i (by omega) (by omega) | 8, b1, b2 => by cases b1; cases b2; exact okV_0 (by decide) | 9, b1, b2 => by cases b1; cases b2; exact Or.inl rfl | 10, b1, b2 => by cases b1; cases b2; exact Or.inl rfl | 11, b1, b2 => by cases b1; cases b2; exact okV_i (by omega) (by omega) | 12, b1, b2 => by cases b1; cases b2; exact okV_i (by omega) (by omega) | 13, b1, b2 => by cases b1; cases b2; exact ⟨_, rfl, ty_new (k := 1) hT rfl⟩ | 14, b1, b2 => by cases b1; cases b2; exact ⟨_, rfl, ty_new (k := 2) hT rfl⟩ | 15, b1, b2 => by cases b1; cases b2; exact okV_0 (by decide) | n + 16, b1, b2 => by cases b1)
        | 1, h1, h2 => by cases h1; cases h2; exact okC_i (lo := (-2147483648)) (hi := 2147483647) (by omega) (by omega) ok_full
        | 2, h1, h2 => by cases h1; cases h2; exact okC_i (lo := (-2147483648)) (hi := 2147483647) (by omega) (by omega) ok_full
        | 3, h1, h2 => by cases h1; cases h2; exact okC_o (fts := [(2, 116, 0), (2, 117, 0), (0, 1, 401), (0, 0, 1)]) rfl (fun kk ft vv b1 b2 => match kk, b1, b2 with | 0, b1, b2 => by cases b1; cases b2; exact ⟨_, rfl, ty_new (k := 4) hT rfl⟩ | 1, b1, b2 => by cases b1; cases b2; exact ⟨_, rfl, ty_new (k := 5) hT rfl⟩ | 2, b1, b2 => by cases b1; cases b2; exact okV_i (by omega) (by omega) | 3, b1, b2 => by cases b1; cases b2; exact okV_i (by omega) (by omega) | n + 4, b1, b2 => by cases b1)
        | 4, h1, h2 => by cases h1; cases h2; exact okC_i (lo := (-2147483648)) (hi := 2147483647) (by omega) (by omega) ok_full
        | 5, h1, h2 => by cases h1; cases h2; exact okC_i (lo := (-2147483648)) (hi := 2147483647) (by omega) (by omega) ok_full
        | n + 6, h1, h2 => by cases h1)
  have hX40 : Fr τ [] h h36 := by rw [eh37]; exact Fr_app hT
  have hF39 : Fr τ W126 h h36 := Fr_tr hF (by rw [eh37]; exact Fr_app hT)
  have hE := Ext_app (τ := τ) (ts := [10, 114, 115, 11, 116, 117])
  have t42 : ty (τ ++ [10, 114, 115, 11, 116, 117]) (h.length + 4) 10 := ty_new (k := 0) hT rfl
  have e44 := fI_bd (q := 4) hT (tf hT rfl rfl) fd_1_1
  have iv43 : I1 (τ ++ [10, 114, 115, 11, 116, 117]) h36 := by
    rw [eh37]
    refine I1_app pre0 hT (fun k hk => ?_)
    match k, hk with
    | 0, hk => cases hk
    | 1, hk => cases hk
    | 2, hk => cases hk
    | 3, hk =>
      have r4 : fI (h ++ [.inr (4, [vI (fI h24 4 7), .ref r3, .ref (h.length + 4 + 3), .int 0, vI p2, .int 0, vI (-1), vI (fI h24 4 0), .int 0, .null, .null, vI (-1), vI (-1), .ref (h.length + 4 + 1), .ref (h.length + 4 + 2), .int 0]), .inl (0, (5, .inl (fun _ => 0))), .inl (0, (5, .inl (fun _ => 0))), .inr (6, [.ref (h.length + 4 + 4), .ref (h.length + 4 + 5), vI 1, vI 1]), .inl (0, (4, .inl (upd (fun _ => 0) 0 (Int32.ofInt (fI h24 4 0))))), .inl (0, (4, .inl (upd (fun _ => 0) 0 (Int32.ofInt p3))))]) 4 1 = fI h 4 1 := Fr_fI (W := []) (Fr_app hT) (tf hT rfl rfl) rfl
      have f2 : fI (h ++ [.inr (4, [vI (fI h24 4 7), .ref r3, .ref (h.length + 4 + 3), .int 0, vI p2, .int 0, vI (-1), vI (fI h24 4 0), .int 0, .null, .null, vI (-1), vI (-1), .ref (h.length + 4 + 1), .ref (h.length + 4 + 2), .int 0]), .inl (0, (5, .inl (fun _ => 0))), .inl (0, (5, .inl (fun _ => 0))), .inr (6, [.ref (h.length + 4 + 4), .ref (h.length + 4 + 5), vI 1, vI 1]), .inl (0, (4, .inl (upd (fun _ => 0) 0 (Int32.ofInt (fI h24 4 0))))), .inl (0, (4, .inl (upd (fun _ => 0) 0 (Int32.ofInt p3))))]) (h.length + 4 + 3) 2 = 1 := tl_fI (T := [.inr (4, [vI (fI h24 4 7), .ref r3, .ref (h.length + 4 + 3), .int 0, vI p2, .int 0, vI (-1), vI (fI h24 4 0), .int 0, .null, .null, vI (-1), vI (-1), .ref (h.length + 4 + 1), .ref (h.length + 4 + 2), .int 0]), .inl (0, (5, .inl (fun _ => 0))), .inl (0, (5, .inl (fun _ => 0))), .inr (6, [.ref (h.length + 4 + 4), .ref (h.length + 4 + 5), vI 1, vI 1]), .inl (0, (4, .inl (upd (fun _ => 0) 0 (Int32.ofInt (fI h24 4 0))))), .inl (0, (4, .inl (upd (fun _ => 0) 0 (Int32.ofInt p3))))]) (k := 3) rfl rfl (by decide)
      have n1 : aN (h ++ [.inr (4, [vI (fI h24 4 7), .ref r3, .ref (h.length + 4 + 3), .int 0, vI p2, .int 0, vI (-1), vI (fI h24 4 0), .int 0, .null, .null, vI (-1), vI (-1), .ref (h.length + 4 + 1), .ref (h.length + 4 + 2), .int 0]), .inl (0, (5, .inl (fun _ => 0))), .inl (0, (5, .inl (fun _ => 0))), .inr (6, [.ref (h.length + 4 + 4), .ref (h.length + 4 + 5), vI 1, vI 1]), .inl (0, (4, .inl (upd (fun _ => 0) 0 (Int32.ofInt (fI h24 4 0))))), .inl (0, (4, .inl (upd (fun _ => 0) 0 (Int32.ofInt p3))))]) (h.length + 4 + 4) = 4 := tl_aN (T := [.inr (4, [vI (fI h24 4 7), .ref r3, .ref (h.length + 4 + 3), .int 0, vI p2, .int 0, vI (-1), vI (fI h24 4 0), .int 0, .null, .null, vI (-1), vI (-1), .ref (h.length + 4 + 1), .ref (h.length + 4 + 2), .int 0]), .inl (0, (5, .inl (fun _ => 0))), .inl (0, (5, .inl (fun _ => 0))), .inr (6, [.ref (h.length + 4 + 4), .ref (h.length + 4 + 5), vI 1, vI 1]), .inl (0, (4, .inl (upd (fun _ => 0) 0 (Int32.ofInt (fI h24 4 0))))), .inl (0, (4, .inl (upd (fun _ => 0) 0 (Int32.ofInt p3))))]) (k := 4) rfl
      have n2 : aN (h ++ [.inr (4, [vI (fI h24 4 7), .ref r3, .ref (h.length + 4 + 3), .int 0, vI p2, .int 0, vI (-1), vI (fI h24 4 0), .int 0, .null, .null, vI (-1), vI (-1), .ref (h.length + 4 + 1), .ref (h.length + 4 + 2), .int 0]), .inl (0, (5, .inl (fun _ => 0))), .inl (0, (5, .inl (fun _ => 0))), .inr (6, [.ref (h.length + 4 + 4), .ref (h.length + 4 + 5), vI 1, vI 1]), .inl (0, (4, .inl (upd (fun _ => 0) 0 (Int32.ofInt (fI h24 4 0))))), .inl (0, (4, .inl (upd (fun _ => 0) 0 (Int32.ofInt p3))))]) (h.length + 4 + 5) = 4 := tl_aN (T := [.inr (4, [vI (fI h24 4 7), .ref r3, .ref (h.length + 4 + 3), .int 0, vI p2, .int 0, vI (-1), vI (fI h24 4 0), .int 0, .null, .null, vI (-1), vI (-1), .ref (h.length + 4 + 1), .ref (h.length + 4 + 2), .int 0]), .inl (0, (5, .inl (fun _ => 0))), .inl (0, (5, .inl (fun _ => 0))), .inr (6, [.ref (h.length + 4 + 4), .ref (h.length + 4 + 5), vI 1, vI 1]), .inl (0, (4, .inl (upd (fun _ => 0) 0 (Int32.ofInt (fI h24 4 0))))), .inl (0, (4, .inl (upd (fun _ => 0) 0 (Int32.ofInt p3))))]) (k := 5) rfl
      exact ⟨h.length + 4 + 4, h.length + 4 + 5, tl_fR (T := [.inr (4, [vI (fI h24 4 7), .ref r3, .ref (h.length + 4 + 3), .int 0, vI p2, .int 0, vI (-1), vI (fI h24 4 0), .int 0, .null, .null, vI (-1), vI (-1), .ref (h.length + 4 + 1), .ref (h.length + 4 + 2), .int 0]), .inl (0, (5, .inl (fun _ => 0))), .inl (0, (5, .inl (fun _ => 0))), .inr (6, [.ref (h.length + 4 + 4), .ref (h.length + 4 + 5), vI 1, vI 1]), .inl (0, (4, .inl (upd (fun _ => 0) 0 (Int32.ofInt (fI h24 4 0))))), .inl (0, (4, .inl (upd (fun _ => 0) 0 (Int32.ofInt p3))))]) (k := 3) rfl rfl, tl_fR (T := [.inr (4, [vI (fI h24 4 7), .ref r3, .ref (h.length + 4 + 3), .int 0, vI p2, .int 0, vI (-1), vI (fI h24 4 0), .int 0, .null, .null, vI (-1), vI (-1), .ref (h.length + 4 + 1), .ref (h.length + 4 + 2), .int 0]), .inl (0, (5, .inl (fun _ => 0))), .inl (0, (5, .inl (fun _ => 0))), .inr (6, [.ref (h.length + 4 + 4), .ref (h.length + 4 + 5), vI 1, vI 1]), .inl (0, (4, .inl (upd (fun _ => 0) 0 (Int32.ofInt (fI h24 4 0))))), .inl (0, (4, .inl (upd (fun _ => 0) 0 (Int32.ofInt p3))))]) (k := 3) rfl rfl, ty_new (k := 4) hT rfl, ty_new (k := 5) hT rfl, by rw [f2, n1]; decide, by rw [n1, n2], by rw [f2, r4]; omega⟩
    | 4, hk => cases hk
    | 5, hk => cases hk
    | k + 6, hk => cases hk
  have iv45 : I2 (τ ++ [10, 114, 115, 11, 116, 117]) h36 := by rw [eh37]; exact I2_app0 pre1 hT rfl
  refine st_aast c126_74 hT38 (tf hT38 rfl rfl) ay_16 t42 rfl fd_10_0 rfl (by omega) hE Stb_T hF39 (by decide +kernel) (fun h46 hT47 hF48 hU49 => ?_)
  refine st_aload c126_75 rfl ?_
  refine st_dup c126_76 rfl ?_
  refine st_getI c126_77 hT47 (tf hT47 rfl rfl) fd_1_7 (fun e50 e51 => ?_)
  have q52 : fI h46 4 7 = fI h 4 7 := (OUp_fI hU49).trans (Fr_fI hX40 (tf hT rfl rfl) rfl)
  refine st_dup_x1 c126_80 rfl rfl ?_
  refine st_iconst c126_81 ?_
  refine st_iadd c126_82 ?_
  refine st_putI c126_83 hT47 (tf hT47 rfl rfl) fd_1_7 (by omega) (by omega) hE Stb_T hF48 (by decide +kernel) (fun h53 hT54 hF55 hU56 => ?_)
  refine st_ireturn c126_86 ?_
  exact hQ _ _ ⟨fI h46 4 7, rfl, by omega, _, ⟨[10, 114, 115, 11, 116, 117], rfl, rfl⟩, hT54, hF55, (I1_fr (I1_fr iv43 hT38 (OUp_1 hU49 (tf hT38 rfl rfl)) (by decide +kernel)) hT47 (FUp_1 hU56 (tf hT47 rfl rfl)) (by decide +kernel)), (I2_fr (I2_fr iv45 (OUp_1 hU49 (tf hT38 rfl rfl)) (by decide +kernel)) (FUp_1 hU56 (tf hT47 rfl rfl)) (by decide +kernel))⟩
  refine st_iconst c126_44 ?_
  refine st_ireturn c126_46 ?_
  exact hQ _ _ ⟨(-3), rfl, by omega, _, ⟨[], (List.append_nil τ).symm, rfl⟩, hT, hF, pre0, pre1⟩
def W136 : List (Nat × Nat) := [(1, 12), (12, 6), (12, 7), (12, 8), (19, 0)]
set_option maxHeartbeats 0 in
theorem K136 {Ln : Nat} {xs : Nat → Int32} {τ : List Nat} {h : List mE} (hT : TH Tr τ h) (p1 : Int) (hp1 : (-2147483648) ≤ p1 ∧ p1 ≤ 2147483647) (p2 : Int) (hp2 : (-2147483648) ≤ p2 ∧ p2 ≤ 2147483647) (p3 : Int) (hp3 : (-2147483648) ≤ p3 ∧ p3 ≤ 2147483647) (p4 : Int) (hp4 : (-2147483648) ≤ p4 ∧ p4 ≤ 2147483647) (p5 : Int) (hp5 : (-2147483648) ≤ p5 ∧ p5 ≤ 2147483647) (pre0 : I1 τ h) (pre1 : I2 τ h) (d : Nat) (hd : 3 ≤ d) (Q : Option Value → List mE → Prop) (hQ : ∀ v h', (∃ z : Int, v = some (vI z) ∧ ((-3) ≤ z ∧ z ≤ 99) ∧ ∃ τ' : List Nat, (∃ ts : List Nat, τ' = τ ++ ts ∧ gsT ts = true) ∧ TH Tr τ' h' ∧ Fr τ W136 h h' ∧ I1 τ' h' ∧ I2 τ' h') → Q v h') : MR (mex Ln xs) d 136 0 [some (.ref 4), some (vI p1), some (vI p2), some (vI p3), some (vI p4), some (vI p5), none, none, none] [] h Q := by
  have hF := Fr_rf τ W136 h
  have hE := Ext_rf τ
  refine st_aload c136_0 rfl ?_
  refine st_iload c136_1 rfl ?_
  refine st_callt (as := [vI p2]) c136_2 cm_168 hT (tf hT rfl rfl) fd_1_0 rfl rfl rfl rfl (by omega) (K168 hT p2 (by omega) (d - 1) (by omega) _ (fun v h0 H => H)) (fun v1 h1 H => ?_)
  rcases H with ⟨rfl, rfl⟩ | ⟨r3, rfl, t4, pf1, pf2, rfl⟩
  refine st_astoreN (L' := [some (.ref 4), some (vI p1), some (vI p2), some (vI p3), some (vI p4), some (vI p5), some .null, none, none]) c136_5 rfl rfl ?_
  refine st_aloadN c136_7 rfl ?_
  refine st_ifnullN c136_9 ?_
  refine st_iconst c136_60 ?_
  refine st_istore (L' := [some (.ref 4), some (vI p1), some (vI p2), some (vI p3), some (vI p4), some (vI p5), some .null, some (vI 0), none]) c136_61 rfl rfl ?_
  refine st_iload c136_63 rfl ?_
  refine st_if_ne c136_65 (by omega) (fun k5 => False.elim (by omega)) (fun k6 => ?_)
  refine st_iconst c136_68 ?_
  refine st_ireturn c136_69 ?_
  exact hQ _ _ ⟨(-1), rfl, by omega, _, ⟨[], (List.append_nil τ).symm, rfl⟩, hT, hF, pre0, pre1⟩
  refine st_astore (L' := [some (.ref 4), some (vI p1), some (vI p2), some (vI p3), some (vI p4), some (vI p5), some (.ref r3), none, none]) c136_5 rfl rfl ?_
  refine st_aload c136_7 rfl ?_
  refine st_ifnullR c136_9 ?_
  refine st_aload c136_12 rfl ?_
  refine st_iload c136_13 rfl ?_
  have e7 := fI_bd (q := 4) hT (tf hT rfl rfl) fd_1_10
  refine st_callt (as := [vI p1]) c136_14 cm_171 hT (tf hT rfl rfl) fd_1_0 rfl rfl rfl rfl (by omega) (K171 hT p1 (by omega) (d - 1) (by omega) _ (fun v h0 H => H)) (fun v1 h1 H => ?_)
  rcases H with ⟨rfl, rfl⟩ | ⟨rfl, pf8, pf9, rfl⟩
  refine st_if_eq c136_17 (by omega) (fun k10 => ?_) (fun k11 => False.elim (by omega))
  refine st_iconst c136_60 ?_
  refine st_istore (L' := [some (.ref 4), some (vI p1), some (vI p2), some (vI p3), some (vI p4), some (vI p5), some (.ref r3), some (vI 0), none]) c136_61 rfl rfl ?_
  refine st_iload c136_63 rfl ?_
  refine st_if_ne c136_65 (by omega) (fun k12 => False.elim (by omega)) (fun k13 => ?_)
  refine st_iconst c136_68 ?_
  refine st_ireturn c136_69 ?_
  exact hQ _ _ ⟨(-1), rfl, by omega, _, ⟨[], (List.append_nil τ).symm, rfl⟩, hT, hF, pre0, pre1⟩
  refine st_if_eq c136_17 (by omega) (fun k14 => False.elim (by omega)) (fun k15 => ?_)
  refine st_iload c136_20 rfl ?_
  refine st_aload c136_21 rfl ?_
  refine st_getI c136_22 hT (tf hT rfl rfl) fd_1_0 (fun e16 e17 => ?_)
  refine st_iconst c136_25 ?_
  refine st_calls (as := [vI p3, vI (fI h 4 0), vI 23999]) c136_28 cm_166 rfl rfl rfl rfl (by omega) (K166 hT p3 (by omega) (fI h 4 0) (by omega) 23999 (by omega) (d - 1) (by omega) _ (fun v h0 H => H)) (fun v1 h1 H => ?_)
  rcases H with ⟨rfl, rfl⟩ | ⟨rfl, pf18, pf19, rfl⟩
  refine st_if_eq c136_31 (by omega) (fun k20 => ?_) (fun k21 => False.elim (by omega))
  refine st_iconst c136_60 ?_
  refine st_istore (L' := [some (.ref 4), some (vI p1), some (vI p2), some (vI p3), some (vI p4), some (vI p5), some (.ref r3), some (vI 0), none]) c136_61 rfl rfl ?_
  refine st_iload c136_63 rfl ?_
  refine st_if_ne c136_65 (by omega) (fun k22 => False.elim (by omega)) (fun k23 => ?_)
  refine st_iconst c136_68 ?_
  refine st_ireturn c136_69 ?_
  exact hQ _ _ ⟨(-1), rfl, by omega, _, ⟨[], (List.append_nil τ).symm, rfl⟩, hT, hF, pre0, pre1⟩
  refine st_if_eq c136_31 (by omega) (fun k24 => False.elim (by omega)) (fun k25 => ?_)
  refine st_iload c136_34 rfl ?_
  refine st_iconst c136_36 ?_
  refine st_iconst c136_37 ?_
  refine st_calls (as := [vI p4, vI 1, vI 60]) c136_39 cm_166 rfl rfl rfl rfl (by omega) (K166 hT p4 (by omega) 1 (by omega) 60 (by omega) (d - 1) (by omega) _ (fun v h0 H => H)) (fun v1 h1 H => ?_)
  rcases H with ⟨rfl, rfl⟩ | ⟨rfl, pf26, pf27, rfl⟩
  refine st_if_eq c136_42 (by omega) (fun k28 => ?_) (fun k29 => False.elim (by omega))
  refine st_iconst c136_60 ?_
  refine st_istore (L' := [some (.ref 4), some (vI p1), some (vI p2), some (vI p3), some (vI p4), some (vI p5), some (.ref r3), some (vI 0), none]) c136_61 rfl rfl ?_
  refine st_iload c136_63 rfl ?_
  refine st_if_ne c136_65 (by omega) (fun k30 => False.elim (by omega)) (fun k31 => ?_)
  refine st_iconst c136_68 ?_
  refine st_ireturn c136_69 ?_
  exact hQ _ _ ⟨(-1), rfl, by omega, _, ⟨[], (List.append_nil τ).symm, rfl⟩, hT, hF, pre0, pre1⟩
  refine st_if_eq c136_42 (by omega) (fun k32 => False.elim (by omega)) (fun k33 => ?_)
  refine st_iload c136_45 rfl ?_
  refine st_iconst c136_47 ?_
  refine st_iconst c136_48 ?_
  refine st_calls (as := [vI p5, vI 1, vI 24]) c136_50 cm_166 rfl rfl rfl rfl (by omega) (K166 hT p5 (by omega) 1 (by omega) 24 (by omega) (d - 1) (by omega) _ (fun v h0 H => H)) (fun v1 h1 H => ?_)
  rcases H with ⟨rfl, rfl⟩ | ⟨rfl, pf34, pf35, rfl⟩
  refine st_if_eq c136_53 (by omega) (fun k36 => ?_) (fun k37 => False.elim (by omega))
  refine st_iconst c136_60 ?_
  refine st_istore (L' := [some (.ref 4), some (vI p1), some (vI p2), some (vI p3), some (vI p4), some (vI p5), some (.ref r3), some (vI 0), none]) c136_61 rfl rfl ?_
  refine st_iload c136_63 rfl ?_
  refine st_if_ne c136_65 (by omega) (fun k38 => False.elim (by omega)) (fun k39 => ?_)
  refine st_iconst c136_68 ?_
  refine st_ireturn c136_69 ?_
  exact hQ _ _ ⟨(-1), rfl, by omega, _, ⟨[], (List.append_nil τ).symm, rfl⟩, hT, hF, pre0, pre1⟩
  refine st_if_eq c136_53 (by omega) (fun k40 => False.elim (by omega)) (fun k41 => ?_)
  refine st_iconst c136_56 ?_
  refine st_goto c136_57 ?_
  refine st_istore (L' := [some (.ref 4), some (vI p1), some (vI p2), some (vI p3), some (vI p4), some (vI p5), some (.ref r3), some (vI 1), none]) c136_61 rfl rfl ?_
  refine st_iload c136_63 rfl ?_
  refine st_if_ne c136_65 (by omega) (fun k42 => ?_) (fun k43 => False.elim (by omega))
  refine st_aload c136_70 rfl ?_
  refine st_getI c136_71 hT (tf hT rfl rfl) fd_1_12 (fun e44 e45 => ?_)
  refine st_iconst c136_74 ?_
  refine st_icmp_lt c136_76 (by omega) (by omega) (fun k46 => ?_) (fun k47 => ?_)
  refine tl_new (fs := [.int 0, .int 0, .int 0, .int 0, .int 0, .null, .int 0, .int 0, .int 0, .int 0, .null, .int 0, .int 0, .null, .null, .null]) c136_82 rfl rfl ?_
  obtain ⟨h48, eh49⟩ : ∃ x, x = h ++ [.inr (7, [.int 0, .int 0, .int 0, .int 0, .int 0, .null, .int 0, .int 0, .int 0, .int 0, .null, .int 0, .int 0, .null, .null, .null])] := ⟨_, rfl⟩
  rw [← eh49]
  have hT50 : TH Tr (τ ++ [0]) h48 := by rw [eh49]; exact TH_raw hT
  have hX52 : Fr τ [] h h48 := by rw [eh49]; exact Fr_app hT
  have hF51 : Fr τ W136 h h48 := Fr_tr hF (by rw [eh49]; exact Fr_app hT)
  refine st_dup c136_85 rfl ?_
  refine st_aload c136_86 rfl ?_
  refine st_getI c136_87 hT50 (tf hT50 rfl rfl) fd_1_12 (fun e53 e54 => ?_)
  have q55 : fI h48 4 12 = fI h 4 12 := Fr_fI hX52 (tf hT rfl rfl) rfl
  refine st_aload c136_90 rfl ?_
  refine st_iload c136_92 rfl ?_
  refine st_iload c136_93 rfl ?_
  refine st_iload c136_95 rfl ?_
  refine st_aload c136_97 rfl ?_
  refine st_getI c136_98 hT50 (tf hT50 rfl rfl) fd_1_0 (fun e56 e57 => ?_)
  have q58 : fI h48 4 0 = fI h 4 0 := Fr_fI hX52 (tf hT rfl rfl) rfl
  have ct59 := KI66 (X := mex Ln xs) (h := h) (fI h48 4 12) r3 p3 p4 p5 (fI h48 4 0) (d - 1) (by omega)
  rw [← eh49] at ct59
  refine st_callp (as := [vI (fI h48 4 12), .ref r3, vI p3, vI p4, vI p5, vI (fI h48 4 0)]) c136_101 cm_66 rfl rfl rfl rfl (by omega) ct59 (fun v1 h1 H => ?_)
  obtain ⟨rfl, rfl⟩ := H
  obtain ⟨h60, eh61⟩ : ∃ x, x = h ++ [.inr (7, [vI (fI h48 4 12), vI p3, vI p4, vI p5, vI (fI h48 4 0), .ref r3, .int 0, .int 0, .int 0, .int 0, .null, vI (-1), vI (-1), .ref (h.length + 4 + 1), .ref (h.length + 4 + 2), .ref (h.length + 4 + 3)]), .inl (1, (60, .inl (fun _ => 0))), .inl (0, (2, .inl (upd (upd (fun _ => 0) 0 (Int32.ofInt (-1))) 1 (Int32.ofInt (-1))))), .inl (0, (2, .inl (upd (upd (fun _ => 0) 0 (Int32.ofInt (-1))) 1 (Int32.ofInt (-1)))))] := ⟨_, rfl⟩
  rw [← eh61]
  have hT62 : TH Tr (τ ++ [12, 118, 119, 120]) h60 := by
    rw [eh61]
    exact TH_app hT rfl (fun i t e h1 h2 => match i, h1, h2 with
        | 0, h1, h2 => by cases h1; cases h2; exact okC_o (fts := [(0, (-2147483648), 2147483647), (0, (-2147483648), 2147483647), (0, (-2147483648), 2147483647), (0, (-2147483648), 2147483647), (0, (-2147483648), 2147483647), (2, 9, 0), (0, (-2147483648), 2147483647), (0, (-2147483648), 2147483647), (0, (-2147483648), 2147483647), (0, (-2147483648), 2147483647), (3, 10, 0), (0, (-2147483648), 2147483647), (0, (-2147483648), 2147483647), (2, 118, 0), (2, 119, 0), (2, 120, 0)]) rfl (fun kk ft vv b1 b2 => match kk, b1, b2 with | 0, b1, b2 => by cases b1; cases b2; exact okV_i (by omega) (by omega) | 1, b1, b2 => by cases b1; cases b2; exact okV_i (by omega) (by omega) | 2, b1, b2 => by cases b1; cases b2; exact okV_i (by omega) (by omega) | 3, b1, b2 => by cases b1; cases b2; exact okV_i (by omega) (by omega) | 4, b1, b2 => by cases b1; cases b2; exact okV_i (by omega) (by omega) | 5, b1, b2 => by cases b1; cases b2; exact ⟨_, rfl, (Ext_ty Ext_app t4)⟩ | 6, b1, b2 => by cases b1; cases b2; exact okV_0 (by decide) | 7, b1, b2 => by cases b1; cases b2; exact okV_0 (by decide) | 8, b1, b2 => by cases b1; cases b2; exact okV_0 (by decide) | 9, b1, b2 => by cases b1; cases b2; exact okV_0 (by decide) | 10, b1, b2 => by cases b1; cases b2; exact Or.inl rfl | 11, b1, b2 => by cases b1; cases b2; exact okV_i (by omega) (by omega) | 12, b1, b2 => by cases b1; cases b2; exact okV_i (by omega) (by omega) | 13, b1, b2 => by cases b1; cases b2; exact ⟨_, rfl, ty_new (k := 1) hT rfl⟩ | 14, b1, b2 => by cases b1; cases b2; exact ⟨_, rfl, ty_new (k := 2) hT rfl⟩ | 15, b1, b2 => by cases b1; cases b2; exact ⟨_, rfl, ty_new (k := 3) hT rfl⟩ | n + 16, b1, b2 => by cases b1)
        | 1, h1, h2 => by cases h1; cases h2; exact okC_i (lo := 0) (hi := 1) (by omega) (by omega) ok_zero
        | 2, h1, h2 => by cases h1; cases h2; exact okC_i (lo := (-2147483648)) (hi := 2147483647) (by omega) (by omega) ok_full
        | 3, h1, h2 => by cases h1; cases h2; exact okC_i (lo := (-2147483648)) (hi := 2147483647) (by omega) (by omega) ok_full
        | n + 4, h1, h2 => by cases h1)
  have hX64 : Fr τ [] h h60 := by rw [eh61]; exact Fr_app hT
  have hF63 : Fr τ W136 h h60 := Fr_tr hF (by rw [eh61]; exact Fr_app hT)
  have hE := Ext_app (τ := τ) (ts := [12, 118, 119, 120])
  have t66 : ty (τ ++ [12, 118, 119, 120]) (h.length + 4) 12 := ty_new (k := 0) hT rfl
  have iv67 : I1 (τ ++ [12, 118, 119, 120]) h60 := by rw [eh61]; exact I1_app0 pre0 hT rfl
  have iv68 : I2 (τ ++ [12, 118, 119, 120]) h60 := by rw [eh61]; exact I2_app0 pre1 hT rfl
  refine st_astore (L' := [some (.ref 4), some (vI p1), some (vI p2), some (vI p3), some (vI p4), some (vI p5), some (.ref r3), some (vI 1), some (.ref (h.length + 4))]) c136_104 rfl rfl ?_
  refine st_aload c136_106 rfl ?_
  refine st_iload c136_108 rfl ?_
  refine st_putI c136_109 hT62 t66 fd_12_6 (by omega) (by omega) hE Stb_T hF63 (by decide +kernel) (fun h69 hT70 hF71 hU72 => ?_)
  refine st_aload c136_112 rfl ?_
  refine st_aload c136_114 rfl ?_
  refine st_getX (u := 36) c136_115 hT70 (tf hT70 rfl rfl) fd_1_8 rfl ?_
  refine st_iload c136_118 rfl ?_
  refine st_iald c136_119 hT70 (tf hT70 rfl rfl) ay_17 (by omega) (fun e73 e74 => ?_)
  have q75 : aI h69 36 p1 = aI h 36 p1 := (FUp_aI hU72 p1).trans (Fr_aI hX64 (tf hT rfl rfl) rfl p1)
  refine st_putI c136_120 hT70 t66 fd_12_7 (by omega) (by omega) hE Stb_T hF71 (by decide +kernel) (fun h76 hT77 hF78 hU79 => ?_)
  refine st_aload c136_123 rfl ?_
  refine st_aload c136_125 rfl ?_
  refine st_getX (u := 37) c136_126 hT77 (tf hT77 rfl rfl) fd_1_9 rfl ?_
  refine st_iload c136_129 rfl ?_
  refine st_iald c136_130 hT77 (tf hT77 rfl rfl) ay_18 (by omega) (fun e80 e81 => ?_)
  have q82 : aI h76 37 p1 = aI h 37 p1 := (FUp_aI hU79 p1).trans ((FUp_aI hU72 p1).trans (Fr_aI hX64 (tf hT rfl rfl) rfl p1))
  refine st_putI c136_131 hT77 t66 fd_12_8 (by omega) (by omega) hE Stb_T hF78 (by decide +kernel) (fun h83 hT84 hF85 hU86 => ?_)
  refine st_aload c136_134 rfl ?_
  refine st_getX (u := 38) c136_135 hT84 (tf hT84 rfl rfl) fd_1_11 rfl ?_
  refine st_aload c136_138 rfl ?_
  refine st_getI c136_139 hT84 (tf hT84 rfl rfl) fd_1_12 (fun e87 e88 => ?_)
  have q89 : fI h83 4 12 = fI h 4 12 := (FUp_fIne hU86 (fun z => absurd z.2 (by decide))).trans ((FUp_fIne hU79 (fun z => absurd z.2 (by decide))).trans ((FUp_fIne hU72 (fun z => absurd z.2 (by decide))).trans (Fr_fI hX64 (tf hT rfl rfl) rfl)))
  refine st_aload c136_142 rfl ?_
  refine st_aast c136_144 hT84 (tf hT84 rfl rfl) ay_19 t66 rfl fd_12_0 rfl (by omega) hE Stb_T hF85 (by decide +kernel) (fun h90 hT91 hF92 hU93 => ?_)
  refine st_aload c136_145 rfl ?_
  refine st_dup c136_146 rfl ?_
  refine st_getI c136_147 hT91 (tf hT91 rfl rfl) fd_1_12 (fun e94 e95 => ?_)
  have q96 : fI h90 4 12 = fI h83 4 12 := OUp_fI hU93
  refine st_dup_x1 c136_150 rfl rfl ?_
  refine st_iconst c136_151 ?_
  refine st_iadd c136_152 ?_
  refine st_putI c136_153 hT91 (tf hT91 rfl rfl) fd_1_12 (by omega) (by omega) hE Stb_T hF92 (by decide +kernel) (fun h97 hT98 hF99 hU100 => ?_)
  refine st_ireturn c136_156 ?_
  exact hQ _ _ ⟨fI h90 4 12, rfl, by omega, _, ⟨[12, 118, 119, 120], rfl, rfl⟩, hT98, hF99, (I1_fr (I1_fr (I1_fr (I1_fr (I1_fr iv67 hT62 (FUp_1 hU72 t66) (by decide +kernel)) hT70 (FUp_1 hU79 t66) (by decide +kernel)) hT77 (FUp_1 hU86 t66) (by decide +kernel)) hT84 (OUp_1 hU93 (tf hT84 rfl rfl)) (by decide +kernel)) hT91 (FUp_1 hU100 (tf hT91 rfl rfl)) (by decide +kernel)), (I2_fr (I2_fr (I2_fr (I2_fr (I2_fr iv68 (FUp_1 hU72 t66) (by decide +kernel)) (FUp_1 hU79 t66) (by decide +kernel)) (FUp_1 hU86 t66) (by decide +kernel)) (OUp_1 hU93 (tf hT84 rfl rfl)) (by decide +kernel)) (FUp_1 hU100 (tf hT91 rfl rfl)) (by decide +kernel))⟩
  refine st_iconst c136_79 ?_
  refine st_ireturn c136_81 ?_
  exact hQ _ _ ⟨(-3), rfl, by omega, _, ⟨[], (List.append_nil τ).symm, rfl⟩, hT, hF, pre0, pre1⟩
def W153 : List (Nat × Nat) := [(6, 1), (6, 5), (6, 6), (6, 7), (6, 9), (7, 1), (36, 0), (37, 0), (38, 0), (39, 0), (40, 0)]
set_option maxHeartbeats 0 in
theorem K153 {Ln : Nat} {xs : Nat → Int32} {τ : List Nat} {h : List mE} (hT : TH Tr τ h) (p1 : Int) (hp1 : (-2147483648) ≤ p1 ∧ p1 ≤ 2147483647) (p2 : Int) (hp2 : (-2147483648) ≤ p2 ∧ p2 ≤ 2147483647) (pre0 : I1 τ h) (pre1 : I2 τ h) (d : Nat) (hd : 88 ≤ d) (Q : Option Value → List mE → Prop) (hQ : ∀ v h', (∃ z : Int, v = some (vI z) ∧ ((-2147483648) ≤ z ∧ z ≤ 2147483647) ∧ ∃ τ' : List Nat, (∃ ts : List Nat, τ' = τ ++ ts ∧ gsT ts = true) ∧ TH Tr τ' h' ∧ Fr τ W153 h h' ∧ I1 τ' h' ∧ I2 τ' h') → Q v h') : MR (mex Ln xs) d 153 0 [some (.ref 4), some (vI p1), some (vI p2), none] [] h Q := by
  have hF := Fr_rf τ W153 h
  have hE := Ext_rf τ
  refine st_iload c153_0 rfl ?_
  refine st_calls (as := [vI p1]) c153_1 cm_167 rfl rfl rfl rfl (by omega) (K167 hT p1 (by omega) (d - 1) (by omega) _ (fun v h0 H => H)) (fun v1 h1 H => ?_)
  rcases H with ⟨rfl, pf1, rfl⟩ | ⟨rfl, pf2, pf3, rfl⟩
  refine st_if_eq c153_4 (by omega) (fun k4 => ?_) (fun k5 => False.elim (by omega))
  refine st_iconst c153_18 ?_
  refine st_ireturn c153_19 ?_
  exact hQ _ _ ⟨(-1), rfl, by omega, _, ⟨[], (List.append_nil τ).symm, rfl⟩, hT, hF, pre0, pre1⟩
  refine st_if_eq c153_4 (by omega) (fun k6 => False.elim (by omega)) (fun k7 => ?_)
  refine st_iload c153_7 rfl ?_
  refine st_iconst c153_8 ?_
  refine st_iconst c153_9 ?_
  refine st_calls (as := [vI p2, vI 0, vI 999]) c153_12 cm_166 rfl rfl rfl rfl (by omega) (K166 hT p2 (by omega) 0 (by omega) 999 (by omega) (d - 1) (by omega) _ (fun v h0 H => H)) (fun v1 h1 H => ?_)
  rcases H with ⟨rfl, rfl⟩ | ⟨rfl, pf8, pf9, rfl⟩
  refine st_if_ne c153_15 (by omega) (fun k10 => False.elim (by omega)) (fun k11 => ?_)
  refine st_iconst c153_18 ?_
  refine st_ireturn c153_19 ?_
  exact hQ _ _ ⟨(-1), rfl, by omega, _, ⟨[], (List.append_nil τ).symm, rfl⟩, hT, hF, pre0, pre1⟩
  refine st_if_ne c153_15 (by omega) (fun k12 => ?_) (fun k13 => False.elim (by omega))
  refine st_aload c153_20 rfl ?_
  refine st_getX (u := 60) c153_21 hT (tf hT rfl rfl) fd_1_17 rfl ?_
  have e14 := fI_bd (q := 60) hT (tf hT rfl rfl) fd_7_1
  refine st_callt (as := []) c153_24 cm_1 hT (tf hT rfl rfl) fd_7_0 rfl rfl rfl rfl (by omega) (K1 hT (d - 1) (by omega) _ (fun v h0 H => H)) (fun v1 h1 H => ?_)
  rcases H with ⟨rfl, pf15, rfl⟩ | ⟨rfl, rfl⟩
  refine st_if_eq c153_27 (by omega) (fun k16 => ?_) (fun k17 => False.elim (by omega))
  refine st_aload c153_33 rfl ?_
  refine st_getX (u := 54) c153_34 hT (tf hT rfl rfl) fd_1_16 rfl ?_
  refine st_callt (as := []) c153_37 cm_94 hT (tf hT rfl rfl) fd_6_0 rfl rfl rfl rfl (by omega) (K94 hT Stb_T (d - 1) (by omega) _ (fun v h0 H => H)) (fun v1 h18 H => ?_)
  obtain ⟨z22, rfl, b23, pf21, hT19, hF20⟩ := H
  have hF24 := Fr_cp hF hF20 (by decide +kernel : Wsub W94 W153 = true)
  refine st_istore (L' := [some (.ref 4), some (vI p1), some (vI p2), some (vI z22)]) c153_40 rfl rfl ?_
  refine st_aload c153_41 rfl ?_
  refine st_getX (u := 54) c153_42 hT19 (tf hT19 rfl rfl) fd_1_16 rfl ?_
  refine st_iconst c153_45 ?_
  refine st_putI c153_46 hT19 (tf hT19 rfl rfl) fd_6_1 (by omega) (by omega) hE Stb_T hF24 (by decide +kernel) (fun h25 hT26 hF27 hU28 => ?_)
  refine st_iload c153_49 rfl ?_
  refine st_if_lt c153_50 (by omega) (fun k29 => ?_) (fun k30 => ?_)
  refine st_aload c153_58 rfl ?_
  refine st_getX (u := 60) c153_59 hT26 (tf hT26 rfl rfl) fd_1_17 rfl ?_
  refine tl_new (fs := [.int 0, .int 0, .int 0, .null]) c153_62 rfl rfl ?_
  obtain ⟨h31, eh32⟩ : ∃ x, x = h25 ++ [.inr (10, [.int 0, .int 0, .int 0, .null])] := ⟨_, rfl⟩
  rw [← eh32]
  have hT33 : TH Tr (τ ++ [0]) h31 := by rw [eh32]; exact TH_raw hT26
  have hX35 : Fr τ [] h25 h31 := by rw [eh32]; exact Fr_app hT26
  have hF34 : Fr τ W153 h h31 := Fr_tr hF27 (by rw [eh32]; exact Fr_app hT26)
  refine st_dup c153_65 rfl ?_
  refine st_iload c153_66 rfl ?_
  refine st_iload c153_67 rfl ?_
  refine st_aload c153_68 rfl ?_
  refine st_getI c153_69 hT33 (tf hT33 rfl rfl) fd_1_0 (fun e36 e37 => ?_)
  have q38 : fI h31 4 0 = fI h 4 0 := (Fr_fI hX35 (tf hT26 rfl rfl) rfl).trans ((FUp_fIne hU28 (fun z => absurd z.2 (by decide))).trans (Fr_fI hF20 (tf hT rfl rfl) (by decide +kernel)))
  refine st_iconst c153_72 ?_
  refine st_idivp c153_74 (by omega) (by omega) ?_
  refine st_aload c153_75 rfl ?_
  refine st_getX (u := 54) c153_76 hT33 (tf hT33 rfl rfl) fd_1_16 rfl ?_
  have e43 := fI_bd (q := 54) hT33 (tf hT33 rfl rfl) fd_6_9
  have q44 : fI h31 54 9 = fI h18 54 9 := (Fr_fI hX35 (tf hT26 rfl rfl) rfl).trans (FUp_fIne hU28 (fun z => absurd z.2 (by decide)))
  refine st_callt8 (as := []) c153_79 cm_95 hT33 (tf hT33 rfl rfl) fd_6_0 rfl (Nat.le_of_ble_eq_true rfl) rfl rfl (by omega) (K95 hT33 (d - 1) (by omega)) (fun v1 h1 H => ?_)
  obtain ⟨n39, g40, e41, rfl, rfl, e42⟩ := H
  rw [show (h31 ++ [(.inl (0, (n39, .inl g40)) : mE)]) = h25 ++ [.inr (10, [.int 0, .int 0, .int 0, .null]), .inl (0, (n39, .inl g40))] from (by rw [eh32, List.append_assoc]; try rfl), show h31.length + 4 = h25.length + 4 + 1 from (by rw [eh32, List.length_append, List.length_singleton]; try omega)]
  have ct45 := KI112 (X := mex Ln xs) (h := h25) (e0 := .inl (0, (n39, .inl g40))) p1 p2 ((fI h31 4 0) / 24) (h25.length + 4 + 1) (d - 1) (by omega)
  refine st_callp (as := [vI p1, vI p2, vI ((fI h31 4 0) / 24), .ref (h25.length + 4 + 1)]) c153_82 cm_112 rfl rfl rfl rfl (by omega) ct45 (fun v1 h1 H => ?_)
  obtain ⟨rfl, rfl⟩ := H
  obtain ⟨h46, eh47⟩ : ∃ x, x = h25 ++ [.inr (10, [vI p1, vI p2, vI ((fI h31 4 0) / 24), .ref (h25.length + 4 + 1)]), .inl (0, (n39, .inl g40))] := ⟨_, rfl⟩
  rw [← eh47]
  have hT48 : TH Tr (τ ++ [13, 121]) h46 := by
    rw [eh47]
    exact TH_app hT26 rfl (fun i t e h1 h2 => match i, h1, h2 with
        | 0, h1, h2 => by cases h1; cases h2; exact okC_o (fts := [(0, (-2147483648), 2147483647), (0, (-2147483648), 2147483647), (0, (-2147483648), 2147483647), (2, 121, 0)]) rfl (fun kk ft vv b1 b2 => match kk, b1, b2 with | 0, b1, b2 => by cases b1; cases b2; exact okV_i (by omega) (by omega) | 1, b1, b2 => by cases b1; cases b2; exact okV_i (by omega) (by omega) | 2, b1, b2 => by cases b1; cases b2; exact okV_i (by omega) (by omega) | 3, b1, b2 => by cases b1; cases b2; exact ⟨_, rfl, ty_new (k := 1) hT26 rfl⟩ | n + 4, b1, b2 => by cases b1)
        | 1, h1, h2 => by cases h1; cases h2; exact okC_i (lo := (-2147483648)) (hi := 2147483647) (by omega) (by omega) ok_full
        | n + 2, h1, h2 => by cases h1)
  have hX50 : Fr τ [] h25 h46 := by rw [eh47]; exact Fr_app hT26
  have hF49 : Fr τ W153 h h46 := Fr_tr hF27 (by rw [eh47]; exact Fr_app hT26)
  have hE := Ext_app (τ := τ) (ts := [13, 121])
  have t52 : ty (τ ++ [13, 121]) (h25.length + 4) 13 := ty_new (k := 0) hT26 rfl
  have iv53 : I1 (τ ++ [13, 121]) h46 := by rw [eh47]; exact I1_app0 (I1_fr (I1_fr pre0 hT hF20 (by decide +kernel)) hT19 (FUp_1 hU28 (tf hT19 rfl rfl)) (by decide +kernel)) hT26 rfl
  have e55 := fI_bd (q := 54) hT26 (tf hT26 rfl rfl) fd_6_9
  have q56 : fI h25 54 9 = fI h18 54 9 := FUp_fIne hU28 (fun z => absurd z.2 (by decide))
  have iv54 : I2 (τ ++ [13, 121]) h46 := by
    rw [eh47]
    refine I2_app (I2_fr (I2_fr pre1 hF20 (by decide +kernel)) (FUp_1 hU28 (tf hT19 rfl rfl)) (by decide +kernel)) hT26 (fun k hk => ?_)
    match k, hk with
    | 0, hk =>
      have n1 : aN (h25 ++ [.inr (10, [vI p1, vI p2, vI ((fI h31 4 0) / 24), .ref (h25.length + 4 + 1)]), .inl (0, (n39, .inl g40))]) (h25.length + 4 + 1) = n39 := tl_aN (T := [.inr (10, [vI p1, vI p2, vI ((fI h31 4 0) / 24), .ref (h25.length + 4 + 1)]), .inl (0, (n39, .inl g40))]) (k := 1) rfl
      refine ⟨h25.length + 4 + 1, tl_fR (T := [.inr (10, [vI p1, vI p2, vI ((fI h31 4 0) / 24), .ref (h25.length + 4 + 1)]), .inl (0, (n39, .inl g40))]) (k := 0) rfl rfl, ty_new (k := 1) hT26 rfl, ?_⟩
      refine Ch_of (I7_fr pf21 hT19 (FUp_1 hU28 (tf hT19 rfl rfl)) (by decide +kernel)) (by rw [n1]; omega) (fun j b1 b2 => ?_)
      rw [n1] at b2
      have a1 : aI (h25 ++ [.inr (10, [vI p1, vI p2, vI ((fI h31 4 0) / 24), .ref (h25.length + 4 + 1)]), .inl (0, (n39, .inl g40))]) (h25.length + 4 + 1) j = (g40 j.toNat).toInt := tl_aI (T := [.inr (10, [vI p1, vI p2, vI ((fI h31 4 0) / 24), .ref (h25.length + 4 + 1)]), .inl (0, (n39, .inl g40))]) (k := 1) rfl
      rw [a1, e42 j.toNat (by omega)]
      exact Fr_aI hX35 (tf hT26 rfl rfl) rfl j
    | 1, hk => cases hk
    | k + 2, hk => cases hk
  refine st_callt (as := [.ref (h25.length + 4)]) c153_85 cm_3 hT48 (tf hT48 rfl rfl) fd_7_0 rfl rfl rfl rfl (by omega) (K3 hT48 Stb_T (h25.length + 4) t52 (d - 1) (by omega) _ (fun v h0 H => H)) (fun v1 h57 H => ?_)
  obtain ⟨z60, rfl, b61, hT58, hF59⟩ := H
  have hF62 := Fr_cp hF49 (Fr_dn hE hF59) (by decide +kernel : Wsub W3 W153 = true)
  refine st_ireturn c153_88 ?_
  exact hQ _ _ ⟨z60, rfl, by omega, _, ⟨[13, 121], rfl, rfl⟩, hT58, hF62, (I1_fr iv53 hT48 hF59 (by decide +kernel)), (I2_fr iv54 hF59 (by decide +kernel))⟩
  refine st_iconst c153_53 ?_
  refine st_iload c153_55 rfl ?_
  refine st_isub c153_56 ?_
  refine MR_wrap (fun w63 e64 e65 e66 => ?_)
  refine st_ireturn c153_57 ?_
  exact hQ _ _ ⟨w63, rfl, by omega, _, ⟨[], (List.append_nil τ).symm, rfl⟩, hT26, hF27, (I1_fr (I1_fr pre0 hT hF20 (by decide +kernel)) hT19 (FUp_1 hU28 (tf hT19 rfl rfl)) (by decide +kernel)), (I2_fr (I2_fr pre1 hF20 (by decide +kernel)) (FUp_1 hU28 (tf hT19 rfl rfl)) (by decide +kernel))⟩
  refine st_if_eq c153_27 (by omega) (fun k67 => False.elim (by omega)) (fun k68 => ?_)
  refine st_iconst c153_30 ?_
  refine st_ireturn c153_32 ?_
  exact hQ _ _ ⟨(-3), rfl, by omega, _, ⟨[], (List.append_nil τ).symm, rfl⟩, hT, hF, pre0, pre1⟩
