def W123 : List (Nat × Nat) := [(1, 5), (15, 0)]
set_option maxHeartbeats 0 in
theorem K123 {Ln : Nat} {xs : Nat → Int32} {τ : List Nat} {h : List mE} (hT : TH Tr τ h) (p1 : Int) (hp1 : (-2147483648) ≤ p1 ∧ p1 ≤ 2147483647) (p2 : Int) (hp2 : (-2147483648) ≤ p2 ∧ p2 ≤ 2147483647) (p3 : Int) (hp3 : (-2147483648) ≤ p3 ∧ p3 ≤ 2147483647) (p4 : Int) (hp4 : (-2147483648) ≤ p4 ∧ p4 ≤ 2147483647) (pre0 : I1 τ h) (pre1 : I2 τ h) (pre2 : I8 h) (d : Nat) (hd : 3 ≤ d) (Q : Option Value → List mE → Prop) (hQ : ∀ v h', (∃ z : Int, v = some (vI z) ∧ ((-3) ≤ z ∧ z ≤ 14) ∧ (I8 h') ∧ ((1000 ≤ p1 ∧ p1 ≤ 99999 ∧ 1 ≤ p2 ∧ p2 ≤ 9999 ∧ 0 ≤ p3 ∧ p3 ≤ 997 ∧ p3 % 10 ≤ 7 ∧ 0 ≤ p4 ∧ p4 ≤ 99999 ∧ fI h 4 5 ≤ 14 ∧ z = fI h 4 5 ∧ fI h' 4 5 = fI h 4 5 + 1) ∨ (1000 ≤ p1 ∧ p1 ≤ 99999 ∧ 1 ≤ p2 ∧ p2 ≤ 9999 ∧ 0 ≤ p3 ∧ p3 ≤ 997 ∧ p3 % 10 ≤ 7 ∧ 0 ≤ p4 ∧ p4 ≤ 99999 ∧ 15 ≤ fI h 4 5 ∧ z = -3 ∧ fI h' 4 5 = fI h 4 5) ∨ ((p1 < 1000 ∨ 99999 < p1 ∨ p2 < 1 ∨ 9999 < p2 ∨ p3 < 0 ∨ 997 < p3 ∨ 7 < p3 % 10 ∨ p4 < 0 ∨ 99999 < p4) ∧ z = -1 ∧ fI h' 4 5 = fI h 4 5)) ∧ (PTyC h h' z) ∧ ∃ τ' : List Nat, (∃ ts : List Nat, τ' = τ ++ ts ∧ gsT ts = true) ∧ TH Tr τ' h' ∧ Fr τ W123 h h' ∧ I1 τ' h' ∧ I2 τ' h') → Q v h') : MR (mex Ln xs) d 123 0 [some (.ref 4), some (vI p1), some (vI p2), some (vI p3), some (vI p4), none] [] h Q := by
  have hF := Fr_rf τ W123 h
  have hE := Ext_rf τ
  refine st_iload c123_0 rfl ?_
  refine st_iconst c123_1 ?_
  refine st_iconst c123_4 ?_
  refine st_calls (as := [vI p1, vI 1000, vI 99999]) c123_6 cm_166 rfl rfl rfl rfl (by omega) (K166 hT p1 (by omega) 1000 (by omega) 99999 (by omega) (d - 1) (by omega) _ (fun v h0 H => H)) (fun v1 h1 H => ?_)
  rcases H with ⟨rfl, pf1, rfl⟩ | ⟨rfl, pf2, pf3, rfl⟩
  refine st_if_eq c123_9 (by omega) (fun k4 => ?_) (fun k5 => False.elim (by omega))
  refine st_iconst c123_58 ?_
  refine st_istore (L' := [some (.ref 4), some (vI p1), some (vI p2), some (vI p3), some (vI p4), some (vI 0)]) c123_59 rfl rfl ?_
  refine st_iload c123_61 rfl ?_
  refine st_if_ne c123_63 (by omega) (fun k6 => False.elim (by omega)) (fun k7 => ?_)
  refine st_iconst c123_66 ?_
  refine st_ireturn c123_67 ?_
  have e8 := fI_bd (q := 4) hT (tf hT rfl rfl) fd_1_5
  exact hQ _ _ ⟨(-1), rfl, by omega, pre2, by omega, Or.inl rfl, _, ⟨[], (List.append_nil τ).symm, rfl⟩, hT, hF, pre0, pre1⟩
  refine st_if_eq c123_9 (by omega) (fun k9 => False.elim (by omega)) (fun k10 => ?_)
  refine st_iload c123_12 rfl ?_
  refine st_iconst c123_13 ?_
  refine st_iconst c123_14 ?_
  refine st_calls (as := [vI p2, vI 1, vI 9999]) c123_17 cm_166 rfl rfl rfl rfl (by omega) (K166 hT p2 (by omega) 1 (by omega) 9999 (by omega) (d - 1) (by omega) _ (fun v h0 H => H)) (fun v1 h1 H => ?_)
  rcases H with ⟨rfl, pf11, rfl⟩ | ⟨rfl, pf12, pf13, rfl⟩
  refine st_if_eq c123_20 (by omega) (fun k14 => ?_) (fun k15 => False.elim (by omega))
  refine st_iconst c123_58 ?_
  refine st_istore (L' := [some (.ref 4), some (vI p1), some (vI p2), some (vI p3), some (vI p4), some (vI 0)]) c123_59 rfl rfl ?_
  refine st_iload c123_61 rfl ?_
  refine st_if_ne c123_63 (by omega) (fun k16 => False.elim (by omega)) (fun k17 => ?_)
  refine st_iconst c123_66 ?_
  refine st_ireturn c123_67 ?_
  have e18 := fI_bd (q := 4) hT (tf hT rfl rfl) fd_1_5
  exact hQ _ _ ⟨(-1), rfl, by omega, pre2, by omega, Or.inl rfl, _, ⟨[], (List.append_nil τ).symm, rfl⟩, hT, hF, pre0, pre1⟩
  refine st_if_eq c123_20 (by omega) (fun k19 => False.elim (by omega)) (fun k20 => ?_)
  refine st_iload c123_23 rfl ?_
  refine st_iconst c123_24 ?_
  refine st_iconst c123_25 ?_
  refine st_calls (as := [vI p3, vI 0, vI 997]) c123_28 cm_166 rfl rfl rfl rfl (by omega) (K166 hT p3 (by omega) 0 (by omega) 997 (by omega) (d - 1) (by omega) _ (fun v h0 H => H)) (fun v1 h1 H => ?_)
  rcases H with ⟨rfl, pf21, rfl⟩ | ⟨rfl, pf22, pf23, rfl⟩
  refine st_if_eq c123_31 (by omega) (fun k24 => ?_) (fun k25 => False.elim (by omega))
  refine st_iconst c123_58 ?_
  refine st_istore (L' := [some (.ref 4), some (vI p1), some (vI p2), some (vI p3), some (vI p4), some (vI 0)]) c123_59 rfl rfl ?_
  refine st_iload c123_61 rfl ?_
  refine st_if_ne c123_63 (by omega) (fun k26 => False.elim (by omega)) (fun k27 => ?_)
  refine st_iconst c123_66 ?_
  refine st_ireturn c123_67 ?_
  have e28 := fI_bd (q := 4) hT (tf hT rfl rfl) fd_1_5
  exact hQ _ _ ⟨(-1), rfl, by omega, pre2, by omega, Or.inl rfl, _, ⟨[], (List.append_nil τ).symm, rfl⟩, hT, hF, pre0, pre1⟩
  refine st_if_eq c123_31 (by omega) (fun k29 => False.elim (by omega)) (fun k30 => ?_)
  refine st_iload c123_34 rfl ?_
  refine st_iconst c123_35 ?_
  refine st_iremp c123_37 (by omega) (by omega) ?_
  refine st_iconst c123_38 ?_
  refine st_icmp_gt c123_40 (by omega) (by omega) (fun k31 => ?_) (fun k32 => ?_)
  refine st_iconst c123_58 ?_
  refine st_istore (L' := [some (.ref 4), some (vI p1), some (vI p2), some (vI p3), some (vI p4), some (vI 0)]) c123_59 rfl rfl ?_
  refine st_iload c123_61 rfl ?_
  refine st_if_ne c123_63 (by omega) (fun k33 => False.elim (by omega)) (fun k34 => ?_)
  refine st_iconst c123_66 ?_
  refine st_ireturn c123_67 ?_
  have e35 := fI_bd (q := 4) hT (tf hT rfl rfl) fd_1_5
  exact hQ _ _ ⟨(-1), rfl, by omega, pre2, by omega, Or.inl rfl, _, ⟨[], (List.append_nil τ).symm, rfl⟩, hT, hF, pre0, pre1⟩
  refine st_iload c123_43 rfl ?_
  refine st_iconst c123_45 ?_
  refine st_iconst c123_46 ?_
  refine st_calls (as := [vI p4, vI 0, vI 99999]) c123_48 cm_166 rfl rfl rfl rfl (by omega) (K166 hT p4 (by omega) 0 (by omega) 99999 (by omega) (d - 1) (by omega) _ (fun v h0 H => H)) (fun v1 h1 H => ?_)
  rcases H with ⟨rfl, pf36, rfl⟩ | ⟨rfl, pf37, pf38, rfl⟩
  refine st_if_eq c123_51 (by omega) (fun k39 => ?_) (fun k40 => False.elim (by omega))
  refine st_iconst c123_58 ?_
  refine st_istore (L' := [some (.ref 4), some (vI p1), some (vI p2), some (vI p3), some (vI p4), some (vI 0)]) c123_59 rfl rfl ?_
  refine st_iload c123_61 rfl ?_
  refine st_if_ne c123_63 (by omega) (fun k41 => False.elim (by omega)) (fun k42 => ?_)
  refine st_iconst c123_66 ?_
  refine st_ireturn c123_67 ?_
  have e43 := fI_bd (q := 4) hT (tf hT rfl rfl) fd_1_5
  exact hQ _ _ ⟨(-1), rfl, by omega, pre2, by omega, Or.inl rfl, _, ⟨[], (List.append_nil τ).symm, rfl⟩, hT, hF, pre0, pre1⟩
  refine st_if_eq c123_51 (by omega) (fun k44 => False.elim (by omega)) (fun k45 => ?_)
  refine st_iconst c123_54 ?_
  refine st_goto c123_55 ?_
  refine st_istore (L' := [some (.ref 4), some (vI p1), some (vI p2), some (vI p3), some (vI p4), some (vI 1)]) c123_59 rfl rfl ?_
  refine st_iload c123_61 rfl ?_
  refine st_if_ne c123_63 (by omega) (fun k46 => ?_) (fun k47 => False.elim (by omega))
  refine st_aload c123_68 rfl ?_
  refine st_getI c123_69 hT (tf hT rfl rfl) fd_1_5 (fun e48 e49 => ?_)
  refine st_iconst c123_72 ?_
  refine st_icmp_lt c123_74 (by omega) (by omega) (fun k50 => ?_) (fun k51 => ?_)
  refine st_aload c123_80 rfl ?_
  refine st_getX (u := 34) c123_81 hT (tf hT rfl rfl) fd_1_4 rfl ?_
  refine st_aload c123_84 rfl ?_
  refine st_getI c123_85 hT (tf hT rfl rfl) fd_1_5 (fun e52 e53 => ?_)
  refine tl_new (fs := [.int 0, .int 0, .int 0, .int 0, .int 0, .int 0, .null, .null]) c123_88 rfl rfl ?_
  obtain ⟨h54, eh55⟩ : ∃ x, x = h ++ [.inr (1, [.int 0, .int 0, .int 0, .int 0, .int 0, .int 0, .null, .null])] := ⟨_, rfl⟩
  rw [← eh55]
  have hT56 : TH Tr (τ ++ [0]) h54 := by rw [eh55]; exact TH_raw hT
  have hX58 : Fr τ [] h h54 := by rw [eh55]; exact Fr_app hT
  have hF57 : Fr τ W123 h h54 := Fr_tr hF (by rw [eh55]; exact Fr_app hT)
  refine st_dup c123_91 rfl ?_
  refine st_aload c123_92 rfl ?_
  refine st_getI c123_93 hT56 (tf hT56 rfl rfl) fd_1_5 (fun e59 e60 => ?_)
  have q61 : fI h54 4 5 = fI h 4 5 := Fr_fI hX58 (tf hT rfl rfl) rfl
  refine st_iload c123_96 rfl ?_
  refine st_iload c123_97 rfl ?_
  refine st_iload c123_98 rfl ?_
  refine st_iconst c123_99 ?_
  refine st_iremp c123_101 (by omega) (by omega) ?_
  refine st_iload c123_102 rfl ?_
  have ct62 := KI10 (X := mex Ln xs) (h := h) (fI h54 4 5) p1 (by omega) p2 (p3 % 10) p4 (d - 1) (by omega)
  rw [← eh55] at ct62
  refine st_callp (as := [vI (fI h54 4 5), vI p1, vI p2, vI (p3 % 10), vI p4]) c123_104 cm_10 rfl rfl rfl rfl (by omega) ct62 (fun v1 h1 H => ?_)
  obtain ⟨rfl, rfl⟩ := H
  obtain ⟨h63, eh64⟩ : ∃ x, x = h ++ [.inr (1, [vI (fI h54 4 5), vI (p1 / 1000), vI (p1 % 1000), vI p2, vI (p3 % 10), vI p4, .ref (h.length + 4 + 1), .ref (h.length + 4 + 2)]), .inl (0, (16, .inl (fun _ => 0))), .inl (1, (15, .inl (fun _ => 0)))] := ⟨_, rfl⟩
  rw [← eh64]
  have hT65 : TH Tr (τ ++ [9, 112, 113]) h63 := by
    rw [eh64]
    exact TH_app hT rfl (fun i t e h1 h2 => match i, h1, h2 with
        | 0, h1, h2 => by cases h1; cases h2; exact okC_o (fts := [(0, 0, 14), (0, (-2147483648), 2147483647), (0, (-2147483648), 2147483647), (0, (-2147483648), 2147483647), (0, (-2147483648), 2147483647), (0, (-2147483648), 2147483647), (2, 112, 0), (2, 113, 0)]) rfl (fun kk ft vv b1 b2 => match kk, b1, b2 with | 0, b1, b2 => by cases b1; cases b2; exact okV_i (by omega) (by omega) | 1, b1, b2 => by cases b1; cases b2; exact okV_i (by omega) (by omega) | 2, b1, b2 => by cases b1; cases b2; exact okV_i (by omega) (by omega) | 3, b1, b2 => by cases b1; cases b2; exact okV_i (by omega) (by omega) | 4, b1, b2 => by cases b1; cases b2; exact okV_i (by omega) (by omega) | 5, b1, b2 => by cases b1; cases b2; exact okV_i (by omega) (by omega) | 6, b1, b2 => by cases b1; cases b2; exact ⟨_, rfl, ty_new (k := 1) hT rfl⟩ | 7, b1, b2 => by cases b1; cases b2; exact ⟨_, rfl, ty_new (k := 2) hT rfl⟩ | n + 8, b1, b2 => by cases b1)
        | 1, h1, h2 => by cases h1; cases h2; exact okC_i (lo := (-2147483648)) (hi := 2147483647) (by omega) (by omega) ok_full
        | 2, h1, h2 => by cases h1; cases h2; exact okC_i (lo := 0) (hi := 1) (by omega) (by omega) ok_zero
        | n + 3, h1, h2 => by cases h1)
  have hX67 : Fr τ [] h h63 := by rw [eh64]; exact Fr_app hT
  have hF66 : Fr τ W123 h h63 := Fr_tr hF (by rw [eh64]; exact Fr_app hT)
  have hE := Ext_app (τ := τ) (ts := [9, 112, 113])
  have t69 : ty (τ ++ [9, 112, 113]) (h.length + 4) 9 := ty_new (k := 0) hT rfl
  have iv70 : I1 (τ ++ [9, 112, 113]) h63 := by rw [eh64]; exact I1_app0 pre0 hT rfl
  have iv71 : I2 (τ ++ [9, 112, 113]) h63 := by rw [eh64]; exact I2_app0 pre1 hT rfl
  refine st_aast c123_107 hT65 (tf hT65 rfl rfl) ay_15 t69 rfl fd_9_0 rfl (by omega) hE Stb_T hF66 (by decide +kernel) (fun h72 hT73 hF74 hU75 => ?_)
  refine st_aload c123_108 rfl ?_
  refine st_dup c123_109 rfl ?_
  refine st_getI c123_110 hT73 (tf hT73 rfl rfl) fd_1_5 (fun e76 e77 => ?_)
  have q78 : fI h72 4 5 = fI h 4 5 := (OUp_fI hU75).trans (Fr_fI hX67 (tf hT rfl rfl) rfl)
  refine st_dup_x1 c123_113 rfl rfl ?_
  refine st_iconst c123_114 ?_
  refine st_iadd c123_115 ?_
  refine st_putI c123_116 hT73 (tf hT73 rfl rfl) fd_1_5 (by omega) (by omega) hE Stb_T hF74 (by decide +kernel) (fun h79 hT80 hF81 hU82 => ?_)
  have e83 := fI_bd (q := 4) hT65 (tf hT65 rfl rfl) fd_1_5
  have q84 : fI h63 4 5 = fI h 4 5 := Fr_fI hX67 (tf hT rfl rfl) rfl
  have iv85 := I8_5 (I8_fr pre2 hT hX67 (by decide +kernel)) hU75 hU82 (by omega) (by omega) (by omega) (by omega)
  refine st_ireturn c123_119 ?_
  have e86 := fI_bd (q := 4) hT80 (tf hT80 rfl rfl) fd_1_5
  have q87 : fI h79 4 5 = (fI h72 4 5) + 1 := FUp_fI hU82 (by omega) (by omega)
  have nw88 : ∀ j : Int, 0 ≤ j → aR h79 34 j = if j = (fI h72 4 5) then some (h.length + 4) else aR h 34 j := fun j a => by
    rw [FUp_aR hU82, OUp_aR hU75 (by omega) a, Fr_aR hX67 (tf (q := 34) (t := 15) hT rfl rfl) rfl]
    all_goals exact if_cr (by omega)
  have nw89 : fI h79 (h.length + 4) 0 = (fI h72 4 5) := by
    rw [FUp_fIne (q' := (h.length + 4)) (b' := 0) hU82 (fun z => absurd z.2 (by decide)), OUp_fI hU75, eh64]
    exact (tl_fI (T := [.inr (1, [vI (fI h54 4 5), vI (p1 / 1000), vI (p1 % 1000), vI p2, vI (p3 % 10), vI p4, .ref (h.length + 4 + 1), .ref (h.length + 4 + 2)]), .inl (0, (16, .inl (fun _ => 0))), .inl (1, (15, .inl (fun _ => 0)))]) (k := 0) rfl rfl (by omega)).trans (by omega)
  have nw90 : fR h79 (h.length + 4) 6 = some ((h.length + 4) + 1) := by
    rw [FUp_fRne (q' := (h.length + 4)) (b' := 6) hU82 (fun z => absurd z.2 (by decide)), OUp_fR hU75, eh64]
    exact tl_fR (T := [.inr (1, [vI (fI h54 4 5), vI (p1 / 1000), vI (p1 % 1000), vI p2, vI (p3 % 10), vI p4, .ref (h.length + 4 + 1), .ref (h.length + 4 + 2)]), .inl (0, (16, .inl (fun _ => 0))), .inl (1, (15, .inl (fun _ => 0)))]) (k := 0) rfl rfl
  have nw91 : fR h79 (h.length + 4) 7 = some ((h.length + 4) + 2) := by
    rw [FUp_fRne (q' := (h.length + 4)) (b' := 7) hU82 (fun z => absurd z.2 (by decide)), OUp_fR hU75, eh64]
    exact tl_fR (T := [.inr (1, [vI (fI h54 4 5), vI (p1 / 1000), vI (p1 % 1000), vI p2, vI (p3 % 10), vI p4, .ref (h.length + 4 + 1), .ref (h.length + 4 + 2)]), .inl (0, (16, .inl (fun _ => 0))), .inl (1, (15, .inl (fun _ => 0)))]) (k := 0) rfl rfl
  have nw92 : ∀ j : Int, aI h79 ((h.length + 4) + 1) j = 0 := fun j => by
    rw [FUp_aI hU82, OUp_aI hU75, eh64]
    exact tl_aI (T := [.inr (1, [vI (fI h54 4 5), vI (p1 / 1000), vI (p1 % 1000), vI p2, vI (p3 % 10), vI p4, .ref (h.length + 4 + 1), .ref (h.length + 4 + 2)]), .inl (0, (16, .inl (fun _ => 0))), .inl (1, (15, .inl (fun _ => 0)))]) (k := 1) rfl
  have nw93 : ∀ j : Int, aI h79 ((h.length + 4) + 2) j = 0 := fun j => by
    rw [FUp_aI hU82, OUp_aI hU75, eh64]
    exact tl_aI (T := [.inr (1, [vI (fI h54 4 5), vI (p1 / 1000), vI (p1 % 1000), vI p2, vI (p3 % 10), vI p4, .ref (h.length + 4 + 1), .ref (h.length + 4 + 2)]), .inl (0, (16, .inl (fun _ => 0))), .inl (1, (15, .inl (fun _ => 0)))]) (k := 2) rfl
  exact hQ _ _ ⟨fI h72 4 5, rfl, by omega, iv85, by omega, Or.inr ⟨(h.length + 4), by omega, nw88, nw89, nw90, nw91, nw92, nw93⟩, _, ⟨[9, 112, 113], rfl, rfl⟩, hT80, hF81, (I1_fr (I1_fr iv70 hT65 (OUp_1 hU75 (tf hT65 rfl rfl)) (by decide +kernel)) hT73 (FUp_1 hU82 (tf hT73 rfl rfl)) (by decide +kernel)), (I2_fr (I2_fr iv71 (OUp_1 hU75 (tf hT65 rfl rfl)) (by decide +kernel)) (FUp_1 hU82 (tf hT73 rfl rfl)) (by decide +kernel))⟩
  refine st_iconst c123_77 ?_
  refine st_ireturn c123_79 ?_
  exact hQ _ _ ⟨(-3), rfl, by omega, pre2, by omega, Or.inl rfl, _, ⟨[], (List.append_nil τ).symm, rfl⟩, hT, hF, pre0, pre1⟩
def W126 : List (Nat × Nat) := [(1, 7), (16, 0)]
set_option maxHeartbeats 0 in
theorem K126 {Ln : Nat} {xs : Nat → Int32} {τ : List Nat} {h : List mE} (hT : TH Tr τ h) (p1 : Int) (hp1 : (-2147483648) ≤ p1 ∧ p1 ≤ 2147483647) (p2 : Int) (hp2 : (-2147483648) ≤ p2 ∧ p2 ≤ 2147483647) (p3 : Int) (hp3 : (-2147483648) ≤ p3 ∧ p3 ≤ 2147483647) (pre0 : I1 τ h) (pre1 : I2 τ h) (pre2 : I8 h) (d : Nat) (hd : 3 ≤ d) (Q : Option Value → List mE → Prop) (hQ : ∀ v h', (∃ z : Int, v = some (vI z) ∧ ((-3) ≤ z ∧ z ≤ 89) ∧ (I8 h') ∧ ((0 ≤ p1 ∧ p1 < fI h 4 5 ∧ 0 ≤ p2 ∧ p2 < fI h 6 3 ∧ aI h 7 p2 = 1 ∧ 0 ≤ p3 ∧ p3 ≤ 99999 ∧ fI h 4 7 ≤ 89 ∧ z = fI h 4 7 + 0 ∧ fI h' 4 7 = fI h 4 7 + 1) ∨ (0 ≤ p1 ∧ p1 < fI h 4 5 ∧ 0 ≤ p2 ∧ p2 < fI h 6 3 ∧ aI h 7 p2 = 1 ∧ 0 ≤ p3 ∧ p3 ≤ 99999 ∧ 90 ≤ fI h 4 7 ∧ z = -3 ∧ fI h' 4 7 = fI h 4 7) ∨ ((p1 < 0 ∨ fI h 4 5 ≤ p1 ∨ p2 < 0 ∨ fI h 6 3 ≤ p2 ∨ aI h 7 p2 = 0 ∨ p3 < 0 ∨ 99999 < p3) ∧ z = -1 ∧ fI h' 4 7 = fI h 4 7)) ∧ (PMcC h h' z) ∧ ∃ τ' : List Nat, (∃ ts : List Nat, τ' = τ ++ ts ∧ gsT ts = true) ∧ TH Tr τ' h' ∧ Fr τ W126 h h' ∧ I1 τ' h' ∧ I2 τ' h') → Q v h') : MR (mex Ln xs) d 126 0 [some (.ref 4), some (vI p1), some (vI p2), some (vI p3), none] [] h Q := by
  have hF := Fr_rf τ W126 h
  have hE := Ext_rf τ
  refine st_aload c126_0 rfl ?_
  refine st_iload c126_1 rfl ?_
  have e1 := fI_bd (q := 4) hT (tf hT rfl rfl) fd_1_5
  refine st_callt (as := [vI p1]) c126_2 cm_168 hT (tf hT rfl rfl) fd_1_0 rfl rfl rfl rfl (by omega) (K168 hT p1 (by omega) pre2 (d - 1) (by omega) _ (fun v h0 H => H)) (fun v1 h1 H => ?_)
  rcases H with ⟨rfl, nf8, rfl⟩ | ⟨r6, rfl, t7, pf2, pf3, pf4, pf5, rfl⟩
  refine st_astoreN (L' := [some (.ref 4), some (vI p1), some (vI p2), some (vI p3), some .null]) c126_5 rfl rfl ?_
  refine st_aloadN c126_7 rfl ?_
  refine st_ifnullN c126_9 ?_
  refine st_iconst c126_33 ?_
  refine st_ireturn c126_34 ?_
  have e9 := fI_bd (q := 4) hT (tf hT rfl rfl) fd_1_7
  exact hQ _ _ ⟨(-1), rfl, by omega, pre2, by omega, Or.inl rfl, _, ⟨[], (List.append_nil τ).symm, rfl⟩, hT, hF, pre0, pre1⟩
  refine st_astore (L' := [some (.ref 4), some (vI p1), some (vI p2), some (vI p3), some (.ref r6)]) c126_5 rfl rfl ?_
  refine st_aload c126_7 rfl ?_
  refine st_ifnullR c126_9 ?_
  refine st_aload c126_12 rfl ?_
  refine st_getX (u := 6) c126_13 hT (tf hT rfl rfl) fd_1_3 rfl ?_
  refine st_iload c126_16 rfl ?_
  have e10 := fI_bd (q := 6) hT (tf hT rfl rfl) fd_2_3
  refine st_callt (as := [vI p2]) c126_17 cm_86 hT (tf hT rfl rfl) fd_2_0 rfl rfl rfl rfl (by omega) (K86 hT p2 (by omega) (d - 1) (by omega) _ (fun v h0 H => H)) (fun v1 h1 H => ?_)
  rcases H with ⟨rfl, pf11, rfl⟩ | ⟨rfl, pf12, pf13, pf14, rfl⟩
  refine st_if_eq c126_20 (by omega) (fun k15 => ?_) (fun k16 => False.elim (by omega))
  refine st_iconst c126_33 ?_
  refine st_ireturn c126_34 ?_
  have e17 := fI_bd (q := 4) hT (tf hT rfl rfl) fd_1_7
  exact hQ _ _ ⟨(-1), rfl, by omega, pre2, by omega, Or.inl rfl, _, ⟨[], (List.append_nil τ).symm, rfl⟩, hT, hF, pre0, pre1⟩
  refine st_if_eq c126_20 (by omega) (fun k18 => False.elim (by omega)) (fun k19 => ?_)
  refine st_iload c126_23 rfl ?_
  refine st_iconst c126_24 ?_
  refine st_iconst c126_25 ?_
  refine st_calls (as := [vI p3, vI 0, vI 99999]) c126_27 cm_166 rfl rfl rfl rfl (by omega) (K166 hT p3 (by omega) 0 (by omega) 99999 (by omega) (d - 1) (by omega) _ (fun v h0 H => H)) (fun v1 h1 H => ?_)
  rcases H with ⟨rfl, pf20, rfl⟩ | ⟨rfl, pf21, pf22, rfl⟩
  refine st_if_ne c126_30 (by omega) (fun k23 => False.elim (by omega)) (fun k24 => ?_)
  refine st_iconst c126_33 ?_
  refine st_ireturn c126_34 ?_
  have e25 := fI_bd (q := 4) hT (tf hT rfl rfl) fd_1_7
  exact hQ _ _ ⟨(-1), rfl, by omega, pre2, by omega, Or.inl rfl, _, ⟨[], (List.append_nil τ).symm, rfl⟩, hT, hF, pre0, pre1⟩
  refine st_if_ne c126_30 (by omega) (fun k26 => ?_) (fun k27 => False.elim (by omega))
  refine st_aload c126_35 rfl ?_
  refine st_getI c126_36 hT (tf hT rfl rfl) fd_1_7 (fun e28 e29 => ?_)
  refine st_iconst c126_39 ?_
  refine st_icmp_lt c126_41 (by omega) (by omega) (fun k30 => ?_) (fun k31 => ?_)
  refine st_aload c126_47 rfl ?_
  refine st_getX (u := 35) c126_48 hT (tf hT rfl rfl) fd_1_6 rfl ?_
  refine st_aload c126_51 rfl ?_
  refine st_getI c126_52 hT (tf hT rfl rfl) fd_1_7 (fun e32 e33 => ?_)
  refine tl_new (fs := [.int 0, .null, .null, .int 0, .int 0, .int 0, .int 0, .int 0, .int 0, .null, .null, .int 0, .int 0, .null, .null, .int 0]) c126_55 rfl rfl ?_
  obtain ⟨h34, eh35⟩ : ∃ x, x = h ++ [.inr (4, [.int 0, .null, .null, .int 0, .int 0, .int 0, .int 0, .int 0, .int 0, .null, .null, .int 0, .int 0, .null, .null, .int 0])] := ⟨_, rfl⟩
  rw [← eh35]
  have hT36 : TH Tr (τ ++ [0]) h34 := by rw [eh35]; exact TH_raw hT
  have hX38 : Fr τ [] h h34 := by rw [eh35]; exact Fr_app hT
  have hF37 : Fr τ W126 h h34 := Fr_tr hF (by rw [eh35]; exact Fr_app hT)
  refine st_dup c126_58 rfl ?_
  refine st_aload c126_59 rfl ?_
  refine st_getI c126_60 hT36 (tf hT36 rfl rfl) fd_1_7 (fun e39 e40 => ?_)
  have q41 : fI h34 4 7 = fI h 4 7 := Fr_fI hX38 (tf hT rfl rfl) rfl
  refine st_aload c126_63 rfl ?_
  refine st_iload c126_65 rfl ?_
  refine st_aload c126_66 rfl ?_
  refine st_getI c126_67 hT36 (tf hT36 rfl rfl) fd_1_0 (fun e42 e43 => ?_)
  have q44 : fI h34 4 0 = fI h 4 0 := Fr_fI hX38 (tf hT rfl rfl) rfl
  refine st_iload c126_70 rfl ?_
  have ct45 := KI35 (X := mex Ln xs) (h := h) (fI h34 4 7) r6 p2 (fI h34 4 0) p3 (d - 1) (by omega)
  rw [← eh35] at ct45
  refine st_callp (as := [vI (fI h34 4 7), .ref r6, vI p2, vI (fI h34 4 0), vI p3]) c126_71 cm_35 rfl rfl rfl rfl (by omega) ct45 (fun v1 h1 H => ?_)
  obtain ⟨rfl, rfl⟩ := H
  obtain ⟨h46, eh47⟩ : ∃ x, x = h ++ [.inr (4, [vI (fI h34 4 7), .ref r6, .ref (h.length + 4 + 3), .int 0, vI p2, .int 0, vI (-1), vI (fI h34 4 0), .int 0, .null, .null, vI (-1), vI (-1), .ref (h.length + 4 + 1), .ref (h.length + 4 + 2), .int 0]), .inl (0, (5, .inl (fun _ => 0))), .inl (0, (5, .inl (fun _ => 0))), .inr (6, [.ref (h.length + 4 + 4), .ref (h.length + 4 + 5), vI 1, vI 1]), .inl (0, (4, .inl (upd (fun _ => 0) 0 (Int32.ofInt (fI h34 4 0))))), .inl (0, (4, .inl (upd (fun _ => 0) 0 (Int32.ofInt p3))))] := ⟨_, rfl⟩
  rw [← eh47]
  have hT48 : TH Tr (τ ++ [10, 114, 115, 11, 116, 117]) h46 := by
    rw [eh47]
    exact TH_app hT rfl (fun i t e h1 h2 => match i, h1, h2 with
        | 0, h1, h2 => by cases h1; cases h2; exact okC_o (fts := [(0, (-2147483648), 2147483647), (2, 9, 0), (2, 11, 0), (0, (-2147483648), 2147483647), (0, (-2147483648), 2147483647), (0, (-2147483648), 2147483647), (0, (-2147483648), 2147483647), (0, (-2147483648), 2147483647), (0, (-2147483648), 2147483647), (3, 12, 0), (3, 12, 0), (0, (-2147483648), 2147483647), (0, (-2147483648), 2147483647), (2, 114, 0), (2, 115, 0), (0, 0, 5)]) rfl (fun kk ft vv b1 b2 => match kk, b1, b2 with | 0, b1, b2 => by cases b1; cases b2; exact okV_i (by omega) (by omega) | 1, b1, b2 => by cases b1; cases b2; exact ⟨_, rfl, (Ext_ty Ext_app t7)⟩ | 2, b1, b2 => by cases b1; cases b2; exact ⟨_, rfl, ty_new (k := 3) hT rfl⟩ | 3, b1, b2 => by cases b1; cases b2; exact okV_0 (by decide) | 4, b1, b2 => by cases b1; cases b2; exact okV_i (by omega) (by omega) | 5, b1, b2 => by cases b1; cases b2; exact okV_0 (by decide) | 6, b1, b2 => by cases b1; cases b2; exact okV_i (by omega) (by omega) | 7, b1, b2 => by cases b1; cases b2; exact okV_i (by omega) (by omega) | 8, b1, b2 => by cases b1; cases b2; exact okV_0 (by decide) | 9, b1, b2 => by cases b1; cases b2; exact Or.inl rfl | 10, b1, b2 => by cases b1; cases b2; exact Or.inl rfl | 11, b1, b2 => by cases b1; cases b2; exact okV_i (by omega) (by omega) | 12, b1, b2 => by cases b1; cases b2; exact okV_i (by omega) (by omega) | 13, b1, b2 => by cases b1; cases b2; exact ⟨_, rfl, ty_new (k := 1) hT rfl⟩ | 14, b1, b2 => by cases b1; cases b2; exact ⟨_, rfl, ty_new (k := 2) hT rfl⟩ | 15, b1, b2 => by cases b1; cases b2; exact okV_0 (by decide) | n + 16, b1, b2 => by cases b1)
        | 1, h1, h2 => by cases h1; cases h2; exact okC_i (lo := (-2147483648)) (hi := 2147483647) (by omega) (by omega) ok_full
        | 2, h1, h2 => by cases h1; cases h2; exact okC_i (lo := (-2147483648)) (hi := 2147483647) (by omega) (by omega) ok_full
        | 3, h1, h2 => by cases h1; cases h2; exact okC_o (fts := [(2, 116, 0), (2, 117, 0), (0, 1, 401), (0, 0, 1)]) rfl (fun kk ft vv b1 b2 => match kk, b1, b2 with | 0, b1, b2 => by cases b1; cases b2; exact ⟨_, rfl, ty_new (k := 4) hT rfl⟩ | 1, b1, b2 => by cases b1; cases b2; exact ⟨_, rfl, ty_new (k := 5) hT rfl⟩ | 2, b1, b2 => by cases b1; cases b2; exact okV_i (by omega) (by omega) | 3, b1, b2 => by cases b1; cases b2; exact okV_i (by omega) (by omega) | n + 4, b1, b2 => by cases b1)
        | 4, h1, h2 => by cases h1; cases h2; exact okC_i (lo := (-2147483648)) (hi := 2147483647) (by omega) (by omega) ok_full
        | 5, h1, h2 => by cases h1; cases h2; exact okC_i (lo := (-2147483648)) (hi := 2147483647) (by omega) (by omega) ok_full
        | n + 6, h1, h2 => by cases h1)
  have hX50 : Fr τ [] h h46 := by rw [eh47]; exact Fr_app hT
  have hF49 : Fr τ W126 h h46 := Fr_tr hF (by rw [eh47]; exact Fr_app hT)
  have hE := Ext_app (τ := τ) (ts := [10, 114, 115, 11, 116, 117])
  have t52 : ty (τ ++ [10, 114, 115, 11, 116, 117]) (h.length + 4) 10 := ty_new (k := 0) hT rfl
  have e54 := fI_bd (q := 4) hT (tf hT rfl rfl) fd_1_1
  have iv53 : I1 (τ ++ [10, 114, 115, 11, 116, 117]) h46 := by
    rw [eh47]
    refine I1_app pre0 hT (fun k hk => ?_)
    match k, hk with
    | 0, hk => cases hk
    | 1, hk => cases hk
    | 2, hk => cases hk
    | 3, hk =>
      have r4 : fI (h ++ [.inr (4, [vI (fI h34 4 7), .ref r6, .ref (h.length + 4 + 3), .int 0, vI p2, .int 0, vI (-1), vI (fI h34 4 0), .int 0, .null, .null, vI (-1), vI (-1), .ref (h.length + 4 + 1), .ref (h.length + 4 + 2), .int 0]), .inl (0, (5, .inl (fun _ => 0))), .inl (0, (5, .inl (fun _ => 0))), .inr (6, [.ref (h.length + 4 + 4), .ref (h.length + 4 + 5), vI 1, vI 1]), .inl (0, (4, .inl (upd (fun _ => 0) 0 (Int32.ofInt (fI h34 4 0))))), .inl (0, (4, .inl (upd (fun _ => 0) 0 (Int32.ofInt p3))))]) 4 1 = fI h 4 1 := Fr_fI (W := []) (Fr_app hT) (tf hT rfl rfl) rfl
      have f2 : fI (h ++ [.inr (4, [vI (fI h34 4 7), .ref r6, .ref (h.length + 4 + 3), .int 0, vI p2, .int 0, vI (-1), vI (fI h34 4 0), .int 0, .null, .null, vI (-1), vI (-1), .ref (h.length + 4 + 1), .ref (h.length + 4 + 2), .int 0]), .inl (0, (5, .inl (fun _ => 0))), .inl (0, (5, .inl (fun _ => 0))), .inr (6, [.ref (h.length + 4 + 4), .ref (h.length + 4 + 5), vI 1, vI 1]), .inl (0, (4, .inl (upd (fun _ => 0) 0 (Int32.ofInt (fI h34 4 0))))), .inl (0, (4, .inl (upd (fun _ => 0) 0 (Int32.ofInt p3))))]) (h.length + 4 + 3) 2 = 1 := tl_fI (T := [.inr (4, [vI (fI h34 4 7), .ref r6, .ref (h.length + 4 + 3), .int 0, vI p2, .int 0, vI (-1), vI (fI h34 4 0), .int 0, .null, .null, vI (-1), vI (-1), .ref (h.length + 4 + 1), .ref (h.length + 4 + 2), .int 0]), .inl (0, (5, .inl (fun _ => 0))), .inl (0, (5, .inl (fun _ => 0))), .inr (6, [.ref (h.length + 4 + 4), .ref (h.length + 4 + 5), vI 1, vI 1]), .inl (0, (4, .inl (upd (fun _ => 0) 0 (Int32.ofInt (fI h34 4 0))))), .inl (0, (4, .inl (upd (fun _ => 0) 0 (Int32.ofInt p3))))]) (k := 3) rfl rfl (by decide)
      have n1 : aN (h ++ [.inr (4, [vI (fI h34 4 7), .ref r6, .ref (h.length + 4 + 3), .int 0, vI p2, .int 0, vI (-1), vI (fI h34 4 0), .int 0, .null, .null, vI (-1), vI (-1), .ref (h.length + 4 + 1), .ref (h.length + 4 + 2), .int 0]), .inl (0, (5, .inl (fun _ => 0))), .inl (0, (5, .inl (fun _ => 0))), .inr (6, [.ref (h.length + 4 + 4), .ref (h.length + 4 + 5), vI 1, vI 1]), .inl (0, (4, .inl (upd (fun _ => 0) 0 (Int32.ofInt (fI h34 4 0))))), .inl (0, (4, .inl (upd (fun _ => 0) 0 (Int32.ofInt p3))))]) (h.length + 4 + 4) = 4 := tl_aN (T := [.inr (4, [vI (fI h34 4 7), .ref r6, .ref (h.length + 4 + 3), .int 0, vI p2, .int 0, vI (-1), vI (fI h34 4 0), .int 0, .null, .null, vI (-1), vI (-1), .ref (h.length + 4 + 1), .ref (h.length + 4 + 2), .int 0]), .inl (0, (5, .inl (fun _ => 0))), .inl (0, (5, .inl (fun _ => 0))), .inr (6, [.ref (h.length + 4 + 4), .ref (h.length + 4 + 5), vI 1, vI 1]), .inl (0, (4, .inl (upd (fun _ => 0) 0 (Int32.ofInt (fI h34 4 0))))), .inl (0, (4, .inl (upd (fun _ => 0) 0 (Int32.ofInt p3))))]) (k := 4) rfl
      have n2 : aN (h ++ [.inr (4, [vI (fI h34 4 7), .ref r6, .ref (h.length + 4 + 3), .int 0, vI p2, .int 0, vI (-1), vI (fI h34 4 0), .int 0, .null, .null, vI (-1), vI (-1), .ref (h.length + 4 + 1), .ref (h.length + 4 + 2), .int 0]), .inl (0, (5, .inl (fun _ => 0))), .inl (0, (5, .inl (fun _ => 0))), .inr (6, [.ref (h.length + 4 + 4), .ref (h.length + 4 + 5), vI 1, vI 1]), .inl (0, (4, .inl (upd (fun _ => 0) 0 (Int32.ofInt (fI h34 4 0))))), .inl (0, (4, .inl (upd (fun _ => 0) 0 (Int32.ofInt p3))))]) (h.length + 4 + 5) = 4 := tl_aN (T := [.inr (4, [vI (fI h34 4 7), .ref r6, .ref (h.length + 4 + 3), .int 0, vI p2, .int 0, vI (-1), vI (fI h34 4 0), .int 0, .null, .null, vI (-1), vI (-1), .ref (h.length + 4 + 1), .ref (h.length + 4 + 2), .int 0]), .inl (0, (5, .inl (fun _ => 0))), .inl (0, (5, .inl (fun _ => 0))), .inr (6, [.ref (h.length + 4 + 4), .ref (h.length + 4 + 5), vI 1, vI 1]), .inl (0, (4, .inl (upd (fun _ => 0) 0 (Int32.ofInt (fI h34 4 0))))), .inl (0, (4, .inl (upd (fun _ => 0) 0 (Int32.ofInt p3))))]) (k := 5) rfl
      exact ⟨h.length + 4 + 4, h.length + 4 + 5, tl_fR (T := [.inr (4, [vI (fI h34 4 7), .ref r6, .ref (h.length + 4 + 3), .int 0, vI p2, .int 0, vI (-1), vI (fI h34 4 0), .int 0, .null, .null, vI (-1), vI (-1), .ref (h.length + 4 + 1), .ref (h.length + 4 + 2), .int 0]), .inl (0, (5, .inl (fun _ => 0))), .inl (0, (5, .inl (fun _ => 0))), .inr (6, [.ref (h.length + 4 + 4), .ref (h.length + 4 + 5), vI 1, vI 1]), .inl (0, (4, .inl (upd (fun _ => 0) 0 (Int32.ofInt (fI h34 4 0))))), .inl (0, (4, .inl (upd (fun _ => 0) 0 (Int32.ofInt p3))))]) (k := 3) rfl rfl, tl_fR (T := [.inr (4, [vI (fI h34 4 7), .ref r6, .ref (h.length + 4 + 3), .int 0, vI p2, .int 0, vI (-1), vI (fI h34 4 0), .int 0, .null, .null, vI (-1), vI (-1), .ref (h.length + 4 + 1), .ref (h.length + 4 + 2), .int 0]), .inl (0, (5, .inl (fun _ => 0))), .inl (0, (5, .inl (fun _ => 0))), .inr (6, [.ref (h.length + 4 + 4), .ref (h.length + 4 + 5), vI 1, vI 1]), .inl (0, (4, .inl (upd (fun _ => 0) 0 (Int32.ofInt (fI h34 4 0))))), .inl (0, (4, .inl (upd (fun _ => 0) 0 (Int32.ofInt p3))))]) (k := 3) rfl rfl, ty_new (k := 4) hT rfl, ty_new (k := 5) hT rfl, by rw [f2, n1]; decide, by rw [n1, n2], by rw [f2, r4]; omega⟩
    | 4, hk => cases hk
    | 5, hk => cases hk
    | k + 6, hk => cases hk
  have iv55 : I2 (τ ++ [10, 114, 115, 11, 116, 117]) h46 := by rw [eh47]; exact I2_app0 pre1 hT rfl
  refine st_aast c126_74 hT48 (tf hT48 rfl rfl) ay_16 t52 rfl fd_10_0 rfl (by omega) hE Stb_T hF49 (by decide +kernel) (fun h56 hT57 hF58 hU59 => ?_)
  refine st_aload c126_75 rfl ?_
  refine st_dup c126_76 rfl ?_
  refine st_getI c126_77 hT57 (tf hT57 rfl rfl) fd_1_7 (fun e60 e61 => ?_)
  have q62 : fI h56 4 7 = fI h 4 7 := (OUp_fI hU59).trans (Fr_fI hX50 (tf hT rfl rfl) rfl)
  refine st_dup_x1 c126_80 rfl rfl ?_
  refine st_iconst c126_81 ?_
  refine st_iadd c126_82 ?_
  refine st_putI c126_83 hT57 (tf hT57 rfl rfl) fd_1_7 (by omega) (by omega) hE Stb_T hF58 (by decide +kernel) (fun h63 hT64 hF65 hU66 => ?_)
  have e67 := fI_bd (q := 4) hT48 (tf hT48 rfl rfl) fd_1_7
  have q68 : fI h46 4 7 = fI h 4 7 := Fr_fI hX50 (tf hT rfl rfl) rfl
  have iv69 := I8_7 (I8_fr pre2 hT hX50 (by decide +kernel)) hU59 hU66 (by omega) (by omega) (by omega) (by omega)
  refine st_ireturn c126_86 ?_
  have e70 := fI_bd (q := 4) hT64 (tf hT64 rfl rfl) fd_1_7
  have q71 : fI h63 4 7 = (fI h56 4 7) + 1 := FUp_fI hU66 (by omega) (by omega)
  have nw72 : ∀ j : Int, 0 ≤ j → aR h63 35 j = if j = (fI h56 4 7) then some (h.length + 4) else aR h 35 j := fun j a => by
    rw [FUp_aR hU66, OUp_aR hU59 (by omega) a, Fr_aR hX50 (tf (q := 35) (t := 16) hT rfl rfl) rfl]
    all_goals exact if_cr (by omega)
  have nw73 : fI h63 (h.length + 4) 0 = (fI h56 4 7) := by
    rw [FUp_fIne (q' := (h.length + 4)) (b' := 0) hU66 (fun z => absurd z.2 (by decide)), OUp_fI hU59, eh47]
    exact (tl_fI (T := [.inr (4, [vI (fI h34 4 7), .ref r6, .ref (h.length + 4 + 3), .int 0, vI p2, .int 0, vI (-1), vI (fI h34 4 0), .int 0, .null, .null, vI (-1), vI (-1), .ref (h.length + 4 + 1), .ref (h.length + 4 + 2), .int 0]), .inl (0, (5, .inl (fun _ => 0))), .inl (0, (5, .inl (fun _ => 0))), .inr (6, [.ref (h.length + 4 + 4), .ref (h.length + 4 + 5), vI 1, vI 1]), .inl (0, (4, .inl (upd (fun _ => 0) 0 (Int32.ofInt (fI h34 4 0))))), .inl (0, (4, .inl (upd (fun _ => 0) 0 (Int32.ofInt p3))))]) (k := 0) rfl rfl (by omega)).trans (by omega)
  have nw74 : fI h63 (h.length + 4) 15 = 0 := by
    rw [FUp_fIne (q' := (h.length + 4)) (b' := 15) hU66 (fun z => absurd z.2 (by decide)), OUp_fI hU59, eh47]
    exact tl_fI0 (T := [.inr (4, [vI (fI h34 4 7), .ref r6, .ref (h.length + 4 + 3), .int 0, vI p2, .int 0, vI (-1), vI (fI h34 4 0), .int 0, .null, .null, vI (-1), vI (-1), .ref (h.length + 4 + 1), .ref (h.length + 4 + 2), .int 0]), .inl (0, (5, .inl (fun _ => 0))), .inl (0, (5, .inl (fun _ => 0))), .inr (6, [.ref (h.length + 4 + 4), .ref (h.length + 4 + 5), vI 1, vI 1]), .inl (0, (4, .inl (upd (fun _ => 0) 0 (Int32.ofInt (fI h34 4 0))))), .inl (0, (4, .inl (upd (fun _ => 0) 0 (Int32.ofInt p3))))]) (k := 0) rfl rfl
  have nw75 : fR h63 (h.length + 4) 13 = some ((h.length + 4) + 1) := by
    rw [FUp_fRne (q' := (h.length + 4)) (b' := 13) hU66 (fun z => absurd z.2 (by decide)), OUp_fR hU59, eh47]
    exact tl_fR (T := [.inr (4, [vI (fI h34 4 7), .ref r6, .ref (h.length + 4 + 3), .int 0, vI p2, .int 0, vI (-1), vI (fI h34 4 0), .int 0, .null, .null, vI (-1), vI (-1), .ref (h.length + 4 + 1), .ref (h.length + 4 + 2), .int 0]), .inl (0, (5, .inl (fun _ => 0))), .inl (0, (5, .inl (fun _ => 0))), .inr (6, [.ref (h.length + 4 + 4), .ref (h.length + 4 + 5), vI 1, vI 1]), .inl (0, (4, .inl (upd (fun _ => 0) 0 (Int32.ofInt (fI h34 4 0))))), .inl (0, (4, .inl (upd (fun _ => 0) 0 (Int32.ofInt p3))))]) (k := 0) rfl rfl
  have nw76 : fR h63 (h.length + 4) 14 = some ((h.length + 4) + 2) := by
    rw [FUp_fRne (q' := (h.length + 4)) (b' := 14) hU66 (fun z => absurd z.2 (by decide)), OUp_fR hU59, eh47]
    exact tl_fR (T := [.inr (4, [vI (fI h34 4 7), .ref r6, .ref (h.length + 4 + 3), .int 0, vI p2, .int 0, vI (-1), vI (fI h34 4 0), .int 0, .null, .null, vI (-1), vI (-1), .ref (h.length + 4 + 1), .ref (h.length + 4 + 2), .int 0]), .inl (0, (5, .inl (fun _ => 0))), .inl (0, (5, .inl (fun _ => 0))), .inr (6, [.ref (h.length + 4 + 4), .ref (h.length + 4 + 5), vI 1, vI 1]), .inl (0, (4, .inl (upd (fun _ => 0) 0 (Int32.ofInt (fI h34 4 0))))), .inl (0, (4, .inl (upd (fun _ => 0) 0 (Int32.ofInt p3))))]) (k := 0) rfl rfl
  have nw77 : ∀ j : Int, aI h63 ((h.length + 4) + 1) j = 0 := fun j => by
    rw [FUp_aI hU66, OUp_aI hU59, eh47]
    exact tl_aI (T := [.inr (4, [vI (fI h34 4 7), .ref r6, .ref (h.length + 4 + 3), .int 0, vI p2, .int 0, vI (-1), vI (fI h34 4 0), .int 0, .null, .null, vI (-1), vI (-1), .ref (h.length + 4 + 1), .ref (h.length + 4 + 2), .int 0]), .inl (0, (5, .inl (fun _ => 0))), .inl (0, (5, .inl (fun _ => 0))), .inr (6, [.ref (h.length + 4 + 4), .ref (h.length + 4 + 5), vI 1, vI 1]), .inl (0, (4, .inl (upd (fun _ => 0) 0 (Int32.ofInt (fI h34 4 0))))), .inl (0, (4, .inl (upd (fun _ => 0) 0 (Int32.ofInt p3))))]) (k := 1) rfl
  have nw78 : ∀ j : Int, aI h63 ((h.length + 4) + 2) j = 0 := fun j => by
    rw [FUp_aI hU66, OUp_aI hU59, eh47]
    exact tl_aI (T := [.inr (4, [vI (fI h34 4 7), .ref r6, .ref (h.length + 4 + 3), .int 0, vI p2, .int 0, vI (-1), vI (fI h34 4 0), .int 0, .null, .null, vI (-1), vI (-1), .ref (h.length + 4 + 1), .ref (h.length + 4 + 2), .int 0]), .inl (0, (5, .inl (fun _ => 0))), .inl (0, (5, .inl (fun _ => 0))), .inr (6, [.ref (h.length + 4 + 4), .ref (h.length + 4 + 5), vI 1, vI 1]), .inl (0, (4, .inl (upd (fun _ => 0) 0 (Int32.ofInt (fI h34 4 0))))), .inl (0, (4, .inl (upd (fun _ => 0) 0 (Int32.ofInt p3))))]) (k := 2) rfl
  exact hQ _ _ ⟨fI h56 4 7, rfl, by omega, iv69, by omega, Or.inr ⟨(h.length + 4), by omega, nw72, nw73, nw75, nw76, nw74, nw77, nw78⟩, _, ⟨[10, 114, 115, 11, 116, 117], rfl, rfl⟩, hT64, hF65, (I1_fr (I1_fr iv53 hT48 (OUp_1 hU59 (tf hT48 rfl rfl)) (by decide +kernel)) hT57 (FUp_1 hU66 (tf hT57 rfl rfl)) (by decide +kernel)), (I2_fr (I2_fr iv55 (OUp_1 hU59 (tf hT48 rfl rfl)) (by decide +kernel)) (FUp_1 hU66 (tf hT57 rfl rfl)) (by decide +kernel))⟩
  refine st_iconst c126_44 ?_
  refine st_ireturn c126_46 ?_
  exact hQ _ _ ⟨(-3), rfl, by omega, pre2, by omega, Or.inl rfl, _, ⟨[], (List.append_nil τ).symm, rfl⟩, hT, hF, pre0, pre1⟩
def W136 : List (Nat × Nat) := [(1, 12), (12, 6), (12, 7), (12, 8), (19, 0)]
set_option maxHeartbeats 0 in
theorem K136 {Ln : Nat} {xs : Nat → Int32} {τ : List Nat} {h : List mE} (hT : TH Tr τ h) (p1 : Int) (hp1 : (-2147483648) ≤ p1 ∧ p1 ≤ 2147483647) (p2 : Int) (hp2 : (-2147483648) ≤ p2 ∧ p2 ≤ 2147483647) (p3 : Int) (hp3 : (-2147483648) ≤ p3 ∧ p3 ≤ 2147483647) (p4 : Int) (hp4 : (-2147483648) ≤ p4 ∧ p4 ≤ 2147483647) (p5 : Int) (hp5 : (-2147483648) ≤ p5 ∧ p5 ≤ 2147483647) (pre0 : I1 τ h) (pre1 : I2 τ h) (pre2 : I8 h) (d : Nat) (hd : 3 ≤ d) (Q : Option Value → List mE → Prop) (hQ : ∀ v h', (∃ z : Int, v = some (vI z) ∧ ((-3) ≤ z ∧ z ≤ 99) ∧ (I8 h') ∧ ((0 ≤ p1 ∧ p1 < fI h 4 10 ∧ 0 ≤ p2 ∧ p2 < fI h 4 5 ∧ fI h 4 0 ≤ p3 ∧ p3 ≤ 23999 ∧ 1 ≤ p4 ∧ p4 ≤ 60 ∧ 1 ≤ p5 ∧ p5 ≤ 24 ∧ fI h 4 12 ≤ 99 ∧ z = fI h 4 12 + 0 ∧ fI h' 4 12 = fI h 4 12 + 1) ∨ (0 ≤ p1 ∧ p1 < fI h 4 10 ∧ 0 ≤ p2 ∧ p2 < fI h 4 5 ∧ fI h 4 0 ≤ p3 ∧ p3 ≤ 23999 ∧ 1 ≤ p4 ∧ p4 ≤ 60 ∧ 1 ≤ p5 ∧ p5 ≤ 24 ∧ 100 ≤ fI h 4 12 ∧ z = -3 ∧ fI h' 4 12 = fI h 4 12) ∨ ((p1 < 0 ∨ fI h 4 10 ≤ p1 ∨ p2 < 0 ∨ fI h 4 5 ≤ p2 ∨ p3 < fI h 4 0 ∨ 23999 < p3 ∨ p4 < 1 ∨ 60 < p4 ∨ p5 < 1 ∨ 24 < p5) ∧ z = -1 ∧ fI h' 4 12 = fI h 4 12)) ∧ ∃ τ' : List Nat, (∃ ts : List Nat, τ' = τ ++ ts ∧ gsT ts = true) ∧ TH Tr τ' h' ∧ Fr τ W136 h h' ∧ I1 τ' h' ∧ I2 τ' h') → Q v h') : MR (mex Ln xs) d 136 0 [some (.ref 4), some (vI p1), some (vI p2), some (vI p3), some (vI p4), some (vI p5), none, none, none] [] h Q := by
  have hF := Fr_rf τ W136 h
  have hE := Ext_rf τ
  refine st_aload c136_0 rfl ?_
  refine st_iload c136_1 rfl ?_
  have e1 := fI_bd (q := 4) hT (tf hT rfl rfl) fd_1_5
  refine st_callt (as := [vI p2]) c136_2 cm_168 hT (tf hT rfl rfl) fd_1_0 rfl rfl rfl rfl (by omega) (K168 hT p2 (by omega) pre2 (d - 1) (by omega) _ (fun v h0 H => H)) (fun v1 h1 H => ?_)
  rcases H with ⟨rfl, nf8, rfl⟩ | ⟨r6, rfl, t7, pf2, pf3, pf4, pf5, rfl⟩
  refine st_astoreN (L' := [some (.ref 4), some (vI p1), some (vI p2), some (vI p3), some (vI p4), some (vI p5), some .null, none, none]) c136_5 rfl rfl ?_
  refine st_aloadN c136_7 rfl ?_
  refine st_ifnullN c136_9 ?_
  refine st_iconst c136_60 ?_
  refine st_istore (L' := [some (.ref 4), some (vI p1), some (vI p2), some (vI p3), some (vI p4), some (vI p5), some .null, some (vI 0), none]) c136_61 rfl rfl ?_
  refine st_iload c136_63 rfl ?_
  refine st_if_ne c136_65 (by omega) (fun k9 => False.elim (by omega)) (fun k10 => ?_)
  refine st_iconst c136_68 ?_
  refine st_ireturn c136_69 ?_
  have e11 := fI_bd (q := 4) hT (tf hT rfl rfl) fd_1_12
  exact hQ _ _ ⟨(-1), rfl, by omega, pre2, by omega, _, ⟨[], (List.append_nil τ).symm, rfl⟩, hT, hF, pre0, pre1⟩
  refine st_astore (L' := [some (.ref 4), some (vI p1), some (vI p2), some (vI p3), some (vI p4), some (vI p5), some (.ref r6), none, none]) c136_5 rfl rfl ?_
  refine st_aload c136_7 rfl ?_
  refine st_ifnullR c136_9 ?_
  refine st_aload c136_12 rfl ?_
  refine st_iload c136_13 rfl ?_
  have e12 := fI_bd (q := 4) hT (tf hT rfl rfl) fd_1_10
  refine st_callt (as := [vI p1]) c136_14 cm_171 hT (tf hT rfl rfl) fd_1_0 rfl rfl rfl rfl (by omega) (K171 hT p1 (by omega) (d - 1) (by omega) _ (fun v h0 H => H)) (fun v1 h1 H => ?_)
  rcases H with ⟨rfl, pf13, rfl⟩ | ⟨rfl, pf14, pf15, rfl⟩
  refine st_if_eq c136_17 (by omega) (fun k16 => ?_) (fun k17 => False.elim (by omega))
  refine st_iconst c136_60 ?_
  refine st_istore (L' := [some (.ref 4), some (vI p1), some (vI p2), some (vI p3), some (vI p4), some (vI p5), some (.ref r6), some (vI 0), none]) c136_61 rfl rfl ?_
  refine st_iload c136_63 rfl ?_
  refine st_if_ne c136_65 (by omega) (fun k18 => False.elim (by omega)) (fun k19 => ?_)
  refine st_iconst c136_68 ?_
  refine st_ireturn c136_69 ?_
  have e20 := fI_bd (q := 4) hT (tf hT rfl rfl) fd_1_12
  exact hQ _ _ ⟨(-1), rfl, by omega, pre2, by omega, _, ⟨[], (List.append_nil τ).symm, rfl⟩, hT, hF, pre0, pre1⟩
  refine st_if_eq c136_17 (by omega) (fun k21 => False.elim (by omega)) (fun k22 => ?_)
  refine st_iload c136_20 rfl ?_
  refine st_aload c136_21 rfl ?_
  refine st_getI c136_22 hT (tf hT rfl rfl) fd_1_0 (fun e23 e24 => ?_)
  refine st_iconst c136_25 ?_
  refine st_calls (as := [vI p3, vI (fI h 4 0), vI 23999]) c136_28 cm_166 rfl rfl rfl rfl (by omega) (K166 hT p3 (by omega) (fI h 4 0) (by omega) 23999 (by omega) (d - 1) (by omega) _ (fun v h0 H => H)) (fun v1 h1 H => ?_)
  rcases H with ⟨rfl, pf25, rfl⟩ | ⟨rfl, pf26, pf27, rfl⟩
  refine st_if_eq c136_31 (by omega) (fun k28 => ?_) (fun k29 => False.elim (by omega))
  refine st_iconst c136_60 ?_
  refine st_istore (L' := [some (.ref 4), some (vI p1), some (vI p2), some (vI p3), some (vI p4), some (vI p5), some (.ref r6), some (vI 0), none]) c136_61 rfl rfl ?_
  refine st_iload c136_63 rfl ?_
  refine st_if_ne c136_65 (by omega) (fun k30 => False.elim (by omega)) (fun k31 => ?_)
  refine st_iconst c136_68 ?_
  refine st_ireturn c136_69 ?_
  have e32 := fI_bd (q := 4) hT (tf hT rfl rfl) fd_1_12
  exact hQ _ _ ⟨(-1), rfl, by omega, pre2, by omega, _, ⟨[], (List.append_nil τ).symm, rfl⟩, hT, hF, pre0, pre1⟩
  refine st_if_eq c136_31 (by omega) (fun k33 => False.elim (by omega)) (fun k34 => ?_)
  refine st_iload c136_34 rfl ?_
  refine st_iconst c136_36 ?_
  refine st_iconst c136_37 ?_
  refine st_calls (as := [vI p4, vI 1, vI 60]) c136_39 cm_166 rfl rfl rfl rfl (by omega) (K166 hT p4 (by omega) 1 (by omega) 60 (by omega) (d - 1) (by omega) _ (fun v h0 H => H)) (fun v1 h1 H => ?_)
  rcases H with ⟨rfl, pf35, rfl⟩ | ⟨rfl, pf36, pf37, rfl⟩
  refine st_if_eq c136_42 (by omega) (fun k38 => ?_) (fun k39 => False.elim (by omega))
  refine st_iconst c136_60 ?_
  refine st_istore (L' := [some (.ref 4), some (vI p1), some (vI p2), some (vI p3), some (vI p4), some (vI p5), some (.ref r6), some (vI 0), none]) c136_61 rfl rfl ?_
  refine st_iload c136_63 rfl ?_
  refine st_if_ne c136_65 (by omega) (fun k40 => False.elim (by omega)) (fun k41 => ?_)
  refine st_iconst c136_68 ?_
  refine st_ireturn c136_69 ?_
  have e42 := fI_bd (q := 4) hT (tf hT rfl rfl) fd_1_12
  exact hQ _ _ ⟨(-1), rfl, by omega, pre2, by omega, _, ⟨[], (List.append_nil τ).symm, rfl⟩, hT, hF, pre0, pre1⟩
  refine st_if_eq c136_42 (by omega) (fun k43 => False.elim (by omega)) (fun k44 => ?_)
  refine st_iload c136_45 rfl ?_
  refine st_iconst c136_47 ?_
  refine st_iconst c136_48 ?_
  refine st_calls (as := [vI p5, vI 1, vI 24]) c136_50 cm_166 rfl rfl rfl rfl (by omega) (K166 hT p5 (by omega) 1 (by omega) 24 (by omega) (d - 1) (by omega) _ (fun v h0 H => H)) (fun v1 h1 H => ?_)
  rcases H with ⟨rfl, pf45, rfl⟩ | ⟨rfl, pf46, pf47, rfl⟩
  refine st_if_eq c136_53 (by omega) (fun k48 => ?_) (fun k49 => False.elim (by omega))
  refine st_iconst c136_60 ?_
  refine st_istore (L' := [some (.ref 4), some (vI p1), some (vI p2), some (vI p3), some (vI p4), some (vI p5), some (.ref r6), some (vI 0), none]) c136_61 rfl rfl ?_
  refine st_iload c136_63 rfl ?_
  refine st_if_ne c136_65 (by omega) (fun k50 => False.elim (by omega)) (fun k51 => ?_)
  refine st_iconst c136_68 ?_
  refine st_ireturn c136_69 ?_
  have e52 := fI_bd (q := 4) hT (tf hT rfl rfl) fd_1_12
  exact hQ _ _ ⟨(-1), rfl, by omega, pre2, by omega, _, ⟨[], (List.append_nil τ).symm, rfl⟩, hT, hF, pre0, pre1⟩
  refine st_if_eq c136_53 (by omega) (fun k53 => False.elim (by omega)) (fun k54 => ?_)
  refine st_iconst c136_56 ?_
  refine st_goto c136_57 ?_
  refine st_istore (L' := [some (.ref 4), some (vI p1), some (vI p2), some (vI p3), some (vI p4), some (vI p5), some (.ref r6), some (vI 1), none]) c136_61 rfl rfl ?_
  refine st_iload c136_63 rfl ?_
  refine st_if_ne c136_65 (by omega) (fun k55 => ?_) (fun k56 => False.elim (by omega))
  refine st_aload c136_70 rfl ?_
  refine st_getI c136_71 hT (tf hT rfl rfl) fd_1_12 (fun e57 e58 => ?_)
  refine st_iconst c136_74 ?_
  refine st_icmp_lt c136_76 (by omega) (by omega) (fun k59 => ?_) (fun k60 => ?_)
  refine tl_new (fs := [.int 0, .int 0, .int 0, .int 0, .int 0, .null, .int 0, .int 0, .int 0, .int 0, .null, .int 0, .int 0, .null, .null, .null]) c136_82 rfl rfl ?_
  obtain ⟨h61, eh62⟩ : ∃ x, x = h ++ [.inr (7, [.int 0, .int 0, .int 0, .int 0, .int 0, .null, .int 0, .int 0, .int 0, .int 0, .null, .int 0, .int 0, .null, .null, .null])] := ⟨_, rfl⟩
  rw [← eh62]
  have hT63 : TH Tr (τ ++ [0]) h61 := by rw [eh62]; exact TH_raw hT
  have hX65 : Fr τ [] h h61 := by rw [eh62]; exact Fr_app hT
  have hF64 : Fr τ W136 h h61 := Fr_tr hF (by rw [eh62]; exact Fr_app hT)
  refine st_dup c136_85 rfl ?_
  refine st_aload c136_86 rfl ?_
  refine st_getI c136_87 hT63 (tf hT63 rfl rfl) fd_1_12 (fun e66 e67 => ?_)
  have q68 : fI h61 4 12 = fI h 4 12 := Fr_fI hX65 (tf hT rfl rfl) rfl
  refine st_aload c136_90 rfl ?_
  refine st_iload c136_92 rfl ?_
  refine st_iload c136_93 rfl ?_
  refine st_iload c136_95 rfl ?_
  refine st_aload c136_97 rfl ?_
  refine st_getI c136_98 hT63 (tf hT63 rfl rfl) fd_1_0 (fun e69 e70 => ?_)
  have q71 : fI h61 4 0 = fI h 4 0 := Fr_fI hX65 (tf hT rfl rfl) rfl
  have ct72 := KI66 (X := mex Ln xs) (h := h) (fI h61 4 12) r6 p3 p4 p5 (fI h61 4 0) (d - 1) (by omega)
  rw [← eh62] at ct72
  refine st_callp (as := [vI (fI h61 4 12), .ref r6, vI p3, vI p4, vI p5, vI (fI h61 4 0)]) c136_101 cm_66 rfl rfl rfl rfl (by omega) ct72 (fun v1 h1 H => ?_)
  obtain ⟨rfl, rfl⟩ := H
  obtain ⟨h73, eh74⟩ : ∃ x, x = h ++ [.inr (7, [vI (fI h61 4 12), vI p3, vI p4, vI p5, vI (fI h61 4 0), .ref r6, .int 0, .int 0, .int 0, .int 0, .null, vI (-1), vI (-1), .ref (h.length + 4 + 1), .ref (h.length + 4 + 2), .ref (h.length + 4 + 3)]), .inl (1, (60, .inl (fun _ => 0))), .inl (0, (2, .inl (upd (upd (fun _ => 0) 0 (Int32.ofInt (-1))) 1 (Int32.ofInt (-1))))), .inl (0, (2, .inl (upd (upd (fun _ => 0) 0 (Int32.ofInt (-1))) 1 (Int32.ofInt (-1)))))] := ⟨_, rfl⟩
  rw [← eh74]
  have hT75 : TH Tr (τ ++ [12, 118, 119, 120]) h73 := by
    rw [eh74]
    exact TH_app hT rfl (fun i t e h1 h2 => match i, h1, h2 with
        | 0, h1, h2 => by cases h1; cases h2; exact okC_o (fts := [(0, (-2147483648), 2147483647), (0, (-2147483648), 2147483647), (0, (-2147483648), 2147483647), (0, (-2147483648), 2147483647), (0, (-2147483648), 2147483647), (2, 9, 0), (0, (-2147483648), 2147483647), (0, (-2147483648), 2147483647), (0, (-2147483648), 2147483647), (0, (-2147483648), 2147483647), (3, 10, 0), (0, (-2147483648), 2147483647), (0, (-2147483648), 2147483647), (2, 118, 0), (2, 119, 0), (2, 120, 0)]) rfl (fun kk ft vv b1 b2 => match kk, b1, b2 with | 0, b1, b2 => by cases b1; cases b2; exact okV_i (by omega) (by omega) | 1, b1, b2 => by cases b1; cases b2; exact okV_i (by omega) (by omega) | 2, b1, b2 => by cases b1; cases b2; exact okV_i (by omega) (by omega) | 3, b1, b2 => by cases b1; cases b2; exact okV_i (by omega) (by omega) | 4, b1, b2 => by cases b1; cases b2; exact okV_i (by omega) (by omega) | 5, b1, b2 => by cases b1; cases b2; exact ⟨_, rfl, (Ext_ty Ext_app t7)⟩ | 6, b1, b2 => by cases b1; cases b2; exact okV_0 (by decide) | 7, b1, b2 => by cases b1; cases b2; exact okV_0 (by decide) | 8, b1, b2 => by cases b1; cases b2; exact okV_0 (by decide) | 9, b1, b2 => by cases b1; cases b2; exact okV_0 (by decide) | 10, b1, b2 => by cases b1; cases b2; exact Or.inl rfl | 11, b1, b2 => by cases b1; cases b2; exact okV_i (by omega) (by omega) | 12, b1, b2 => by cases b1; cases b2; exact okV_i (by omega) (by omega) | 13, b1, b2 => by cases b1; cases b2; exact ⟨_, rfl, ty_new (k := 1) hT rfl⟩ | 14, b1, b2 => by cases b1; cases b2; exact ⟨_, rfl, ty_new (k := 2) hT rfl⟩ | 15, b1, b2 => by cases b1; cases b2; exact ⟨_, rfl, ty_new (k := 3) hT rfl⟩ | n + 16, b1, b2 => by cases b1)
        | 1, h1, h2 => by cases h1; cases h2; exact okC_i (lo := 0) (hi := 1) (by omega) (by omega) ok_zero
        | 2, h1, h2 => by cases h1; cases h2; exact okC_i (lo := (-2147483648)) (hi := 2147483647) (by omega) (by omega) ok_full
        | 3, h1, h2 => by cases h1; cases h2; exact okC_i (lo := (-2147483648)) (hi := 2147483647) (by omega) (by omega) ok_full
        | n + 4, h1, h2 => by cases h1)
  have hX77 : Fr τ [] h h73 := by rw [eh74]; exact Fr_app hT
  have hF76 : Fr τ W136 h h73 := Fr_tr hF (by rw [eh74]; exact Fr_app hT)
  have hE := Ext_app (τ := τ) (ts := [12, 118, 119, 120])
  have t79 : ty (τ ++ [12, 118, 119, 120]) (h.length + 4) 12 := ty_new (k := 0) hT rfl
  have iv80 : I1 (τ ++ [12, 118, 119, 120]) h73 := by rw [eh74]; exact I1_app0 pre0 hT rfl
  have iv81 : I2 (τ ++ [12, 118, 119, 120]) h73 := by rw [eh74]; exact I2_app0 pre1 hT rfl
  refine st_astore (L' := [some (.ref 4), some (vI p1), some (vI p2), some (vI p3), some (vI p4), some (vI p5), some (.ref r6), some (vI 1), some (.ref (h.length + 4))]) c136_104 rfl rfl ?_
  refine st_aload c136_106 rfl ?_
  refine st_iload c136_108 rfl ?_
  refine st_putI c136_109 hT75 t79 fd_12_6 (by omega) (by omega) hE Stb_T hF76 (by decide +kernel) (fun h82 hT83 hF84 hU85 => ?_)
  refine st_aload c136_112 rfl ?_
  refine st_aload c136_114 rfl ?_
  refine st_getX (u := 36) c136_115 hT83 (tf hT83 rfl rfl) fd_1_8 rfl ?_
  refine st_iload c136_118 rfl ?_
  refine st_iald c136_119 hT83 (tf hT83 rfl rfl) ay_17 (by omega) (fun e86 e87 => ?_)
  have q88 : aI h82 36 p1 = aI h 36 p1 := (FUp_aI hU85 p1).trans (Fr_aI hX77 (tf hT rfl rfl) rfl p1)
  refine st_putI c136_120 hT83 t79 fd_12_7 (by omega) (by omega) hE Stb_T hF84 (by decide +kernel) (fun h89 hT90 hF91 hU92 => ?_)
  refine st_aload c136_123 rfl ?_
  refine st_aload c136_125 rfl ?_
  refine st_getX (u := 37) c136_126 hT90 (tf hT90 rfl rfl) fd_1_9 rfl ?_
  refine st_iload c136_129 rfl ?_
  refine st_iald c136_130 hT90 (tf hT90 rfl rfl) ay_18 (by omega) (fun e93 e94 => ?_)
  have q95 : aI h89 37 p1 = aI h 37 p1 := (FUp_aI hU92 p1).trans ((FUp_aI hU85 p1).trans (Fr_aI hX77 (tf hT rfl rfl) rfl p1))
  refine st_putI c136_131 hT90 t79 fd_12_8 (by omega) (by omega) hE Stb_T hF91 (by decide +kernel) (fun h96 hT97 hF98 hU99 => ?_)
  refine st_aload c136_134 rfl ?_
  refine st_getX (u := 38) c136_135 hT97 (tf hT97 rfl rfl) fd_1_11 rfl ?_
  refine st_aload c136_138 rfl ?_
  refine st_getI c136_139 hT97 (tf hT97 rfl rfl) fd_1_12 (fun e100 e101 => ?_)
  have q102 : fI h96 4 12 = fI h 4 12 := (FUp_fIne hU99 (fun z => absurd z.2 (by decide))).trans ((FUp_fIne hU92 (fun z => absurd z.2 (by decide))).trans ((FUp_fIne hU85 (fun z => absurd z.2 (by decide))).trans (Fr_fI hX77 (tf hT rfl rfl) rfl)))
  refine st_aload c136_142 rfl ?_
  refine st_aast c136_144 hT97 (tf hT97 rfl rfl) ay_19 t79 rfl fd_12_0 rfl (by omega) hE Stb_T hF98 (by decide +kernel) (fun h103 hT104 hF105 hU106 => ?_)
  refine st_aload c136_145 rfl ?_
  refine st_dup c136_146 rfl ?_
  refine st_getI c136_147 hT104 (tf hT104 rfl rfl) fd_1_12 (fun e107 e108 => ?_)
  have q109 : fI h103 4 12 = fI h96 4 12 := OUp_fI hU106
  refine st_dup_x1 c136_150 rfl rfl ?_
  refine st_iconst c136_151 ?_
  refine st_iadd c136_152 ?_
  refine st_putI c136_153 hT104 (tf hT104 rfl rfl) fd_1_12 (by omega) (by omega) hE Stb_T hF105 (by decide +kernel) (fun h110 hT111 hF112 hU113 => ?_)
  have iv114 := I8_12 (I8_fr (I8_fr (I8_fr (I8_fr pre2 hT hX77 (by decide +kernel)) hT75 (FUp_1 hU85 t79) (by decide +kernel)) hT83 (FUp_1 hU92 t79) (by decide +kernel)) hT90 (FUp_1 hU99 t79) (by decide +kernel)) hU106 hU113 (by omega) (by omega) (by omega) (by omega)
  refine st_ireturn c136_156 ?_
  have e115 := fI_bd (q := 4) hT111 (tf hT111 rfl rfl) fd_1_12
  have q116 : fI h110 4 12 = (fI h103 4 12) + 1 := FUp_fI hU113 (by omega) (by omega)
  exact hQ _ _ ⟨fI h103 4 12, rfl, by omega, iv114, by omega, _, ⟨[12, 118, 119, 120], rfl, rfl⟩, hT111, hF112, (I1_fr (I1_fr (I1_fr (I1_fr (I1_fr iv80 hT75 (FUp_1 hU85 t79) (by decide +kernel)) hT83 (FUp_1 hU92 t79) (by decide +kernel)) hT90 (FUp_1 hU99 t79) (by decide +kernel)) hT97 (OUp_1 hU106 (tf hT97 rfl rfl)) (by decide +kernel)) hT104 (FUp_1 hU113 (tf hT104 rfl rfl)) (by decide +kernel)), (I2_fr (I2_fr (I2_fr (I2_fr (I2_fr iv81 (FUp_1 hU85 t79) (by decide +kernel)) (FUp_1 hU92 t79) (by decide +kernel)) (FUp_1 hU99 t79) (by decide +kernel)) (OUp_1 hU106 (tf hT97 rfl rfl)) (by decide +kernel)) (FUp_1 hU113 (tf hT104 rfl rfl)) (by decide +kernel))⟩
  refine st_iconst c136_79 ?_
  refine st_ireturn c136_81 ?_
  exact hQ _ _ ⟨(-3), rfl, by omega, pre2, by omega, _, ⟨[], (List.append_nil τ).symm, rfl⟩, hT, hF, pre0, pre1⟩
def W153 : List (Nat × Nat) := [(6, 1), (6, 5), (6, 6), (6, 7), (6, 9), (7, 1), (36, 0), (37, 0), (38, 0), (39, 0), (40, 0)]
set_option maxHeartbeats 0 in
theorem K153 {Ln : Nat} {xs : Nat → Int32} {τ : List Nat} {h : List mE} (hT : TH Tr τ h) (p1 : Int) (hp1 : (-2147483648) ≤ p1 ∧ p1 ≤ 2147483647) (p2 : Int) (hp2 : (-2147483648) ≤ p2 ∧ p2 ≤ 2147483647) (pre0 : I1 τ h) (pre1 : I2 τ h) (d : Nat) (hd : 88 ≤ d) (Q : Option Value → List mE → Prop) (hQ : ∀ v h', (∃ z : Int, v = some (vI z) ∧ ((-300) ≤ z ∧ z ≤ 15) ∧ (PTmC h h' p1 p2 z) ∧ ∃ τ' : List Nat, (∃ ts : List Nat, τ' = τ ++ ts ∧ gsT ts = true) ∧ TH Tr τ' h' ∧ Fr τ W153 h h' ∧ I1 τ' h' ∧ I2 τ' h') → Q v h') : MR (mex Ln xs) d 153 0 [some (.ref 4), some (vI p1), some (vI p2), none] [] h Q := by
  have hF := Fr_rf τ W153 h
  have hE := Ext_rf τ
  refine st_iload c153_0 rfl ?_
  refine st_calls (as := [vI p1]) c153_1 cm_167 rfl rfl rfl rfl (by omega) (K167 hT p1 (by omega) (d - 1) (by omega) _ (fun v h0 H => H)) (fun v1 h1 H => ?_)
  rcases H with ⟨rfl, pf1, rfl⟩ | ⟨rfl, pf2, pf3, rfl⟩
  refine st_if_eq c153_4 (by omega) (fun k4 => ?_) (fun k5 => False.elim (by omega))
  refine st_iconst c153_18 ?_
  refine st_ireturn c153_19 ?_
  have e6 := fI_bd (q := 54) hT (tf hT rfl rfl) fd_6_1
  have e7 := fI_bd (q := 60) hT (tf hT rfl rfl) fd_7_1
  exact hQ _ _ ⟨(-1), rfl, by omega, ⟨(fun _ => rfl), Or.inl ⟨by omega, by omega, by omega, by omega⟩⟩, _, ⟨[], (List.append_nil τ).symm, rfl⟩, hT, hF, pre0, pre1⟩
  refine st_if_eq c153_4 (by omega) (fun k9 => False.elim (by omega)) (fun k10 => ?_)
  refine st_iload c153_7 rfl ?_
  refine st_iconst c153_8 ?_
  refine st_iconst c153_9 ?_
  refine st_calls (as := [vI p2, vI 0, vI 999]) c153_12 cm_166 rfl rfl rfl rfl (by omega) (K166 hT p2 (by omega) 0 (by omega) 999 (by omega) (d - 1) (by omega) _ (fun v h0 H => H)) (fun v1 h1 H => ?_)
  rcases H with ⟨rfl, pf11, rfl⟩ | ⟨rfl, pf12, pf13, rfl⟩
  refine st_if_ne c153_15 (by omega) (fun k14 => False.elim (by omega)) (fun k15 => ?_)
  refine st_iconst c153_18 ?_
  refine st_ireturn c153_19 ?_
  have e16 := fI_bd (q := 54) hT (tf hT rfl rfl) fd_6_1
  have e17 := fI_bd (q := 60) hT (tf hT rfl rfl) fd_7_1
  exact hQ _ _ ⟨(-1), rfl, by omega, ⟨(fun _ => rfl), Or.inl ⟨by omega, by omega, by omega, by omega⟩⟩, _, ⟨[], (List.append_nil τ).symm, rfl⟩, hT, hF, pre0, pre1⟩
  refine st_if_ne c153_15 (by omega) (fun k19 => ?_) (fun k20 => False.elim (by omega))
  refine st_aload c153_20 rfl ?_
  refine st_getX (u := 60) c153_21 hT (tf hT rfl rfl) fd_1_17 rfl ?_
  have e21 := fI_bd (q := 60) hT (tf hT rfl rfl) fd_7_1
  refine st_callt (as := []) c153_24 cm_1 hT (tf hT rfl rfl) fd_7_0 rfl rfl rfl rfl (by omega) (K1 hT (d - 1) (by omega) _ (fun v h0 H => H)) (fun v1 h1 H => ?_)
  rcases H with ⟨rfl, pf22, rfl⟩ | ⟨rfl, pf23, rfl⟩
  refine st_if_eq c153_27 (by omega) (fun k24 => ?_) (fun k25 => False.elim (by omega))
  refine st_aload c153_33 rfl ?_
  refine st_getX (u := 54) c153_34 hT (tf hT rfl rfl) fd_1_16 rfl ?_
  have e26 := fI_bd (q := 54) hT (tf hT rfl rfl) fd_6_1
  refine st_callt (as := []) c153_37 cm_94 hT (tf hT rfl rfl) fd_6_0 rfl rfl rfl rfl (by omega) (K94 hT Stb_T (d - 1) (by omega) _ (fun v h0 H => H)) (fun v1 h27 H => ?_)
  obtain ⟨z32, rfl, b33, pf30, pf31, hT28, hF29⟩ := H
  have hF34 := Fr_cp hF hF29 (by decide +kernel : Wsub W94 W153 = true)
  refine st_istore (L' := [some (.ref 4), some (vI p1), some (vI p2), some (vI z32)]) c153_40 rfl rfl ?_
  refine st_aload c153_41 rfl ?_
  refine st_getX (u := 54) c153_42 hT28 (tf hT28 rfl rfl) fd_1_16 rfl ?_
  refine st_iconst c153_45 ?_
  refine st_putI c153_46 hT28 (tf hT28 rfl rfl) fd_6_1 (by omega) (by omega) hE Stb_T hF34 (by decide +kernel) (fun h35 hT36 hF37 hU38 => ?_)
  refine st_iload c153_49 rfl ?_
  refine st_if_lt c153_50 (by omega) (fun k39 => ?_) (fun k40 => ?_)
  refine st_aload c153_58 rfl ?_
  refine st_getX (u := 60) c153_59 hT36 (tf hT36 rfl rfl) fd_1_17 rfl ?_
  refine tl_new (fs := [.int 0, .int 0, .int 0, .null]) c153_62 rfl rfl ?_
  obtain ⟨h41, eh42⟩ : ∃ x, x = h35 ++ [.inr (10, [.int 0, .int 0, .int 0, .null])] := ⟨_, rfl⟩
  rw [← eh42]
  have hT43 : TH Tr (τ ++ [0]) h41 := by rw [eh42]; exact TH_raw hT36
  have hX45 : Fr τ [] h35 h41 := by rw [eh42]; exact Fr_app hT36
  have hF44 : Fr τ W153 h h41 := Fr_tr hF37 (by rw [eh42]; exact Fr_app hT36)
  refine st_dup c153_65 rfl ?_
  refine st_iload c153_66 rfl ?_
  refine st_iload c153_67 rfl ?_
  refine st_aload c153_68 rfl ?_
  refine st_getI c153_69 hT43 (tf hT43 rfl rfl) fd_1_0 (fun e46 e47 => ?_)
  have q48 : fI h41 4 0 = fI h 4 0 := (Fr_fI hX45 (tf hT36 rfl rfl) rfl).trans ((FUp_fIne hU38 (fun z => absurd z.2 (by decide))).trans (Fr_fI hF29 (tf hT rfl rfl) (by decide +kernel)))
  refine st_iconst c153_72 ?_
  refine st_idivp c153_74 (by omega) (by omega) ?_
  refine st_aload c153_75 rfl ?_
  refine st_getX (u := 54) c153_76 hT43 (tf hT43 rfl rfl) fd_1_16 rfl ?_
  have e53 := fI_bd (q := 54) hT43 (tf hT43 rfl rfl) fd_6_9
  have q54 : fI h41 54 9 = fI h27 54 9 := (Fr_fI hX45 (tf hT36 rfl rfl) rfl).trans (FUp_fIne hU38 (fun z => absurd z.2 (by decide)))
  refine st_callt8 (as := []) c153_79 cm_95 hT43 (tf hT43 rfl rfl) fd_6_0 rfl (Nat.le_of_ble_eq_true rfl) rfl rfl (by omega) (K95 hT43 (d - 1) (by omega)) (fun v1 h1 H => ?_)
  obtain ⟨n49, g50, e51, rfl, rfl, e52⟩ := H
  rw [show (h41 ++ [(.inl (0, (n49, .inl g50)) : mE)]) = h35 ++ [.inr (10, [.int 0, .int 0, .int 0, .null]), .inl (0, (n49, .inl g50))] from (by rw [eh42, List.append_assoc]; try rfl), show h41.length + 4 = h35.length + 4 + 1 from (by rw [eh42, List.length_append, List.length_singleton]; try omega)]
  have ct55 := KI112 (X := mex Ln xs) (h := h35) (e0 := .inl (0, (n49, .inl g50))) p1 p2 ((fI h41 4 0) / 24) (h35.length + 4 + 1) (d - 1) (by omega)
  refine st_callp (as := [vI p1, vI p2, vI ((fI h41 4 0) / 24), .ref (h35.length + 4 + 1)]) c153_82 cm_112 rfl rfl rfl rfl (by omega) ct55 (fun v1 h1 H => ?_)
  obtain ⟨rfl, rfl⟩ := H
  obtain ⟨h56, eh57⟩ : ∃ x, x = h35 ++ [.inr (10, [vI p1, vI p2, vI ((fI h41 4 0) / 24), .ref (h35.length + 4 + 1)]), .inl (0, (n49, .inl g50))] := ⟨_, rfl⟩
  rw [← eh57]
  have hT58 : TH Tr (τ ++ [13, 121]) h56 := by
    rw [eh57]
    exact TH_app hT36 rfl (fun i t e h1 h2 => match i, h1, h2 with
        | 0, h1, h2 => by cases h1; cases h2; exact okC_o (fts := [(0, (-2147483648), 2147483647), (0, (-2147483648), 2147483647), (0, (-2147483648), 2147483647), (2, 121, 0)]) rfl (fun kk ft vv b1 b2 => match kk, b1, b2 with | 0, b1, b2 => by cases b1; cases b2; exact okV_i (by omega) (by omega) | 1, b1, b2 => by cases b1; cases b2; exact okV_i (by omega) (by omega) | 2, b1, b2 => by cases b1; cases b2; exact okV_i (by omega) (by omega) | 3, b1, b2 => by cases b1; cases b2; exact ⟨_, rfl, ty_new (k := 1) hT36 rfl⟩ | n + 4, b1, b2 => by cases b1)
        | 1, h1, h2 => by cases h1; cases h2; exact okC_i (lo := (-2147483648)) (hi := 2147483647) (by omega) (by omega) ok_full
        | n + 2, h1, h2 => by cases h1)
  have hX60 : Fr τ [] h35 h56 := by rw [eh57]; exact Fr_app hT36
  have hF59 : Fr τ W153 h h56 := Fr_tr hF37 (by rw [eh57]; exact Fr_app hT36)
  have hE := Ext_app (τ := τ) (ts := [13, 121])
  have t62 : ty (τ ++ [13, 121]) (h35.length + 4) 13 := ty_new (k := 0) hT36 rfl
  have iv63 : I1 (τ ++ [13, 121]) h56 := by rw [eh57]; exact I1_app0 (I1_fr (I1_fr pre0 hT hF29 (by decide +kernel)) hT28 (FUp_1 hU38 (tf hT28 rfl rfl)) (by decide +kernel)) hT36 rfl
  have e65 := fI_bd (q := 54) hT36 (tf hT36 rfl rfl) fd_6_9
  have q66 : fI h35 54 9 = fI h27 54 9 := FUp_fIne hU38 (fun z => absurd z.2 (by decide))
  have iv64 : I2 (τ ++ [13, 121]) h56 := by
    rw [eh57]
    refine I2_app (I2_fr (I2_fr pre1 hF29 (by decide +kernel)) (FUp_1 hU38 (tf hT28 rfl rfl)) (by decide +kernel)) hT36 (fun k hk => ?_)
    match k, hk with
    | 0, hk =>
      have n1 : aN (h35 ++ [.inr (10, [vI p1, vI p2, vI ((fI h41 4 0) / 24), .ref (h35.length + 4 + 1)]), .inl (0, (n49, .inl g50))]) (h35.length + 4 + 1) = n49 := tl_aN (T := [.inr (10, [vI p1, vI p2, vI ((fI h41 4 0) / 24), .ref (h35.length + 4 + 1)]), .inl (0, (n49, .inl g50))]) (k := 1) rfl
      refine ⟨h35.length + 4 + 1, tl_fR (T := [.inr (10, [vI p1, vI p2, vI ((fI h41 4 0) / 24), .ref (h35.length + 4 + 1)]), .inl (0, (n49, .inl g50))]) (k := 0) rfl rfl, ty_new (k := 1) hT36 rfl, ?_⟩
      refine Ch_of (I7_fr pf30 hT28 (FUp_1 hU38 (tf hT28 rfl rfl)) (by decide +kernel)) (by rw [n1]; omega) (fun j b1 b2 => ?_)
      rw [n1] at b2
      have a1 : aI (h35 ++ [.inr (10, [vI p1, vI p2, vI ((fI h41 4 0) / 24), .ref (h35.length + 4 + 1)]), .inl (0, (n49, .inl g50))]) (h35.length + 4 + 1) j = (g50 j.toNat).toInt := tl_aI (T := [.inr (10, [vI p1, vI p2, vI ((fI h41 4 0) / 24), .ref (h35.length + 4 + 1)]), .inl (0, (n49, .inl g50))]) (k := 1) rfl
      rw [a1, e52 j.toNat (by omega)]
      exact Fr_aI hX45 (tf hT36 rfl rfl) rfl j
    | 1, hk => cases hk
    | k + 2, hk => cases hk
  have e67 := fI_bd (q := 60) hT58 (tf hT58 rfl rfl) fd_7_1
  have q68 : fI h56 60 1 = fI h 60 1 := (Fr_fI hX60 (tf hT36 rfl rfl) rfl).trans ((FUp_fIne hU38 (fun z => absurd z.1 (by decide))).trans (Fr_fI hF29 (tf hT rfl rfl) (by decide +kernel)))
  refine st_callt (as := [.ref (h35.length + 4)]) c153_85 cm_3 hT58 (tf hT58 rfl rfl) fd_7_0 rfl rfl rfl rfl (by omega) (K3 hT58 Stb_T (h35.length + 4) t62 (d - 1) (by omega) _ (fun v h0 H => H)) (fun v1 h69 H => ?_)
  obtain ⟨z73, rfl, b74, pf72, hT70, hF71⟩ := H
  have hF75 := Fr_cp hF59 (Fr_dn hE hF71) (by decide +kernel : Wsub W3 W153 = true)
  have e76 := fI_bd (q := 60) hT70 (tf hT70 rfl rfl) fd_7_1
  refine st_ireturn c153_88 ?_
  have e77 := fI_bd (q := 54) hT70 (tf hT70 rfl rfl) fd_6_1
  have q78 : fI h69 54 1 = 0 := (Fr_fI hF71 (tf hT58 rfl rfl) (by decide +kernel)).trans ((Fr_fI hX60 (tf hT36 rfl rfl) rfl).trans (FUp_fI hU38 (by omega) (by omega)))
  have sm79 : Same 55 h h69 := fun i => by
    rw [(Fr_aI hF71 (tf hT58 rfl rfl) (by decide +kernel) i : aI h69 55 i = aI h56 55 i)]
    rw [(Fr_aI hX60 (tf hT36 rfl rfl) rfl i : aI h56 55 i = aI h35 55 i)]
    rw [(FUp_aI hU38 i : aI h35 55 i = aI h27 55 i)]
    rw [(Fr_aI hF29 (tf hT rfl rfl) (by decide +kernel) i : aI h27 55 i = aI h 55 i)]
  exact hQ _ _ ⟨z73, rfl, by omega, ⟨sm79, Or.inr (Or.inr ⟨by omega, by omega, by omega, by omega, by omega, by omega, z32, pf31, by omega⟩)⟩, _, ⟨[13, 121], rfl, rfl⟩, hT70, hF75, (I1_fr iv63 hT58 hF71 (by decide +kernel)), (I2_fr iv64 hF71 (by decide +kernel))⟩
  refine st_iconst c153_53 ?_
  refine st_iload c153_55 rfl ?_
  have e80 := fI_bd (q := 54) hT36 (tf hT36 rfl rfl) fd_6_1
  have q81 : fI h35 54 1 = 0 := FUp_fI hU38 (by omega) (by omega)
  have e82 := fI_bd (q := 54) hT (tf hT rfl rfl) fd_6_1
  have cb83 := CP_bd (by omega) pf31
  refine st_isub c153_56 ?_
  refine st_ireturn c153_57 ?_
  have e84 := fI_bd (q := 60) hT36 (tf hT36 rfl rfl) fd_7_1
  have q85 : fI h35 60 1 = fI h 60 1 := (FUp_fIne hU38 (fun z => absurd z.1 (by decide))).trans (Fr_fI hF29 (tf hT rfl rfl) (by decide +kernel))
  have sm86 : Same 55 h h35 := fun i => by
    rw [(FUp_aI hU38 i : aI h35 55 i = aI h27 55 i)]
    rw [(Fr_aI hF29 (tf hT rfl rfl) (by decide +kernel) i : aI h27 55 i = aI h 55 i)]
  exact hQ _ _ ⟨(-100) - z32, rfl, by omega, ⟨sm86, Or.inr (Or.inr ⟨by omega, by omega, by omega, by omega, by omega, by omega, z32, pf31, by omega⟩)⟩, _, ⟨[], (List.append_nil τ).symm, rfl⟩, hT36, hF37, (I1_fr (I1_fr pre0 hT hF29 (by decide +kernel)) hT28 (FUp_1 hU38 (tf hT28 rfl rfl)) (by decide +kernel)), (I2_fr (I2_fr pre1 hF29 (by decide +kernel)) (FUp_1 hU38 (tf hT28 rfl rfl)) (by decide +kernel))⟩
  refine st_if_eq c153_27 (by omega) (fun k87 => False.elim (by omega)) (fun k88 => ?_)
  refine st_iconst c153_30 ?_
  refine st_ireturn c153_32 ?_
  have e89 := fI_bd (q := 54) hT (tf hT rfl rfl) fd_6_1
  exact hQ _ _ ⟨(-3), rfl, by omega, ⟨(fun _ => rfl), Or.inr (Or.inl ⟨by omega, by omega, by omega, by omega, by omega, by omega, by omega, by omega⟩)⟩, _, ⟨[], (List.append_nil τ).symm, rfl⟩, hT, hF, pre0, pre1⟩
