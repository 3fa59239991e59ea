def W255 : List (Nat × Nat) := [(8, 93), (107, 0), (108, 0), (109, 0)]
set_option maxHeartbeats 0 in
theorem K255 {Ln : Nat} {xs : Nat → Int32} {τ : List Nat} {h : List mE} {E : EP} (hT : TH E τ h) (hS : Stb E W255) (p1 : Int) (hp1 : (-2147483648) ≤ p1 ∧ p1 ≤ 2147483647) (p2 : Int) (hp2 : (-2147483648) ≤ p2 ∧ p2 ≤ 2147483647) (p3 : Int) (hp3 : (-2147483648) ≤ p3 ∧ p3 ≤ 2147483647) (pre0 : fI h 64 93≤219) (d : Nat) (hd : 0 ≤ d) (Q : Option Value → List mE → Prop) (hQ : ∀ v h', (v = none ∧ (fI h' 64 93=fI h 64 93+1) ∧ (aI h' 129 (220 * fI h 64 92 + fI h 64 93) = p1) ∧ (aI h' 130 (220 * fI h 64 92 + fI h 64 93) = p2) ∧ (∀ i : Int, 0 ≤ i → i < 220 * fI h 64 92 + fI h 64 93 → aI h' 129 i = aI h 129 i) ∧ (∀ i : Int, 0 ≤ i → i < 220 * fI h 64 92 + fI h 64 93 → aI h' 130 i = aI h 130 i) ∧ TH E τ h' ∧ Fr τ W255 h h') → Q v h') : MR (mex Ln xs) d 255 0 [some (.ref 64), some (vI p1), some (vI p2), some (vI p3)] [] h Q := by
  have hF := Fr_rf τ W255 h
  have e1 := fI_bd (q := 64) hT (tf hT rfl rfl) fd_8_93
  refine st_aload c255_0 rfl ?_
  refine st_getX (u := 129) c255_1 hT (tf hT rfl rfl) fd_8_83 rfl ?_
  refine st_iconst c255_4 ?_
  refine st_aload c255_7 rfl ?_
  refine st_getI c255_8 hT (tf hT rfl rfl) fd_8_92 (fun e2 e3 => ?_)
  refine st_imul c255_11 ?_
  refine st_aload c255_12 rfl ?_
  refine st_getI c255_13 hT (tf hT rfl rfl) fd_8_93 (fun e4 e5 => ?_)
  refine st_iadd c255_16 ?_
  refine st_iload c255_17 rfl ?_
  refine st_iast c255_18 hT (tf hT rfl rfl) ay_107 (by omega) (by omega) (by omega) (Ext_rf _) hS hF (by decide +kernel) (fun h6 hT7 hF8 hU9 => ?_)
  refine st_aload c255_19 rfl ?_
  refine st_getX (u := 130) c255_20 hT7 (tf hT7 rfl rfl) fd_8_84 rfl ?_
  refine st_iconst c255_23 ?_
  refine st_aload c255_26 rfl ?_
  refine st_getI c255_27 hT7 (tf hT7 rfl rfl) fd_8_92 (fun e10 e11 => ?_)
  have q12 : fI h6 64 92 = fI h 64 92 := AUp_fI hU9
  refine st_imul c255_30 ?_
  refine st_aload c255_31 rfl ?_
  refine st_getI c255_32 hT7 (tf hT7 rfl rfl) fd_8_93 (fun e13 e14 => ?_)
  have q15 : fI h6 64 93 = fI h 64 93 := AUp_fI hU9
  refine st_iadd c255_35 ?_
  refine st_iload c255_36 rfl ?_
  refine st_iast c255_37 hT7 (tf hT7 rfl rfl) ay_108 (by omega) (by omega) (by omega) (Ext_rf _) hS hF8 (by decide +kernel) (fun h16 hT17 hF18 hU19 => ?_)
  refine st_aload c255_38 rfl ?_
  refine st_getX (u := 131) c255_39 hT17 (tf hT17 rfl rfl) fd_8_85 rfl ?_
  refine st_iconst c255_42 ?_
  refine st_aload c255_45 rfl ?_
  refine st_getI c255_46 hT17 (tf hT17 rfl rfl) fd_8_92 (fun e20 e21 => ?_)
  have q22 : fI h16 64 92 = fI h6 64 92 := AUp_fI hU19
  refine st_imul c255_49 ?_
  refine st_aload c255_50 rfl ?_
  refine st_getI c255_51 hT17 (tf hT17 rfl rfl) fd_8_93 (fun e23 e24 => ?_)
  have q25 : fI h16 64 93 = fI h6 64 93 := AUp_fI hU19
  refine st_iadd c255_54 ?_
  refine st_iload c255_55 rfl ?_
  refine st_iast c255_56 hT17 (tf hT17 rfl rfl) ay_109 (by omega) (by omega) (by omega) (Ext_rf _) hS hF18 (by decide +kernel) (fun h26 hT27 hF28 hU29 => ?_)
  refine st_aload c255_57 rfl ?_
  refine st_dup c255_58 rfl ?_
  refine st_getI c255_59 hT27 (tf hT27 rfl rfl) fd_8_93 (fun e30 e31 => ?_)
  have q32 : fI h26 64 93 = fI h16 64 93 := AUp_fI hU29
  refine st_iconst c255_62 ?_
  refine st_iadd c255_63 ?_
  refine st_putI c255_64 hT27 (tf hT27 rfl rfl) fd_8_93 (by omega) (by omega) (Ext_rf _) hS hF28 (by decide +kernel) (fun h33 hT34 hF35 hU36 => ?_)
  refine st_return c255_67 ?_
  have e37 := fI_bd (q := 64) hT34 (tf hT34 rfl rfl) fd_8_93
  have q38 : fI h33 64 93 = (fI h26 64 93) + 1 := FUp_fI hU36 (by omega) (by omega)
  have fr39 : ∀ i : Int, 0 ≤ i → i < 220 * fI h 64 92 + fI h 64 93 → aI h33 129 i = aI h 129 i := fun i a b => ((FUp_aI hU36 i)).trans (((AUp_aIne hU29 (by decide) i)).trans (((AUp_aIne hU19 (by decide) i)).trans (((AUp_aI hU9 (by omega) (by omega) (by omega) a).trans (if_neg (by omega))))))
  have fr40 : ∀ i : Int, 0 ≤ i → i < 220 * fI h 64 92 + fI h 64 93 → aI h33 130 i = aI h 130 i := fun i a b => ((FUp_aI hU36 i)).trans (((AUp_aIne hU29 (by decide) i)).trans ((((AUp_aI hU19 (by omega) (by omega) (by omega) a).trans (if_neg (by omega)))).trans ((AUp_aIne hU9 (by decide) i))))
  exact hQ _ _ ⟨rfl, by omega, ((FUp_aI hU36 (220 * fI h 64 92 + fI h 64 93)).trans ((AUp_aIne hU29 (by decide) (220 * fI h 64 92 + fI h 64 93)).trans (AUp_aIne hU19 (by decide) (220 * fI h 64 92 + fI h 64 93)))).trans ((AUp_aI hU9 (by omega) (by omega) (by omega) (by omega)).trans (if_pos (by omega))), ((FUp_aI hU36 (220 * fI h 64 92 + fI h 64 93)).trans (AUp_aIne hU29 (by decide) (220 * fI h 64 92 + fI h 64 93))).trans ((AUp_aI hU19 (by omega) (by omega) (by omega) (by omega)).trans (if_pos (by omega))), fr39, fr40, hT34, hF35⟩
