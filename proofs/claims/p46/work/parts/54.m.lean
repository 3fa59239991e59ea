set_option maxHeartbeats 0 in
theorem K196 {Ln : Nat} {xs : Nat → Int32} {τ : List Nat} {h : List mE} {E : EP} (hT : TH E τ h) (p1 : Int) (hp1 : (-2147483648) ≤ p1 ∧ p1 ≤ 2147483647) (p2 : Int) (hp2 : (-2147483648) ≤ p2 ∧ p2 ≤ 2147483647) (d : Nat) (hd : 0 ≤ d) (Q : Option Value → List mE → Prop) (hQ : ∀ v h', (∃ z : Int, v = some (vI z) ∧ ((-1) ≤ z ∧ z ≤ 489) ∧ h = h') → Q v h') : MR (mex Ln xs) d 196 0 [some (.ref 64), some (vI p1), some (vI p2), none] [] h Q := by
  refine st_aload c196_0 rfl ?_
  refine st_getI c196_1 hT (tf hT rfl rfl) fd_8_32 (fun e1 e2 => ?_)
  refine st_iconst c196_4 ?_
  refine st_isub c196_5 ?_
  refine st_istore (L' := [some (.ref 64), some (vI p1), some (vI p2), some (vI ((fI h 64 32) - 1))]) c196_6 rfl rfl ?_
  have lp15 : ∀ (n16 : Nat) (z14 : Int), (z14 : Int) - (-1) < (n16 : Int) → (-1) ≤ z14 ∧ z14 ≤ 489 → MR (mex Ln xs) d 196 7 [some (.ref 64), some (vI p1), some (vI p2), some (vI z14)] [] h Q := by
    intro n16
    induction n16 with
    | zero =>
      intro z14 hm18 b19
      exfalso; omega
    | succ n16 ih17 =>
      intro z14 hm18 b19
      refine st_iload c196_7 rfl ?_
      refine st_if_lt c196_8 (by omega) (fun k20 => ?_) (fun k21 => ?_)
      refine st_iconst c196_39 ?_
      refine st_ireturn c196_40 ?_
      exact hQ _ _ ⟨(-1), rfl, by omega, rfl⟩
      refine st_aload c196_11 rfl ?_
      refine st_getX (u := 92) c196_12 hT (tf hT rfl rfl) fd_8_34 rfl ?_
      refine st_iload c196_15 rfl ?_
      refine st_iald c196_16 hT (tf hT rfl rfl) ay_70 (by omega) (fun e22 e23 => ?_)
      refine st_iload c196_17 rfl ?_
      refine st_icmp_ne c196_18 (by omega) (by omega) (fun k24 => ?_) (fun k25 => ?_)
      refine st_iinc (L' := [some (.ref 64), some (vI p1), some (vI p2), some (vI (z14 + (-1)))]) c196_33 rfl rfl rfl ?_
      refine st_goto c196_36 ?_
      exact ih17 (z14 + (-1)) (by omega) (by omega)
      refine st_aload c196_21 rfl ?_
      refine st_getX (u := 93) c196_22 hT (tf hT rfl rfl) fd_8_35 rfl ?_
      refine st_iload c196_25 rfl ?_
      refine st_iald c196_26 hT (tf hT rfl rfl) ay_71 (by omega) (fun e26 e27 => ?_)
      refine st_iload c196_27 rfl ?_
      refine st_icmp_gt c196_28 (by omega) (by omega) (fun k28 => ?_) (fun k29 => ?_)
      refine st_iinc (L' := [some (.ref 64), some (vI p1), some (vI p2), some (vI (z14 + (-1)))]) c196_33 rfl rfl rfl ?_
      refine st_goto c196_36 ?_
      exact ih17 (z14 + (-1)) (by omega) (by omega)
      refine st_iload c196_31 rfl ?_
      refine st_ireturn c196_32 ?_
      exact hQ _ _ ⟨z14, rfl, by omega, rfl⟩
  exact lp15 ((((((fI h 64 32) - 1) : Int) - (-1) : Int) + 1).toNat) ((fI h 64 32) - 1) (by omega) (by omega)
set_option maxHeartbeats 0 in
theorem K197 {Ln : Nat} {xs : Nat → Int32} {τ : List Nat} {h : List mE} {E : EP} (hT : TH E τ h) (p1 : Int) (hp1 : (-2147483648) ≤ p1 ∧ p1 ≤ 2147483647) (p2 : Int) (hp2 : (-2147483648) ≤ p2 ∧ p2 ≤ 2147483647) (d : Nat) (hd : 0 ≤ d) (Q : Option Value → List mE → Prop) (hQ : ∀ v h', (∃ z : Int, v = some (vI z) ∧ ((-1) ≤ z ∧ z ≤ 489) ∧ h = h') → Q v h') : MR (mex Ln xs) d 197 0 [some (.ref 64), some (vI p1), some (vI p2), none] [] h Q := by
  refine st_iconst c197_0 ?_
  refine st_istore (L' := [some (.ref 64), some (vI p1), some (vI p2), some (vI 0)]) c197_1 rfl rfl ?_
  have lp54 : ∀ (n55 : Nat) (z53 : Int), (490 : Int) - z53 < (n55 : Int) → 0 ≤ z53 ∧ z53 ≤ 490 → MR (mex Ln xs) d 197 2 [some (.ref 64), some (vI p1), some (vI p2), some (vI z53)] [] h Q := by
    intro n55
    induction n55 with
    | zero =>
      intro z53 hm57 b58
      exfalso; omega
    | succ n55 ih56 =>
      intro z53 hm57 b58
      refine st_iload c197_2 rfl ?_
      refine st_aload c197_3 rfl ?_
      refine st_getI c197_4 hT (tf hT rfl rfl) fd_8_32 (fun e59 e60 => ?_)
      refine st_icmp_ge c197_7 (by omega) (by omega) (fun k61 => ?_) (fun k62 => ?_)
      refine st_iconst c197_38 ?_
      refine st_ireturn c197_39 ?_
      exact hQ _ _ ⟨(-1), rfl, by omega, rfl⟩
      refine st_aload c197_10 rfl ?_
      refine st_getX (u := 92) c197_11 hT (tf hT rfl rfl) fd_8_34 rfl ?_
      refine st_iload c197_14 rfl ?_
      refine st_iald c197_15 hT (tf hT rfl rfl) ay_70 (by omega) (fun e63 e64 => ?_)
      refine st_iload c197_16 rfl ?_
      refine st_icmp_ne c197_17 (by omega) (by omega) (fun k65 => ?_) (fun k66 => ?_)
      refine st_iinc (L' := [some (.ref 64), some (vI p1), some (vI p2), some (vI (z53 + 1))]) c197_32 rfl rfl rfl ?_
      refine st_goto c197_35 ?_
      exact ih56 (z53 + 1) (by omega) (by omega)
      refine st_aload c197_20 rfl ?_
      refine st_getX (u := 93) c197_21 hT (tf hT rfl rfl) fd_8_35 rfl ?_
      refine st_iload c197_24 rfl ?_
      refine st_iald c197_25 hT (tf hT rfl rfl) ay_71 (by omega) (fun e67 e68 => ?_)
      refine st_iload c197_26 rfl ?_
      refine st_icmp_lt c197_27 (by omega) (by omega) (fun k69 => ?_) (fun k70 => ?_)
      refine st_iinc (L' := [some (.ref 64), some (vI p1), some (vI p2), some (vI (z53 + 1))]) c197_32 rfl rfl rfl ?_
      refine st_goto c197_35 ?_
      exact ih56 (z53 + 1) (by omega) (by omega)
      refine st_iload c197_30 rfl ?_
      refine st_ireturn c197_31 ?_
      exact hQ _ _ ⟨z53, rfl, by omega, rfl⟩
  exact lp54 ((((490 : Int) - 0 : Int) + 1).toNat) 0 (by omega) (by omega)
def W199 : List (Nat × Nat) := [(67, 0), (68, 0), (69, 0)]
set_option maxHeartbeats 0 in
theorem K199 {Ln : Nat} {xs : Nat → Int32} {τ : List Nat} {h : List mE} {E : EP} (hT : TH E τ h) (hS : Stb E W199) (p1 : Int) (hp1 : (-2147483648) ≤ p1 ∧ p1 ≤ 2147483647) (p2 : Int) (hp2 : (-2147483648) ≤ p2 ∧ p2 ≤ 2147483647) (p3 : Int) (hp3 : (-2147483648) ≤ p3 ∧ p3 ≤ 2147483647) (d : Nat) (hd : 2 ≤ d) (Q : Option Value → List mE → Prop) (hQ : ∀ v h', (∃ z : Int, v = some (vI z) ∧ ((-3) ≤ z ∧ z ≤ 5) ∧ (PLkR h h' p1 p2 p3 z) ∧ TH E τ h' ∧ Fr τ W199 h h') → Q v h') : MR (mex Ln xs) d 199 0 [some (.ref 64), some (vI p1), some (vI p2), some (vI p3)] [] h Q := by
  have hF := Fr_rf τ W199 h
  refine st_aload c199_0 rfl ?_
  refine st_iload c199_1 rfl ?_
  have e1 := fI_bd (q := 64) hT (tf hT rfl rfl) fd_8_15
  refine st_callt (as := [vI p1]) c199_2 cm_191 hT (tf hT rfl rfl) fd_8_0 rfl rfl rfl rfl (by omega) (K191 hT p1 (by omega) (d - 1) (by omega) _ (fun v h0 H => H)) (fun v1 h1 H => ?_)
  rcases H with ⟨rfl, pf2, rfl⟩ | ⟨rfl, pf3, pf4, rfl⟩
  refine st_if_eq c199_5 (by omega) (fun k5 => ?_) (fun k6 => False.elim (by omega))
  refine st_iconst c199_29 ?_
  refine st_ireturn c199_30 ?_
  exact hQ _ _ ⟨(-1), rfl, by omega, Or.inl ⟨by omega, by omega, (fun _ => rfl), (fun _ => rfl), (fun _ => rfl)⟩, hT, hF⟩
  refine st_if_eq c199_5 (by omega) (fun k10 => False.elim (by omega)) (fun k11 => ?_)
  refine st_iload c199_8 rfl ?_
  refine st_iconst c199_9 ?_
  refine st_iconst c199_10 ?_
  refine st_calls (as := [vI p2, vI 0, vI 9]) c199_12 cm_180 rfl rfl rfl rfl (by omega) (K180 hT p2 (by omega) 0 (by omega) 9 (by omega) (d - 1) (by omega) _ (fun v h0 H => H)) (fun v1 h1 H => ?_)
  rcases H with ⟨rfl, pf12, rfl⟩ | ⟨rfl, pf13, pf14, rfl⟩
  refine st_if_eq c199_15 (by omega) (fun k15 => ?_) (fun k16 => False.elim (by omega))
  refine st_iconst c199_29 ?_
  refine st_ireturn c199_30 ?_
  exact hQ _ _ ⟨(-1), rfl, by omega, Or.inl ⟨by omega, by omega, (fun _ => rfl), (fun _ => rfl), (fun _ => rfl)⟩, hT, hF⟩
  refine st_if_eq c199_15 (by omega) (fun k20 => False.elim (by omega)) (fun k21 => ?_)
  refine st_iload c199_18 rfl ?_
  refine st_iconst c199_19 ?_
  refine st_iconst c199_20 ?_
  refine st_calls (as := [vI p3, vI 1, vI 9999]) c199_23 cm_180 rfl rfl rfl rfl (by omega) (K180 hT p3 (by omega) 1 (by omega) 9999 (by omega) (d - 1) (by omega) _ (fun v h0 H => H)) (fun v1 h1 H => ?_)
  rcases H with ⟨rfl, pf22, rfl⟩ | ⟨rfl, pf23, pf24, rfl⟩
  refine st_if_ne c199_26 (by omega) (fun k25 => False.elim (by omega)) (fun k26 => ?_)
  refine st_iconst c199_29 ?_
  refine st_ireturn c199_30 ?_
  exact hQ _ _ ⟨(-1), rfl, by omega, Or.inl ⟨by omega, by omega, (fun _ => rfl), (fun _ => rfl), (fun _ => rfl)⟩, hT, hF⟩
  refine st_if_ne c199_26 (by omega) (fun k30 => ?_) (fun k31 => False.elim (by omega))
  refine st_aload c199_31 rfl ?_
  refine st_getX (u := 89) c199_32 hT (tf hT rfl rfl) fd_8_29 rfl ?_
  refine st_iload c199_35 rfl ?_
  refine st_iald c199_36 hT (tf hT rfl rfl) ay_67 (by omega) (fun e32 e33 => ?_)
  refine st_iconst c199_37 ?_
  refine st_icmp_ne c199_38 (by omega) (by omega) (fun k34 => ?_) (fun k35 => ?_)
  refine st_aload c199_44 rfl ?_
  refine st_getX (u := 90) c199_45 hT (tf hT rfl rfl) fd_8_30 rfl ?_
  refine st_iconst c199_48 ?_
  refine st_iload c199_49 rfl ?_
  refine st_imul c199_50 ?_
  refine st_aload c199_51 rfl ?_
  refine st_getX (u := 89) c199_52 hT (tf hT rfl rfl) fd_8_29 rfl ?_
  refine st_iload c199_55 rfl ?_
  refine st_iald c199_56 hT (tf hT rfl rfl) ay_67 (by omega) (fun e36 e37 => ?_)
  refine st_iadd c199_57 ?_
  refine st_iload c199_58 rfl ?_
  refine st_iast c199_59 hT (tf hT rfl rfl) ay_68 (by omega) (by omega) (by omega) (Ext_rf _) hS hF (by decide +kernel) (fun h38 hT39 hF40 hU41 => ?_)
  refine st_aload c199_60 rfl ?_
  refine st_getX (u := 91) c199_61 hT39 (tf hT39 rfl rfl) fd_8_31 rfl ?_
  refine st_iconst c199_64 ?_
  refine st_iload c199_65 rfl ?_
  refine st_imul c199_66 ?_
  refine st_aload c199_67 rfl ?_
  refine st_getX (u := 89) c199_68 hT39 (tf hT39 rfl rfl) fd_8_29 rfl ?_
  refine st_iload c199_71 rfl ?_
  refine st_iald c199_72 hT39 (tf hT39 rfl rfl) ay_67 (by omega) (fun e42 e43 => ?_)
  have q44 : aI h38 89 p1 = aI h 89 p1 := AUp_aIne hU41 (by decide) p1
  refine st_iadd c199_73 ?_
  refine st_iload c199_74 rfl ?_
  refine st_iast c199_75 hT39 (tf hT39 rfl rfl) ay_69 (by omega) (by omega) (by omega) (Ext_rf _) hS hF40 (by decide +kernel) (fun h45 hT46 hF47 hU48 => ?_)
  refine st_aload c199_76 rfl ?_
  refine st_getX (u := 89) c199_77 hT46 (tf hT46 rfl rfl) fd_8_29 rfl ?_
  refine st_iload c199_80 rfl ?_
  refine st_dup2 c199_81 rfl rfl ?_
  refine st_iald c199_82 hT46 (tf hT46 rfl rfl) ay_67 (by omega) (fun e49 e50 => ?_)
  have q51 : aI h45 89 p1 = aI h38 89 p1 := AUp_aIne hU48 (by decide) p1
  refine st_iconst c199_83 ?_
  refine st_iadd c199_84 ?_
  refine st_iast c199_85 hT46 (tf hT46 rfl rfl) ay_67 (by omega) (by omega) (by omega) (Ext_rf _) hS hF47 (by decide +kernel) (fun h52 hT53 hF54 hU55 => ?_)
  refine st_aload c199_86 rfl ?_
  refine st_getX (u := 89) c199_87 hT53 (tf hT53 rfl rfl) fd_8_29 rfl ?_
  refine st_iload c199_90 rfl ?_
  refine st_iald c199_91 hT53 (tf hT53 rfl rfl) ay_67 (by omega) (fun e56 e57 => ?_)
  have q58 : aI h52 89 p1 = (aI h45 89 p1) + 1 := (AUp_aI hU55 (by omega) (by omega) (by omega) (by omega)).trans (if_pos rfl)
  refine st_ireturn c199_92 ?_
  have st59 : Set1 89 h h52 p1 (aI h 89 p1 + 1) := fun i a => by
    rw [AUp_aI (j := i) hU55 (by omega) (by omega) (by omega) a]
    rw [(AUp_aIne hU48 (by decide) i : aI h45 89 i = aI h38 89 i)]
    rw [(AUp_aIne hU41 (by decide) i : aI h38 89 i = aI h 89 i)]
    all_goals exact if_cg (by omega) (by omega)
  have st60 : Set1 90 h h52 (5 * p1 + aI h 89 p1) p2 := fun i a => by
    rw [(AUp_aIne hU55 (by decide) i : aI h52 90 i = aI h45 90 i)]
    rw [(AUp_aIne hU48 (by decide) i : aI h45 90 i = aI h38 90 i)]
    rw [AUp_aI (j := i) hU41 (by omega) (by omega) (by omega) a]
    all_goals exact if_cg (by omega) (by omega)
  have st61 : Set1 91 h h52 (5 * p1 + aI h 89 p1) p3 := fun i a => by
    rw [(AUp_aIne hU55 (by decide) i : aI h52 91 i = aI h45 91 i)]
    rw [AUp_aI (j := i) hU48 (by omega) (by omega) (by omega) a]
    rw [(AUp_aIne hU41 (by decide) i : aI h38 91 i = aI h 91 i)]
    all_goals exact if_cg (by omega) (by omega)
  exact hQ _ _ ⟨aI h52 89 p1, rfl, by omega, Or.inr ⟨by omega, by omega, by omega, by omega, by omega, by omega, Or.inr ⟨by omega, by omega, st59, st60, st61⟩⟩, hT53, hF54⟩
  refine st_iconst c199_41 ?_
  refine st_ireturn c199_43 ?_
  exact hQ _ _ ⟨(-3), rfl, by omega, Or.inr ⟨by omega, by omega, by omega, by omega, by omega, by omega, Or.inl ⟨by omega, by omega, (fun _ => rfl), (fun _ => rfl), (fun _ => rfl)⟩⟩, hT, hF⟩
set_option maxHeartbeats 0 in
theorem K200 {Ln : Nat} {xs : Nat → Int32} {τ : List Nat} {h : List mE} {E : EP} (hT : TH E τ h) (p1 : Int) (hp1 : 0 ≤ p1 ∧ p1 ≤ 89) (d : Nat) (hd : 0 ≤ d) (Q : Option Value → List mE → Prop) (hQ : ∀ v h', (∃ z : Int, v = some (vI z) ∧ ((-2147483648) ≤ z ∧ z ≤ 2147483647) ∧ h = h') → Q v h') : MR (mex Ln xs) d 200 0 [some (.ref 64), some (vI p1)] [] h Q := by
  refine st_aload c200_0 rfl ?_
  refine st_getX (u := 77) c200_1 hT (tf hT rfl rfl) fd_8_17 rfl ?_
  refine st_iload c200_4 rfl ?_
  refine st_iald c200_5 hT (tf hT rfl rfl) ay_55 (by omega) (fun e1 e2 => ?_)
  refine st_aload c200_6 rfl ?_
  refine st_getX (u := 85) c200_7 hT (tf hT rfl rfl) fd_8_25 rfl ?_
  refine st_iload c200_10 rfl ?_
  refine st_iald c200_11 hT (tf hT rfl rfl) ay_63 (by omega) (fun e3 e4 => ?_)
  refine st_isub c200_12 ?_
  refine MR_wrap (fun w5 e6 e7 e8 => ?_)
  refine st_ireturn c200_13 ?_
  exact hQ _ _ ⟨w5, rfl, by omega, rfl⟩
set_option maxHeartbeats 0 in
theorem K201 {Ln : Nat} {xs : Nat → Int32} {τ : List Nat} {h : List mE} {E : EP} (hT : TH E τ h) (p1 : Int) (hp1 : 0 ≤ p1 ∧ p1 ≤ 89) (d : Nat) (hd : 1 ≤ d) (Q : Option Value → List mE → Prop) (hQ : ∀ v h', ((v = some (vI 0) ∧ h = h') ∨ (v = some (vI 1) ∧ h = h')) → Q v h') : MR (mex Ln xs) d 201 0 [some (.ref 64), some (vI p1)] [] h Q := by
  refine st_aload c201_0 rfl ?_
  refine st_getX (u := 70) c201_1 hT (tf hT rfl rfl) fd_8_9 rfl ?_
  refine st_aload c201_4 rfl ?_
  refine st_getX (u := 76) c201_5 hT (tf hT rfl rfl) fd_8_16 rfl ?_
  refine st_iload c201_8 rfl ?_
  refine st_iald c201_9 hT (tf hT rfl rfl) ay_54 (by omega) (fun e1 e2 => ?_)
  refine st_iald c201_10 hT (tf hT rfl rfl) ay_48 (by omega) (fun e3 e4 => ?_)
  refine st_if_le c201_11 (by omega) (fun k5 => ?_) (fun k6 => ?_)
  refine st_iconst c201_37 ?_
  refine st_zreturn c201_38 (by omega) ?_
  exact hQ _ _ (Or.inl ⟨rfl, rfl⟩)
  refine st_aload c201_14 rfl ?_
  refine st_iload c201_15 rfl ?_
  refine st_callt (as := [vI p1]) c201_16 cm_200 hT (tf hT rfl rfl) fd_8_0 rfl rfl rfl rfl (by omega) (K200 hT p1 (by omega) (d - 1) (by omega) _ (fun v h0 H => H)) (fun v1 h1 H => ?_)
  obtain ⟨z7, rfl, b8, rfl⟩ := H
  refine st_aload c201_19 rfl ?_
  refine st_getX (u := 70) c201_20 hT (tf hT rfl rfl) fd_8_9 rfl ?_
  refine st_aload c201_23 rfl ?_
  refine st_getX (u := 76) c201_24 hT (tf hT rfl rfl) fd_8_16 rfl ?_
  refine st_iload c201_27 rfl ?_
  refine st_iald c201_28 hT (tf hT rfl rfl) ay_54 (by omega) (fun e9 e10 => ?_)
  refine st_iald c201_29 hT (tf hT rfl rfl) ay_48 (by omega) (fun e11 e12 => ?_)
  refine st_icmp_lt c201_30 (by omega) (by omega) (fun k13 => ?_) (fun k14 => ?_)
  refine st_iconst c201_37 ?_
  refine st_zreturn c201_38 (by omega) ?_
  exact hQ _ _ (Or.inl ⟨rfl, rfl⟩)
  refine st_iconst c201_33 ?_
  refine st_goto c201_34 ?_
  refine st_zreturn c201_38 (by omega) ?_
  exact hQ _ _ (Or.inr ⟨rfl, rfl⟩)
set_option maxHeartbeats 0 in
theorem K202 {Ln : Nat} {xs : Nat → Int32} {τ : List Nat} {h : List mE} {E : EP} (hT : TH E τ h) (p1 : Int) (hp1 : 0 ≤ p1 ∧ p1 ≤ 89) (p2 : Int) (hp2 : (-2147483648) ≤ p2 ∧ p2 ≤ 2147483647) (d : Nat) (hd : 1 ≤ d) (Q : Option Value → List mE → Prop) (hQ : ∀ v h', ((v = some (vI 0) ∧ h = h') ∨ (v = some (vI 1) ∧ h = h')) → Q v h') : MR (mex Ln xs) d 202 0 [some (.ref 64), some (vI p1), some (vI p2)] [] h Q := by
  refine st_aload c202_0 rfl ?_
  refine st_getX (u := 70) c202_1 hT (tf hT rfl rfl) fd_8_9 rfl ?_
  refine st_aload c202_4 rfl ?_
  refine st_getX (u := 76) c202_5 hT (tf hT rfl rfl) fd_8_16 rfl ?_
  refine st_iload c202_8 rfl ?_
  refine st_iald c202_9 hT (tf hT rfl rfl) ay_54 (by omega) (fun e1 e2 => ?_)
  refine st_iald c202_10 hT (tf hT rfl rfl) ay_48 (by omega) (fun e3 e4 => ?_)
  refine st_if_le c202_11 (by omega) (fun k5 => ?_) (fun k6 => ?_)
  refine st_iconst c202_39 ?_
  refine st_zreturn c202_40 (by omega) ?_
  exact hQ _ _ (Or.inl ⟨rfl, rfl⟩)
  refine st_aload c202_14 rfl ?_
  refine st_iload c202_15 rfl ?_
  refine st_callt (as := [vI p1]) c202_16 cm_200 hT (tf hT rfl rfl) fd_8_0 rfl rfl rfl rfl (by omega) (K200 hT p1 (by omega) (d - 1) (by omega) _ (fun v h0 H => H)) (fun v1 h1 H => ?_)
  obtain ⟨z7, rfl, b8, rfl⟩ := H
  refine st_iload c202_19 rfl ?_
  refine st_iadd c202_20 ?_
  refine MR_wrap (fun w9 e10 e11 e12 => ?_)
  refine st_aload c202_21 rfl ?_
  refine st_getX (u := 70) c202_22 hT (tf hT rfl rfl) fd_8_9 rfl ?_
  refine st_aload c202_25 rfl ?_
  refine st_getX (u := 76) c202_26 hT (tf hT rfl rfl) fd_8_16 rfl ?_
  refine st_iload c202_29 rfl ?_
  refine st_iald c202_30 hT (tf hT rfl rfl) ay_54 (by omega) (fun e13 e14 => ?_)
  refine st_iald c202_31 hT (tf hT rfl rfl) ay_48 (by omega) (fun e15 e16 => ?_)
  refine st_icmp_le c202_32 (by omega) (by omega) (fun k17 => ?_) (fun k18 => ?_)
  refine st_iconst c202_39 ?_
  refine st_zreturn c202_40 (by omega) ?_
  exact hQ _ _ (Or.inl ⟨rfl, rfl⟩)
  refine st_iconst c202_35 ?_
  refine st_goto c202_36 ?_
  refine st_zreturn c202_40 (by omega) ?_
  exact hQ _ _ (Or.inr ⟨rfl, rfl⟩)
set_option maxHeartbeats 0 in
theorem K203 {Ln : Nat} {xs : Nat → Int32} {τ : List Nat} {h : List mE} {E : EP} (hT : TH E τ h) (p1 : Int) (hp1 : (-2147483648) ≤ p1 ∧ p1 ≤ 2147483647) (p2 : Int) (hp2 : (-2147483648) ≤ p2 ∧ p2 ≤ 2147483647) (d : Nat) (hd : 2 ≤ d) (Q : Option Value → List mE → Prop) (hQ : ∀ v h', (∃ z : Int, v = some (vI z) ∧ ((-2147483648) ≤ z ∧ z ≤ 2147483647) ∧ h = h') → Q v h') : MR (mex Ln xs) d 203 0 [some (.ref 64), some (vI p1), some (vI p2), none] [] h Q := by
  refine st_aload c203_0 rfl ?_
  refine st_iload c203_1 rfl ?_
  have e1 := fI_bd (q := 64) hT (tf hT rfl rfl) fd_8_15
  refine st_callt (as := [vI p1]) c203_2 cm_191 hT (tf hT rfl rfl) fd_8_0 rfl rfl rfl rfl (by omega) (K191 hT p1 (by omega) (d - 1) (by omega) _ (fun v h0 H => H)) (fun v1 h1 H => ?_)
  rcases H with ⟨rfl, pf2, rfl⟩ | ⟨rfl, pf3, pf4, rfl⟩
  refine st_if_ne c203_5 (by omega) (fun k5 => False.elim (by omega)) (fun k6 => ?_)
  refine st_iconst c203_8 ?_
  refine st_ireturn c203_11 ?_
  exact hQ _ _ ⟨(-2000000000), rfl, by omega, rfl⟩
  refine st_if_ne c203_5 (by omega) (fun k7 => ?_) (fun k8 => False.elim (by omega))
  refine st_aload c203_12 rfl ?_
  refine st_getX (u := 70) c203_13 hT (tf hT rfl rfl) fd_8_9 rfl ?_
  refine st_aload c203_16 rfl ?_
  refine st_getX (u := 76) c203_17 hT (tf hT rfl rfl) fd_8_16 rfl ?_
  refine st_iload c203_20 rfl ?_
  refine st_iald c203_21 hT (tf hT rfl rfl) ay_54 (by omega) (fun e9 e10 => ?_)
  refine st_iald c203_22 hT (tf hT rfl rfl) ay_48 (by omega) (fun e11 e12 => ?_)
  refine st_istore (L' := [some (.ref 64), some (vI p1), some (vI p2), some (vI (aI h 70 (aI h 76 p1)))]) c203_23 rfl rfl ?_
  refine st_iload c203_24 rfl ?_
  rcases (by omega : (p2 < 0 ∨ 9 < p2) ∨ p2 = 0 ∨ p2 = 1 ∨ p2 = 2 ∨ p2 = 3 ∨ p2 = 4 ∨ p2 = 5 ∨ p2 = 6 ∨ p2 = 7 ∨ p2 = 8 ∨ p2 = 9) with k13 | k13 | k13 | k13 | k13 | k13 | k13 | k13 | k13 | k13 | k13
  · refine st_swd c203_25 (by omega) k13 ?_
    rw [show mjmp 25 193 = 218 from by decide]
    refine st_iconst c203_218 ?_
    refine st_ireturn c203_221 ?_
    exact hQ _ _ ⟨(-2000000000), rfl, by omega, rfl⟩
  · refine st_sw (k := 0) (tg := 80) (by decide +kernel) k13 (by decide) ?_
    refine st_aload c203_80 rfl ?_
    refine st_getX (u := 76) c203_81 hT (tf hT rfl rfl) fd_8_16 rfl ?_
    refine st_iload c203_84 rfl ?_
    refine st_iald c203_85 hT (tf hT rfl rfl) ay_54 (by omega) (fun e14 e15 => ?_)
    refine st_ireturn c203_86 ?_
    exact hQ _ _ ⟨aI h 76 p1, rfl, by omega, rfl⟩
  · refine st_sw (k := 1) (tg := 87) (by decide +kernel) k13 (by decide) ?_
    refine st_aload c203_87 rfl ?_
    refine st_getX (u := 77) c203_88 hT (tf hT rfl rfl) fd_8_17 rfl ?_
    refine st_iload c203_91 rfl ?_
    refine st_iald c203_92 hT (tf hT rfl rfl) ay_55 (by omega) (fun e16 e17 => ?_)
    refine st_ireturn c203_93 ?_
    exact hQ _ _ ⟨aI h 77 p1, rfl, by omega, rfl⟩
  · refine st_sw (k := 2) (tg := 94) (by decide +kernel) k13 (by decide) ?_
    refine st_aload c203_94 rfl ?_
    refine st_getX (u := 78) c203_95 hT (tf hT rfl rfl) fd_8_18 rfl ?_
    refine st_iload c203_98 rfl ?_
    refine st_iald c203_99 hT (tf hT rfl rfl) ay_56 (by omega) (fun e18 e19 => ?_)
    refine st_ireturn c203_100 ?_
    exact hQ _ _ ⟨aI h 78 p1, rfl, by omega, rfl⟩
  · refine st_sw (k := 3) (tg := 101) (by decide +kernel) k13 (by decide) ?_
    refine st_aload c203_101 rfl ?_
    refine st_getX (u := 78) c203_102 hT (tf hT rfl rfl) fd_8_18 rfl ?_
    refine st_iload c203_105 rfl ?_
    refine st_iald c203_106 hT (tf hT rfl rfl) ay_56 (by omega) (fun e20 e21 => ?_)
    refine st_iconst c203_107 ?_
    refine st_icmp_ne c203_108 (by omega) (by omega) (fun k22 => ?_) (fun k23 => ?_)
    refine st_aload c203_115 rfl ?_
    refine st_getX (u := 79) c203_116 hT (tf hT rfl rfl) fd_8_19 rfl ?_
    refine st_iload c203_119 rfl ?_
    refine st_iald c203_120 hT (tf hT rfl rfl) ay_57 (by omega) (fun e24 e25 => ?_)
    refine st_ireturn c203_121 ?_
    exact hQ _ _ ⟨aI h 79 p1, rfl, by omega, rfl⟩
    refine st_iconst c203_111 ?_
    refine st_goto c203_112 ?_
    refine st_ireturn c203_121 ?_
    exact hQ _ _ ⟨(-1), rfl, by omega, rfl⟩
  · refine st_sw (k := 4) (tg := 122) (by decide +kernel) k13 (by decide) ?_
    refine st_aload c203_122 rfl ?_
    refine st_getX (u := 83) c203_123 hT (tf hT rfl rfl) fd_8_23 rfl ?_
    refine st_iload c203_126 rfl ?_
    refine st_iald c203_127 hT (tf hT rfl rfl) ay_61 (by omega) (fun e26 e27 => ?_)
    refine st_ireturn c203_128 ?_
    exact hQ _ _ ⟨aI h 83 p1, rfl, by omega, rfl⟩
  · refine st_sw (k := 5) (tg := 129) (by decide +kernel) k13 (by decide) ?_
    refine st_aload c203_129 rfl ?_
    refine st_iload c203_130 rfl ?_
    refine st_callt (as := [vI p1]) c203_131 cm_200 hT (tf hT rfl rfl) fd_8_0 rfl rfl rfl rfl (by omega) (K200 hT p1 (by omega) (d - 1) (by omega) _ (fun v h0 H => H)) (fun v1 h1 H => ?_)
    obtain ⟨z28, rfl, b29, rfl⟩ := H
    refine st_ireturn c203_134 ?_
    exact hQ _ _ ⟨z28, rfl, by omega, rfl⟩
  · refine st_sw (k := 6) (tg := 135) (by decide +kernel) k13 (by decide) ?_
    refine st_aload c203_135 rfl ?_
    refine st_getX (u := 78) c203_136 hT (tf hT rfl rfl) fd_8_18 rfl ?_
    refine st_iload c203_139 rfl ?_
    refine st_iald c203_140 hT (tf hT rfl rfl) ay_56 (by omega) (fun e30 e31 => ?_)
    refine st_iconst c203_141 ?_
    refine st_icmp_ne c203_142 (by omega) (by omega) (fun k32 => ?_) (fun k33 => ?_)
    refine st_aload c203_154 rfl ?_
    refine st_getX (u := 83) c203_155 hT (tf hT rfl rfl) fd_8_23 rfl ?_
    refine st_iload c203_158 rfl ?_
    refine st_iald c203_159 hT (tf hT rfl rfl) ay_61 (by omega) (fun e34 e35 => ?_)
    refine st_iconst c203_160 ?_
    refine st_icmp_ne c203_161 (by omega) (by omega) (fun k36 => ?_) (fun k37 => ?_)
    refine st_iconst c203_173 ?_
    refine st_ireturn c203_174 ?_
    exact hQ _ _ ⟨(-1), rfl, by omega, rfl⟩
    refine st_aload c203_164 rfl ?_
    refine st_getX (u := 84) c203_165 hT (tf hT rfl rfl) fd_8_24 rfl ?_
    refine st_iload c203_168 rfl ?_
    refine st_iald c203_169 hT (tf hT rfl rfl) ay_62 (by omega) (fun e38 e39 => ?_)
    refine st_goto c203_170 ?_
    refine st_ireturn c203_174 ?_
    exact hQ _ _ ⟨aI h 84 p1, rfl, by omega, rfl⟩
    refine st_aload c203_145 rfl ?_
    refine st_getX (u := 80) c203_146 hT (tf hT rfl rfl) fd_8_20 rfl ?_
    refine st_iload c203_149 rfl ?_
    refine st_iald c203_150 hT (tf hT rfl rfl) ay_58 (by omega) (fun e40 e41 => ?_)
    refine st_goto c203_151 ?_
    refine st_ireturn c203_174 ?_
    exact hQ _ _ ⟨aI h 80 p1, rfl, by omega, rfl⟩
  · refine st_sw (k := 7) (tg := 175) (by decide +kernel) k13 (by decide) ?_
    refine st_aload c203_175 rfl ?_
    refine st_getX (u := 86) c203_176 hT (tf hT rfl rfl) fd_8_26 rfl ?_
    refine st_iload c203_179 rfl ?_
    refine st_iald c203_180 hT (tf hT rfl rfl) ay_64 (by omega) (fun e42 e43 => ?_)
    refine st_ireturn c203_181 ?_
    exact hQ _ _ ⟨aI h 86 p1, rfl, by omega, rfl⟩
  · refine st_sw (k := 8) (tg := 182) (by decide +kernel) k13 (by decide) ?_
    refine st_aload c203_182 rfl ?_
    refine st_getX (u := 89) c203_183 hT (tf hT rfl rfl) fd_8_29 rfl ?_
    refine st_iload c203_186 rfl ?_
    refine st_iald c203_187 hT (tf hT rfl rfl) ay_67 (by omega) (fun e44 e45 => ?_)
    refine st_ireturn c203_188 ?_
    exact hQ _ _ ⟨aI h 89 p1, rfl, by omega, rfl⟩
  · refine st_sw (k := 9) (tg := 189) (by decide +kernel) k13 (by decide) ?_
    refine st_iload c203_189 rfl ?_
    refine st_if_ne c203_190 (by omega) (fun k46 => ?_) (fun k47 => ?_)
    refine st_iload c203_197 rfl ?_
    refine st_aload c203_198 rfl ?_
    refine st_iload c203_199 rfl ?_
    refine st_callt (as := [vI p1]) c203_200 cm_200 hT (tf hT rfl rfl) fd_8_0 rfl rfl rfl rfl (by omega) (K200 hT p1 (by omega) (d - 1) (by omega) _ (fun v h0 H => H)) (fun v1 h1 H => ?_)
    obtain ⟨z48, rfl, b49, rfl⟩ := H
    refine st_icmp_le c203_203 (by omega) (by omega) (fun k50 => ?_) (fun k51 => ?_)
    refine st_iconst c203_216 ?_
    refine st_ireturn c203_217 ?_
    exact hQ _ _ ⟨0, rfl, by omega, rfl⟩
    refine st_iload c203_206 rfl ?_
    refine st_aload c203_207 rfl ?_
    refine st_iload c203_208 rfl ?_
    refine st_callt (as := [vI p1]) c203_209 cm_200 hT (tf hT rfl rfl) fd_8_0 rfl rfl rfl rfl (by omega) (K200 hT p1 (by omega) (d - 1) (by omega) _ (fun v h0 H => H)) (fun v1 h1 H => ?_)
    obtain ⟨z52, rfl, b53, rfl⟩ := H
    refine st_isub c203_212 ?_
    refine MR_wrap (fun w54 e55 e56 e57 => ?_)
    refine st_goto c203_213 ?_
    refine st_ireturn c203_217 ?_
    exact hQ _ _ ⟨w54, rfl, by omega, rfl⟩
    refine st_iconst c203_193 ?_
    refine st_goto c203_194 ?_
    refine st_ireturn c203_217 ?_
    exact hQ _ _ ⟨(-1), rfl, by omega, rfl⟩
set_option maxHeartbeats 0 in
theorem K204 {Ln : Nat} {xs : Nat → Int32} {τ : List Nat} {h : List mE} {E : EP} (hT : TH E τ h) (p1 : Int) (hp1 : 0 ≤ p1 ∧ p1 ≤ 89) (d : Nat) (hd : 0 ≤ d) (Q : Option Value → List mE → Prop) (hQ : ∀ v h', ((v = some (vI 0) ∧ h = h') ∨ (v = some (vI 1) ∧ h = h')) → Q v h') : MR (mex Ln xs) d 204 0 [some (.ref 64), some (vI p1)] [] h Q := by
  refine st_aload c204_0 rfl ?_
  refine st_getX (u := 83) c204_1 hT (tf hT rfl rfl) fd_8_23 rfl ?_
  refine st_iload c204_4 rfl ?_
  refine st_iald c204_5 hT (tf hT rfl rfl) ay_61 (by omega) (fun e1 e2 => ?_)
  refine st_if_ne c204_6 (by omega) (fun k3 => ?_) (fun k4 => ?_)
  refine st_iconst c204_31 ?_
  refine st_zreturn c204_32 (by omega) ?_
  exact hQ _ _ (Or.inl ⟨rfl, rfl⟩)
  refine st_aload c204_9 rfl ?_
  refine st_getX (u := 78) c204_10 hT (tf hT rfl rfl) fd_8_18 rfl ?_
  refine st_iload c204_13 rfl ?_
  refine st_iald c204_14 hT (tf hT rfl rfl) ay_56 (by omega) (fun e5 e6 => ?_)
  refine st_if_ne c204_15 (by omega) (fun k7 => ?_) (fun k8 => ?_)
  refine st_iconst c204_31 ?_
  refine st_zreturn c204_32 (by omega) ?_
  exact hQ _ _ (Or.inl ⟨rfl, rfl⟩)
  refine st_aload c204_18 rfl ?_
  refine st_getX (u := 86) c204_19 hT (tf hT rfl rfl) fd_8_26 rfl ?_
  refine st_iload c204_22 rfl ?_
  refine st_iald c204_23 hT (tf hT rfl rfl) ay_64 (by omega) (fun e9 e10 => ?_)
  refine st_if_ge c204_24 (by omega) (fun k11 => ?_) (fun k12 => ?_)
  refine st_iconst c204_31 ?_
  refine st_zreturn c204_32 (by omega) ?_
  exact hQ _ _ (Or.inl ⟨rfl, rfl⟩)
  refine st_iconst c204_27 ?_
  refine st_goto c204_28 ?_
  refine st_zreturn c204_32 (by omega) ?_
  exact hQ _ _ (Or.inr ⟨rfl, rfl⟩)
def W205 : List (Nat × Nat) := [(61, 0), (62, 0), (63, 0)]
set_option maxHeartbeats 0 in
theorem K205 {Ln : Nat} {xs : Nat → Int32} {τ : List Nat} {h : List mE} {E : EP} (hT : TH E τ h) (hS : Stb E W205) (p1 : Int) (hp1 : (-2147483648) ≤ p1 ∧ p1 ≤ 2147483647) (p2 : Int) (hp2 : (-2147483648) ≤ p2 ∧ p2 ≤ 2147483647) (d : Nat) (hd : 2 ≤ d) (Q : Option Value → List mE → Prop) (hQ : ∀ v h', (∃ z : Int, v = some (vI z) ∧ ((-2) ≤ z ∧ z ≤ 1) ∧ TH E τ h' ∧ Fr τ W205 h h') → Q v h') : MR (mex Ln xs) d 205 0 [some (.ref 64), some (vI p1), some (vI p2)] [] h Q := by
  have hF := Fr_rf τ W205 h
  refine st_aload c205_0 rfl ?_
  refine st_iload c205_1 rfl ?_
  have e1 := fI_bd (q := 64) hT (tf hT rfl rfl) fd_8_15
  refine st_callt (as := [vI p1]) c205_2 cm_191 hT (tf hT rfl rfl) fd_8_0 rfl rfl rfl rfl (by omega) (K191 hT p1 (by omega) (d - 1) (by omega) _ (fun v h0 H => H)) (fun v1 h1 H => ?_)
  rcases H with ⟨rfl, pf2, rfl⟩ | ⟨rfl, pf3, pf4, rfl⟩
  refine st_if_eq c205_5 (by omega) (fun k5 => ?_) (fun k6 => False.elim (by omega))
  refine st_iconst c205_18 ?_
  refine st_ireturn c205_19 ?_
  exact hQ _ _ ⟨(-1), rfl, by omega, hT, hF⟩
  refine st_if_eq c205_5 (by omega) (fun k7 => False.elim (by omega)) (fun k8 => ?_)
  refine st_iload c205_8 rfl ?_
  refine st_iconst c205_9 ?_
  refine st_iconst c205_10 ?_
  refine st_calls (as := [vI p2, vI 1, vI 99]) c205_12 cm_180 rfl rfl rfl rfl (by omega) (K180 hT p2 (by omega) 1 (by omega) 99 (by omega) (d - 1) (by omega) _ (fun v h0 H => H)) (fun v1 h1 H => ?_)
  rcases H with ⟨rfl, pf9, rfl⟩ | ⟨rfl, pf10, pf11, rfl⟩
  refine st_if_ne c205_15 (by omega) (fun k12 => False.elim (by omega)) (fun k13 => ?_)
  refine st_iconst c205_18 ?_
  refine st_ireturn c205_19 ?_
  exact hQ _ _ ⟨(-1), rfl, by omega, hT, hF⟩
  refine st_if_ne c205_15 (by omega) (fun k14 => ?_) (fun k15 => False.elim (by omega))
  refine st_aload c205_20 rfl ?_
  refine st_iload c205_21 rfl ?_
  refine st_callt (as := [vI p1]) c205_22 cm_204 hT (tf hT rfl rfl) fd_8_0 rfl rfl rfl rfl (by omega) (K204 hT p1 (by omega) (d - 1) (by omega) _ (fun v h0 H => H)) (fun v1 h1 H => ?_)
  rcases H with ⟨rfl, rfl⟩ | ⟨rfl, rfl⟩
  refine st_if_ne c205_25 (by omega) (fun k16 => False.elim (by omega)) (fun k17 => ?_)
  refine st_iconst c205_28 ?_
  refine st_ireturn c205_30 ?_
  exact hQ _ _ ⟨(-2), rfl, by omega, hT, hF⟩
  refine st_if_ne c205_25 (by omega) (fun k18 => ?_) (fun k19 => False.elim (by omega))
  refine st_aload c205_31 rfl ?_
  refine st_getX (u := 83) c205_32 hT (tf hT rfl rfl) fd_8_23 rfl ?_
  refine st_iload c205_35 rfl ?_
  refine st_iconst c205_36 ?_
  refine st_iast c205_37 hT (tf hT rfl rfl) ay_61 (by omega) (by omega) (by omega) (Ext_rf _) hS hF (by decide +kernel) (fun h20 hT21 hF22 hU23 => ?_)
  refine st_aload c205_38 rfl ?_
  refine st_getX (u := 84) c205_39 hT21 (tf hT21 rfl rfl) fd_8_24 rfl ?_
  refine st_iload c205_42 rfl ?_
  refine st_aload c205_43 rfl ?_
  refine st_getI c205_44 hT21 (tf hT21 rfl rfl) fd_8_1 (fun e24 e25 => ?_)
  have q26 : fI h20 64 1 = fI h 64 1 := AUp_fI hU23
  refine st_iload c205_47 rfl ?_
  refine st_iadd c205_48 ?_
  refine st_iast c205_49 hT21 (tf hT21 rfl rfl) ay_62 (by omega) (by omega) (by omega) (Ext_rf _) hS hF22 (by decide +kernel) (fun h27 hT28 hF29 hU30 => ?_)
  refine st_aload c205_50 rfl ?_
  refine st_getX (u := 85) c205_51 hT28 (tf hT28 rfl rfl) fd_8_25 rfl ?_
  refine st_iload c205_54 rfl ?_
  refine st_aload c205_55 rfl ?_
  refine st_getX (u := 77) c205_56 hT28 (tf hT28 rfl rfl) fd_8_17 rfl ?_
  refine st_iload c205_59 rfl ?_
  refine st_iald c205_60 hT28 (tf hT28 rfl rfl) ay_55 (by omega) (fun e31 e32 => ?_)
  have q33 : aI h27 77 p1 = aI h 77 p1 := (AUp_aIne hU30 (by decide) p1).trans (AUp_aIne hU23 (by decide) p1)
  refine st_iast c205_61 hT28 (tf hT28 rfl rfl) ay_63 (by omega) (by omega) (by omega) (Ext_rf _) hS hF29 (by decide +kernel) (fun h34 hT35 hF36 hU37 => ?_)
  refine st_iconst c205_62 ?_
  refine st_ireturn c205_63 ?_
  exact hQ _ _ ⟨1, rfl, by omega, hT35, hF36⟩
def W206 : List (Nat × Nat) := [(75, 0)]
set_option maxHeartbeats 0 in
theorem K206 {Ln : Nat} {xs : Nat → Int32} {τ : List Nat} {h : List mE} {E : EP} (hT : TH E τ h) (hS : Stb E W206) (p1 : Int) (hp1 : (-2147483648) ≤ p1 ∧ p1 ≤ 2147483647) (d : Nat) (hd : 0 ≤ d) (Q : Option Value → List mE → Prop) (hQ : ∀ v h', (v = none ∧ TH E τ h' ∧ Fr τ W206 h h') → Q v h') : MR (mex Ln xs) d 206 0 [some (.ref 64), some (vI p1), none] [] h Q := by
  have hF := Fr_rf τ W206 h
  refine st_iconst c206_0 ?_
  refine st_istore (L' := [some (.ref 64), some (vI p1), some (vI 0)]) c206_1 rfl rfl ?_
  have lp110 : ∀ (n111 : Nat) (z105 : Int) (h106 : List mE), (200 : Int) - z105 < (n111 : Int) → 0 ≤ z105 ∧ z105 ≤ 200 → TH E τ h106 → Fr τ W206 h h106 → Fr τ [(75, 0)] h h106 → MR (mex Ln xs) d 206 2 [some (.ref 64), some (vI p1), some (vI z105)] [] h106 Q := by
    intro n111
    induction n111 with
    | zero =>
      intro z105 h106 hm113 b114 hT107 hF108 hL109
      exfalso; omega
    | succ n111 ih112 =>
      intro z105 h106 hm113 b114 hT107 hF108 hL109
      refine st_iload c206_2 rfl ?_
      refine st_aload c206_3 rfl ?_
      refine st_getI c206_4 hT107 (tf hT107 rfl rfl) fd_8_37 (fun e115 e116 => ?_)
      have q117 : fI h106 64 37 = fI h 64 37 := Fr_fI hL109 (tf hT rfl rfl) (by decide +kernel)
      refine st_icmp_ge c206_7 (by omega) (by omega) (fun k118 => ?_) (fun k119 => ?_)
      refine st_return c206_45 ?_
      exact hQ _ _ ⟨rfl, hT107, hF108⟩
      refine st_aload c206_10 rfl ?_
      refine st_getX (u := 95) c206_11 hT107 (tf hT107 rfl rfl) fd_8_38 rfl ?_
      refine st_iload c206_14 rfl ?_
      refine st_iald c206_15 hT107 (tf hT107 rfl rfl) ay_73 (by omega) (fun e120 e121 => ?_)
      have q122 : aI h106 95 z105 = aI h 95 z105 := Fr_aI hL109 (tf hT rfl rfl) (by decide +kernel) z105
      refine st_iload c206_16 rfl ?_
      refine st_icmp_ne c206_17 (by omega) (by omega) (fun k123 => ?_) (fun k124 => ?_)
      refine st_iinc (L' := [some (.ref 64), some (vI p1), some (vI (z105 + 1))]) c206_39 rfl rfl rfl ?_
      refine st_goto c206_42 ?_
      exact ih112 (z105 + 1) h106 (by omega) (by omega) hT107 hF108 hL109
      refine st_aload c206_20 rfl ?_
      refine st_getX (u := 97) c206_21 hT107 (tf hT107 rfl rfl) fd_8_40 rfl ?_
      refine st_iload c206_24 rfl ?_
      refine st_iald c206_25 hT107 (tf hT107 rfl rfl) ay_75 (by omega) (fun e125 e126 => ?_)
      refine st_if_ge c206_26 (by omega) (fun k127 => ?_) (fun k128 => ?_)
      refine st_iinc (L' := [some (.ref 64), some (vI p1), some (vI (z105 + 1))]) c206_39 rfl rfl rfl ?_
      refine st_goto c206_42 ?_
      exact ih112 (z105 + 1) h106 (by omega) (by omega) hT107 hF108 hL109
      refine st_aload c206_29 rfl ?_
      refine st_getX (u := 97) c206_30 hT107 (tf hT107 rfl rfl) fd_8_40 rfl ?_
      refine st_iload c206_33 rfl ?_
      refine st_aload c206_34 rfl ?_
      refine st_getI c206_35 hT107 (tf hT107 rfl rfl) fd_8_1 (fun e129 e130 => ?_)
      have q131 : fI h106 64 1 = fI h 64 1 := Fr_fI hL109 (tf hT rfl rfl) (by decide +kernel)
      refine st_iast c206_38 hT107 (tf hT107 rfl rfl) ay_75 (by omega) (by omega) (by omega) (Ext_rf _) hS hF108 (by decide +kernel) (fun h132 hT133 hF134 hU135 => ?_)
      refine st_iinc (L' := [some (.ref 64), some (vI p1), some (vI (z105 + 1))]) c206_39 rfl rfl rfl ?_
      refine st_goto c206_42 ?_
      exact ih112 (z105 + 1) h132 (by omega) (by omega) hT133 hF134 (AUp_Fr hL109 hU135 (fun u hu => by rw [ty_1 hu (tf hT133 rfl rfl)]; decide))
  exact lp110 ((((200 : Int) - 0 : Int) + 1).toNat) 0 h (by omega) (by omega) hT hF (Fr_rf _ _ _)
def W207 : List (Nat × Nat) := [(8, 37), (61, 0), (73, 0), (74, 0), (75, 0)]
set_option maxHeartbeats 0 in
theorem K207 {Ln : Nat} {xs : Nat → Int32} {τ : List Nat} {h : List mE} {E : EP} (hT : TH E τ h) (hS : Stb E W207) (p1 : Int) (hp1 : (-2147483648) ≤ p1 ∧ p1 ≤ 2147483647) (p2 : Int) (hp2 : (-2147483648) ≤ p2 ∧ p2 ≤ 2147483647) (d : Nat) (hd : 2 ≤ d) (Q : Option Value → List mE → Prop) (hQ : ∀ v h', (∃ z : Int, v = some (vI z) ∧ ((-3) ≤ z ∧ z ≤ 1) ∧ TH E τ h' ∧ Fr τ W207 h h') → Q v h') : MR (mex Ln xs) d 207 0 [some (.ref 64), some (vI p1), some (vI p2)] [] h Q := by
  have hF := Fr_rf τ W207 h
  refine st_aload c207_0 rfl ?_
  refine st_iload c207_1 rfl ?_
  have e1 := fI_bd (q := 64) hT (tf hT rfl rfl) fd_8_15
  refine st_callt (as := [vI p1]) c207_2 cm_191 hT (tf hT rfl rfl) fd_8_0 rfl rfl rfl rfl (by omega) (K191 hT p1 (by omega) (d - 1) (by omega) _ (fun v h0 H => H)) (fun v1 h1 H => ?_)
  rcases H with ⟨rfl, pf2, rfl⟩ | ⟨rfl, pf3, pf4, rfl⟩
  refine st_if_eq c207_5 (by omega) (fun k5 => ?_) (fun k6 => False.elim (by omega))
  refine st_iconst c207_17 ?_
  refine st_ireturn c207_18 ?_
  exact hQ _ _ ⟨(-1), rfl, by omega, hT, hF⟩
  refine st_if_eq c207_5 (by omega) (fun k7 => False.elim (by omega)) (fun k8 => ?_)
  refine st_iload c207_8 rfl ?_
  refine st_iconst c207_9 ?_
  refine st_iconst c207_10 ?_
  refine st_calls (as := [vI p2, vI 0, vI 1]) c207_11 cm_180 rfl rfl rfl rfl (by omega) (K180 hT p2 (by omega) 0 (by omega) 1 (by omega) (d - 1) (by omega) _ (fun v h0 H => H)) (fun v1 h1 H => ?_)
  rcases H with ⟨rfl, pf9, rfl⟩ | ⟨rfl, pf10, pf11, rfl⟩
  refine st_if_ne c207_14 (by omega) (fun k12 => False.elim (by omega)) (fun k13 => ?_)
  refine st_iconst c207_17 ?_
  refine st_ireturn c207_18 ?_
  exact hQ _ _ ⟨(-1), rfl, by omega, hT, hF⟩
  refine st_if_ne c207_14 (by omega) (fun k14 => ?_) (fun k15 => False.elim (by omega))
  refine st_aload c207_19 rfl ?_
  refine st_getX (u := 83) c207_20 hT (tf hT rfl rfl) fd_8_23 rfl ?_
  refine st_iload c207_23 rfl ?_
  refine st_iald c207_24 hT (tf hT rfl rfl) ay_61 (by omega) (fun e16 e17 => ?_)
  refine st_iconst c207_25 ?_
  refine st_icmp_ge c207_26 (by omega) (by omega) (fun k18 => ?_) (fun k19 => ?_)
  refine st_iconst c207_67 ?_
  refine st_ireturn c207_69 ?_
  exact hQ _ _ ⟨(-2), rfl, by omega, hT, hF⟩
  refine st_aload c207_29 rfl ?_
  refine st_getX (u := 83) c207_30 hT (tf hT rfl rfl) fd_8_23 rfl ?_
  refine st_iload c207_33 rfl ?_
  refine st_iald c207_34 hT (tf hT rfl rfl) ay_61 (by omega) (fun e20 e21 => ?_)
  refine st_iconst c207_35 ?_
  refine st_icmp_eq c207_36 (by omega) (by omega) (fun k22 => ?_) (fun k23 => ?_)
  refine st_iconst c207_67 ?_
  refine st_ireturn c207_69 ?_
  exact hQ _ _ ⟨(-2), rfl, by omega, hT, hF⟩
  refine st_aload c207_39 rfl ?_
  refine st_getX (u := 83) c207_40 hT (tf hT rfl rfl) fd_8_23 rfl ?_
  refine st_iload c207_43 rfl ?_
  refine st_iald c207_44 hT (tf hT rfl rfl) ay_61 (by omega) (fun e24 e25 => ?_)
  refine st_iconst c207_45 ?_
  refine st_icmp_ne c207_46 (by omega) (by omega) (fun k26 => ?_) (fun k27 => ?_)
  refine st_iconst c207_53 ?_
  refine st_iload c207_54 rfl ?_
  refine st_iconst c207_55 ?_
  refine st_icmp_ne c207_56 (by omega) (by omega) (fun k28 => ?_) (fun k29 => ?_)
  refine st_iconst c207_63 ?_
  refine st_icmp_ne c207_64 (by omega) (by omega) (fun k30 => False.elim (by omega)) (fun k31 => ?_)
  refine st_iconst c207_67 ?_
  refine st_ireturn c207_69 ?_
  exact hQ _ _ ⟨(-2), rfl, by omega, hT, hF⟩
  refine st_iconst c207_59 ?_
  refine st_goto c207_60 ?_
  refine st_icmp_ne c207_64 (by omega) (by omega) (fun k32 => ?_) (fun k33 => False.elim (by omega))
  refine st_iload c207_70 rfl ?_
  refine st_if_ne c207_71 (by omega) (fun k34 => ?_) (fun k35 => False.elim (by omega))
  refine st_aload c207_88 rfl ?_
  refine st_getI c207_89 hT (tf hT rfl rfl) fd_8_37 (fun e36 e37 => ?_)
  refine st_iconst c207_92 ?_
  refine st_icmp_ne c207_95 (by omega) (by omega) (fun k38 => ?_) (fun k39 => ?_)
  refine st_aload c207_101 rfl ?_
  refine st_getX (u := 95) c207_102 hT (tf hT rfl rfl) fd_8_38 rfl ?_
  refine st_aload c207_105 rfl ?_
  refine st_getI c207_106 hT (tf hT rfl rfl) fd_8_37 (fun e40 e41 => ?_)
  refine st_iload c207_109 rfl ?_
  refine st_iast c207_110 hT (tf hT rfl rfl) ay_73 (by omega) (by omega) (by omega) (Ext_rf _) hS hF (by decide +kernel) (fun h42 hT43 hF44 hU45 => ?_)
  refine st_aload c207_111 rfl ?_
  refine st_getX (u := 96) c207_112 hT43 (tf hT43 rfl rfl) fd_8_39 rfl ?_
  refine st_aload c207_115 rfl ?_
  refine st_getI c207_116 hT43 (tf hT43 rfl rfl) fd_8_37 (fun e46 e47 => ?_)
  have q48 : fI h42 64 37 = fI h 64 37 := AUp_fI hU45
  refine st_aload c207_119 rfl ?_
  refine st_getI c207_120 hT43 (tf hT43 rfl rfl) fd_8_1 (fun e49 e50 => ?_)
  have q51 : fI h42 64 1 = fI h 64 1 := AUp_fI hU45
  refine st_iast c207_123 hT43 (tf hT43 rfl rfl) ay_74 (by omega) (by omega) (by omega) (Ext_rf _) hS hF44 (by decide +kernel) (fun h52 hT53 hF54 hU55 => ?_)
  refine st_aload c207_124 rfl ?_
  refine st_getX (u := 97) c207_125 hT53 (tf hT53 rfl rfl) fd_8_40 rfl ?_
  refine st_aload c207_128 rfl ?_
  refine st_getI c207_129 hT53 (tf hT53 rfl rfl) fd_8_37 (fun e56 e57 => ?_)
  have q58 : fI h52 64 37 = fI h42 64 37 := AUp_fI hU55
  refine st_iconst c207_132 ?_
  refine st_iast c207_133 hT53 (tf hT53 rfl rfl) ay_75 (by omega) (by omega) (by omega) (Ext_rf _) hS hF54 (by decide +kernel) (fun h59 hT60 hF61 hU62 => ?_)
  refine st_aload c207_134 rfl ?_
  refine st_dup c207_135 rfl ?_
  refine st_getI c207_136 hT60 (tf hT60 rfl rfl) fd_8_37 (fun e63 e64 => ?_)
  have q65 : fI h59 64 37 = fI h52 64 37 := AUp_fI hU62
  refine st_iconst c207_139 ?_
  refine st_iadd c207_140 ?_
  refine st_putI c207_141 hT60 (tf hT60 rfl rfl) fd_8_37 (by omega) (by omega) (Ext_rf _) hS hF61 (by decide +kernel) (fun h66 hT67 hF68 hU69 => ?_)
  refine st_aload c207_144 rfl ?_
  refine st_getX (u := 83) c207_145 hT67 (tf hT67 rfl rfl) fd_8_23 rfl ?_
  refine st_iload c207_148 rfl ?_
  refine st_iconst c207_149 ?_
  refine st_iast c207_150 hT67 (tf hT67 rfl rfl) ay_61 (by omega) (by omega) (by omega) (Ext_rf _) hS hF68 (by decide +kernel) (fun h70 hT71 hF72 hU73 => ?_)
  refine st_iconst c207_151 ?_
  refine st_ireturn c207_152 ?_
  exact hQ _ _ ⟨1, rfl, by omega, hT71, hF72⟩
  refine st_iconst c207_98 ?_
  refine st_ireturn c207_100 ?_
  exact hQ _ _ ⟨(-3), rfl, by omega, hT, hF⟩
  refine st_iconst c207_49 ?_
  refine st_goto c207_50 ?_
  refine st_iload c207_54 rfl ?_
  refine st_iconst c207_55 ?_
  refine st_icmp_ne c207_56 (by omega) (by omega) (fun k74 => ?_) (fun k75 => ?_)
  refine st_iconst c207_63 ?_
  refine st_icmp_ne c207_64 (by omega) (by omega) (fun k76 => ?_) (fun k77 => False.elim (by omega))
  refine st_iload c207_70 rfl ?_
  refine st_if_ne c207_71 (by omega) (fun k78 => False.elim (by omega)) (fun k79 => ?_)
  refine st_aload c207_74 rfl ?_
  refine st_iload c207_75 rfl ?_
  refine st_callt (as := [vI p1]) c207_76 cm_206 hT (tf hT rfl rfl) fd_8_0 rfl rfl rfl rfl (by omega) (K206 hT (Stb_mono hS (by decide +kernel)) p1 (by omega) (d - 1) (by omega) _ (fun v h0 H => H)) (fun v1 h80 H => ?_)
  obtain ⟨rfl, hT81, hF82⟩ := H
  have hF83 := Fr_cp hF hF82 (by decide +kernel : Wsub W206 W207 = true)
  refine st_aload c207_79 rfl ?_
  refine st_getX (u := 83) c207_80 hT81 (tf hT81 rfl rfl) fd_8_23 rfl ?_
  refine st_iload c207_83 rfl ?_
  refine st_iconst c207_84 ?_
  refine st_iast c207_85 hT81 (tf hT81 rfl rfl) ay_61 (by omega) (by omega) (by omega) (Ext_rf _) hS hF83 (by decide +kernel) (fun h84 hT85 hF86 hU87 => ?_)
  refine st_iconst c207_86 ?_
  refine st_ireturn c207_87 ?_
  exact hQ _ _ ⟨1, rfl, by omega, hT85, hF86⟩
  refine st_iconst c207_59 ?_
  refine st_goto c207_60 ?_
  refine st_icmp_ne c207_64 (by omega) (by omega) (fun k88 => False.elim (by omega)) (fun k89 => ?_)
  refine st_iconst c207_67 ?_
  refine st_ireturn c207_69 ?_
  exact hQ _ _ ⟨(-2), rfl, by omega, hT, hF⟩
def W210 : List (Nat × Nat) := [(8, 41), (76, 0), (77, 0), (78, 0)]
set_option maxHeartbeats 0 in
theorem K210 {Ln : Nat} {xs : Nat → Int32} {τ : List Nat} {h : List mE} {E : EP} (hT : TH E τ h) (hS : Stb E W210) (p1 : Int) (hp1 : (-2147483648) ≤ p1 ∧ p1 ≤ 2147483647) (p2 : Int) (hp2 : (-2147483648) ≤ p2 ∧ p2 ≤ 2147483647) (d : Nat) (hd : 2 ≤ d) (Q : Option Value → List mE → Prop) (hQ : ∀ v h', (∃ z : Int, v = some (vI z) ∧ ((-3) ≤ z ∧ z ≤ 300) ∧ ((0 ≤ p1 ∧ p1 < fI h 64 15 ∧ 0 ≤ p2 ∧ p2 < fI h 64 2 ∧ fI h 64 41 ≤ 299 ∧ z = fI h 64 41 + 1 ∧ fI h' 64 41 = fI h 64 41 + 1) ∨ (0 ≤ p1 ∧ p1 < fI h 64 15 ∧ 0 ≤ p2 ∧ p2 < fI h 64 2 ∧ 300 ≤ fI h 64 41 ∧ z = -3 ∧ fI h' 64 41 = fI h 64 41) ∨ ((p1 < 0 ∨ fI h 64 15 ≤ p1 ∨ p2 < 0 ∨ fI h 64 2 ≤ p2) ∧ z = -1 ∧ fI h' 64 41 = fI h 64 41)) ∧ TH E τ h' ∧ Fr τ W210 h h') → Q v h') : MR (mex Ln xs) d 210 0 [some (.ref 64), some (vI p1), some (vI p2)] [] h Q := by
  have hF := Fr_rf τ W210 h
  refine st_aload c210_0 rfl ?_
  refine st_iload c210_1 rfl ?_
  have e1 := fI_bd (q := 64) hT (tf hT rfl rfl) fd_8_15
  refine st_callt (as := [vI p1]) c210_2 cm_191 hT (tf hT rfl rfl) fd_8_0 rfl rfl rfl rfl (by omega) (K191 hT p1 (by omega) (d - 1) (by omega) _ (fun v h0 H => H)) (fun v1 h1 H => ?_)
  rcases H with ⟨rfl, pf2, rfl⟩ | ⟨rfl, pf3, pf4, rfl⟩
  refine st_if_eq c210_5 (by omega) (fun k5 => ?_) (fun k6 => False.elim (by omega))
  refine st_iconst c210_16 ?_
  refine st_ireturn c210_17 ?_
  have e7 := fI_bd (q := 64) hT (tf hT rfl rfl) fd_8_41
  exact hQ _ _ ⟨(-1), rfl, by omega, by omega, hT, hF⟩
  refine st_if_eq c210_5 (by omega) (fun k8 => False.elim (by omega)) (fun k9 => ?_)
  refine st_aload c210_8 rfl ?_
  refine st_iload c210_9 rfl ?_
  have e10 := fI_bd (q := 64) hT (tf hT rfl rfl) fd_8_2
  refine st_callt (as := [vI p2]) c210_10 cm_183 hT (tf hT rfl rfl) fd_8_0 rfl rfl rfl rfl (by omega) (K183 hT p2 (by omega) (d - 1) (by omega) _ (fun v h0 H => H)) (fun v1 h1 H => ?_)
  rcases H with ⟨rfl, pf11, rfl⟩ | ⟨rfl, pf12, pf13, rfl⟩
  refine st_if_ne c210_13 (by omega) (fun k14 => False.elim (by omega)) (fun k15 => ?_)
  refine st_iconst c210_16 ?_
  refine st_ireturn c210_17 ?_
  have e16 := fI_bd (q := 64) hT (tf hT rfl rfl) fd_8_41
  exact hQ _ _ ⟨(-1), rfl, by omega, by omega, hT, hF⟩
  refine st_if_ne c210_13 (by omega) (fun k17 => ?_) (fun k18 => False.elim (by omega))
  refine st_aload c210_18 rfl ?_
  refine st_getI c210_19 hT (tf hT rfl rfl) fd_8_41 (fun e19 e20 => ?_)
  refine st_iconst c210_22 ?_
  refine st_icmp_ne c210_25 (by omega) (by omega) (fun k21 => ?_) (fun k22 => ?_)
  refine st_aload c210_31 rfl ?_
  refine st_getX (u := 98) c210_32 hT (tf hT rfl rfl) fd_8_42 rfl ?_
  refine st_aload c210_35 rfl ?_
  refine st_getI c210_36 hT (tf hT rfl rfl) fd_8_41 (fun e23 e24 => ?_)
  refine st_iload c210_39 rfl ?_
  refine st_iast c210_40 hT (tf hT rfl rfl) ay_76 (by omega) (by omega) (by omega) (Ext_rf _) hS hF (by decide +kernel) (fun h25 hT26 hF27 hU28 => ?_)
  refine st_aload c210_41 rfl ?_
  refine st_getX (u := 99) c210_42 hT26 (tf hT26 rfl rfl) fd_8_43 rfl ?_
  refine st_aload c210_45 rfl ?_
  refine st_getI c210_46 hT26 (tf hT26 rfl rfl) fd_8_41 (fun e29 e30 => ?_)
  have q31 : fI h25 64 41 = fI h 64 41 := AUp_fI hU28
  refine st_iload c210_49 rfl ?_
  refine st_iast c210_50 hT26 (tf hT26 rfl rfl) ay_77 (by omega) (by omega) (by omega) (Ext_rf _) hS hF27 (by decide +kernel) (fun h32 hT33 hF34 hU35 => ?_)
  refine st_aload c210_51 rfl ?_
  refine st_getX (u := 100) c210_52 hT33 (tf hT33 rfl rfl) fd_8_44 rfl ?_
  refine st_aload c210_55 rfl ?_
  refine st_getI c210_56 hT33 (tf hT33 rfl rfl) fd_8_41 (fun e36 e37 => ?_)
  have q38 : fI h32 64 41 = fI h25 64 41 := AUp_fI hU35
  refine st_aload c210_59 rfl ?_
  refine st_getI c210_60 hT33 (tf hT33 rfl rfl) fd_8_1 (fun e39 e40 => ?_)
  have q41 : fI h32 64 1 = fI h 64 1 := (AUp_fI hU35).trans (AUp_fI hU28)
  refine st_iast c210_63 hT33 (tf hT33 rfl rfl) ay_78 (by omega) (by omega) (by omega) (Ext_rf _) hS hF34 (by decide +kernel) (fun h42 hT43 hF44 hU45 => ?_)
  refine st_aload c210_64 rfl ?_
  refine st_dup c210_65 rfl ?_
  refine st_getI c210_66 hT43 (tf hT43 rfl rfl) fd_8_41 (fun e46 e47 => ?_)
  have q48 : fI h42 64 41 = fI h32 64 41 := AUp_fI hU45
  refine st_iconst c210_69 ?_
  refine st_iadd c210_70 ?_
  refine st_putI c210_71 hT43 (tf hT43 rfl rfl) fd_8_41 (by omega) (by omega) (Ext_rf _) hS hF44 (by decide +kernel) (fun h49 hT50 hF51 hU52 => ?_)
  refine st_aload c210_74 rfl ?_
  refine st_getI c210_75 hT50 (tf hT50 rfl rfl) fd_8_41 (fun e53 e54 => ?_)
  have q55 : fI h49 64 41 = (fI h42 64 41) + 1 := FUp_fI hU52 (by omega) (by omega)
  refine st_ireturn c210_78 ?_
  exact hQ _ _ ⟨fI h49 64 41, rfl, by omega, by omega, hT50, hF51⟩
  refine st_iconst c210_28 ?_
  refine st_ireturn c210_30 ?_
  exact hQ _ _ ⟨(-3), rfl, by omega, by omega, hT, hF⟩
set_option maxHeartbeats 0 in
theorem K211 {Ln : Nat} {xs : Nat → Int32} {τ : List Nat} {h : List mE} {E : EP} (hT : TH E τ h) (p1 : Int) (hp1 : (-2147483648) ≤ p1 ∧ p1 ≤ 2147483647) (p2 : Int) (hp2 : (-2147483648) ≤ p2 ∧ p2 ≤ 2147483647) (d : Nat) (hd : 2 ≤ d) (Q : Option Value → List mE → Prop) (hQ : ∀ v h', (∃ z : Int, v = some (vI z) ∧ ((-2147483648) ≤ z ∧ z ≤ 2147483647) ∧ h = h') → Q v h') : MR (mex Ln xs) d 211 0 [some (.ref 64), some (vI p1), some (vI p2), none, none] [] h Q := by
  refine st_aload c211_0 rfl ?_
  refine st_iload c211_1 rfl ?_
  have e1 := fI_bd (q := 64) hT (tf hT rfl rfl) fd_8_15
  refine st_callt (as := [vI p1]) c211_2 cm_191 hT (tf hT rfl rfl) fd_8_0 rfl rfl rfl rfl (by omega) (K191 hT p1 (by omega) (d - 1) (by omega) _ (fun v h0 H => H)) (fun v1 h1 H => ?_)
  rcases H with ⟨rfl, pf2, rfl⟩ | ⟨rfl, pf3, pf4, rfl⟩
  refine st_if_eq c211_5 (by omega) (fun k5 => ?_) (fun k6 => False.elim (by omega))
  refine st_iconst c211_17 ?_
  refine st_ireturn c211_18 ?_
  exact hQ _ _ ⟨(-1), rfl, by omega, rfl⟩
  refine st_if_eq c211_5 (by omega) (fun k7 => False.elim (by omega)) (fun k8 => ?_)
  refine st_iload c211_8 rfl ?_
  refine st_iconst c211_9 ?_
  refine st_iconst c211_10 ?_
  refine st_calls (as := [vI p2, vI 0, vI 2]) c211_11 cm_180 rfl rfl rfl rfl (by omega) (K180 hT p2 (by omega) 0 (by omega) 2 (by omega) (d - 1) (by omega) _ (fun v h0 H => H)) (fun v1 h1 H => ?_)
  rcases H with ⟨rfl, pf9, rfl⟩ | ⟨rfl, pf10, pf11, rfl⟩
  refine st_if_ne c211_14 (by omega) (fun k12 => False.elim (by omega)) (fun k13 => ?_)
  refine st_iconst c211_17 ?_
  refine st_ireturn c211_18 ?_
  exact hQ _ _ ⟨(-1), rfl, by omega, rfl⟩
  refine st_if_ne c211_14 (by omega) (fun k14 => ?_) (fun k15 => False.elim (by omega))
  refine st_aload c211_19 rfl ?_
  refine st_getX (u := 83) c211_20 hT (tf hT rfl rfl) fd_8_23 rfl ?_
  refine st_iload c211_23 rfl ?_
  refine st_iald c211_24 hT (tf hT rfl rfl) ay_61 (by omega) (fun e16 e17 => ?_)
  refine st_iconst c211_25 ?_
  refine st_icmp_eq c211_26 (by omega) (by omega) (fun k18 => ?_) (fun k19 => ?_)
  refine st_iload c211_32 rfl ?_
  refine st_iconst c211_33 ?_
  refine st_icmp_ne c211_34 (by omega) (by omega) (fun k20 => ?_) (fun k21 => ?_)
  refine st_aload c211_44 rfl ?_
  refine st_getX (u := 82) c211_45 hT (tf hT rfl rfl) fd_8_22 rfl ?_
  refine st_iload c211_48 rfl ?_
  refine st_iald c211_49 hT (tf hT rfl rfl) ay_60 (by omega) (fun e22 e23 => ?_)
  refine st_istore (L' := [some (.ref 64), some (vI p1), some (vI p2), some (vI (aI h 82 p1)), none]) c211_50 rfl rfl ?_
  refine st_iconst c211_51 ?_
  refine st_istore (L' := [some (.ref 64), some (vI p1), some (vI p2), some (vI (aI h 82 p1)), some (vI 0)]) c211_52 rfl rfl ?_
  have lp243 : ∀ (n244 : Nat) (z241 : Int) (z242 : Int), (300 : Int) - z242 < (n244 : Int) → (-2147483648) ≤ z241 ∧ z241 ≤ 2147483647 → 0 ≤ z242 ∧ z242 ≤ 300 → MR (mex Ln xs) d 211 54 [some (.ref 64), some (vI p1), some (vI p2), some (vI z241), some (vI z242)] [] h Q := by
    intro n244
    induction n244 with
    | zero =>
      intro z241 z242 hm246 b247 b248
      exfalso; omega
    | succ n244 ih245 =>
      intro z241 z242 hm246 b247 b248
      refine st_iload c211_54 rfl ?_
      refine st_aload c211_56 rfl ?_
      refine st_getI c211_57 hT (tf hT rfl rfl) fd_8_41 (fun e249 e250 => ?_)
      refine st_icmp_ge c211_60 (by omega) (by omega) (fun k251 => ?_) (fun k252 => ?_)
      refine st_iload c211_148 rfl ?_
      refine st_if_ne c211_149 (by omega) (fun k253 => ?_) (fun k254 => ?_)
      refine st_aload c211_156 rfl ?_
      refine st_getX (u := 88) c211_157 hT (tf hT rfl rfl) fd_8_28 rfl ?_
      refine st_iload c211_160 rfl ?_
      refine st_iald c211_161 hT (tf hT rfl rfl) ay_66 (by omega) (fun e255 e256 => ?_)
      refine st_ireturn c211_162 ?_
      exact hQ _ _ ⟨aI h 88 p1, rfl, by omega, rfl⟩
      refine st_iload c211_152 rfl ?_
      refine st_goto c211_153 ?_
      refine st_ireturn c211_162 ?_
      exact hQ _ _ ⟨z241, rfl, by omega, rfl⟩
      refine st_aload c211_63 rfl ?_
      refine st_getX (u := 98) c211_64 hT (tf hT rfl rfl) fd_8_42 rfl ?_
      refine st_iload c211_67 rfl ?_
      refine st_iald c211_69 hT (tf hT rfl rfl) ay_76 (by omega) (fun e257 e258 => ?_)
      refine st_iload c211_70 rfl ?_
      refine st_icmp_ne c211_71 (by omega) (by omega) (fun k259 => ?_) (fun k260 => ?_)
      refine st_iinc (L' := [some (.ref 64), some (vI p1), some (vI p2), some (vI z241), some (vI (z242 + 1))]) c211_142 rfl rfl rfl ?_
      refine st_goto c211_145 ?_
      exact ih245 z241 (z242 + 1) (by omega) (by omega) (by omega)
      refine st_aload c211_74 rfl ?_
      refine st_getX (u := 100) c211_75 hT (tf hT rfl rfl) fd_8_44 rfl ?_
      refine st_iload c211_78 rfl ?_
      refine st_iald c211_80 hT (tf hT rfl rfl) ay_78 (by omega) (fun e261 e262 => ?_)
      refine st_aload c211_81 rfl ?_
      refine st_getX (u := 82) c211_82 hT (tf hT rfl rfl) fd_8_22 rfl ?_
      refine st_iload c211_85 rfl ?_
      refine st_iald c211_86 hT (tf hT rfl rfl) ay_60 (by omega) (fun e263 e264 => ?_)
      refine st_aload c211_87 rfl ?_
      refine st_getX (u := 88) c211_88 hT (tf hT rfl rfl) fd_8_28 rfl ?_
      refine st_iload c211_91 rfl ?_
      refine st_iald c211_92 hT (tf hT rfl rfl) ay_66 (by omega) (fun e265 e266 => ?_)
      refine st_calls (as := [vI (aI h 100 z242), vI (aI h 82 p1), vI (aI h 88 p1)]) c211_93 cm_180 rfl rfl rfl rfl (by omega) (K180 hT (aI h 100 z242) (by omega) (aI h 82 p1) (by omega) (aI h 88 p1) (by omega) (d - 1) (by omega) _ (fun v h0 H => H)) (fun v1 h1 H => ?_)
      rcases H with ⟨rfl, pf267, rfl⟩ | ⟨rfl, pf268, pf269, rfl⟩
      refine st_if_ne c211_96 (by omega) (fun k270 => False.elim (by omega)) (fun k271 => ?_)
      refine st_goto c211_99 ?_
      refine st_iinc (L' := [some (.ref 64), some (vI p1), some (vI p2), some (vI z241), some (vI (z242 + 1))]) c211_142 rfl rfl rfl ?_
      refine st_goto c211_145 ?_
      exact ih245 z241 (z242 + 1) (by omega) (by omega) (by omega)
      refine st_if_ne c211_96 (by omega) (fun k272 => ?_) (fun k273 => False.elim (by omega))
      refine st_aload c211_102 rfl ?_
      refine st_getX (u := 99) c211_103 hT (tf hT rfl rfl) fd_8_43 rfl ?_
      refine st_iload c211_106 rfl ?_
      refine st_iald c211_108 hT (tf hT rfl rfl) ay_77 (by omega) (fun e274 e275 => ?_)
      refine st_aload c211_109 rfl ?_
      refine st_getX (u := 79) c211_110 hT (tf hT rfl rfl) fd_8_19 rfl ?_
      refine st_iload c211_113 rfl ?_
      refine st_iald c211_114 hT (tf hT rfl rfl) ay_57 (by omega) (fun e276 e277 => ?_)
      refine st_icmp_eq c211_115 (by omega) (by omega) (fun k278 => ?_) (fun k279 => ?_)
      refine st_aload c211_134 rfl ?_
      refine st_getX (u := 100) c211_135 hT (tf hT rfl rfl) fd_8_44 rfl ?_
      refine st_iload c211_138 rfl ?_
      refine st_iald c211_140 hT (tf hT rfl rfl) ay_78 (by omega) (fun e280 e281 => ?_)
      refine st_istore (L' := [some (.ref 64), some (vI p1), some (vI p2), some (vI (aI h 100 z242)), some (vI z242)]) c211_141 rfl rfl ?_
      refine st_iinc (L' := [some (.ref 64), some (vI p1), some (vI p2), some (vI (aI h 100 z242)), some (vI (z242 + 1))]) c211_142 rfl rfl rfl ?_
      refine st_goto c211_145 ?_
      exact ih245 (aI h 100 z242) (z242 + 1) (by omega) (by omega) (by omega)
      refine st_iload c211_118 rfl ?_
      refine st_if_ne c211_119 (by omega) (fun k282 => ?_) (fun k283 => ?_)
      refine st_aload c211_126 rfl ?_
      refine st_getX (u := 100) c211_127 hT (tf hT rfl rfl) fd_8_44 rfl ?_
      refine st_iload c211_130 rfl ?_
      refine st_iald c211_132 hT (tf hT rfl rfl) ay_78 (by omega) (fun e284 e285 => ?_)
      refine st_ireturn c211_133 ?_
      exact hQ _ _ ⟨aI h 100 z242, rfl, by omega, rfl⟩
      refine st_iload c211_122 rfl ?_
      refine st_goto c211_123 ?_
      refine st_ireturn c211_133 ?_
      exact hQ _ _ ⟨z241, rfl, by omega, rfl⟩
  exact lp243 ((((300 : Int) - 0 : Int) + 1).toNat) (aI h 82 p1) 0 (by omega) (by omega) (by omega)
  refine st_aload c211_37 rfl ?_
  refine st_getX (u := 79) c211_38 hT (tf hT rfl rfl) fd_8_19 rfl ?_
  refine st_iload c211_41 rfl ?_
  refine st_iald c211_42 hT (tf hT rfl rfl) ay_57 (by omega) (fun e286 e287 => ?_)
  refine st_ireturn c211_43 ?_
  exact hQ _ _ ⟨aI h 79 p1, rfl, by omega, rfl⟩
  refine st_iconst c211_29 ?_
  refine st_ireturn c211_31 ?_
  exact hQ _ _ ⟨(-2), rfl, by omega, rfl⟩
def W213 : List (Nat × Nat) := [(56, 0), (60, 0)]
set_option maxHeartbeats 0 in
theorem K213 {Ln : Nat} {xs : Nat → Int32} {τ : List Nat} {h : List mE} {E : EP} (hT : TH E τ h) (hS : Stb E W213) (p1 : Int) (hp1 : 0 ≤ p1 ∧ p1 ≤ 89) (d : Nat) (hd : 0 ≤ d) (Q : Option Value → List mE → Prop) (hQ : ∀ v h', (v = none ∧ TH E τ h' ∧ Fr τ W213 h h') → Q v h') : MR (mex Ln xs) d 213 0 [some (.ref 64), some (vI p1)] [] h Q := by
  have hF := Fr_rf τ W213 h
  refine st_aload c213_0 rfl ?_
  refine st_getX (u := 78) c213_1 hT (tf hT rfl rfl) fd_8_18 rfl ?_
  refine st_iload c213_4 rfl ?_
  refine st_aload c213_5 rfl ?_
  refine st_getX (u := 81) c213_6 hT (tf hT rfl rfl) fd_8_21 rfl ?_
  refine st_iload c213_9 rfl ?_
  refine st_bald c213_10 hT (tf hT rfl rfl) ay_59 (Or.inl rfl) (by omega) (fun e1 e2 => ?_)
  refine st_if_eq c213_11 (by omega) (fun k3 => ?_) (fun k4 => ?_)
  refine st_iconst c213_18 ?_
  refine st_iast c213_19 hT (tf hT rfl rfl) ay_56 (by omega) (by omega) (by omega) (Ext_rf _) hS hF (by decide +kernel) (fun h5 hT6 hF7 hU8 => ?_)
  refine st_aload c213_20 rfl ?_
  refine st_getX (u := 82) c213_21 hT6 (tf hT6 rfl rfl) fd_8_22 rfl ?_
  refine st_iload c213_24 rfl ?_
  refine st_aload c213_25 rfl ?_
  refine st_getX (u := 80) c213_26 hT6 (tf hT6 rfl rfl) fd_8_20 rfl ?_
  refine st_iload c213_29 rfl ?_
  refine st_iald c213_30 hT6 (tf hT6 rfl rfl) ay_58 (by omega) (fun e9 e10 => ?_)
  have q11 : aI h5 80 p1 = aI h 80 p1 := AUp_aIne hU8 (by decide) p1
  refine st_iast c213_31 hT6 (tf hT6 rfl rfl) ay_60 (by omega) (by omega) (by omega) (Ext_rf _) hS hF7 (by decide +kernel) (fun h12 hT13 hF14 hU15 => ?_)
  refine st_return c213_32 ?_
  exact hQ _ _ ⟨rfl, hT13, hF14⟩
  refine st_iconst c213_14 ?_
  refine st_goto c213_15 ?_
  refine st_iast c213_19 hT (tf hT rfl rfl) ay_56 (by omega) (by omega) (by omega) (Ext_rf _) hS hF (by decide +kernel) (fun h16 hT17 hF18 hU19 => ?_)
  refine st_aload c213_20 rfl ?_
  refine st_getX (u := 82) c213_21 hT17 (tf hT17 rfl rfl) fd_8_22 rfl ?_
  refine st_iload c213_24 rfl ?_
  refine st_aload c213_25 rfl ?_
  refine st_getX (u := 80) c213_26 hT17 (tf hT17 rfl rfl) fd_8_20 rfl ?_
  refine st_iload c213_29 rfl ?_
  refine st_iald c213_30 hT17 (tf hT17 rfl rfl) ay_58 (by omega) (fun e20 e21 => ?_)
  have q22 : aI h16 80 p1 = aI h 80 p1 := AUp_aIne hU19 (by decide) p1
  refine st_iast c213_31 hT17 (tf hT17 rfl rfl) ay_60 (by omega) (by omega) (by omega) (Ext_rf _) hS hF18 (by decide +kernel) (fun h23 hT24 hF25 hU26 => ?_)
  refine st_return c213_32 ?_
  exact hQ _ _ ⟨rfl, hT24, hF25⟩
def W212 : List (Nat × Nat) := [(8, 1), (56, 0), (60, 0), (61, 0)]
set_option maxHeartbeats 0 in
theorem K212 {Ln : Nat} {xs : Nat → Int32} {τ : List Nat} {h : List mE} {E : EP} (hT : TH E τ h) (hS : Stb E W212) (p1 : Int) (hp1 : (-2147483648) ≤ p1 ∧ p1 ≤ 2147483647) (d : Nat) (hd : 1 ≤ d) (Q : Option Value → List mE → Prop) (hQ : ∀ v h', (∃ z : Int, v = some (vI z) ∧ ((-1) ≤ z ∧ z ≤ 23999) ∧ ((1 ≤ p1 ∧ p1 ≤ 240 ∧ fI h 64 1 + p1 ≤ 23999 ∧ z = fI h 64 1 + p1 ∧ fI h' 64 1 = fI h 64 1 + p1) ∨ ((p1 < 1 ∨ 240 < p1 ∨ 23999 < fI h 64 1 + p1) ∧ z = -1 ∧ fI h' 64 1 = fI h 64 1)) ∧ TH E τ h' ∧ Fr τ W212 h h') → Q v h') : MR (mex Ln xs) d 212 0 [some (.ref 64), some (vI p1), none] [] h Q := by
  have hF := Fr_rf τ W212 h
  refine st_iload c212_0 rfl ?_
  refine st_iconst c212_1 ?_
  refine st_iconst c212_2 ?_
  refine st_calls (as := [vI p1, vI 1, vI 240]) c212_5 cm_180 rfl rfl rfl rfl (by omega) (K180 hT p1 (by omega) 1 (by omega) 240 (by omega) (d - 1) (by omega) _ (fun v h0 H => H)) (fun v1 h1 H => ?_)
  rcases H with ⟨rfl, pf1, rfl⟩ | ⟨rfl, pf2, pf3, rfl⟩
  refine st_if_eq c212_8 (by omega) (fun k4 => ?_) (fun k5 => False.elim (by omega))
  refine st_iconst c212_23 ?_
  refine st_ireturn c212_24 ?_
  have e6 := fI_bd (q := 64) hT (tf hT rfl rfl) fd_8_1
  exact hQ _ _ ⟨(-1), rfl, by omega, by omega, hT, hF⟩
  refine st_if_eq c212_8 (by omega) (fun k7 => False.elim (by omega)) (fun k8 => ?_)
  refine st_aload c212_11 rfl ?_
  refine st_getI c212_12 hT (tf hT rfl rfl) fd_8_1 (fun e9 e10 => ?_)
  refine st_iload c212_15 rfl ?_
  refine st_iadd c212_16 ?_
  refine st_iconst c212_17 ?_
  refine st_icmp_le c212_20 (by omega) (by omega) (fun k11 => ?_) (fun k12 => ?_)
  refine st_aload c212_25 rfl ?_
  refine st_dup c212_26 rfl ?_
  refine st_getI c212_27 hT (tf hT rfl rfl) fd_8_1 (fun e13 e14 => ?_)
  refine st_iload c212_30 rfl ?_
  refine st_iadd c212_31 ?_
  refine st_putI c212_32 hT (tf hT rfl rfl) fd_8_1 (by omega) (by omega) (Ext_rf _) hS hF (by decide +kernel) (fun h15 hT16 hF17 hU18 => ?_)
  refine st_iconst c212_35 ?_
  refine st_istore (L' := [some (.ref 64), some (vI p1), some (vI 0)]) c212_36 rfl rfl ?_
  have lp399 : ∀ (n400 : Nat) (z394 : Int) (h395 : List mE), (90 : Int) - z394 < (n400 : Int) → 0 ≤ z394 ∧ z394 ≤ 90 → TH E τ h395 → Fr τ W212 h h395 → Fr τ [(56, 0), (60, 0), (61, 0)] h15 h395 → MR (mex Ln xs) d 212 37 [some (.ref 64), none, some (vI z394)] [] h395 Q := by
    intro n400
    induction n400 with
    | zero =>
      intro z394 h395 hm402 b403 hT396 hF397 hL398
      exfalso; omega
    | succ n400 ih401 =>
      intro z394 h395 hm402 b403 hT396 hF397 hL398
      refine st_iload c212_37 rfl ?_
      refine st_aload c212_38 rfl ?_
      refine st_getI c212_39 hT396 (tf hT396 rfl rfl) fd_8_15 (fun e404 e405 => ?_)
      have q406 : fI h395 64 15 = fI h 64 15 := (Fr_fI hL398 (tf hT16 rfl rfl) (by decide +kernel)).trans (FUp_fIne hU18 (fun z => absurd z.2 (by decide)))
      refine st_icmp_ge c212_42 (by omega) (by omega) (fun k407 => ?_) (fun k408 => ?_)
      refine st_aload c212_109 rfl ?_
      refine st_getI c212_110 hT396 (tf hT396 rfl rfl) fd_8_1 (fun e409 e410 => ?_)
      have q411 : fI h395 64 1 = (fI h 64 1) + p1 := (Fr_fI hL398 (tf hT16 rfl rfl) (by decide +kernel)).trans (FUp_fI hU18 (by omega) (by omega))
      refine st_ireturn c212_113 ?_
      exact hQ _ _ ⟨fI h395 64 1, rfl, by omega, by omega, hT396, hF397⟩
      refine st_aload c212_45 rfl ?_
      refine st_getX (u := 78) c212_46 hT396 (tf hT396 rfl rfl) fd_8_18 rfl ?_
      refine st_iload c212_49 rfl ?_
      refine st_iald c212_50 hT396 (tf hT396 rfl rfl) ay_56 (by omega) (fun e412 e413 => ?_)
      refine st_iconst c212_51 ?_
      refine st_icmp_ne c212_52 (by omega) (by omega) (fun k414 => ?_) (fun k415 => ?_)
      refine st_aload c212_73 rfl ?_
      refine st_getX (u := 83) c212_74 hT396 (tf hT396 rfl rfl) fd_8_23 rfl ?_
      refine st_iload c212_77 rfl ?_
      refine st_iald c212_78 hT396 (tf hT396 rfl rfl) ay_61 (by omega) (fun e416 e417 => ?_)
      refine st_iconst c212_79 ?_
      refine st_icmp_ne c212_80 (by omega) (by omega) (fun k418 => ?_) (fun k419 => ?_)
      refine st_iinc (L' := [some (.ref 64), none, some (vI (z394 + 1))]) c212_103 rfl rfl rfl ?_
      refine st_goto c212_106 ?_
      exact ih401 (z394 + 1) h395 (by omega) (by omega) hT396 hF397 hL398
      refine st_aload c212_83 rfl ?_
      refine st_getI c212_84 hT396 (tf hT396 rfl rfl) fd_8_1 (fun e420 e421 => ?_)
      have q422 : fI h395 64 1 = (fI h 64 1) + p1 := (Fr_fI hL398 (tf hT16 rfl rfl) (by decide +kernel)).trans (FUp_fI hU18 (by omega) (by omega))
      refine st_aload c212_87 rfl ?_
      refine st_getX (u := 84) c212_88 hT396 (tf hT396 rfl rfl) fd_8_24 rfl ?_
      refine st_iload c212_91 rfl ?_
      refine st_iald c212_92 hT396 (tf hT396 rfl rfl) ay_62 (by omega) (fun e423 e424 => ?_)
      have q425 : aI h395 84 z394 = aI h 84 z394 := (Fr_aI hL398 (tf hT16 rfl rfl) (by decide +kernel) z394).trans (FUp_aI hU18 z394)
      refine st_icmp_lt c212_93 (by omega) (by omega) (fun k426 => ?_) (fun k427 => ?_)
      refine st_iinc (L' := [some (.ref 64), none, some (vI (z394 + 1))]) c212_103 rfl rfl rfl ?_
      refine st_goto c212_106 ?_
      exact ih401 (z394 + 1) h395 (by omega) (by omega) hT396 hF397 hL398
      refine st_aload c212_96 rfl ?_
      refine st_getX (u := 83) c212_97 hT396 (tf hT396 rfl rfl) fd_8_23 rfl ?_
      refine st_iload c212_100 rfl ?_
      refine st_iconst c212_101 ?_
      refine st_iast c212_102 hT396 (tf hT396 rfl rfl) ay_61 (by omega) (by omega) (by omega) (Ext_rf _) hS hF397 (by decide +kernel) (fun h428 hT429 hF430 hU431 => ?_)
      refine st_iinc (L' := [some (.ref 64), none, some (vI (z394 + 1))]) c212_103 rfl rfl rfl ?_
      refine st_goto c212_106 ?_
      exact ih401 (z394 + 1) h428 (by omega) (by omega) hT429 hF430 (AUp_Fr hL398 hU431 (fun u hu => by rw [ty_1 hu (tf hT429 rfl rfl)]; decide))
      refine st_aload c212_55 rfl ?_
      refine st_getI c212_56 hT396 (tf hT396 rfl rfl) fd_8_1 (fun e432 e433 => ?_)
      have q434 : fI h395 64 1 = (fI h 64 1) + p1 := (Fr_fI hL398 (tf hT16 rfl rfl) (by decide +kernel)).trans (FUp_fI hU18 (by omega) (by omega))
      refine st_aload c212_59 rfl ?_
      refine st_getX (u := 80) c212_60 hT396 (tf hT396 rfl rfl) fd_8_20 rfl ?_
      refine st_iload c212_63 rfl ?_
      refine st_iald c212_64 hT396 (tf hT396 rfl rfl) ay_58 (by omega) (fun e435 e436 => ?_)
      have q437 : aI h395 80 z394 = aI h 80 z394 := (Fr_aI hL398 (tf hT16 rfl rfl) (by decide +kernel) z394).trans (FUp_aI hU18 z394)
      refine st_icmp_lt c212_65 (by omega) (by omega) (fun k438 => ?_) (fun k439 => ?_)
      refine st_aload c212_73 rfl ?_
      refine st_getX (u := 83) c212_74 hT396 (tf hT396 rfl rfl) fd_8_23 rfl ?_
      refine st_iload c212_77 rfl ?_
      refine st_iald c212_78 hT396 (tf hT396 rfl rfl) ay_61 (by omega) (fun e440 e441 => ?_)
      refine st_iconst c212_79 ?_
      refine st_icmp_ne c212_80 (by omega) (by omega) (fun k442 => ?_) (fun k443 => ?_)
      refine st_iinc (L' := [some (.ref 64), none, some (vI (z394 + 1))]) c212_103 rfl rfl rfl ?_
      refine st_goto c212_106 ?_
      exact ih401 (z394 + 1) h395 (by omega) (by omega) hT396 hF397 hL398
      refine st_aload c212_83 rfl ?_
      refine st_getI c212_84 hT396 (tf hT396 rfl rfl) fd_8_1 (fun e444 e445 => ?_)
      have q446 : fI h395 64 1 = (fI h 64 1) + p1 := (Fr_fI hL398 (tf hT16 rfl rfl) (by decide +kernel)).trans (FUp_fI hU18 (by omega) (by omega))
      refine st_aload c212_87 rfl ?_
      refine st_getX (u := 84) c212_88 hT396 (tf hT396 rfl rfl) fd_8_24 rfl ?_
      refine st_iload c212_91 rfl ?_
      refine st_iald c212_92 hT396 (tf hT396 rfl rfl) ay_62 (by omega) (fun e447 e448 => ?_)
      have q449 : aI h395 84 z394 = aI h 84 z394 := (Fr_aI hL398 (tf hT16 rfl rfl) (by decide +kernel) z394).trans (FUp_aI hU18 z394)
      refine st_icmp_lt c212_93 (by omega) (by omega) (fun k450 => ?_) (fun k451 => ?_)
      refine st_iinc (L' := [some (.ref 64), none, some (vI (z394 + 1))]) c212_103 rfl rfl rfl ?_
      refine st_goto c212_106 ?_
      exact ih401 (z394 + 1) h395 (by omega) (by omega) hT396 hF397 hL398
      refine st_aload c212_96 rfl ?_
      refine st_getX (u := 83) c212_97 hT396 (tf hT396 rfl rfl) fd_8_23 rfl ?_
      refine st_iload c212_100 rfl ?_
      refine st_iconst c212_101 ?_
      refine st_iast c212_102 hT396 (tf hT396 rfl rfl) ay_61 (by omega) (by omega) (by omega) (Ext_rf _) hS hF397 (by decide +kernel) (fun h452 hT453 hF454 hU455 => ?_)
      refine st_iinc (L' := [some (.ref 64), none, some (vI (z394 + 1))]) c212_103 rfl rfl rfl ?_
      refine st_goto c212_106 ?_
      exact ih401 (z394 + 1) h452 (by omega) (by omega) hT453 hF454 (AUp_Fr hL398 hU455 (fun u hu => by rw [ty_1 hu (tf hT453 rfl rfl)]; decide))
      refine st_aload c212_68 rfl ?_
      refine st_iload c212_69 rfl ?_
      refine st_callt (as := [vI z394]) c212_70 cm_213 hT396 (tf hT396 rfl rfl) fd_8_0 rfl rfl rfl rfl (by omega) (K213 hT396 (Stb_mono hS (by decide +kernel)) z394 (by omega) (d - 1) (by omega) _ (fun v h0 H => H)) (fun v1 h456 H => ?_)
      obtain ⟨rfl, hT457, hF458⟩ := H
      have hF459 := Fr_cp hF397 hF458 (by decide +kernel : Wsub W213 W212 = true)
      refine st_aload c212_73 rfl ?_
      refine st_getX (u := 83) c212_74 hT457 (tf hT457 rfl rfl) fd_8_23 rfl ?_
      refine st_iload c212_77 rfl ?_
      refine st_iald c212_78 hT457 (tf hT457 rfl rfl) ay_61 (by omega) (fun e460 e461 => ?_)
      have q462 : aI h456 83 z394 = aI h395 83 z394 := Fr_aI hF458 (tf hT396 rfl rfl) (by decide +kernel) z394
      refine st_iconst c212_79 ?_
      refine st_icmp_ne c212_80 (by omega) (by omega) (fun k463 => ?_) (fun k464 => ?_)
      refine st_iinc (L' := [some (.ref 64), none, some (vI (z394 + 1))]) c212_103 rfl rfl rfl ?_
      refine st_goto c212_106 ?_
      exact ih401 (z394 + 1) h456 (by omega) (by omega) hT457 hF459 (Fr_cp hL398 hF458 (by decide +kernel))
      refine st_aload c212_83 rfl ?_
      refine st_getI c212_84 hT457 (tf hT457 rfl rfl) fd_8_1 (fun e465 e466 => ?_)
      have q467 : fI h456 64 1 = fI h395 64 1 := Fr_fI hF458 (tf hT396 rfl rfl) (by decide +kernel)
      refine st_aload c212_87 rfl ?_
      refine st_getX (u := 84) c212_88 hT457 (tf hT457 rfl rfl) fd_8_24 rfl ?_
      refine st_iload c212_91 rfl ?_
      refine st_iald c212_92 hT457 (tf hT457 rfl rfl) ay_62 (by omega) (fun e468 e469 => ?_)
      have q470 : aI h456 84 z394 = aI h 84 z394 := (Fr_aI hF458 (tf hT396 rfl rfl) (by decide +kernel) z394).trans ((Fr_aI hL398 (tf hT16 rfl rfl) (by decide +kernel) z394).trans (FUp_aI hU18 z394))
      refine st_icmp_lt c212_93 (by omega) (by omega) (fun k471 => ?_) (fun k472 => ?_)
      refine st_iinc (L' := [some (.ref 64), none, some (vI (z394 + 1))]) c212_103 rfl rfl rfl ?_
      refine st_goto c212_106 ?_
      exact ih401 (z394 + 1) h456 (by omega) (by omega) hT457 hF459 (Fr_cp hL398 hF458 (by decide +kernel))
      refine st_aload c212_96 rfl ?_
      refine st_getX (u := 83) c212_97 hT457 (tf hT457 rfl rfl) fd_8_23 rfl ?_
      refine st_iload c212_100 rfl ?_
      refine st_iconst c212_101 ?_
      refine st_iast c212_102 hT457 (tf hT457 rfl rfl) ay_61 (by omega) (by omega) (by omega) (Ext_rf _) hS hF459 (by decide +kernel) (fun h473 hT474 hF475 hU476 => ?_)
      refine st_iinc (L' := [some (.ref 64), none, some (vI (z394 + 1))]) c212_103 rfl rfl rfl ?_
      refine st_goto c212_106 ?_
      exact ih401 (z394 + 1) h473 (by omega) (by omega) hT474 hF475 (AUp_Fr (Fr_cp hL398 hF458 (by decide +kernel)) hU476 (fun u hu => by rw [ty_1 hu (tf hT474 rfl rfl)]; decide))
  refine MR_weak (A := [some (.ref 64), none, some (vI 0)]) (Lle_s (Lle_n (Lle_s (Lle_0)))) ?_
  exact lp399 ((((90 : Int) - 0 : Int) + 1).toNat) 0 h15 (by omega) (by omega) hT16 hF17 (Fr_rf _ _ _)
  refine st_iconst c212_23 ?_
  refine st_ireturn c212_24 ?_
  exact hQ _ _ ⟨(-1), rfl, by omega, by omega, hT, hF⟩
def W214 : List (Nat × Nat) := [(56, 0), (57, 0), (58, 0), (59, 0), (60, 0)]
set_option maxHeartbeats 0 in
theorem K214 {Ln : Nat} {xs : Nat → Int32} {τ : List Nat} {h : List mE} {E : EP} (hT : TH E τ h) (hS : Stb E W214) (p1 : Int) (hp1 : 0 ≤ p1 ∧ p1 ≤ 89) (p2 : Int) (hp2 : 0 ≤ p2 ∧ p2 ≤ 11) (p3 : Int) (hp3 : 0 ≤ p3 ∧ p3 ≤ 1) (d : Nat) (hd : 1 ≤ d) (Q : Option Value → List mE → Prop) (hQ : ∀ v h', (v = none ∧ TH E τ h' ∧ Fr τ W214 h h') → Q v h') : MR (mex Ln xs) d 214 0 [some (.ref 64), some (vI p1), some (vI p2), some (vI p3), none] [] h Q := by
  have hF := Fr_rf τ W214 h
  refine st_aload c214_0 rfl ?_
  refine st_aload c214_1 rfl ?_
  refine st_getX (u := 79) c214_2 hT (tf hT rfl rfl) fd_8_19 rfl ?_
  refine st_iload c214_5 rfl ?_
  refine st_iald c214_6 hT (tf hT rfl rfl) ay_57 (by omega) (fun e1 e2 => ?_)
  refine st_iload c214_7 rfl ?_
  refine st_callt (as := [vI (aI h 79 p1), vI p2]) c214_8 cm_184 hT (tf hT rfl rfl) fd_8_0 rfl rfl rfl rfl (by omega) (K184 hT (aI h 79 p1) (by omega) p2 (by omega) (d - 1) (by omega) _ (fun v h0 H => H)) (fun v1 h1 H => ?_)
  obtain ⟨z4, rfl, b5, pf3, rfl⟩ := H
  refine st_iconst c214_11 ?_
  refine st_iadd c214_13 ?_
  refine st_iconst c214_14 ?_
  refine st_idivp c214_16 (by omega) (by omega) ?_
  refine st_istore (L' := [some (.ref 64), some (vI p1), some (vI p2), some (vI p3), some (vI ((z4 + 29) / 30))]) c214_17 rfl rfl ?_
  refine st_aload c214_19 rfl ?_
  refine st_getX (u := 79) c214_20 hT (tf hT rfl rfl) fd_8_19 rfl ?_
  refine st_iload c214_23 rfl ?_
  refine st_iload c214_24 rfl ?_
  refine st_iast c214_25 hT (tf hT rfl rfl) ay_57 (by omega) (by omega) (by omega) (Ext_rf _) hS hF (by decide +kernel) (fun h6 hT7 hF8 hU9 => ?_)
  refine st_aload c214_26 rfl ?_
  refine st_getX (u := 81) c214_27 hT7 (tf hT7 rfl rfl) fd_8_21 rfl ?_
  refine st_iload c214_30 rfl ?_
  refine st_iload c214_31 rfl ?_
  refine st_zast c214_32 hT7 (tf hT7 rfl rfl) ay_59 (by omega) (by omega) (Ext_rf _) hS hF8 (by decide +kernel) (fun h10 hT11 hF12 hU13 => ?_)
  refine st_aload c214_33 rfl ?_
  refine st_getX (u := 78) c214_34 hT11 (tf hT11 rfl rfl) fd_8_18 rfl ?_
  refine st_iload c214_37 rfl ?_
  refine st_iconst c214_38 ?_
  refine st_iast c214_39 hT11 (tf hT11 rfl rfl) ay_56 (by omega) (by omega) (by omega) (Ext_rf _) hS hF12 (by decide +kernel) (fun h14 hT15 hF16 hU17 => ?_)
  refine st_aload c214_40 rfl ?_
  refine st_getX (u := 82) c214_41 hT15 (tf hT15 rfl rfl) fd_8_22 rfl ?_
  refine st_iload c214_44 rfl ?_
  refine st_aload c214_45 rfl ?_
  refine st_getI c214_46 hT15 (tf hT15 rfl rfl) fd_8_1 (fun e18 e19 => ?_)
  have q20 : fI h14 64 1 = fI h 64 1 := (AUp_fI hU17).trans ((AUp_fI hU13).trans (AUp_fI hU9))
  refine st_iast c214_49 hT15 (tf hT15 rfl rfl) ay_60 (by omega) (by omega) (by omega) (Ext_rf _) hS hF16 (by decide +kernel) (fun h21 hT22 hF23 hU24 => ?_)
  refine st_aload c214_50 rfl ?_
  refine st_getX (u := 80) c214_51 hT22 (tf hT22 rfl rfl) fd_8_20 rfl ?_
  refine st_iload c214_54 rfl ?_
  refine st_aload c214_55 rfl ?_
  refine st_getI c214_56 hT22 (tf hT22 rfl rfl) fd_8_1 (fun e25 e26 => ?_)
  have q27 : fI h21 64 1 = fI h14 64 1 := AUp_fI hU24
  refine st_iload c214_59 rfl ?_
  refine st_iadd c214_61 ?_
  refine st_iast c214_62 hT22 (tf hT22 rfl rfl) ay_58 (by omega) (by omega) (by omega) (Ext_rf _) hS hF23 (by decide +kernel) (fun h28 hT29 hF30 hU31 => ?_)
  refine st_iload c214_63 rfl ?_
  refine st_if_ne c214_65 (by omega) (fun k32 => ?_) (fun k33 => ?_)
  refine st_return c214_73 ?_
  exact hQ _ _ ⟨rfl, hT29, hF30⟩
  refine st_aload c214_68 rfl ?_
  refine st_iload c214_69 rfl ?_
  refine st_callt (as := [vI p1]) c214_70 cm_213 hT29 (tf hT29 rfl rfl) fd_8_0 rfl rfl rfl rfl (by omega) (K213 hT29 (Stb_mono hS (by decide +kernel)) p1 (by omega) (d - 1) (by omega) _ (fun v h0 H => H)) (fun v1 h34 H => ?_)
  obtain ⟨rfl, hT35, hF36⟩ := H
  have hF37 := Fr_cp hF30 hF36 (by decide +kernel : Wsub W213 W214 = true)
  refine st_return c214_73 ?_
  exact hQ _ _ ⟨rfl, hT35, hF37⟩
set_option maxHeartbeats 0 in
theorem K215 {Ln : Nat} {xs : Nat → Int32} {τ : List Nat} {h : List mE} {E : EP} (hT : TH E τ h) (p1 : Int) (hp1 : (-2147483648) ≤ p1 ∧ p1 ≤ 2147483647) (d : Nat) (hd : 1 ≤ d) (Q : Option Value → List mE → Prop) (hQ : ∀ v h', ((v = some (vI 0) ∧ (p1 < 0 ∨ fI h 64 45 ≤ p1) ∧ h = h') ∨ (v = some (vI 1) ∧ (0≤p1) ∧ (p1<fI h 64 45) ∧ h = h')) → Q v h') : MR (mex Ln xs) d 215 0 [some (.ref 64), some (vI p1)] [] h Q := by
  refine st_iload c215_0 rfl ?_
  refine st_iconst c215_1 ?_
  refine st_aload c215_2 rfl ?_
  refine st_getI c215_3 hT (tf hT rfl rfl) fd_8_45 (fun e1 e2 => ?_)
  refine st_iconst c215_6 ?_
  refine st_isub c215_7 ?_
  refine st_calls (as := [vI p1, vI 0, vI ((fI h 64 45) - 1)]) c215_8 cm_180 rfl rfl rfl rfl (by omega) (K180 hT p1 (by omega) 0 (by omega) ((fI h 64 45) - 1) (by omega) (d - 1) (by omega) _ (fun v h0 H => H)) (fun v1 h1 H => ?_)
  rcases H with ⟨rfl, pf3, rfl⟩ | ⟨rfl, pf4, pf5, rfl⟩
  refine st_zreturn c215_11 (by omega) ?_
  exact hQ _ _ (Or.inl ⟨rfl, by omega, rfl⟩)
  refine st_zreturn c215_11 (by omega) ?_
  exact hQ _ _ (Or.inr ⟨rfl, by omega, by omega, rfl⟩)
set_option maxHeartbeats 0 in
theorem K216 {Ln : Nat} {xs : Nat → Int32} {τ : List Nat} {h : List mE} {E : EP} (hT : TH E τ h) (p1 : Int) (hp1 : (-2147483648) ≤ p1 ∧ p1 ≤ 2147483647) (d : Nat) (hd : 1 ≤ d) (Q : Option Value → List mE → Prop) (hQ : ∀ v h', ((v = some (vI 0) ∧ (p1 < 0 ∨ fI h 64 48 ≤ p1) ∧ h = h') ∨ (v = some (vI 1) ∧ (0≤p1) ∧ (p1<fI h 64 48) ∧ h = h')) → Q v h') : MR (mex Ln xs) d 216 0 [some (.ref 64), some (vI p1)] [] h Q := by
  refine st_iload c216_0 rfl ?_
  refine st_iconst c216_1 ?_
  refine st_aload c216_2 rfl ?_
  refine st_getI c216_3 hT (tf hT rfl rfl) fd_8_48 (fun e1 e2 => ?_)
  refine st_iconst c216_6 ?_
  refine st_isub c216_7 ?_
  refine st_calls (as := [vI p1, vI 0, vI ((fI h 64 48) - 1)]) c216_8 cm_180 rfl rfl rfl rfl (by omega) (K180 hT p1 (by omega) 0 (by omega) ((fI h 64 48) - 1) (by omega) (d - 1) (by omega) _ (fun v h0 H => H)) (fun v1 h1 H => ?_)
  rcases H with ⟨rfl, pf3, rfl⟩ | ⟨rfl, pf4, pf5, rfl⟩
  refine st_zreturn c216_11 (by omega) ?_
  exact hQ _ _ (Or.inl ⟨rfl, by omega, rfl⟩)
  refine st_zreturn c216_11 (by omega) ?_
  exact hQ _ _ (Or.inr ⟨rfl, by omega, by omega, rfl⟩)
def W217 : List (Nat × Nat) := [(8, 45), (79, 0), (80, 0)]
set_option maxHeartbeats 0 in
theorem K217 {Ln : Nat} {xs : Nat → Int32} {τ : List Nat} {h : List mE} {E : EP} (hT : TH E τ h) (hS : Stb E W217) (p1 : Int) (hp1 : (-2147483648) ≤ p1 ∧ p1 ≤ 2147483647) (p2 : Int) (hp2 : (-2147483648) ≤ p2 ∧ p2 ≤ 2147483647) (d : Nat) (hd : 2 ≤ d) (Q : Option Value → List mE → Prop) (hQ : ∀ v h', (∃ z : Int, v = some (vI z) ∧ ((-3) ≤ z ∧ z ≤ 29) ∧ ((0 ≤ p1 ∧ p1 < fI h 64 2 ∧ 0 ≤ p2 ∧ p2 ≤ 255 ∧ fI h 64 45 ≤ 29 ∧ z = fI h 64 45 ∧ fI h' 64 45 = fI h 64 45 + 1) ∨ (0 ≤ p1 ∧ p1 < fI h 64 2 ∧ 0 ≤ p2 ∧ p2 ≤ 255 ∧ 30 ≤ fI h 64 45 ∧ z = -3 ∧ fI h' 64 45 = fI h 64 45) ∨ ((p1 < 0 ∨ fI h 64 2 ≤ p1 ∨ p2 < 0 ∨ 255 < p2) ∧ z = -1 ∧ fI h' 64 45 = fI h 64 45)) ∧ TH E τ h' ∧ Fr τ W217 h h') → Q v h') : MR (mex Ln xs) d 217 0 [some (.ref 64), some (vI p1), some (vI p2)] [] h Q := by
  have hF := Fr_rf τ W217 h
  refine st_aload c217_0 rfl ?_
  refine st_iload c217_1 rfl ?_
  have e1 := fI_bd (q := 64) hT (tf hT rfl rfl) fd_8_2
  refine st_callt (as := [vI p1]) c217_2 cm_183 hT (tf hT rfl rfl) fd_8_0 rfl rfl rfl rfl (by omega) (K183 hT p1 (by omega) (d - 1) (by omega) _ (fun v h0 H => H)) (fun v1 h1 H => ?_)
  rcases H with ⟨rfl, pf2, rfl⟩ | ⟨rfl, pf3, pf4, rfl⟩
  refine st_if_eq c217_5 (by omega) (fun k5 => ?_) (fun k6 => False.elim (by omega))
  refine st_iconst c217_19 ?_
  refine st_ireturn c217_20 ?_
  have e7 := fI_bd (q := 64) hT (tf hT rfl rfl) fd_8_45
  exact hQ _ _ ⟨(-1), rfl, by omega, by omega, hT, hF⟩
  refine st_if_eq c217_5 (by omega) (fun k8 => False.elim (by omega)) (fun k9 => ?_)
  refine st_iload c217_8 rfl ?_
  refine st_iconst c217_9 ?_
  refine st_iconst c217_10 ?_
  refine st_calls (as := [vI p2, vI 0, vI 255]) c217_13 cm_180 rfl rfl rfl rfl (by omega) (K180 hT p2 (by omega) 0 (by omega) 255 (by omega) (d - 1) (by omega) _ (fun v h0 H => H)) (fun v1 h1 H => ?_)
  rcases H with ⟨rfl, pf10, rfl⟩ | ⟨rfl, pf11, pf12, rfl⟩
  refine st_if_ne c217_16 (by omega) (fun k13 => False.elim (by omega)) (fun k14 => ?_)
  refine st_iconst c217_19 ?_
  refine st_ireturn c217_20 ?_
  have e15 := fI_bd (q := 64) hT (tf hT rfl rfl) fd_8_45
  exact hQ _ _ ⟨(-1), rfl, by omega, by omega, hT, hF⟩
  refine st_if_ne c217_16 (by omega) (fun k16 => ?_) (fun k17 => False.elim (by omega))
  refine st_aload c217_21 rfl ?_
  refine st_getI c217_22 hT (tf hT rfl rfl) fd_8_45 (fun e18 e19 => ?_)
  refine st_iconst c217_25 ?_
  refine st_icmp_ne c217_27 (by omega) (by omega) (fun k20 => ?_) (fun k21 => ?_)
  refine st_aload c217_33 rfl ?_
  refine st_getX (u := 101) c217_34 hT (tf hT rfl rfl) fd_8_46 rfl ?_
  refine st_aload c217_37 rfl ?_
  refine st_getI c217_38 hT (tf hT rfl rfl) fd_8_45 (fun e22 e23 => ?_)
  refine st_iload c217_41 rfl ?_
  refine st_iast c217_42 hT (tf hT rfl rfl) ay_79 (by omega) (by omega) (by omega) (Ext_rf _) hS hF (by decide +kernel) (fun h24 hT25 hF26 hU27 => ?_)
  refine st_aload c217_43 rfl ?_
  refine st_getX (u := 102) c217_44 hT25 (tf hT25 rfl rfl) fd_8_47 rfl ?_
  refine st_aload c217_47 rfl ?_
  refine st_getI c217_48 hT25 (tf hT25 rfl rfl) fd_8_45 (fun e28 e29 => ?_)
  have q30 : fI h24 64 45 = fI h 64 45 := AUp_fI hU27
  refine st_iload c217_51 rfl ?_
  refine st_iast c217_52 hT25 (tf hT25 rfl rfl) ay_80 (by omega) (by omega) (by omega) (Ext_rf _) hS hF26 (by decide +kernel) (fun h31 hT32 hF33 hU34 => ?_)
  refine st_aload c217_53 rfl ?_
  refine st_dup c217_54 rfl ?_
  refine st_getI c217_55 hT32 (tf hT32 rfl rfl) fd_8_45 (fun e35 e36 => ?_)
  have q37 : fI h31 64 45 = fI h24 64 45 := AUp_fI hU34
  refine st_iconst c217_58 ?_
  refine st_iadd c217_59 ?_
  refine st_putI c217_60 hT32 (tf hT32 rfl rfl) fd_8_45 (by omega) (by omega) (Ext_rf _) hS hF33 (by decide +kernel) (fun h38 hT39 hF40 hU41 => ?_)
  refine st_aload c217_63 rfl ?_
  refine st_getI c217_64 hT39 (tf hT39 rfl rfl) fd_8_45 (fun e42 e43 => ?_)
  have q44 : fI h38 64 45 = (fI h31 64 45) + 1 := FUp_fI hU41 (by omega) (by omega)
  refine st_iconst c217_67 ?_
  refine st_isub c217_68 ?_
  refine st_ireturn c217_69 ?_
  exact hQ _ _ ⟨(fI h38 64 45) - 1, rfl, by omega, by omega, hT39, hF40⟩
  refine st_iconst c217_30 ?_
  refine st_ireturn c217_32 ?_
  exact hQ _ _ ⟨(-3), rfl, by omega, by omega, hT, hF⟩
set_option maxHeartbeats 0 in
theorem K219 {Ln : Nat} {xs : Nat → Int32} {τ : List Nat} {h : List mE} {E : EP} (hT : TH E τ h) (p1 : Int) (hp1 : 0 ≤ p1 ∧ p1 ≤ 99) (d : Nat) (hd : 0 ≤ d) (Q : Option Value → List mE → Prop) (hQ : ∀ v h', (∃ z : Int, v = some (vI z) ∧ (0 ≤ z ∧ z ≤ 11) ∧ h = h') → Q v h') : MR (mex Ln xs) d 219 0 [some (.ref 64), some (vI p1)] [] h Q := by
  refine st_aload c219_0 rfl ?_
  refine st_getX (u := 101) c219_1 hT (tf hT rfl rfl) fd_8_46 rfl ?_
  refine st_aload c219_4 rfl ?_
  refine st_getX (u := 103) c219_5 hT (tf hT rfl rfl) fd_8_49 rfl ?_
  refine st_iload c219_8 rfl ?_
  refine st_iald c219_9 hT (tf hT rfl rfl) ay_81 (by omega) (fun e1 e2 => ?_)
  refine st_iald c219_10 hT (tf hT rfl rfl) ay_79 (by omega) (fun e3 e4 => ?_)
  refine st_ireturn c219_11 ?_
  exact hQ _ _ ⟨aI h 101 (aI h 103 p1), rfl, by omega, rfl⟩
set_option maxHeartbeats 0 in
theorem K220 {Ln : Nat} {xs : Nat → Int32} {τ : List Nat} {h : List mE} {E : EP} (hT : TH E τ h) (p1 : Int) (hp1 : 0 ≤ p1 ∧ p1 ≤ 89) (p2 : Int) (hp2 : 0 ≤ p2 ∧ p2 ≤ 99) (d : Nat) (hd : 2 ≤ d) (Q : Option Value → List mE → Prop) (hQ : ∀ v h', (∃ z : Int, v = some (vI z) ∧ (0 ≤ z ∧ z ≤ 6) ∧ h = h') → Q v h') : MR (mex Ln xs) d 220 0 [some (.ref 64), some (vI p1), some (vI p2), none, none] [] h Q := by
  refine st_aload c220_0 rfl ?_
  refine st_getX (u := 76) c220_1 hT (tf hT rfl rfl) fd_8_16 rfl ?_
  refine st_iload c220_4 rfl ?_
  refine st_iald c220_5 hT (tf hT rfl rfl) ay_54 (by omega) (fun e1 e2 => ?_)
  refine st_istore (L' := [some (.ref 64), some (vI p1), some (vI p2), some (vI (aI h 76 p1)), none]) c220_6 rfl rfl ?_
  refine st_aload c220_7 rfl ?_
  refine st_getX (u := 83) c220_8 hT (tf hT rfl rfl) fd_8_23 rfl ?_
  refine st_iload c220_11 rfl ?_
  refine st_iald c220_12 hT (tf hT rfl rfl) ay_61 (by omega) (fun e3 e4 => ?_)
  refine st_if_ne c220_13 (by omega) (fun k5 => ?_) (fun k6 => ?_)
  refine st_iconst c220_25 ?_
  refine st_ireturn c220_26 ?_
  exact hQ _ _ ⟨1, rfl, by omega, rfl⟩
  refine st_aload c220_16 rfl ?_
  refine st_getX (u := 78) c220_17 hT (tf hT rfl rfl) fd_8_18 rfl ?_
  refine st_iload c220_20 rfl ?_
  refine st_iald c220_21 hT (tf hT rfl rfl) ay_56 (by omega) (fun e7 e8 => ?_)
  refine st_if_eq c220_22 (by omega) (fun k9 => ?_) (fun k10 => ?_)
  refine st_iload c220_27 rfl ?_
  refine st_aload c220_28 rfl ?_
  refine st_getX (u := 104) c220_29 hT (tf hT rfl rfl) fd_8_50 rfl ?_
  refine st_iload c220_32 rfl ?_
  refine st_iald c220_33 hT (tf hT rfl rfl) ay_82 (by omega) (fun e11 e12 => ?_)
  refine st_icmp_eq c220_34 (by omega) (by omega) (fun k13 => ?_) (fun k14 => ?_)
  refine st_aload c220_58 rfl ?_
  refine st_getX (u := 102) c220_59 hT (tf hT rfl rfl) fd_8_47 rfl ?_
  refine st_aload c220_62 rfl ?_
  refine st_getX (u := 103) c220_63 hT (tf hT rfl rfl) fd_8_49 rfl ?_
  refine st_iload c220_66 rfl ?_
  refine st_iald c220_67 hT (tf hT rfl rfl) ay_81 (by omega) (fun e15 e16 => ?_)
  refine st_iald c220_68 hT (tf hT rfl rfl) ay_80 (by omega) (fun e17 e18 => ?_)
  refine st_aload c220_69 rfl ?_
  refine st_getX (u := 72) c220_70 hT (tf hT rfl rfl) fd_8_11 rfl ?_
  refine st_iload c220_73 rfl ?_
  refine st_iald c220_74 hT (tf hT rfl rfl) ay_50 (by omega) (fun e19 e20 => ?_)
  refine st_ishrw c220_75 (fun w21 e22 e23 => ?_)
  refine st_iconst c220_76 ?_
  refine st_iandr c220_77 (by omega) (fun w24 e25 e26 => ?_)
  refine st_if_ne c220_78 (by omega) (fun k27 => ?_) (fun k28 => ?_)
  refine st_aload c220_83 rfl ?_
  refine st_iload c220_84 rfl ?_
  refine st_callt (as := [vI p1]) c220_85 cm_201 hT (tf hT rfl rfl) fd_8_0 rfl rfl rfl rfl (by omega) (K201 hT p1 (by omega) (d - 1) (by omega) _ (fun v h0 H => H)) (fun v1 h1 H => ?_)
  rcases H with ⟨rfl, rfl⟩ | ⟨rfl, rfl⟩
  refine st_if_ne c220_88 (by omega) (fun k29 => False.elim (by omega)) (fun k30 => ?_)
  refine st_aload c220_91 rfl ?_
  refine st_iload c220_92 rfl ?_
  refine st_aload c220_93 rfl ?_
  refine st_getX (u := 106) c220_94 hT (tf hT rfl rfl) fd_8_52 rfl ?_
  refine st_iload c220_97 rfl ?_
  refine st_iald c220_98 hT (tf hT rfl rfl) ay_84 (by omega) (fun e31 e32 => ?_)
  refine st_aload c220_99 rfl ?_
  refine st_getX (u := 107) c220_100 hT (tf hT rfl rfl) fd_8_53 rfl ?_
  refine st_iload c220_103 rfl ?_
  refine st_iald c220_104 hT (tf hT rfl rfl) ay_85 (by omega) (fun e33 e34 => ?_)
  refine st_imul c220_105 ?_
  refine MR_wrap (fun w35 e36 e37 e38 => ?_)
  clear e38
  refine st_callt (as := [vI p1, vI w35]) c220_106 cm_202 hT (tf hT rfl rfl) fd_8_0 rfl rfl rfl rfl (by omega) (K202 hT p1 (by omega) w35 (by omega) (d - 1) (by omega) _ (fun v h0 H => H)) (fun v1 h1 H => ?_)
  rcases H with ⟨rfl, rfl⟩ | ⟨rfl, rfl⟩
  refine st_if_eq c220_109 (by omega) (fun k39 => ?_) (fun k40 => False.elim (by omega))
  refine st_aload c220_114 rfl ?_
  refine st_aload c220_115 rfl ?_
  refine st_getX (u := 79) c220_116 hT (tf hT rfl rfl) fd_8_19 rfl ?_
  refine st_iload c220_119 rfl ?_
  refine st_iald c220_120 hT (tf hT rfl rfl) ay_57 (by omega) (fun e41 e42 => ?_)
  refine st_aload c220_121 rfl ?_
  refine st_iload c220_122 rfl ?_
  refine st_callt (as := [vI p2]) c220_123 cm_219 hT (tf hT rfl rfl) fd_8_0 rfl rfl rfl rfl (by omega) (K219 hT p2 (by omega) (d - 1) (by omega) _ (fun v h0 H => H)) (fun v1 h1 H => ?_)
  obtain ⟨z43, rfl, b44, rfl⟩ := H
  refine st_callt (as := [vI (aI h 79 p1), vI z43]) c220_126 cm_184 hT (tf hT rfl rfl) fd_8_0 rfl rfl rfl rfl (by omega) (K184 hT (aI h 79 p1) (by omega) z43 (by omega) (d - 1) (by omega) _ (fun v h0 H => H)) (fun v1 h1 H => ?_)
  obtain ⟨z46, rfl, b47, pf45, rfl⟩ := H
  refine st_istore (L' := [some (.ref 64), some (vI p1), some (vI p2), some (vI (aI h 76 p1)), some (vI z46)]) c220_129 rfl rfl ?_
  refine st_iload c220_131 rfl ?_
  refine st_iconst c220_133 ?_
  refine st_icmp_ge c220_135 (by omega) (by omega) (fun k48 => ?_) (fun k49 => ?_)
  refine st_iconst c220_160 ?_
  refine st_ireturn c220_161 ?_
  exact hQ _ _ ⟨5, rfl, by omega, rfl⟩
  refine st_aload c220_138 rfl ?_
  refine st_getI c220_139 hT (tf hT rfl rfl) fd_8_1 (fun e50 e51 => ?_)
  refine st_iload c220_142 rfl ?_
  refine st_iconst c220_144 ?_
  refine st_iadd c220_146 ?_
  refine st_iconst c220_147 ?_
  refine st_idivp c220_149 (by omega) (by omega) ?_
  refine st_iadd c220_150 ?_
  refine st_aload c220_151 rfl ?_
  refine st_getX (u := 105) c220_152 hT (tf hT rfl rfl) fd_8_51 rfl ?_
  refine st_iload c220_155 rfl ?_
  refine st_iald c220_156 hT (tf hT rfl rfl) ay_83 (by omega) (fun e52 e53 => ?_)
  refine st_icmp_le c220_157 (by omega) (by omega) (fun k54 => ?_) (fun k55 => ?_)
  refine st_aload c220_162 rfl ?_
  refine st_getX (u := 86) c220_163 hT (tf hT rfl rfl) fd_8_26 rfl ?_
  refine st_iload c220_166 rfl ?_
  refine st_iald c220_167 hT (tf hT rfl rfl) ay_64 (by omega) (fun e56 e57 => ?_)
  refine st_if_lt c220_168 (by omega) (fun k58 => ?_) (fun k59 => ?_)
  refine st_iconst c220_186 ?_
  refine st_ireturn c220_187 ?_
  exact hQ _ _ ⟨0, rfl, by omega, rfl⟩
  refine st_aload c220_171 rfl ?_
  refine st_getX (u := 86) c220_172 hT (tf hT rfl rfl) fd_8_26 rfl ?_
  refine st_iload c220_175 rfl ?_
  refine st_iald c220_176 hT (tf hT rfl rfl) ay_64 (by omega) (fun e60 e61 => ?_)
  refine st_iload c220_177 rfl ?_
  refine st_icmp_eq c220_178 (by omega) (by omega) (fun k62 => ?_) (fun k63 => ?_)
  refine st_iconst c220_186 ?_
  refine st_ireturn c220_187 ?_
  exact hQ _ _ ⟨0, rfl, by omega, rfl⟩
  refine st_iconst c220_181 ?_
  refine st_goto c220_183 ?_
  refine st_ireturn c220_187 ?_
  exact hQ _ _ ⟨6, rfl, by omega, rfl⟩
  refine st_iconst c220_160 ?_
  refine st_ireturn c220_161 ?_
  exact hQ _ _ ⟨5, rfl, by omega, rfl⟩
  refine st_if_eq c220_109 (by omega) (fun k64 => False.elim (by omega)) (fun k65 => ?_)
  refine st_iconst c220_112 ?_
  refine st_ireturn c220_113 ?_
  exact hQ _ _ ⟨4, rfl, by omega, rfl⟩
  refine st_if_ne c220_88 (by omega) (fun k66 => ?_) (fun k67 => False.elim (by omega))
  refine st_iconst c220_112 ?_
  refine st_ireturn c220_113 ?_
  exact hQ _ _ ⟨4, rfl, by omega, rfl⟩
  refine st_iconst c220_81 ?_
  refine st_ireturn c220_82 ?_
  exact hQ _ _ ⟨3, rfl, by omega, rfl⟩
  refine st_aload c220_37 rfl ?_
  refine st_getX (u := 74) c220_38 hT (tf hT rfl rfl) fd_8_13 rfl ?_
  refine st_iconst c220_41 ?_
  refine st_iload c220_43 rfl ?_
  refine st_imul c220_44 ?_
  refine st_aload c220_45 rfl ?_
  refine st_getX (u := 104) c220_46 hT (tf hT rfl rfl) fd_8_50 rfl ?_
  refine st_iload c220_49 rfl ?_
  refine st_iald c220_50 hT (tf hT rfl rfl) ay_82 (by omega) (fun e68 e69 => ?_)
  refine st_iadd c220_51 ?_
  refine st_bald c220_52 hT (tf hT rfl rfl) ay_52 (Or.inl rfl) (by omega) (fun e70 e71 => ?_)
  refine st_if_ne c220_53 (by omega) (fun k72 => ?_) (fun k73 => ?_)
  refine st_aload c220_58 rfl ?_
  refine st_getX (u := 102) c220_59 hT (tf hT rfl rfl) fd_8_47 rfl ?_
  refine st_aload c220_62 rfl ?_
  refine st_getX (u := 103) c220_63 hT (tf hT rfl rfl) fd_8_49 rfl ?_
  refine st_iload c220_66 rfl ?_
  refine st_iald c220_67 hT (tf hT rfl rfl) ay_81 (by omega) (fun e74 e75 => ?_)
  refine st_iald c220_68 hT (tf hT rfl rfl) ay_80 (by omega) (fun e76 e77 => ?_)
  refine st_aload c220_69 rfl ?_
  refine st_getX (u := 72) c220_70 hT (tf hT rfl rfl) fd_8_11 rfl ?_
  refine st_iload c220_73 rfl ?_
  refine st_iald c220_74 hT (tf hT rfl rfl) ay_50 (by omega) (fun e78 e79 => ?_)
  refine st_ishrw c220_75 (fun w80 e81 e82 => ?_)
  refine st_iconst c220_76 ?_
  refine st_iandr c220_77 (by omega) (fun w83 e84 e85 => ?_)
  refine st_if_ne c220_78 (by omega) (fun k86 => ?_) (fun k87 => ?_)
  refine st_aload c220_83 rfl ?_
  refine st_iload c220_84 rfl ?_
  refine st_callt (as := [vI p1]) c220_85 cm_201 hT (tf hT rfl rfl) fd_8_0 rfl rfl rfl rfl (by omega) (K201 hT p1 (by omega) (d - 1) (by omega) _ (fun v h0 H => H)) (fun v1 h1 H => ?_)
  rcases H with ⟨rfl, rfl⟩ | ⟨rfl, rfl⟩
  refine st_if_ne c220_88 (by omega) (fun k88 => False.elim (by omega)) (fun k89 => ?_)
  refine st_aload c220_91 rfl ?_
  refine st_iload c220_92 rfl ?_
  refine st_aload c220_93 rfl ?_
  refine st_getX (u := 106) c220_94 hT (tf hT rfl rfl) fd_8_52 rfl ?_
  refine st_iload c220_97 rfl ?_
  refine st_iald c220_98 hT (tf hT rfl rfl) ay_84 (by omega) (fun e90 e91 => ?_)
  refine st_aload c220_99 rfl ?_
  refine st_getX (u := 107) c220_100 hT (tf hT rfl rfl) fd_8_53 rfl ?_
  refine st_iload c220_103 rfl ?_
  refine st_iald c220_104 hT (tf hT rfl rfl) ay_85 (by omega) (fun e92 e93 => ?_)
  refine st_imul c220_105 ?_
  refine MR_wrap (fun w94 e95 e96 e97 => ?_)
  clear e97
  refine st_callt (as := [vI p1, vI w94]) c220_106 cm_202 hT (tf hT rfl rfl) fd_8_0 rfl rfl rfl rfl (by omega) (K202 hT p1 (by omega) w94 (by omega) (d - 1) (by omega) _ (fun v h0 H => H)) (fun v1 h1 H => ?_)
  rcases H with ⟨rfl, rfl⟩ | ⟨rfl, rfl⟩
  refine st_if_eq c220_109 (by omega) (fun k98 => ?_) (fun k99 => False.elim (by omega))
  refine st_aload c220_114 rfl ?_
  refine st_aload c220_115 rfl ?_
  refine st_getX (u := 79) c220_116 hT (tf hT rfl rfl) fd_8_19 rfl ?_
  refine st_iload c220_119 rfl ?_
  refine st_iald c220_120 hT (tf hT rfl rfl) ay_57 (by omega) (fun e100 e101 => ?_)
  refine st_aload c220_121 rfl ?_
  refine st_iload c220_122 rfl ?_
  refine st_callt (as := [vI p2]) c220_123 cm_219 hT (tf hT rfl rfl) fd_8_0 rfl rfl rfl rfl (by omega) (K219 hT p2 (by omega) (d - 1) (by omega) _ (fun v h0 H => H)) (fun v1 h1 H => ?_)
  obtain ⟨z102, rfl, b103, rfl⟩ := H
  refine st_callt (as := [vI (aI h 79 p1), vI z102]) c220_126 cm_184 hT (tf hT rfl rfl) fd_8_0 rfl rfl rfl rfl (by omega) (K184 hT (aI h 79 p1) (by omega) z102 (by omega) (d - 1) (by omega) _ (fun v h0 H => H)) (fun v1 h1 H => ?_)
  obtain ⟨z105, rfl, b106, pf104, rfl⟩ := H
  refine st_istore (L' := [some (.ref 64), some (vI p1), some (vI p2), some (vI (aI h 76 p1)), some (vI z105)]) c220_129 rfl rfl ?_
  refine st_iload c220_131 rfl ?_
  refine st_iconst c220_133 ?_
  refine st_icmp_ge c220_135 (by omega) (by omega) (fun k107 => ?_) (fun k108 => ?_)
  refine st_iconst c220_160 ?_
  refine st_ireturn c220_161 ?_
  exact hQ _ _ ⟨5, rfl, by omega, rfl⟩
  refine st_aload c220_138 rfl ?_
  refine st_getI c220_139 hT (tf hT rfl rfl) fd_8_1 (fun e109 e110 => ?_)
  refine st_iload c220_142 rfl ?_
  refine st_iconst c220_144 ?_
  refine st_iadd c220_146 ?_
  refine st_iconst c220_147 ?_
  refine st_idivp c220_149 (by omega) (by omega) ?_
  refine st_iadd c220_150 ?_
  refine st_aload c220_151 rfl ?_
  refine st_getX (u := 105) c220_152 hT (tf hT rfl rfl) fd_8_51 rfl ?_
  refine st_iload c220_155 rfl ?_
  refine st_iald c220_156 hT (tf hT rfl rfl) ay_83 (by omega) (fun e111 e112 => ?_)
  refine st_icmp_le c220_157 (by omega) (by omega) (fun k113 => ?_) (fun k114 => ?_)
  refine st_aload c220_162 rfl ?_
  refine st_getX (u := 86) c220_163 hT (tf hT rfl rfl) fd_8_26 rfl ?_
  refine st_iload c220_166 rfl ?_
  refine st_iald c220_167 hT (tf hT rfl rfl) ay_64 (by omega) (fun e115 e116 => ?_)
  refine st_if_lt c220_168 (by omega) (fun k117 => ?_) (fun k118 => ?_)
  refine st_iconst c220_186 ?_
  refine st_ireturn c220_187 ?_
  exact hQ _ _ ⟨0, rfl, by omega, rfl⟩
  refine st_aload c220_171 rfl ?_
  refine st_getX (u := 86) c220_172 hT (tf hT rfl rfl) fd_8_26 rfl ?_
  refine st_iload c220_175 rfl ?_
  refine st_iald c220_176 hT (tf hT rfl rfl) ay_64 (by omega) (fun e119 e120 => ?_)
  refine st_iload c220_177 rfl ?_
  refine st_icmp_eq c220_178 (by omega) (by omega) (fun k121 => ?_) (fun k122 => ?_)
  refine st_iconst c220_186 ?_
  refine st_ireturn c220_187 ?_
  exact hQ _ _ ⟨0, rfl, by omega, rfl⟩
  refine st_iconst c220_181 ?_
  refine st_goto c220_183 ?_
  refine st_ireturn c220_187 ?_
  exact hQ _ _ ⟨6, rfl, by omega, rfl⟩
  refine st_iconst c220_160 ?_
  refine st_ireturn c220_161 ?_
  exact hQ _ _ ⟨5, rfl, by omega, rfl⟩
  refine st_if_eq c220_109 (by omega) (fun k123 => False.elim (by omega)) (fun k124 => ?_)
  refine st_iconst c220_112 ?_
  refine st_ireturn c220_113 ?_
  exact hQ _ _ ⟨4, rfl, by omega, rfl⟩
  refine st_if_ne c220_88 (by omega) (fun k125 => ?_) (fun k126 => False.elim (by omega))
  refine st_iconst c220_112 ?_
  refine st_ireturn c220_113 ?_
  exact hQ _ _ ⟨4, rfl, by omega, rfl⟩
  refine st_iconst c220_81 ?_
  refine st_ireturn c220_82 ?_
  exact hQ _ _ ⟨3, rfl, by omega, rfl⟩
  refine st_iconst c220_56 ?_
  refine st_ireturn c220_57 ?_
  exact hQ _ _ ⟨2, rfl, by omega, rfl⟩
  refine st_iconst c220_25 ?_
  refine st_ireturn c220_26 ?_
  exact hQ _ _ ⟨1, rfl, by omega, rfl⟩
set_option maxHeartbeats 0 in
theorem K221 {Ln : Nat} {xs : Nat → Int32} {τ : List Nat} {h : List mE} {E : EP} (hT : TH E τ h) (p1 : Int) (hp1 : (-2147483648) ≤ p1 ∧ p1 ≤ 2147483647) (p2 : Int) (hp2 : (-2147483648) ≤ p2 ∧ p2 ≤ 2147483647) (d : Nat) (hd : 3 ≤ d) (Q : Option Value → List mE → Prop) (hQ : ∀ v h', (∃ z : Int, v = some (vI z) ∧ ((-1) ≤ z ∧ z ≤ 6) ∧ h = h') → Q v h') : MR (mex Ln xs) d 221 0 [some (.ref 64), some (vI p1), some (vI p2)] [] h Q := by
  refine st_aload c221_0 rfl ?_
  refine st_iload c221_1 rfl ?_
  have e1 := fI_bd (q := 64) hT (tf hT rfl rfl) fd_8_15
  refine st_callt (as := [vI p1]) c221_2 cm_191 hT (tf hT rfl rfl) fd_8_0 rfl rfl rfl rfl (by omega) (K191 hT p1 (by omega) (d - 1) (by omega) _ (fun v h0 H => H)) (fun v1 h1 H => ?_)
  rcases H with ⟨rfl, pf2, rfl⟩ | ⟨rfl, pf3, pf4, rfl⟩
  refine st_if_eq c221_5 (by omega) (fun k5 => ?_) (fun k6 => False.elim (by omega))
  refine st_iconst c221_25 ?_
  refine st_ireturn c221_26 ?_
  exact hQ _ _ ⟨(-1), rfl, by omega, rfl⟩
  refine st_if_eq c221_5 (by omega) (fun k7 => False.elim (by omega)) (fun k8 => ?_)
  refine st_aload c221_8 rfl ?_
  refine st_iload c221_9 rfl ?_
  have e9 := fI_bd (q := 64) hT (tf hT rfl rfl) fd_8_48
  refine st_callt (as := [vI p2]) c221_10 cm_216 hT (tf hT rfl rfl) fd_8_0 rfl rfl rfl rfl (by omega) (K216 hT p2 (by omega) (d - 1) (by omega) _ (fun v h0 H => H)) (fun v1 h1 H => ?_)
  rcases H with ⟨rfl, pf10, rfl⟩ | ⟨rfl, pf11, pf12, rfl⟩
  refine st_if_eq c221_13 (by omega) (fun k13 => ?_) (fun k14 => False.elim (by omega))
  refine st_iconst c221_25 ?_
  refine st_ireturn c221_26 ?_
  exact hQ _ _ ⟨(-1), rfl, by omega, rfl⟩
  refine st_if_eq c221_13 (by omega) (fun k15 => False.elim (by omega)) (fun k16 => ?_)
  refine st_aload c221_16 rfl ?_
  refine st_iload c221_17 rfl ?_
  refine st_iload c221_18 rfl ?_
  refine st_callt (as := [vI p1, vI p2]) c221_19 cm_220 hT (tf hT rfl rfl) fd_8_0 rfl rfl rfl rfl (by omega) (K220 hT p1 (by omega) p2 (by omega) (d - 1) (by omega) _ (fun v h0 H => H)) (fun v1 h1 H => ?_)
  obtain ⟨z17, rfl, b18, rfl⟩ := H
  refine st_goto c221_22 ?_
  refine st_ireturn c221_26 ?_
  exact hQ _ _ ⟨z17, rfl, by omega, rfl⟩
