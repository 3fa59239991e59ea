set_option maxHeartbeats 0 in
theorem K265 {Ln : Nat} {xs : Nat → Int32} {τ : List Nat} {h : List mE} {E : EP} (hT : TH E τ h) (p0 : Int) (hp0 : (-2147483648) ≤ p0 ∧ p0 ≤ 2147483647) (p1 : Int) (hp1 : (-2147483648) ≤ p1 ∧ p1 ≤ 2147483647) (p2 : Int) (hp2 : (-2147483648) ≤ p2 ∧ p2 ≤ 2147483647) (d : Nat) (hd : 0 ≤ d) (Q : Option Value → List mE → Prop) (hQ : ∀ v h', (∃ z : Int, v = some (vI z) ∧ ((-2147483648) ≤ z ∧ z ≤ 2147483647) ∧ h = h') → Q v h') : MR (mex Ln xs) d 265 0 [some (vI p0), some (vI p1), some (vI p2)] [] h Q := by
  refine st_iload c265_0 rfl ?_
  rcases (by omega : (p0 ≠ 5 ∧ p0 ≠ 42 ∧ p0 ≠ 43 ∧ p0 ≠ 45 ∧ p0 ≠ 47) ∨ p0 = 5 ∨ p0 = 42 ∨ p0 = 43 ∨ p0 = 45 ∨ p0 = 47) with k1 | k1 | k1 | k1 | k1 | k1
  · refine st_lsd c265_1 (by omega) (by simp [Op.lookupswitch.offset]; omega) ?_
    rw [show mjmp 1 96 = 97 from by decide]
    refine st_iload c265_97 rfl ?_
    refine st_iload c265_98 rfl ?_
    refine st_icmp_le c265_99 (by omega) (by omega) (fun k2 => ?_) (fun k3 => ?_)
    refine st_iload c265_106 rfl ?_
    refine st_ireturn c265_107 ?_
    exact hQ _ _ ⟨p2, rfl, by omega, rfl⟩
    refine st_iload c265_102 rfl ?_
    refine st_goto c265_103 ?_
    refine st_ireturn c265_107 ?_
    exact hQ _ _ ⟨p1, rfl, by omega, rfl⟩
  · refine st_sw (k := 5) (tg := 86) (by decide +kernel) k1 (by decide) ?_
    refine st_iload c265_86 rfl ?_
    refine st_iload c265_87 rfl ?_
    refine st_icmp_ge c265_88 (by omega) (by omega) (fun k4 => ?_) (fun k5 => ?_)
    refine st_iload c265_95 rfl ?_
    refine st_ireturn c265_96 ?_
    exact hQ _ _ ⟨p2, rfl, by omega, rfl⟩
    refine st_iload c265_91 rfl ?_
    refine st_goto c265_92 ?_
    refine st_ireturn c265_96 ?_
    exact hQ _ _ ⟨p1, rfl, by omega, rfl⟩
  · refine st_sw (k := 42) (tg := 60) (by decide +kernel) k1 (by decide) ?_
    refine st_iload c265_60 rfl ?_
    refine st_iload c265_61 rfl ?_
    refine st_imul c265_62 ?_
    refine MR_wrap (fun w6 e7 e8 e9 => ?_)
    clear e9
    refine st_ireturn c265_63 ?_
    exact hQ _ _ ⟨w6, rfl, by omega, rfl⟩
  · refine st_sw (k := 43) (tg := 52) (by decide +kernel) k1 (by decide) ?_
    refine st_iload c265_52 rfl ?_
    refine st_iload c265_53 rfl ?_
    refine st_iadd c265_54 ?_
    refine MR_wrap (fun w10 e11 e12 e13 => ?_)
    refine st_ireturn c265_55 ?_
    exact hQ _ _ ⟨w10, rfl, by omega, rfl⟩
  · refine st_sw (k := 45) (tg := 56) (by decide +kernel) k1 (by decide) ?_
    refine st_iload c265_56 rfl ?_
    refine st_iload c265_57 rfl ?_
    refine st_isub c265_58 ?_
    refine MR_wrap (fun w14 e15 e16 e17 => ?_)
    refine st_ireturn c265_59 ?_
    exact hQ _ _ ⟨w14, rfl, by omega, rfl⟩
  · refine st_sw (k := 47) (tg := 64) (by decide +kernel) k1 (by decide) ?_
    refine st_iload c265_64 rfl ?_
    refine st_if_ne c265_65 (by omega) (fun k18 => ?_) (fun k19 => ?_)
    refine st_iload c265_72 rfl ?_
    refine st_iconst c265_73 ?_
    refine st_icmp_ne c265_74 (by omega) (by omega) (fun k20 => ?_) (fun k21 => ?_)
    refine st_iload c265_82 rfl ?_
    refine st_iload c265_83 rfl ?_
    refine st_idivw c265_84 (by omega) (by omega) (fun w22 e23 e24 => ?_)
    refine st_ireturn c265_85 ?_
    exact hQ _ _ ⟨w22, rfl, by omega, rfl⟩
    refine st_iload c265_77 rfl ?_
    refine st_ineg c265_78 ?_
    refine MR_wrap (fun w25 e26 e27 e28 => ?_)
    refine st_goto c265_79 ?_
    refine st_ireturn c265_85 ?_
    exact hQ _ _ ⟨w25, rfl, by omega, rfl⟩
    refine st_iconst c265_68 ?_
    refine st_goto c265_69 ?_
    refine st_ireturn c265_85 ?_
    exact hQ _ _ ⟨0, rfl, by omega, rfl⟩
set_option maxHeartbeats 0 in
theorem K267 {Ln : Nat} {xs : Nat → Int32} {τ : List Nat} {h : List mE} {E : EP} (hT : TH E τ h) (p1 : Int) (hp1 : 0 ≤ p1 ∧ p1 ≤ 99) (d : Nat) (hd : 1 ≤ d) (Q : Option Value → List mE → Prop) (hQ : ∀ v h', (∃ z : Int, v = some (vI z) ∧ ((-2147483648) ≤ z ∧ z ≤ 2147483647) ∧ h = h') → Q v h') : MR (mex Ln xs) d 267 0 [some (.ref 64), some (vI p1), none, none] [] h Q := by
  refine st_aload c267_0 rfl ?_
  refine st_aload c267_1 rfl ?_
  refine st_getX (u := 110) c267_2 hT (tf hT rfl rfl) fd_8_56 rfl ?_
  refine st_iload c267_5 rfl ?_
  refine st_iald c267_6 hT (tf hT rfl rfl) ay_88 (by omega) (fun e1 e2 => ?_)
  refine st_aload c267_7 rfl ?_
  refine st_iload c267_8 rfl ?_
  refine st_callt (as := [vI p1]) c267_9 cm_240 hT (tf hT rfl rfl) fd_8_0 rfl rfl rfl rfl (by omega) (K240 hT p1 (by omega) (d - 1) (by omega) _ (fun v h0 H => H)) (fun v1 h1 H => ?_)
  obtain ⟨z3, rfl, b4, rfl⟩ := H
  refine st_callt (as := [vI (aI h 110 p1), vI z3]) c267_12 cm_196 hT (tf hT rfl rfl) fd_8_0 rfl rfl rfl rfl (by omega) (K196 hT (aI h 110 p1) (by omega) z3 (by omega) (d - 1) (by omega) _ (fun v h0 H => H)) (fun v1 h1 H => ?_)
  obtain ⟨z5, rfl, b6, rfl⟩ := H
  refine st_istore (L' := [some (.ref 64), some (vI p1), some (vI z5), none]) c267_15 rfl rfl ?_
  refine st_aload c267_16 rfl ?_
  refine st_aload c267_17 rfl ?_
  refine st_getX (u := 110) c267_18 hT (tf hT rfl rfl) fd_8_56 rfl ?_
  refine st_iload c267_21 rfl ?_
  refine st_iald c267_22 hT (tf hT rfl rfl) ay_88 (by omega) (fun e7 e8 => ?_)
  refine st_aload c267_23 rfl ?_
  refine st_getX (u := 111) c267_24 hT (tf hT rfl rfl) fd_8_57 rfl ?_
  refine st_iload c267_27 rfl ?_
  refine st_iald c267_28 hT (tf hT rfl rfl) ay_89 (by omega) (fun e9 e10 => ?_)
  refine st_callt (as := [vI (aI h 110 p1), vI (aI h 111 p1)]) c267_29 cm_196 hT (tf hT rfl rfl) fd_8_0 rfl rfl rfl rfl (by omega) (K196 hT (aI h 110 p1) (by omega) (aI h 111 p1) (by omega) (d - 1) (by omega) _ (fun v h0 H => H)) (fun v1 h1 H => ?_)
  obtain ⟨z11, rfl, b12, rfl⟩ := H
  refine st_istore (L' := [some (.ref 64), some (vI p1), some (vI z5), some (vI z11)]) c267_32 rfl rfl ?_
  refine st_iload c267_33 rfl ?_
  refine st_if_ge c267_34 (by omega) (fun k13 => ?_) (fun k14 => ?_)
  refine st_aload c267_41 rfl ?_
  refine st_getX (u := 94) c267_42 hT (tf hT rfl rfl) fd_8_36 rfl ?_
  refine st_iload c267_45 rfl ?_
  refine st_iald c267_46 hT (tf hT rfl rfl) ay_72 (by omega) (fun e15 e16 => ?_)
  refine st_iload c267_47 rfl ?_
  refine st_if_ge c267_48 (by omega) (fun k17 => ?_) (fun k18 => ?_)
  refine st_aload c267_55 rfl ?_
  refine st_getX (u := 94) c267_56 hT (tf hT rfl rfl) fd_8_36 rfl ?_
  refine st_iload c267_59 rfl ?_
  refine st_iald c267_60 hT (tf hT rfl rfl) ay_72 (by omega) (fun e19 e20 => ?_)
  refine st_isub c267_61 ?_
  refine MR_wrap (fun w21 e22 e23 e24 => ?_)
  refine st_ireturn c267_62 ?_
  exact hQ _ _ ⟨w21, rfl, by omega, rfl⟩
  refine st_iconst c267_51 ?_
  refine st_goto c267_52 ?_
  refine st_isub c267_61 ?_
  refine st_ireturn c267_62 ?_
  exact hQ _ _ ⟨(aI h 94 z5) - 0, rfl, by omega, rfl⟩
  refine st_iconst c267_37 ?_
  refine st_goto c267_38 ?_
  refine st_iload c267_47 rfl ?_
  refine st_if_ge c267_48 (by omega) (fun k25 => ?_) (fun k26 => ?_)
  refine st_aload c267_55 rfl ?_
  refine st_getX (u := 94) c267_56 hT (tf hT rfl rfl) fd_8_36 rfl ?_
  refine st_iload c267_59 rfl ?_
  refine st_iald c267_60 hT (tf hT rfl rfl) ay_72 (by omega) (fun e27 e28 => ?_)
  refine st_isub c267_61 ?_
  refine MR_wrap (fun w29 e30 e31 e32 => ?_)
  refine st_ireturn c267_62 ?_
  exact hQ _ _ ⟨w29, rfl, by omega, rfl⟩
  refine st_iconst c267_51 ?_
  refine st_goto c267_52 ?_
  refine st_isub c267_61 ?_
  refine st_ireturn c267_62 ?_
  exact hQ _ _ ⟨0 - 0, rfl, by omega, rfl⟩
set_option maxHeartbeats 0 in
theorem K268 {Ln : Nat} {xs : Nat → Int32} {τ : List Nat} {h : List mE} {E : EP} (hT : TH E τ h) (p1 : Int) (hp1 : 0 ≤ p1 ∧ p1 ≤ 99) (d : Nat) (hd : 1 ≤ d) (Q : Option Value → List mE → Prop) (hQ : ∀ v h', (∃ z : Int, v = some (vI z) ∧ ((-2147483648) ≤ z ∧ z ≤ 2147483647) ∧ h = h') → Q v h') : MR (mex Ln xs) d 268 0 [some (.ref 64), some (vI p1), none, none] [] h Q := by
  refine st_iconst c268_0 ?_
  refine st_istore (L' := [some (.ref 64), some (vI p1), some (vI 0), none]) c268_1 rfl rfl ?_
  refine st_aload c268_2 rfl ?_
  refine st_iload c268_3 rfl ?_
  refine st_callt (as := [vI p1]) c268_4 cm_240 hT (tf hT rfl rfl) fd_8_0 rfl rfl rfl rfl (by omega) (K240 hT p1 (by omega) (d - 1) (by omega) _ (fun v h0 H => H)) (fun v1 h1 H => ?_)
  obtain ⟨z1, rfl, b2, rfl⟩ := H
  refine st_aload c268_7 rfl ?_
  refine st_getX (u := 111) c268_8 hT (tf hT rfl rfl) fd_8_57 rfl ?_
  refine st_iload c268_11 rfl ?_
  refine st_iald c268_12 hT (tf hT rfl rfl) ay_89 (by omega) (fun e3 e4 => ?_)
  refine st_icmp_le c268_13 (by omega) (by omega) (fun k5 => ?_) (fun k6 => ?_)
  refine st_iload c268_63 rfl ?_
  refine st_ireturn c268_64 ?_
  exact hQ _ _ ⟨0, rfl, by omega, rfl⟩
  refine st_aload c268_16 rfl ?_
  refine st_getX (u := 111) c268_17 hT (tf hT rfl rfl) fd_8_57 rfl ?_
  refine st_iload c268_20 rfl ?_
  refine st_iald c268_21 hT (tf hT rfl rfl) ay_89 (by omega) (fun e7 e8 => ?_)
  refine st_iconst c268_22 ?_
  refine st_idivc c268_24 (by omega) (by omega) (fun w9 e10 e11 => ?_)
  refine st_istore (L' := [some (.ref 64), some (vI p1), some (vI 0), some (vI w9)]) c268_25 rfl rfl ?_
  have lp113 : ∀ (n114 : Nat) (z111 : Int) (z112 : Int), (1000 : Int) - z112 < (n114 : Int) → (-2147483648) ≤ z111 ∧ z111 ≤ 2147483647 → 0 ≤ z112 ∧ z112 ≤ 1000 → MR (mex Ln xs) d 268 26 [some (.ref 64), some (vI p1), some (vI z111), some (vI z112)] [] h Q := by
    intro n114
    induction n114 with
    | zero =>
      intro z111 z112 hm116 b117 b118
      exfalso; omega
    | succ n114 ih115 =>
      intro z111 z112 hm116 b117 b118
      refine st_iload c268_26 rfl ?_
      refine st_aload c268_27 rfl ?_
      refine st_iload c268_28 rfl ?_
      refine st_callt (as := [vI p1]) c268_29 cm_240 hT (tf hT rfl rfl) fd_8_0 rfl rfl rfl rfl (by omega) (K240 hT p1 (by omega) (d - 1) (by omega) _ (fun v h0 H => H)) (fun v1 h1 H => ?_)
      obtain ⟨z119, rfl, b120, rfl⟩ := H
      refine st_iconst c268_32 ?_
      refine st_isub c268_33 ?_
      refine st_iconst c268_34 ?_
      refine st_idivc c268_36 (by omega) (by omega) (fun w121 e122 e123 => ?_)
      refine st_icmp_gt c268_37 (by omega) (by omega) (fun k124 => ?_) (fun k125 => ?_)
      refine st_iload c268_63 rfl ?_
      refine st_ireturn c268_64 ?_
      exact hQ _ _ ⟨z111, rfl, by omega, rfl⟩
      refine st_iload c268_40 rfl ?_
      refine st_aload c268_41 rfl ?_
      refine st_getX (u := 68) c268_42 hT (tf hT rfl rfl) fd_8_6 rfl ?_
      refine st_iload c268_45 rfl ?_
      refine st_bald c268_46 hT (tf hT rfl rfl) ay_46 (Or.inl rfl) (by omega) (fun e126 e127 => ?_)
      refine st_if_eq c268_47 (by omega) (fun k128 => ?_) (fun k129 => ?_)
      refine st_iconst c268_54 ?_
      refine st_iadd c268_55 ?_
      refine st_istore (L' := [some (.ref 64), some (vI p1), some (vI (z111 + 0)), some (vI z112)]) c268_56 rfl rfl ?_
      refine st_iinc (L' := [some (.ref 64), some (vI p1), some (vI (z111 + 0)), some (vI (z112 + 1))]) c268_57 rfl rfl rfl ?_
      refine st_goto c268_60 ?_
      exact ih115 (z111 + 0) (z112 + 1) (by omega) (by omega) (by omega)
      refine st_iconst c268_50 ?_
      refine st_goto c268_51 ?_
      refine st_iadd c268_55 ?_
      refine MR_wrap (fun w130 e131 e132 e133 => ?_)
      refine st_istore (L' := [some (.ref 64), some (vI p1), some (vI w130), some (vI z112)]) c268_56 rfl rfl ?_
      refine st_iinc (L' := [some (.ref 64), some (vI p1), some (vI w130), some (vI (z112 + 1))]) c268_57 rfl rfl rfl ?_
      refine st_goto c268_60 ?_
      exact ih115 w130 (z112 + 1) (by omega) (by omega) (by omega)
  exact lp113 ((((1000 : Int) - w9 : Int) + 1).toNat) 0 w9 (by omega) (by omega) (by omega)
set_option maxHeartbeats 0 in
theorem K269 {Ln : Nat} {xs : Nat → Int32} {τ : List Nat} {h : List mE} {E : EP} (hT : TH E τ h) (p1 : Int) (hp1 : 0 ≤ p1 ∧ p1 ≤ 99) (d : Nat) (hd : 1 ≤ d) (Q : Option Value → List mE → Prop) (hQ : ∀ v h', (∃ z : Int, v = some (vI z) ∧ ((-2147483648) ≤ z ∧ z ≤ 2147483647) ∧ h = h') → Q v h') : MR (mex Ln xs) d 269 0 [some (.ref 64), some (vI p1), none, none, none, none, none] [] h Q := by
  refine st_iconst c269_0 ?_
  refine st_istore (L' := [some (.ref 64), some (vI p1), some (vI 0), none, none, none, none]) c269_1 rfl rfl ?_
  refine st_iconst c269_2 ?_
  refine st_istore (L' := [some (.ref 64), some (vI p1), some (vI 0), some (vI 0), none, none, none]) c269_3 rfl rfl ?_
  have lp709 : ∀ (n710 : Nat) (z707 : Int) (z708 : Int), (200 : Int) - z708 < (n710 : Int) → (-2147483648) ≤ z707 ∧ z707 ≤ 2147483647 → 0 ≤ z708 ∧ z708 ≤ 200 → MR (mex Ln xs) d 269 4 [some (.ref 64), some (vI p1), some (vI z707), some (vI z708), none, none, none] [] h Q := by
    intro n710
    induction n710 with
    | zero =>
      intro z707 z708 hm712 b713 b714
      exfalso; omega
    | succ n710 ih711 =>
      intro z707 z708 hm712 b713 b714
      refine st_iload c269_4 rfl ?_
      refine st_aload c269_5 rfl ?_
      refine st_getI c269_6 hT (tf hT rfl rfl) fd_8_37 (fun e715 e716 => ?_)
      refine st_icmp_ge c269_9 (by omega) (by omega) (fun k717 => ?_) (fun k718 => ?_)
      refine st_iload c269_133 rfl ?_
      refine st_ireturn c269_134 ?_
      exact hQ _ _ ⟨z707, rfl, by omega, rfl⟩
      refine st_aload c269_12 rfl ?_
      refine st_getX (u := 95) c269_13 hT (tf hT rfl rfl) fd_8_38 rfl ?_
      refine st_iload c269_16 rfl ?_
      refine st_iald c269_17 hT (tf hT rfl rfl) ay_73 (by omega) (fun e719 e720 => ?_)
      refine st_aload c269_18 rfl ?_
      refine st_getX (u := 110) c269_19 hT (tf hT rfl rfl) fd_8_56 rfl ?_
      refine st_iload c269_22 rfl ?_
      refine st_iald c269_23 hT (tf hT rfl rfl) ay_88 (by omega) (fun e721 e722 => ?_)
      refine st_icmp_eq c269_24 (by omega) (by omega) (fun k723 => ?_) (fun k724 => ?_)
      refine st_aload c269_30 rfl ?_
      refine st_getX (u := 96) c269_31 hT (tf hT rfl rfl) fd_8_39 rfl ?_
      refine st_iload c269_34 rfl ?_
      refine st_iald c269_35 hT (tf hT rfl rfl) ay_74 (by omega) (fun e725 e726 => ?_)
      refine st_aload c269_36 rfl ?_
      refine st_getX (u := 111) c269_37 hT (tf hT rfl rfl) fd_8_57 rfl ?_
      refine st_iload c269_40 rfl ?_
      refine st_iald c269_41 hT (tf hT rfl rfl) ay_89 (by omega) (fun e727 e728 => ?_)
      refine st_icmp_le c269_42 (by omega) (by omega) (fun k729 => ?_) (fun k730 => ?_)
      refine st_aload c269_54 rfl ?_
      refine st_getX (u := 111) c269_55 hT (tf hT rfl rfl) fd_8_57 rfl ?_
      refine st_iload c269_58 rfl ?_
      refine st_iald c269_59 hT (tf hT rfl rfl) ay_89 (by omega) (fun e731 e732 => ?_)
      refine st_istore (L' := [some (.ref 64), some (vI p1), some (vI z707), some (vI z708), some (vI (aI h 111 p1)), none, none]) c269_60 rfl rfl ?_
      refine st_aload c269_62 rfl ?_
      refine st_getX (u := 97) c269_63 hT (tf hT rfl rfl) fd_8_40 rfl ?_
      refine st_iload c269_66 rfl ?_
      refine st_iald c269_67 hT (tf hT rfl rfl) ay_75 (by omega) (fun e733 e734 => ?_)
      refine st_if_ge c269_68 (by omega) (fun k735 => ?_) (fun k736 => ?_)
      refine st_aload c269_78 rfl ?_
      refine st_getX (u := 97) c269_79 hT (tf hT rfl rfl) fd_8_40 rfl ?_
      refine st_iload c269_82 rfl ?_
      refine st_iald c269_83 hT (tf hT rfl rfl) ay_75 (by omega) (fun e737 e738 => ?_)
      refine st_istore (L' := [some (.ref 64), some (vI p1), some (vI z707), some (vI z708), some (vI (aI h 111 p1)), some (vI (aI h 97 z708)), none]) c269_84 rfl rfl ?_
      refine st_iload c269_86 rfl ?_
      refine st_aload c269_88 rfl ?_
      refine st_iload c269_89 rfl ?_
      refine st_callt (as := [vI p1]) c269_90 cm_240 hT (tf hT rfl rfl) fd_8_0 rfl rfl rfl rfl (by omega) (K240 hT p1 (by omega) (d - 1) (by omega) _ (fun v h0 H => H)) (fun v1 h1 H => ?_)
      obtain ⟨z739, rfl, b740, rfl⟩ := H
      refine st_icmp_ge c269_93 (by omega) (by omega) (fun k741 => ?_) (fun k742 => ?_)
      refine st_aload c269_101 rfl ?_
      refine st_iload c269_102 rfl ?_
      refine st_callt (as := [vI p1]) c269_103 cm_240 hT (tf hT rfl rfl) fd_8_0 rfl rfl rfl rfl (by omega) (K240 hT p1 (by omega) (d - 1) (by omega) _ (fun v h0 H => H)) (fun v1 h1 H => ?_)
      obtain ⟨z743, rfl, b744, rfl⟩ := H
      refine st_istore (L' := [some (.ref 64), some (vI p1), some (vI z707), some (vI z708), some (vI (aI h 111 p1)), some (vI (aI h 97 z708)), some (vI z743)]) c269_106 rfl rfl ?_
      refine st_iload c269_108 rfl ?_
      refine st_iload c269_109 rfl ?_
      refine st_iload c269_111 rfl ?_
      refine st_icmp_le c269_113 (by omega) (by omega) (fun k745 => ?_) (fun k746 => ?_)
      refine st_iconst c269_124 ?_
      refine st_iadd c269_125 ?_
      refine st_istore (L' := [some (.ref 64), some (vI p1), some (vI (z707 + 0)), some (vI z708), some (vI (aI h 111 p1)), some (vI (aI h 97 z708)), some (vI z743)]) c269_126 rfl rfl ?_
      refine st_iinc (L' := [some (.ref 64), some (vI p1), some (vI (z707 + 0)), some (vI (z708 + 1)), some (vI (aI h 111 p1)), some (vI (aI h 97 z708)), some (vI z743)]) c269_127 rfl rfl rfl ?_
      refine st_goto c269_130 ?_
      refine MR_weak (A := [some (.ref 64), some (vI p1), some (vI (z707 + 0)), some (vI (z708 + 1)), none, none, none]) (Lle_s (Lle_s (Lle_s (Lle_s (Lle_n (Lle_n (Lle_n (Lle_0)))))))) ?_
      exact ih711 (z707 + 0) (z708 + 1) (by omega) (by omega) (by omega)
      refine st_iload c269_116 rfl ?_
      refine st_iload c269_118 rfl ?_
      refine st_isub c269_120 ?_
      refine st_goto c269_121 ?_
      refine st_iadd c269_125 ?_
      refine MR_wrap (fun w747 e748 e749 e750 => ?_)
      refine st_istore (L' := [some (.ref 64), some (vI p1), some (vI w747), some (vI z708), some (vI (aI h 111 p1)), some (vI (aI h 97 z708)), some (vI z743)]) c269_126 rfl rfl ?_
      refine st_iinc (L' := [some (.ref 64), some (vI p1), some (vI w747), some (vI (z708 + 1)), some (vI (aI h 111 p1)), some (vI (aI h 97 z708)), some (vI z743)]) c269_127 rfl rfl rfl ?_
      refine st_goto c269_130 ?_
      refine MR_weak (A := [some (.ref 64), some (vI p1), some (vI w747), some (vI (z708 + 1)), none, none, none]) (Lle_s (Lle_s (Lle_s (Lle_s (Lle_n (Lle_n (Lle_n (Lle_0)))))))) ?_
      exact ih711 w747 (z708 + 1) (by omega) (by omega) (by omega)
      refine st_iload c269_96 rfl ?_
      refine st_goto c269_98 ?_
      refine st_istore (L' := [some (.ref 64), some (vI p1), some (vI z707), some (vI z708), some (vI (aI h 111 p1)), some (vI (aI h 97 z708)), some (vI (aI h 97 z708))]) c269_106 rfl rfl ?_
      refine st_iload c269_108 rfl ?_
      refine st_iload c269_109 rfl ?_
      refine st_iload c269_111 rfl ?_
      refine st_icmp_le c269_113 (by omega) (by omega) (fun k751 => ?_) (fun k752 => ?_)
      refine st_iconst c269_124 ?_
      refine st_iadd c269_125 ?_
      refine st_istore (L' := [some (.ref 64), some (vI p1), some (vI (z707 + 0)), some (vI z708), some (vI (aI h 111 p1)), some (vI (aI h 97 z708)), some (vI (aI h 97 z708))]) c269_126 rfl rfl ?_
      refine st_iinc (L' := [some (.ref 64), some (vI p1), some (vI (z707 + 0)), some (vI (z708 + 1)), some (vI (aI h 111 p1)), some (vI (aI h 97 z708)), some (vI (aI h 97 z708))]) c269_127 rfl rfl rfl ?_
      refine st_goto c269_130 ?_
      refine MR_weak (A := [some (.ref 64), some (vI p1), some (vI (z707 + 0)), some (vI (z708 + 1)), none, none, none]) (Lle_s (Lle_s (Lle_s (Lle_s (Lle_n (Lle_n (Lle_n (Lle_0)))))))) ?_
      exact ih711 (z707 + 0) (z708 + 1) (by omega) (by omega) (by omega)
      refine st_iload c269_116 rfl ?_
      refine st_iload c269_118 rfl ?_
      refine st_isub c269_120 ?_
      refine st_goto c269_121 ?_
      refine st_iadd c269_125 ?_
      refine MR_wrap (fun w753 e754 e755 e756 => ?_)
      refine st_istore (L' := [some (.ref 64), some (vI p1), some (vI w753), some (vI z708), some (vI (aI h 111 p1)), some (vI (aI h 97 z708)), some (vI (aI h 97 z708))]) c269_126 rfl rfl ?_
      refine st_iinc (L' := [some (.ref 64), some (vI p1), some (vI w753), some (vI (z708 + 1)), some (vI (aI h 111 p1)), some (vI (aI h 97 z708)), some (vI (aI h 97 z708))]) c269_127 rfl rfl rfl ?_
      refine st_goto c269_130 ?_
      refine MR_weak (A := [some (.ref 64), some (vI p1), some (vI w753), some (vI (z708 + 1)), none, none, none]) (Lle_s (Lle_s (Lle_s (Lle_s (Lle_n (Lle_n (Lle_n (Lle_0)))))))) ?_
      exact ih711 w753 (z708 + 1) (by omega) (by omega) (by omega)
      refine st_aload c269_71 rfl ?_
      refine st_getI c269_72 hT (tf hT rfl rfl) fd_8_1 (fun e757 e758 => ?_)
      refine st_goto c269_75 ?_
      refine st_istore (L' := [some (.ref 64), some (vI p1), some (vI z707), some (vI z708), some (vI (aI h 111 p1)), some (vI (fI h 64 1)), none]) c269_84 rfl rfl ?_
      refine st_iload c269_86 rfl ?_
      refine st_aload c269_88 rfl ?_
      refine st_iload c269_89 rfl ?_
      refine st_callt (as := [vI p1]) c269_90 cm_240 hT (tf hT rfl rfl) fd_8_0 rfl rfl rfl rfl (by omega) (K240 hT p1 (by omega) (d - 1) (by omega) _ (fun v h0 H => H)) (fun v1 h1 H => ?_)
      obtain ⟨z759, rfl, b760, rfl⟩ := H
      refine st_icmp_ge c269_93 (by omega) (by omega) (fun k761 => ?_) (fun k762 => ?_)
      refine st_aload c269_101 rfl ?_
      refine st_iload c269_102 rfl ?_
      refine st_callt (as := [vI p1]) c269_103 cm_240 hT (tf hT rfl rfl) fd_8_0 rfl rfl rfl rfl (by omega) (K240 hT p1 (by omega) (d - 1) (by omega) _ (fun v h0 H => H)) (fun v1 h1 H => ?_)
      obtain ⟨z763, rfl, b764, rfl⟩ := H
      refine st_istore (L' := [some (.ref 64), some (vI p1), some (vI z707), some (vI z708), some (vI (aI h 111 p1)), some (vI (fI h 64 1)), some (vI z763)]) c269_106 rfl rfl ?_
      refine st_iload c269_108 rfl ?_
      refine st_iload c269_109 rfl ?_
      refine st_iload c269_111 rfl ?_
      refine st_icmp_le c269_113 (by omega) (by omega) (fun k765 => ?_) (fun k766 => ?_)
      refine st_iconst c269_124 ?_
      refine st_iadd c269_125 ?_
      refine st_istore (L' := [some (.ref 64), some (vI p1), some (vI (z707 + 0)), some (vI z708), some (vI (aI h 111 p1)), some (vI (fI h 64 1)), some (vI z763)]) c269_126 rfl rfl ?_
      refine st_iinc (L' := [some (.ref 64), some (vI p1), some (vI (z707 + 0)), some (vI (z708 + 1)), some (vI (aI h 111 p1)), some (vI (fI h 64 1)), some (vI z763)]) c269_127 rfl rfl rfl ?_
      refine st_goto c269_130 ?_
      refine MR_weak (A := [some (.ref 64), some (vI p1), some (vI (z707 + 0)), some (vI (z708 + 1)), none, none, none]) (Lle_s (Lle_s (Lle_s (Lle_s (Lle_n (Lle_n (Lle_n (Lle_0)))))))) ?_
      exact ih711 (z707 + 0) (z708 + 1) (by omega) (by omega) (by omega)
      refine st_iload c269_116 rfl ?_
      refine st_iload c269_118 rfl ?_
      refine st_isub c269_120 ?_
      refine st_goto c269_121 ?_
      refine st_iadd c269_125 ?_
      refine MR_wrap (fun w767 e768 e769 e770 => ?_)
      refine st_istore (L' := [some (.ref 64), some (vI p1), some (vI w767), some (vI z708), some (vI (aI h 111 p1)), some (vI (fI h 64 1)), some (vI z763)]) c269_126 rfl rfl ?_
      refine st_iinc (L' := [some (.ref 64), some (vI p1), some (vI w767), some (vI (z708 + 1)), some (vI (aI h 111 p1)), some (vI (fI h 64 1)), some (vI z763)]) c269_127 rfl rfl rfl ?_
      refine st_goto c269_130 ?_
      refine MR_weak (A := [some (.ref 64), some (vI p1), some (vI w767), some (vI (z708 + 1)), none, none, none]) (Lle_s (Lle_s (Lle_s (Lle_s (Lle_n (Lle_n (Lle_n (Lle_0)))))))) ?_
      exact ih711 w767 (z708 + 1) (by omega) (by omega) (by omega)
      refine st_iload c269_96 rfl ?_
      refine st_goto c269_98 ?_
      refine st_istore (L' := [some (.ref 64), some (vI p1), some (vI z707), some (vI z708), some (vI (aI h 111 p1)), some (vI (fI h 64 1)), some (vI (fI h 64 1))]) c269_106 rfl rfl ?_
      refine st_iload c269_108 rfl ?_
      refine st_iload c269_109 rfl ?_
      refine st_iload c269_111 rfl ?_
      refine st_icmp_le c269_113 (by omega) (by omega) (fun k771 => ?_) (fun k772 => ?_)
      refine st_iconst c269_124 ?_
      refine st_iadd c269_125 ?_
      refine st_istore (L' := [some (.ref 64), some (vI p1), some (vI (z707 + 0)), some (vI z708), some (vI (aI h 111 p1)), some (vI (fI h 64 1)), some (vI (fI h 64 1))]) c269_126 rfl rfl ?_
      refine st_iinc (L' := [some (.ref 64), some (vI p1), some (vI (z707 + 0)), some (vI (z708 + 1)), some (vI (aI h 111 p1)), some (vI (fI h 64 1)), some (vI (fI h 64 1))]) c269_127 rfl rfl rfl ?_
      refine st_goto c269_130 ?_
      refine MR_weak (A := [some (.ref 64), some (vI p1), some (vI (z707 + 0)), some (vI (z708 + 1)), none, none, none]) (Lle_s (Lle_s (Lle_s (Lle_s (Lle_n (Lle_n (Lle_n (Lle_0)))))))) ?_
      exact ih711 (z707 + 0) (z708 + 1) (by omega) (by omega) (by omega)
      refine st_iload c269_116 rfl ?_
      refine st_iload c269_118 rfl ?_
      refine st_isub c269_120 ?_
      refine st_goto c269_121 ?_
      refine st_iadd c269_125 ?_
      refine MR_wrap (fun w773 e774 e775 e776 => ?_)
      refine st_istore (L' := [some (.ref 64), some (vI p1), some (vI w773), some (vI z708), some (vI (aI h 111 p1)), some (vI (fI h 64 1)), some (vI (fI h 64 1))]) c269_126 rfl rfl ?_
      refine st_iinc (L' := [some (.ref 64), some (vI p1), some (vI w773), some (vI (z708 + 1)), some (vI (aI h 111 p1)), some (vI (fI h 64 1)), some (vI (fI h 64 1))]) c269_127 rfl rfl rfl ?_
      refine st_goto c269_130 ?_
      refine MR_weak (A := [some (.ref 64), some (vI p1), some (vI w773), some (vI (z708 + 1)), none, none, none]) (Lle_s (Lle_s (Lle_s (Lle_s (Lle_n (Lle_n (Lle_n (Lle_0)))))))) ?_
      exact ih711 w773 (z708 + 1) (by omega) (by omega) (by omega)
      refine st_aload c269_45 rfl ?_
      refine st_getX (u := 96) c269_46 hT (tf hT rfl rfl) fd_8_39 rfl ?_
      refine st_iload c269_49 rfl ?_
      refine st_iald c269_50 hT (tf hT rfl rfl) ay_74 (by omega) (fun e777 e778 => ?_)
      refine st_goto c269_51 ?_
      refine st_istore (L' := [some (.ref 64), some (vI p1), some (vI z707), some (vI z708), some (vI (aI h 96 z708)), none, none]) c269_60 rfl rfl ?_
      refine st_aload c269_62 rfl ?_
      refine st_getX (u := 97) c269_63 hT (tf hT rfl rfl) fd_8_40 rfl ?_
      refine st_iload c269_66 rfl ?_
      refine st_iald c269_67 hT (tf hT rfl rfl) ay_75 (by omega) (fun e779 e780 => ?_)
      refine st_if_ge c269_68 (by omega) (fun k781 => ?_) (fun k782 => ?_)
      refine st_aload c269_78 rfl ?_
      refine st_getX (u := 97) c269_79 hT (tf hT rfl rfl) fd_8_40 rfl ?_
      refine st_iload c269_82 rfl ?_
      refine st_iald c269_83 hT (tf hT rfl rfl) ay_75 (by omega) (fun e783 e784 => ?_)
      refine st_istore (L' := [some (.ref 64), some (vI p1), some (vI z707), some (vI z708), some (vI (aI h 96 z708)), some (vI (aI h 97 z708)), none]) c269_84 rfl rfl ?_
      refine st_iload c269_86 rfl ?_
      refine st_aload c269_88 rfl ?_
      refine st_iload c269_89 rfl ?_
      refine st_callt (as := [vI p1]) c269_90 cm_240 hT (tf hT rfl rfl) fd_8_0 rfl rfl rfl rfl (by omega) (K240 hT p1 (by omega) (d - 1) (by omega) _ (fun v h0 H => H)) (fun v1 h1 H => ?_)
      obtain ⟨z785, rfl, b786, rfl⟩ := H
      refine st_icmp_ge c269_93 (by omega) (by omega) (fun k787 => ?_) (fun k788 => ?_)
      refine st_aload c269_101 rfl ?_
      refine st_iload c269_102 rfl ?_
      refine st_callt (as := [vI p1]) c269_103 cm_240 hT (tf hT rfl rfl) fd_8_0 rfl rfl rfl rfl (by omega) (K240 hT p1 (by omega) (d - 1) (by omega) _ (fun v h0 H => H)) (fun v1 h1 H => ?_)
      obtain ⟨z789, rfl, b790, rfl⟩ := H
      refine st_istore (L' := [some (.ref 64), some (vI p1), some (vI z707), some (vI z708), some (vI (aI h 96 z708)), some (vI (aI h 97 z708)), some (vI z789)]) c269_106 rfl rfl ?_
      refine st_iload c269_108 rfl ?_
      refine st_iload c269_109 rfl ?_
      refine st_iload c269_111 rfl ?_
      refine st_icmp_le c269_113 (by omega) (by omega) (fun k791 => ?_) (fun k792 => ?_)
      refine st_iconst c269_124 ?_
      refine st_iadd c269_125 ?_
      refine st_istore (L' := [some (.ref 64), some (vI p1), some (vI (z707 + 0)), some (vI z708), some (vI (aI h 96 z708)), some (vI (aI h 97 z708)), some (vI z789)]) c269_126 rfl rfl ?_
      refine st_iinc (L' := [some (.ref 64), some (vI p1), some (vI (z707 + 0)), some (vI (z708 + 1)), some (vI (aI h 96 z708)), some (vI (aI h 97 z708)), some (vI z789)]) c269_127 rfl rfl rfl ?_
      refine st_goto c269_130 ?_
      refine MR_weak (A := [some (.ref 64), some (vI p1), some (vI (z707 + 0)), some (vI (z708 + 1)), none, none, none]) (Lle_s (Lle_s (Lle_s (Lle_s (Lle_n (Lle_n (Lle_n (Lle_0)))))))) ?_
      exact ih711 (z707 + 0) (z708 + 1) (by omega) (by omega) (by omega)
      refine st_iload c269_116 rfl ?_
      refine st_iload c269_118 rfl ?_
      refine st_isub c269_120 ?_
      refine st_goto c269_121 ?_
      refine st_iadd c269_125 ?_
      refine MR_wrap (fun w793 e794 e795 e796 => ?_)
      refine st_istore (L' := [some (.ref 64), some (vI p1), some (vI w793), some (vI z708), some (vI (aI h 96 z708)), some (vI (aI h 97 z708)), some (vI z789)]) c269_126 rfl rfl ?_
      refine st_iinc (L' := [some (.ref 64), some (vI p1), some (vI w793), some (vI (z708 + 1)), some (vI (aI h 96 z708)), some (vI (aI h 97 z708)), some (vI z789)]) c269_127 rfl rfl rfl ?_
      refine st_goto c269_130 ?_
      refine MR_weak (A := [some (.ref 64), some (vI p1), some (vI w793), some (vI (z708 + 1)), none, none, none]) (Lle_s (Lle_s (Lle_s (Lle_s (Lle_n (Lle_n (Lle_n (Lle_0)))))))) ?_
      exact ih711 w793 (z708 + 1) (by omega) (by omega) (by omega)
      refine st_iload c269_96 rfl ?_
      refine st_goto c269_98 ?_
      refine st_istore (L' := [some (.ref 64), some (vI p1), some (vI z707), some (vI z708), some (vI (aI h 96 z708)), some (vI (aI h 97 z708)), some (vI (aI h 97 z708))]) c269_106 rfl rfl ?_
      refine st_iload c269_108 rfl ?_
      refine st_iload c269_109 rfl ?_
      refine st_iload c269_111 rfl ?_
      refine st_icmp_le c269_113 (by omega) (by omega) (fun k797 => ?_) (fun k798 => ?_)
      refine st_iconst c269_124 ?_
      refine st_iadd c269_125 ?_
      refine st_istore (L' := [some (.ref 64), some (vI p1), some (vI (z707 + 0)), some (vI z708), some (vI (aI h 96 z708)), some (vI (aI h 97 z708)), some (vI (aI h 97 z708))]) c269_126 rfl rfl ?_
      refine st_iinc (L' := [some (.ref 64), some (vI p1), some (vI (z707 + 0)), some (vI (z708 + 1)), some (vI (aI h 96 z708)), some (vI (aI h 97 z708)), some (vI (aI h 97 z708))]) c269_127 rfl rfl rfl ?_
      refine st_goto c269_130 ?_
      refine MR_weak (A := [some (.ref 64), some (vI p1), some (vI (z707 + 0)), some (vI (z708 + 1)), none, none, none]) (Lle_s (Lle_s (Lle_s (Lle_s (Lle_n (Lle_n (Lle_n (Lle_0)))))))) ?_
      exact ih711 (z707 + 0) (z708 + 1) (by omega) (by omega) (by omega)
      refine st_iload c269_116 rfl ?_
      refine st_iload c269_118 rfl ?_
      refine st_isub c269_120 ?_
      refine st_goto c269_121 ?_
      refine st_iadd c269_125 ?_
      refine MR_wrap (fun w799 e800 e801 e802 => ?_)
      refine st_istore (L' := [some (.ref 64), some (vI p1), some (vI w799), some (vI z708), some (vI (aI h 96 z708)), some (vI (aI h 97 z708)), some (vI (aI h 97 z708))]) c269_126 rfl rfl ?_
      refine st_iinc (L' := [some (.ref 64), some (vI p1), some (vI w799), some (vI (z708 + 1)), some (vI (aI h 96 z708)), some (vI (aI h 97 z708)), some (vI (aI h 97 z708))]) c269_127 rfl rfl rfl ?_
      refine st_goto c269_130 ?_
      refine MR_weak (A := [some (.ref 64), some (vI p1), some (vI w799), some (vI (z708 + 1)), none, none, none]) (Lle_s (Lle_s (Lle_s (Lle_s (Lle_n (Lle_n (Lle_n (Lle_0)))))))) ?_
      exact ih711 w799 (z708 + 1) (by omega) (by omega) (by omega)
      refine st_aload c269_71 rfl ?_
      refine st_getI c269_72 hT (tf hT rfl rfl) fd_8_1 (fun e803 e804 => ?_)
      refine st_goto c269_75 ?_
      refine st_istore (L' := [some (.ref 64), some (vI p1), some (vI z707), some (vI z708), some (vI (aI h 96 z708)), some (vI (fI h 64 1)), none]) c269_84 rfl rfl ?_
      refine st_iload c269_86 rfl ?_
      refine st_aload c269_88 rfl ?_
      refine st_iload c269_89 rfl ?_
      refine st_callt (as := [vI p1]) c269_90 cm_240 hT (tf hT rfl rfl) fd_8_0 rfl rfl rfl rfl (by omega) (K240 hT p1 (by omega) (d - 1) (by omega) _ (fun v h0 H => H)) (fun v1 h1 H => ?_)
      obtain ⟨z805, rfl, b806, rfl⟩ := H
      refine st_icmp_ge c269_93 (by omega) (by omega) (fun k807 => ?_) (fun k808 => ?_)
      refine st_aload c269_101 rfl ?_
      refine st_iload c269_102 rfl ?_
      refine st_callt (as := [vI p1]) c269_103 cm_240 hT (tf hT rfl rfl) fd_8_0 rfl rfl rfl rfl (by omega) (K240 hT p1 (by omega) (d - 1) (by omega) _ (fun v h0 H => H)) (fun v1 h1 H => ?_)
      obtain ⟨z809, rfl, b810, rfl⟩ := H
      refine st_istore (L' := [some (.ref 64), some (vI p1), some (vI z707), some (vI z708), some (vI (aI h 96 z708)), some (vI (fI h 64 1)), some (vI z809)]) c269_106 rfl rfl ?_
      refine st_iload c269_108 rfl ?_
      refine st_iload c269_109 rfl ?_
      refine st_iload c269_111 rfl ?_
      refine st_icmp_le c269_113 (by omega) (by omega) (fun k811 => ?_) (fun k812 => ?_)
      refine st_iconst c269_124 ?_
      refine st_iadd c269_125 ?_
      refine st_istore (L' := [some (.ref 64), some (vI p1), some (vI (z707 + 0)), some (vI z708), some (vI (aI h 96 z708)), some (vI (fI h 64 1)), some (vI z809)]) c269_126 rfl rfl ?_
      refine st_iinc (L' := [some (.ref 64), some (vI p1), some (vI (z707 + 0)), some (vI (z708 + 1)), some (vI (aI h 96 z708)), some (vI (fI h 64 1)), some (vI z809)]) c269_127 rfl rfl rfl ?_
      refine st_goto c269_130 ?_
      refine MR_weak (A := [some (.ref 64), some (vI p1), some (vI (z707 + 0)), some (vI (z708 + 1)), none, none, none]) (Lle_s (Lle_s (Lle_s (Lle_s (Lle_n (Lle_n (Lle_n (Lle_0)))))))) ?_
      exact ih711 (z707 + 0) (z708 + 1) (by omega) (by omega) (by omega)
      refine st_iload c269_116 rfl ?_
      refine st_iload c269_118 rfl ?_
      refine st_isub c269_120 ?_
      refine st_goto c269_121 ?_
      refine st_iadd c269_125 ?_
      refine MR_wrap (fun w813 e814 e815 e816 => ?_)
      refine st_istore (L' := [some (.ref 64), some (vI p1), some (vI w813), some (vI z708), some (vI (aI h 96 z708)), some (vI (fI h 64 1)), some (vI z809)]) c269_126 rfl rfl ?_
      refine st_iinc (L' := [some (.ref 64), some (vI p1), some (vI w813), some (vI (z708 + 1)), some (vI (aI h 96 z708)), some (vI (fI h 64 1)), some (vI z809)]) c269_127 rfl rfl rfl ?_
      refine st_goto c269_130 ?_
      refine MR_weak (A := [some (.ref 64), some (vI p1), some (vI w813), some (vI (z708 + 1)), none, none, none]) (Lle_s (Lle_s (Lle_s (Lle_s (Lle_n (Lle_n (Lle_n (Lle_0)))))))) ?_
      exact ih711 w813 (z708 + 1) (by omega) (by omega) (by omega)
      refine st_iload c269_96 rfl ?_
      refine st_goto c269_98 ?_
      refine st_istore (L' := [some (.ref 64), some (vI p1), some (vI z707), some (vI z708), some (vI (aI h 96 z708)), some (vI (fI h 64 1)), some (vI (fI h 64 1))]) c269_106 rfl rfl ?_
      refine st_iload c269_108 rfl ?_
      refine st_iload c269_109 rfl ?_
      refine st_iload c269_111 rfl ?_
      refine st_icmp_le c269_113 (by omega) (by omega) (fun k817 => ?_) (fun k818 => ?_)
      refine st_iconst c269_124 ?_
      refine st_iadd c269_125 ?_
      refine st_istore (L' := [some (.ref 64), some (vI p1), some (vI (z707 + 0)), some (vI z708), some (vI (aI h 96 z708)), some (vI (fI h 64 1)), some (vI (fI h 64 1))]) c269_126 rfl rfl ?_
      refine st_iinc (L' := [some (.ref 64), some (vI p1), some (vI (z707 + 0)), some (vI (z708 + 1)), some (vI (aI h 96 z708)), some (vI (fI h 64 1)), some (vI (fI h 64 1))]) c269_127 rfl rfl rfl ?_
      refine st_goto c269_130 ?_
      refine MR_weak (A := [some (.ref 64), some (vI p1), some (vI (z707 + 0)), some (vI (z708 + 1)), none, none, none]) (Lle_s (Lle_s (Lle_s (Lle_s (Lle_n (Lle_n (Lle_n (Lle_0)))))))) ?_
      exact ih711 (z707 + 0) (z708 + 1) (by omega) (by omega) (by omega)
      refine st_iload c269_116 rfl ?_
      refine st_iload c269_118 rfl ?_
      refine st_isub c269_120 ?_
      refine st_goto c269_121 ?_
      refine st_iadd c269_125 ?_
      refine MR_wrap (fun w819 e820 e821 e822 => ?_)
      refine st_istore (L' := [some (.ref 64), some (vI p1), some (vI w819), some (vI z708), some (vI (aI h 96 z708)), some (vI (fI h 64 1)), some (vI (fI h 64 1))]) c269_126 rfl rfl ?_
      refine st_iinc (L' := [some (.ref 64), some (vI p1), some (vI w819), some (vI (z708 + 1)), some (vI (aI h 96 z708)), some (vI (fI h 64 1)), some (vI (fI h 64 1))]) c269_127 rfl rfl rfl ?_
      refine st_goto c269_130 ?_
      refine MR_weak (A := [some (.ref 64), some (vI p1), some (vI w819), some (vI (z708 + 1)), none, none, none]) (Lle_s (Lle_s (Lle_s (Lle_s (Lle_n (Lle_n (Lle_n (Lle_0)))))))) ?_
      exact ih711 w819 (z708 + 1) (by omega) (by omega) (by omega)
      refine st_goto c269_27 ?_
      refine st_iinc (L' := [some (.ref 64), some (vI p1), some (vI z707), some (vI (z708 + 1)), none, none, none]) c269_127 rfl rfl rfl ?_
      refine st_goto c269_130 ?_
      exact ih711 z707 (z708 + 1) (by omega) (by omega) (by omega)
  exact lp709 ((((200 : Int) - 0 : Int) + 1).toNat) 0 0 (by omega) (by omega) (by omega)
set_option maxHeartbeats 0 in
theorem K270 {Ln : Nat} {xs : Nat → Int32} {τ : List Nat} {h : List mE} {E : EP} (hT : TH E τ h) (p1 : Int) (hp1 : 0 ≤ p1 ∧ p1 ≤ 99) (d : Nat) (hd : 0 ≤ d) (Q : Option Value → List mE → Prop) (hQ : ∀ v h', (∃ z : Int, v = some (vI z) ∧ (0 ≤ z ∧ z ≤ 2147483647) ∧ h = h') → Q v h') : MR (mex Ln xs) d 270 0 [some (.ref 64), some (vI p1)] [] h Q := by
  refine st_aload c270_0 rfl ?_
  refine st_getX (u := 114) c270_1 hT (tf hT rfl rfl) fd_8_60 rfl ?_
  refine st_iconst c270_4 ?_
  refine st_iload c270_5 rfl ?_
  refine st_imul c270_6 ?_
  refine st_iald c270_7 hT (tf hT rfl rfl) ay_92 (by omega) (fun e1 e2 => ?_)
  refine st_if_lt c270_8 (by omega) (fun k3 => ?_) (fun k4 => ?_)
  refine st_iconst c270_24 ?_
  refine st_goto c270_25 ?_
  refine st_ireturn c270_49 ?_
  exact hQ _ _ ⟨0, rfl, by omega, rfl⟩
  refine st_aload c270_11 rfl ?_
  refine st_getX (u := 114) c270_12 hT (tf hT rfl rfl) fd_8_60 rfl ?_
  refine st_iconst c270_15 ?_
  refine st_iload c270_16 rfl ?_
  refine st_imul c270_17 ?_
  refine st_iconst c270_18 ?_
  refine st_iadd c270_19 ?_
  refine st_iald c270_20 hT (tf hT rfl rfl) ay_92 (by omega) (fun e5 e6 => ?_)
  refine st_if_ge c270_21 (by omega) (fun k7 => ?_) (fun k8 => ?_)
  refine st_aload c270_28 rfl ?_
  refine st_getX (u := 114) c270_29 hT (tf hT rfl rfl) fd_8_60 rfl ?_
  refine st_iconst c270_32 ?_
  refine st_iload c270_33 rfl ?_
  refine st_imul c270_34 ?_
  refine st_iconst c270_35 ?_
  refine st_iadd c270_36 ?_
  refine st_iald c270_37 hT (tf hT rfl rfl) ay_92 (by omega) (fun e9 e10 => ?_)
  refine st_aload c270_38 rfl ?_
  refine st_getX (u := 114) c270_39 hT (tf hT rfl rfl) fd_8_60 rfl ?_
  refine st_iconst c270_42 ?_
  refine st_iload c270_43 rfl ?_
  refine st_imul c270_44 ?_
  refine st_iald c270_45 hT (tf hT rfl rfl) ay_92 (by omega) (fun e11 e12 => ?_)
  refine st_iconst c270_46 ?_
  refine st_ixorw c270_47 (fun w13 e14 e15 => ?_)
  refine st_iandl c270_48 (by omega) (fun w16 e17 e18 => ?_)
  refine st_ireturn c270_49 ?_
  exact hQ _ _ ⟨w16, rfl, by omega, rfl⟩
  refine st_iconst c270_24 ?_
  refine st_goto c270_25 ?_
  refine st_ireturn c270_49 ?_
  exact hQ _ _ ⟨0, rfl, by omega, rfl⟩
set_option maxHeartbeats 0 in
theorem K271 {Ln : Nat} {xs : Nat → Int32} {τ : List Nat} {h : List mE} {E : EP} (hT : TH E τ h) (p1 : Int) (hp1 : 0 ≤ p1 ∧ p1 ≤ 99) (d : Nat) (hd : 1 ≤ d) (Q : Option Value → List mE → Prop) (hQ : ∀ v h', (∃ z : Int, v = some (vI z) ∧ ((-2147483648) ≤ z ∧ z ≤ 2147483647) ∧ h = h') → Q v h') : MR (mex Ln xs) d 271 0 [some (.ref 64), some (vI p1), none, none] [] h Q := by
  refine st_iconst c271_0 ?_
  refine st_istore (L' := [some (.ref 64), some (vI p1), some (vI 0), none]) c271_1 rfl rfl ?_
  refine st_iconst c271_2 ?_
  refine st_istore (L' := [some (.ref 64), some (vI p1), some (vI 0), some (vI 0)]) c271_3 rfl rfl ?_
  have lp139 : ∀ (n140 : Nat) (z137 : Int) (z138 : Int), (16 : Int) - z138 < (n140 : Int) → (-2147483648) ≤ z137 ∧ z137 ≤ 2147483647 → 0 ≤ z138 ∧ z138 ≤ 16 → MR (mex Ln xs) d 271 4 [some (.ref 64), some (vI p1), some (vI z137), some (vI z138)] [] h Q := by
    intro n140
    induction n140 with
    | zero =>
      intro z137 z138 hm142 b143 b144
      exfalso; omega
    | succ n140 ih141 =>
      intro z137 z138 hm142 b143 b144
      refine st_iload c271_4 rfl ?_
      refine st_iconst c271_5 ?_
      refine st_icmp_ge c271_7 (by omega) (by omega) (fun k145 => ?_) (fun k146 => ?_)
      refine st_iload c271_66 rfl ?_
      refine st_ireturn c271_67 ?_
      exact hQ _ _ ⟨z137, rfl, by omega, rfl⟩
      refine st_aload c271_10 rfl ?_
      refine st_getX (u := 110) c271_11 hT (tf hT rfl rfl) fd_8_56 rfl ?_
      refine st_iload c271_14 rfl ?_
      refine st_iald c271_15 hT (tf hT rfl rfl) ay_88 (by omega) (fun e147 e148 => ?_)
      refine st_if_lt c271_16 (by omega) (fun k149 => ?_) (fun k150 => ?_)
      refine st_iload c271_66 rfl ?_
      refine st_ireturn c271_67 ?_
      exact hQ _ _ ⟨z137, rfl, by omega, rfl⟩
      refine st_iload c271_19 rfl ?_
      refine st_aload c271_20 rfl ?_
      refine st_iload c271_21 rfl ?_
      refine st_callt (as := [vI p1]) c271_22 cm_270 hT (tf hT rfl rfl) fd_8_0 rfl rfl rfl rfl (by omega) (K270 hT p1 (by omega) (d - 1) (by omega) _ (fun v h0 H => H)) (fun v1 h1 H => ?_)
      obtain ⟨z151, rfl, b152, rfl⟩ := H
      refine st_iload c271_25 rfl ?_
      refine st_ishrw c271_26 (fun w153 e154 e155 => ?_)
      refine st_iconst c271_27 ?_
      refine st_iandr c271_28 (by omega) (fun w156 e157 e158 => ?_)
      refine st_iconst c271_29 ?_
      refine st_icmp_ne c271_30 (by omega) (by omega) (fun k159 => ?_) (fun k160 => ?_)
      refine st_iconst c271_57 ?_
      refine st_iadd c271_58 ?_
      refine st_istore (L' := [some (.ref 64), some (vI p1), some (vI (z137 + 0)), some (vI z138)]) c271_59 rfl rfl ?_
      refine st_iinc (L' := [some (.ref 64), some (vI p1), some (vI (z137 + 0)), some (vI (z138 + 1))]) c271_60 rfl rfl rfl ?_
      refine st_goto c271_63 ?_
      exact ih141 (z137 + 0) (z138 + 1) (by omega) (by omega) (by omega)
      refine st_aload c271_33 rfl ?_
      refine st_getX (u := 75) c271_34 hT (tf hT rfl rfl) fd_8_14 rfl ?_
      refine st_iconst c271_37 ?_
      refine st_aload c271_39 rfl ?_
      refine st_getX (u := 76) c271_40 hT (tf hT rfl rfl) fd_8_16 rfl ?_
      refine st_aload c271_43 rfl ?_
      refine st_getX (u := 110) c271_44 hT (tf hT rfl rfl) fd_8_56 rfl ?_
      refine st_iload c271_47 rfl ?_
      refine st_iald c271_48 hT (tf hT rfl rfl) ay_88 (by omega) (fun e161 e162 => ?_)
      refine st_iald c271_49 hT (tf hT rfl rfl) ay_54 (by omega) (fun e163 e164 => ?_)
      refine st_imul c271_50 ?_
      refine st_iload c271_51 rfl ?_
      refine st_iadd c271_52 ?_
      refine st_iald c271_53 hT (tf hT rfl rfl) ay_53 (by omega) (fun e165 e166 => ?_)
      refine st_goto c271_54 ?_
      refine st_iadd c271_58 ?_
      refine MR_wrap (fun w167 e168 e169 e170 => ?_)
      refine st_istore (L' := [some (.ref 64), some (vI p1), some (vI w167), some (vI z138)]) c271_59 rfl rfl ?_
      refine st_iinc (L' := [some (.ref 64), some (vI p1), some (vI w167), some (vI (z138 + 1))]) c271_60 rfl rfl rfl ?_
      refine st_goto c271_63 ?_
      exact ih141 w167 (z138 + 1) (by omega) (by omega) (by omega)
  exact lp139 ((((16 : Int) - 0 : Int) + 1).toNat) 0 0 (by omega) (by omega) (by omega)
set_option maxHeartbeats 0 in
theorem K272 {Ln : Nat} {xs : Nat → Int32} {τ : List Nat} {h : List mE} {E : EP} (hT : TH E τ h) (p1 : Int) (hp1 : 0 ≤ p1 ∧ p1 ≤ 99) (d : Nat) (hd : 0 ≤ d) (Q : Option Value → List mE → Prop) (hQ : ∀ v h', (∃ z : Int, v = some (vI z) ∧ (0 ≤ z ∧ z ≤ 2147483647) ∧ h = h') → Q v h') : MR (mex Ln xs) d 272 0 [some (.ref 64), some (vI p1)] [] h Q := by
  refine st_aload c272_0 rfl ?_
  refine st_getX (u := 115) c272_1 hT (tf hT rfl rfl) fd_8_61 rfl ?_
  refine st_iconst c272_4 ?_
  refine st_iload c272_5 rfl ?_
  refine st_imul c272_6 ?_
  refine st_iald c272_7 hT (tf hT rfl rfl) ay_93 (by omega) (fun e1 e2 => ?_)
  refine st_if_lt c272_8 (by omega) (fun k3 => ?_) (fun k4 => ?_)
  refine st_iconst c272_45 ?_
  refine st_goto c272_46 ?_
  refine st_ireturn c272_68 ?_
  exact hQ _ _ ⟨0, rfl, by omega, rfl⟩
  refine st_aload c272_11 rfl ?_
  refine st_getX (u := 115) c272_12 hT (tf hT rfl rfl) fd_8_61 rfl ?_
  refine st_iconst c272_15 ?_
  refine st_iload c272_16 rfl ?_
  refine st_imul c272_17 ?_
  refine st_iconst c272_18 ?_
  refine st_iadd c272_19 ?_
  refine st_iald c272_20 hT (tf hT rfl rfl) ay_93 (by omega) (fun e5 e6 => ?_)
  refine st_if_lt c272_21 (by omega) (fun k7 => ?_) (fun k8 => ?_)
  refine st_iconst c272_45 ?_
  refine st_goto c272_46 ?_
  refine st_ireturn c272_68 ?_
  exact hQ _ _ ⟨0, rfl, by omega, rfl⟩
  refine st_aload c272_24 rfl ?_
  refine st_getX (u := 115) c272_25 hT (tf hT rfl rfl) fd_8_61 rfl ?_
  refine st_iconst c272_28 ?_
  refine st_iload c272_29 rfl ?_
  refine st_imul c272_30 ?_
  refine st_iconst c272_31 ?_
  refine st_iadd c272_32 ?_
  refine st_iald c272_33 hT (tf hT rfl rfl) ay_93 (by omega) (fun e9 e10 => ?_)
  refine st_aload c272_34 rfl ?_
  refine st_getX (u := 115) c272_35 hT (tf hT rfl rfl) fd_8_61 rfl ?_
  refine st_iconst c272_38 ?_
  refine st_iload c272_39 rfl ?_
  refine st_imul c272_40 ?_
  refine st_iald c272_41 hT (tf hT rfl rfl) ay_93 (by omega) (fun e11 e12 => ?_)
  refine st_icmp_lt c272_42 (by omega) (by omega) (fun k13 => ?_) (fun k14 => ?_)
  refine st_aload c272_49 rfl ?_
  refine st_getX (u := 115) c272_50 hT (tf hT rfl rfl) fd_8_61 rfl ?_
  refine st_iconst c272_53 ?_
  refine st_iload c272_54 rfl ?_
  refine st_imul c272_55 ?_
  refine st_iald c272_56 hT (tf hT rfl rfl) ay_93 (by omega) (fun e15 e16 => ?_)
  refine st_aload c272_57 rfl ?_
  refine st_getX (u := 115) c272_58 hT (tf hT rfl rfl) fd_8_61 rfl ?_
  refine st_iconst c272_61 ?_
  refine st_iload c272_62 rfl ?_
  refine st_imul c272_63 ?_
  refine st_iconst c272_64 ?_
  refine st_iadd c272_65 ?_
  refine st_iald c272_66 hT (tf hT rfl rfl) ay_93 (by omega) (fun e17 e18 => ?_)
  refine st_isub c272_67 ?_
  refine st_ireturn c272_68 ?_
  exact hQ _ _ ⟨(aI h 115 (2 * p1)) - (aI h 115 ((2 * p1) + 1)), rfl, by omega, rfl⟩
  refine st_iconst c272_45 ?_
  refine st_goto c272_46 ?_
  refine st_ireturn c272_68 ?_
  exact hQ _ _ ⟨0, rfl, by omega, rfl⟩
def W273 : List (Nat × Nat) := [(110, 0)]
set_option maxHeartbeats 0 in
theorem K273 {Ln : Nat} {xs : Nat → Int32} {τ : List Nat} {h : List mE} {E : EP} (hT : TH E τ h) (hS : Stb E W273) (p1 : Int) (hp1 : 0 ≤ p1 ∧ p1 ≤ 99) (p2 : Int) (hp2 : (-2147483648) ≤ p2 ∧ p2 ≤ 2147483647) (p3 : Int) (hp3 : (-2147483648) ≤ p3 ∧ p3 ≤ 2147483647) (pre0 : I3 h) (pre1 : aI h 109 p1 = 2 ∨ aI h 109 p1 = 3) (d : Nat) (hd : 2 ≤ d) (Q : Option Value → List mE → Prop) (hQ : ∀ v h', (v = none ∧ TH E τ h' ∧ Fr τ W273 h h') → Q v h') : MR (mex Ln xs) d 273 0 [some (.ref 64), some (vI p1), some (vI p2), some (vI p3), none, none] [] h Q := by
  have hF := Fr_rf τ W273 h
  refine st_aload c273_0 rfl ?_
  refine st_getX (u := 110) c273_1 hT (tf hT rfl rfl) fd_8_56 rfl ?_
  refine st_iload c273_4 rfl ?_
  refine st_iald c273_5 hT (tf hT rfl rfl) ay_88 (by omega) (fun e1 e2 => ?_)
  have q3 := (pre0) p1 (by omega) (by omega)
  refine st_istore (L' := [some (.ref 64), some (vI p1), some (vI p2), some (vI p3), some (vI (aI h 110 p1)), none]) c273_6 rfl rfl ?_
  refine st_aload c273_8 rfl ?_
  refine st_getX (u := 132) c273_9 hT (tf hT rfl rfl) fd_8_94 rfl ?_
  refine st_iconst c273_12 ?_
  refine st_iload c273_13 rfl ?_
  refine st_iast c273_14 hT (tf hT rfl rfl) ay_110 (by omega) (by omega) (by omega) (Ext_rf _) hS hF (by decide +kernel) (fun h4 hT5 hF6 hU7 => ?_)
  refine st_aload c273_15 rfl ?_
  refine st_getX (u := 132) c273_16 hT5 (tf hT5 rfl rfl) fd_8_94 rfl ?_
  refine st_iconst c273_19 ?_
  refine st_iload c273_20 rfl ?_
  refine st_iast c273_21 hT5 (tf hT5 rfl rfl) ay_110 (by omega) (by omega) (by omega) (Ext_rf _) hS hF6 (by decide +kernel) (fun h8 hT9 hF10 hU11 => ?_)
  refine st_aload c273_22 rfl ?_
  refine st_getX (u := 132) c273_23 hT9 (tf hT9 rfl rfl) fd_8_94 rfl ?_
  refine st_iconst c273_26 ?_
  refine st_iload c273_27 rfl ?_
  refine st_iconst c273_28 ?_
  refine st_idivc c273_30 (by omega) (by omega) (fun w12 e13 e14 => ?_)
  refine st_iast c273_31 hT9 (tf hT9 rfl rfl) ay_110 (by omega) (by omega) (by omega) (Ext_rf _) hS hF10 (by decide +kernel) (fun h15 hT16 hF17 hU18 => ?_)
  refine st_aload c273_32 rfl ?_
  refine st_getX (u := 132) c273_33 hT16 (tf hT16 rfl rfl) fd_8_94 rfl ?_
  refine st_iconst c273_36 ?_
  refine st_iload c273_37 rfl ?_
  refine st_iconst c273_38 ?_
  refine st_iremw c273_40 (by omega) (by omega) (fun w19 e20 e21 => ?_)
  refine st_iast c273_41 hT16 (tf hT16 rfl rfl) ay_110 (by omega) (by omega) (by omega) (Ext_rf _) hS hF17 (by decide +kernel) (fun h22 hT23 hF24 hU25 => ?_)
  refine st_aload c273_42 rfl ?_
  refine st_getX (u := 132) c273_43 hT23 (tf hT23 rfl rfl) fd_8_94 rfl ?_
  refine st_iconst c273_46 ?_
  refine st_aload c273_47 rfl ?_
  refine st_getX (u := 71) c273_48 hT23 (tf hT23 rfl rfl) fd_8_10 rfl ?_
  refine st_aload c273_51 rfl ?_
  refine st_getX (u := 104) c273_52 hT23 (tf hT23 rfl rfl) fd_8_50 rfl ?_
  refine st_iload c273_55 rfl ?_
  refine st_iald c273_56 hT23 (tf hT23 rfl rfl) ay_82 (by omega) (fun e26 e27 => ?_)
  have q28 : aI h22 104 p1 = aI h 104 p1 := (AUp_aIne hU25 (by decide) p1).trans ((AUp_aIne hU18 (by decide) p1).trans ((AUp_aIne hU11 (by decide) p1).trans (AUp_aIne hU7 (by decide) p1)))
  refine st_iald c273_57 hT23 (tf hT23 rfl rfl) ay_49 (by omega) (fun e29 e30 => ?_)
  have q31 : aI h22 71 (aI h22 104 p1) = aI h 71 (aI h22 104 p1) := (AUp_aIne hU25 (by decide) (aI h22 104 p1)).trans ((AUp_aIne hU18 (by decide) (aI h22 104 p1)).trans ((AUp_aIne hU11 (by decide) (aI h22 104 p1)).trans (AUp_aIne hU7 (by decide) (aI h22 104 p1))))
  refine st_iast c273_58 hT23 (tf hT23 rfl rfl) ay_110 (by omega) (by omega) (by omega) (Ext_rf _) hS hF24 (by decide +kernel) (fun h32 hT33 hF34 hU35 => ?_)
  refine st_aload c273_59 rfl ?_
  refine st_getX (u := 132) c273_60 hT33 (tf hT33 rfl rfl) fd_8_94 rfl ?_
  refine st_iconst c273_63 ?_
  refine st_aload c273_64 rfl ?_
  refine st_iload c273_65 rfl ?_
  refine st_callt (as := [vI p1]) c273_66 cm_267 hT33 (tf hT33 rfl rfl) fd_8_0 rfl rfl rfl rfl (by omega) (K267 hT33 p1 (by omega) (d - 1) (by omega) _ (fun v h0 H => H)) (fun v1 h1 H => ?_)
  obtain ⟨z36, rfl, b37, rfl⟩ := H
  refine st_iast c273_69 hT33 (tf hT33 rfl rfl) ay_110 (by omega) (by omega) (by omega) (Ext_rf _) hS hF34 (by decide +kernel) (fun h38 hT39 hF40 hU41 => ?_)
  refine st_aload c273_70 rfl ?_
  refine st_iload c273_71 rfl ?_
  refine st_callt (as := [vI p1]) c273_72 cm_267 hT39 (tf hT39 rfl rfl) fd_8_0 rfl rfl rfl rfl (by omega) (K267 hT39 p1 (by omega) (d - 1) (by omega) _ (fun v h0 H => H)) (fun v1 h1 H => ?_)
  obtain ⟨z42, rfl, b43, rfl⟩ := H
  refine st_iload c273_75 rfl ?_
  refine st_aload c273_76 rfl ?_
  refine st_getX (u := 107) c273_77 hT39 (tf hT39 rfl rfl) fd_8_53 rfl ?_
  refine st_iload c273_80 rfl ?_
  refine st_iald c273_81 hT39 (tf hT39 rfl rfl) ay_85 (by omega) (fun e44 e45 => ?_)
  have q46 : aI h38 107 p1 = aI h 107 p1 := (AUp_aIne hU41 (by decide) p1).trans ((AUp_aIne hU35 (by decide) p1).trans ((AUp_aIne hU25 (by decide) p1).trans ((AUp_aIne hU18 (by decide) p1).trans ((AUp_aIne hU11 (by decide) p1).trans (AUp_aIne hU7 (by decide) p1)))))
  refine st_imul c273_82 ?_
  refine MR_wrap (fun w47 e48 e49 e50 => ?_)
  clear e50
  refine st_isub c273_83 ?_
  refine MR_wrap (fun w51 e52 e53 e54 => ?_)
  refine st_istore (L' := [some (.ref 64), some (vI p1), some (vI p2), some (vI p3), some (vI (aI h 110 p1)), some (vI w51)]) c273_84 rfl rfl ?_
  refine st_aload c273_86 rfl ?_
  refine st_getX (u := 132) c273_87 hT39 (tf hT39 rfl rfl) fd_8_94 rfl ?_
  refine st_iconst c273_90 ?_
  refine st_iload c273_92 rfl ?_
  refine st_if_ge c273_94 (by omega) (fun k55 => ?_) (fun k56 => ?_)
  refine st_iload c273_101 rfl ?_
  refine st_iast c273_103 hT39 (tf hT39 rfl rfl) ay_110 (by omega) (by omega) (by omega) (Ext_rf _) hS hF40 (by decide +kernel) (fun h57 hT58 hF59 hU60 => ?_)
  refine st_aload c273_104 rfl ?_
  refine st_getX (u := 132) c273_105 hT58 (tf hT58 rfl rfl) fd_8_94 rfl ?_
  refine st_iconst c273_108 ?_
  refine st_aload c273_110 rfl ?_
  refine st_iload c273_111 rfl ?_
  refine st_callt (as := [vI p1]) c273_112 cm_268 hT58 (tf hT58 rfl rfl) fd_8_0 rfl rfl rfl rfl (by omega) (K268 hT58 p1 (by omega) (d - 1) (by omega) _ (fun v h0 H => H)) (fun v1 h1 H => ?_)
  obtain ⟨z61, rfl, b62, rfl⟩ := H
  refine st_iast c273_115 hT58 (tf hT58 rfl rfl) ay_110 (by omega) (by omega) (by omega) (Ext_rf _) hS hF59 (by decide +kernel) (fun h63 hT64 hF65 hU66 => ?_)
  refine st_aload c273_116 rfl ?_
  refine st_getX (u := 132) c273_117 hT64 (tf hT64 rfl rfl) fd_8_94 rfl ?_
  refine st_iconst c273_120 ?_
  refine st_aload c273_122 rfl ?_
  refine st_iload c273_123 rfl ?_
  refine st_callt (as := [vI p1]) c273_124 cm_269 hT64 (tf hT64 rfl rfl) fd_8_0 rfl rfl rfl rfl (by omega) (K269 hT64 p1 (by omega) (d - 1) (by omega) _ (fun v h0 H => H)) (fun v1 h1 H => ?_)
  obtain ⟨z67, rfl, b68, rfl⟩ := H
  refine st_iast c273_127 hT64 (tf hT64 rfl rfl) ay_110 (by omega) (by omega) (by omega) (Ext_rf _) hS hF65 (by decide +kernel) (fun h69 hT70 hF71 hU72 => ?_)
  refine st_aload c273_128 rfl ?_
  refine st_getX (u := 132) c273_129 hT70 (tf hT70 rfl rfl) fd_8_94 rfl ?_
  refine st_iconst c273_132 ?_
  refine st_aload c273_134 rfl ?_
  refine st_iload c273_135 rfl ?_
  refine st_callt (as := [vI p1]) c273_136 cm_272 hT70 (tf hT70 rfl rfl) fd_8_0 rfl rfl rfl rfl (by omega) (K272 hT70 p1 (by omega) (d - 1) (by omega) _ (fun v h0 H => H)) (fun v1 h1 H => ?_)
  obtain ⟨z73, rfl, b74, rfl⟩ := H
  refine st_iast c273_139 hT70 (tf hT70 rfl rfl) ay_110 (by omega) (by omega) (by omega) (Ext_rf _) hS hF71 (by decide +kernel) (fun h75 hT76 hF77 hU78 => ?_)
  refine st_aload c273_140 rfl ?_
  refine st_getX (u := 132) c273_141 hT76 (tf hT76 rfl rfl) fd_8_94 rfl ?_
  refine st_iconst c273_144 ?_
  refine st_aload c273_146 rfl ?_
  refine st_iload c273_147 rfl ?_
  refine st_callt (as := [vI p1]) c273_148 cm_271 hT76 (tf hT76 rfl rfl) fd_8_0 rfl rfl rfl rfl (by omega) (K271 hT76 p1 (by omega) (d - 1) (by omega) _ (fun v h0 H => H)) (fun v1 h1 H => ?_)
  obtain ⟨z79, rfl, b80, rfl⟩ := H
  refine st_iast c273_151 hT76 (tf hT76 rfl rfl) ay_110 (by omega) (by omega) (by omega) (Ext_rf _) hS hF77 (by decide +kernel) (fun h81 hT82 hF83 hU84 => ?_)
  refine st_aload c273_152 rfl ?_
  refine st_getX (u := 132) c273_153 hT82 (tf hT82 rfl rfl) fd_8_94 rfl ?_
  refine st_iconst c273_156 ?_
  refine st_aload c273_158 rfl ?_
  refine st_getX (u := 73) c273_159 hT82 (tf hT82 rfl rfl) fd_8_12 rfl ?_
  refine st_aload c273_162 rfl ?_
  refine st_getX (u := 76) c273_163 hT82 (tf hT82 rfl rfl) fd_8_16 rfl ?_
  refine st_iload c273_166 rfl ?_
  refine st_iald c273_168 hT82 (tf hT82 rfl rfl) ay_54 (by omega) (fun e85 e86 => ?_)
  have q87 : aI h81 76 (aI h 110 p1) = aI h 76 (aI h 110 p1) := (AUp_aIne hU84 (by decide) (aI h 110 p1)).trans ((AUp_aIne hU78 (by decide) (aI h 110 p1)).trans ((AUp_aIne hU72 (by decide) (aI h 110 p1)).trans ((AUp_aIne hU66 (by decide) (aI h 110 p1)).trans ((AUp_aIne hU60 (by decide) (aI h 110 p1)).trans ((AUp_aIne hU41 (by decide) (aI h 110 p1)).trans ((AUp_aIne hU35 (by decide) (aI h 110 p1)).trans ((AUp_aIne hU25 (by decide) (aI h 110 p1)).trans ((AUp_aIne hU18 (by decide) (aI h 110 p1)).trans ((AUp_aIne hU11 (by decide) (aI h 110 p1)).trans (AUp_aIne hU7 (by decide) (aI h 110 p1)))))))))))
  refine st_iald c273_169 hT82 (tf hT82 rfl rfl) ay_51 (by omega) (fun e88 e89 => ?_)
  have q90 : aI h81 73 (aI h81 76 (aI h 110 p1)) = aI h 73 (aI h81 76 (aI h 110 p1)) := (AUp_aIne hU84 (by decide) (aI h81 76 (aI h 110 p1))).trans ((AUp_aIne hU78 (by decide) (aI h81 76 (aI h 110 p1))).trans ((AUp_aIne hU72 (by decide) (aI h81 76 (aI h 110 p1))).trans ((AUp_aIne hU66 (by decide) (aI h81 76 (aI h 110 p1))).trans ((AUp_aIne hU60 (by decide) (aI h81 76 (aI h 110 p1))).trans ((AUp_aIne hU41 (by decide) (aI h81 76 (aI h 110 p1))).trans ((AUp_aIne hU35 (by decide) (aI h81 76 (aI h 110 p1))).trans ((AUp_aIne hU25 (by decide) (aI h81 76 (aI h 110 p1))).trans ((AUp_aIne hU18 (by decide) (aI h81 76 (aI h 110 p1))).trans ((AUp_aIne hU11 (by decide) (aI h81 76 (aI h 110 p1))).trans (AUp_aIne hU7 (by decide) (aI h81 76 (aI h 110 p1))))))))))))
  refine st_iast c273_170 hT82 (tf hT82 rfl rfl) ay_110 (by omega) (by omega) (by omega) (Ext_rf _) hS hF83 (by decide +kernel) (fun h91 hT92 hF93 hU94 => ?_)
  refine st_aload c273_171 rfl ?_
  refine st_getX (u := 132) c273_172 hT92 (tf hT92 rfl rfl) fd_8_94 rfl ?_
  refine st_iconst c273_175 ?_
  refine st_aload c273_177 rfl ?_
  refine st_getX (u := 89) c273_178 hT92 (tf hT92 rfl rfl) fd_8_29 rfl ?_
  refine st_iload c273_181 rfl ?_
  refine st_iald c273_183 hT92 (tf hT92 rfl rfl) ay_67 (by omega) (fun e95 e96 => ?_)
  have q97 : aI h91 89 (aI h 110 p1) = aI h 89 (aI h 110 p1) := (AUp_aIne hU94 (by decide) (aI h 110 p1)).trans ((AUp_aIne hU84 (by decide) (aI h 110 p1)).trans ((AUp_aIne hU78 (by decide) (aI h 110 p1)).trans ((AUp_aIne hU72 (by decide) (aI h 110 p1)).trans ((AUp_aIne hU66 (by decide) (aI h 110 p1)).trans ((AUp_aIne hU60 (by decide) (aI h 110 p1)).trans ((AUp_aIne hU41 (by decide) (aI h 110 p1)).trans ((AUp_aIne hU35 (by decide) (aI h 110 p1)).trans ((AUp_aIne hU25 (by decide) (aI h 110 p1)).trans ((AUp_aIne hU18 (by decide) (aI h 110 p1)).trans ((AUp_aIne hU11 (by decide) (aI h 110 p1)).trans (AUp_aIne hU7 (by decide) (aI h 110 p1))))))))))))
  refine st_if_ne c273_184 (by omega) (fun k98 => ?_) (fun k99 => ?_)
  refine st_iconst c273_191 ?_
  refine st_iast c273_192 hT92 (tf hT92 rfl rfl) ay_110 (by omega) (by omega) (by omega) (Ext_rf _) hS hF93 (by decide +kernel) (fun h100 hT101 hF102 hU103 => ?_)
  refine st_aload c273_193 rfl ?_
  refine st_getX (u := 132) c273_194 hT101 (tf hT101 rfl rfl) fd_8_94 rfl ?_
  refine st_iconst c273_197 ?_
  refine st_aload c273_199 rfl ?_
  refine st_getX (u := 76) c273_200 hT101 (tf hT101 rfl rfl) fd_8_16 rfl ?_
  refine st_iload c273_203 rfl ?_
  refine st_iald c273_205 hT101 (tf hT101 rfl rfl) ay_54 (by omega) (fun e104 e105 => ?_)
  have q106 : aI h100 76 (aI h 110 p1) = aI h81 76 (aI h 110 p1) := (AUp_aIne hU103 (by decide) (aI h 110 p1)).trans (AUp_aIne hU94 (by decide) (aI h 110 p1))
  refine st_aload c273_206 rfl ?_
  refine st_getX (u := 104) c273_207 hT101 (tf hT101 rfl rfl) fd_8_50 rfl ?_
  refine st_iload c273_210 rfl ?_
  refine st_iald c273_211 hT101 (tf hT101 rfl rfl) ay_82 (by omega) (fun e107 e108 => ?_)
  have q109 : aI h100 104 p1 = aI h22 104 p1 := (AUp_aIne hU103 (by decide) p1).trans ((AUp_aIne hU94 (by decide) p1).trans ((AUp_aIne hU84 (by decide) p1).trans ((AUp_aIne hU78 (by decide) p1).trans ((AUp_aIne hU72 (by decide) p1).trans ((AUp_aIne hU66 (by decide) p1).trans ((AUp_aIne hU60 (by decide) p1).trans ((AUp_aIne hU41 (by decide) p1).trans (AUp_aIne hU35 (by decide) p1))))))))
  refine st_icmp_eq c273_212 (by omega) (by omega) (fun k110 => ?_) (fun k111 => ?_)
  refine st_iconst c273_219 ?_
  refine st_iast c273_220 hT101 (tf hT101 rfl rfl) ay_110 (by omega) (by omega) (by omega) (Ext_rf _) hS hF102 (by decide +kernel) (fun h112 hT113 hF114 hU115 => ?_)
  refine st_return c273_221 ?_
  exact hQ _ _ ⟨rfl, hT113, hF114⟩
  refine st_iconst c273_215 ?_
  refine st_goto c273_216 ?_
  refine st_iast c273_220 hT101 (tf hT101 rfl rfl) ay_110 (by omega) (by omega) (by omega) (Ext_rf _) hS hF102 (by decide +kernel) (fun h116 hT117 hF118 hU119 => ?_)
  refine st_return c273_221 ?_
  exact hQ _ _ ⟨rfl, hT117, hF118⟩
  refine st_iconst c273_187 ?_
  refine st_goto c273_188 ?_
  refine st_iast c273_192 hT92 (tf hT92 rfl rfl) ay_110 (by omega) (by omega) (by omega) (Ext_rf _) hS hF93 (by decide +kernel) (fun h120 hT121 hF122 hU123 => ?_)
  refine st_aload c273_193 rfl ?_
  refine st_getX (u := 132) c273_194 hT121 (tf hT121 rfl rfl) fd_8_94 rfl ?_
  refine st_iconst c273_197 ?_
  refine st_aload c273_199 rfl ?_
  refine st_getX (u := 76) c273_200 hT121 (tf hT121 rfl rfl) fd_8_16 rfl ?_
  refine st_iload c273_203 rfl ?_
  refine st_iald c273_205 hT121 (tf hT121 rfl rfl) ay_54 (by omega) (fun e124 e125 => ?_)
  have q126 : aI h120 76 (aI h 110 p1) = aI h81 76 (aI h 110 p1) := (AUp_aIne hU123 (by decide) (aI h 110 p1)).trans (AUp_aIne hU94 (by decide) (aI h 110 p1))
  refine st_aload c273_206 rfl ?_
  refine st_getX (u := 104) c273_207 hT121 (tf hT121 rfl rfl) fd_8_50 rfl ?_
  refine st_iload c273_210 rfl ?_
  refine st_iald c273_211 hT121 (tf hT121 rfl rfl) ay_82 (by omega) (fun e127 e128 => ?_)
  have q129 : aI h120 104 p1 = aI h22 104 p1 := (AUp_aIne hU123 (by decide) p1).trans ((AUp_aIne hU94 (by decide) p1).trans ((AUp_aIne hU84 (by decide) p1).trans ((AUp_aIne hU78 (by decide) p1).trans ((AUp_aIne hU72 (by decide) p1).trans ((AUp_aIne hU66 (by decide) p1).trans ((AUp_aIne hU60 (by decide) p1).trans ((AUp_aIne hU41 (by decide) p1).trans (AUp_aIne hU35 (by decide) p1))))))))
  refine st_icmp_eq c273_212 (by omega) (by omega) (fun k130 => ?_) (fun k131 => ?_)
  refine st_iconst c273_219 ?_
  refine st_iast c273_220 hT121 (tf hT121 rfl rfl) ay_110 (by omega) (by omega) (by omega) (Ext_rf _) hS hF122 (by decide +kernel) (fun h132 hT133 hF134 hU135 => ?_)
  refine st_return c273_221 ?_
  exact hQ _ _ ⟨rfl, hT133, hF134⟩
  refine st_iconst c273_215 ?_
  refine st_goto c273_216 ?_
  refine st_iast c273_220 hT121 (tf hT121 rfl rfl) ay_110 (by omega) (by omega) (by omega) (Ext_rf _) hS hF122 (by decide +kernel) (fun h136 hT137 hF138 hU139 => ?_)
  refine st_return c273_221 ?_
  exact hQ _ _ ⟨rfl, hT137, hF138⟩
  refine st_iconst c273_97 ?_
  refine st_goto c273_98 ?_
  refine st_iast c273_103 hT39 (tf hT39 rfl rfl) ay_110 (by omega) (by omega) (by omega) (Ext_rf _) hS hF40 (by decide +kernel) (fun h140 hT141 hF142 hU143 => ?_)
  refine st_aload c273_104 rfl ?_
  refine st_getX (u := 132) c273_105 hT141 (tf hT141 rfl rfl) fd_8_94 rfl ?_
  refine st_iconst c273_108 ?_
  refine st_aload c273_110 rfl ?_
  refine st_iload c273_111 rfl ?_
  refine st_callt (as := [vI p1]) c273_112 cm_268 hT141 (tf hT141 rfl rfl) fd_8_0 rfl rfl rfl rfl (by omega) (K268 hT141 p1 (by omega) (d - 1) (by omega) _ (fun v h0 H => H)) (fun v1 h1 H => ?_)
  obtain ⟨z144, rfl, b145, rfl⟩ := H
  refine st_iast c273_115 hT141 (tf hT141 rfl rfl) ay_110 (by omega) (by omega) (by omega) (Ext_rf _) hS hF142 (by decide +kernel) (fun h146 hT147 hF148 hU149 => ?_)
  refine st_aload c273_116 rfl ?_
  refine st_getX (u := 132) c273_117 hT147 (tf hT147 rfl rfl) fd_8_94 rfl ?_
  refine st_iconst c273_120 ?_
  refine st_aload c273_122 rfl ?_
  refine st_iload c273_123 rfl ?_
  refine st_callt (as := [vI p1]) c273_124 cm_269 hT147 (tf hT147 rfl rfl) fd_8_0 rfl rfl rfl rfl (by omega) (K269 hT147 p1 (by omega) (d - 1) (by omega) _ (fun v h0 H => H)) (fun v1 h1 H => ?_)
  obtain ⟨z150, rfl, b151, rfl⟩ := H
  refine st_iast c273_127 hT147 (tf hT147 rfl rfl) ay_110 (by omega) (by omega) (by omega) (Ext_rf _) hS hF148 (by decide +kernel) (fun h152 hT153 hF154 hU155 => ?_)
  refine st_aload c273_128 rfl ?_
  refine st_getX (u := 132) c273_129 hT153 (tf hT153 rfl rfl) fd_8_94 rfl ?_
  refine st_iconst c273_132 ?_
  refine st_aload c273_134 rfl ?_
  refine st_iload c273_135 rfl ?_
  refine st_callt (as := [vI p1]) c273_136 cm_272 hT153 (tf hT153 rfl rfl) fd_8_0 rfl rfl rfl rfl (by omega) (K272 hT153 p1 (by omega) (d - 1) (by omega) _ (fun v h0 H => H)) (fun v1 h1 H => ?_)
  obtain ⟨z156, rfl, b157, rfl⟩ := H
  refine st_iast c273_139 hT153 (tf hT153 rfl rfl) ay_110 (by omega) (by omega) (by omega) (Ext_rf _) hS hF154 (by decide +kernel) (fun h158 hT159 hF160 hU161 => ?_)
  refine st_aload c273_140 rfl ?_
  refine st_getX (u := 132) c273_141 hT159 (tf hT159 rfl rfl) fd_8_94 rfl ?_
  refine st_iconst c273_144 ?_
  refine st_aload c273_146 rfl ?_
  refine st_iload c273_147 rfl ?_
  refine st_callt (as := [vI p1]) c273_148 cm_271 hT159 (tf hT159 rfl rfl) fd_8_0 rfl rfl rfl rfl (by omega) (K271 hT159 p1 (by omega) (d - 1) (by omega) _ (fun v h0 H => H)) (fun v1 h1 H => ?_)
  obtain ⟨z162, rfl, b163, rfl⟩ := H
  refine st_iast c273_151 hT159 (tf hT159 rfl rfl) ay_110 (by omega) (by omega) (by omega) (Ext_rf _) hS hF160 (by decide +kernel) (fun h164 hT165 hF166 hU167 => ?_)
  refine st_aload c273_152 rfl ?_
  refine st_getX (u := 132) c273_153 hT165 (tf hT165 rfl rfl) fd_8_94 rfl ?_
  refine st_iconst c273_156 ?_
  refine st_aload c273_158 rfl ?_
  refine st_getX (u := 73) c273_159 hT165 (tf hT165 rfl rfl) fd_8_12 rfl ?_
  refine st_aload c273_162 rfl ?_
  refine st_getX (u := 76) c273_163 hT165 (tf hT165 rfl rfl) fd_8_16 rfl ?_
  refine st_iload c273_166 rfl ?_
  refine st_iald c273_168 hT165 (tf hT165 rfl rfl) ay_54 (by omega) (fun e168 e169 => ?_)
  have q170 : aI h164 76 (aI h 110 p1) = aI h 76 (aI h 110 p1) := (AUp_aIne hU167 (by decide) (aI h 110 p1)).trans ((AUp_aIne hU161 (by decide) (aI h 110 p1)).trans ((AUp_aIne hU155 (by decide) (aI h 110 p1)).trans ((AUp_aIne hU149 (by decide) (aI h 110 p1)).trans ((AUp_aIne hU143 (by decide) (aI h 110 p1)).trans ((AUp_aIne hU41 (by decide) (aI h 110 p1)).trans ((AUp_aIne hU35 (by decide) (aI h 110 p1)).trans ((AUp_aIne hU25 (by decide) (aI h 110 p1)).trans ((AUp_aIne hU18 (by decide) (aI h 110 p1)).trans ((AUp_aIne hU11 (by decide) (aI h 110 p1)).trans (AUp_aIne hU7 (by decide) (aI h 110 p1)))))))))))
  refine st_iald c273_169 hT165 (tf hT165 rfl rfl) ay_51 (by omega) (fun e171 e172 => ?_)
  have q173 : aI h164 73 (aI h164 76 (aI h 110 p1)) = aI h 73 (aI h164 76 (aI h 110 p1)) := (AUp_aIne hU167 (by decide) (aI h164 76 (aI h 110 p1))).trans ((AUp_aIne hU161 (by decide) (aI h164 76 (aI h 110 p1))).trans ((AUp_aIne hU155 (by decide) (aI h164 76 (aI h 110 p1))).trans ((AUp_aIne hU149 (by decide) (aI h164 76 (aI h 110 p1))).trans ((AUp_aIne hU143 (by decide) (aI h164 76 (aI h 110 p1))).trans ((AUp_aIne hU41 (by decide) (aI h164 76 (aI h 110 p1))).trans ((AUp_aIne hU35 (by decide) (aI h164 76 (aI h 110 p1))).trans ((AUp_aIne hU25 (by decide) (aI h164 76 (aI h 110 p1))).trans ((AUp_aIne hU18 (by decide) (aI h164 76 (aI h 110 p1))).trans ((AUp_aIne hU11 (by decide) (aI h164 76 (aI h 110 p1))).trans (AUp_aIne hU7 (by decide) (aI h164 76 (aI h 110 p1))))))))))))
  refine st_iast c273_170 hT165 (tf hT165 rfl rfl) ay_110 (by omega) (by omega) (by omega) (Ext_rf _) hS hF166 (by decide +kernel) (fun h174 hT175 hF176 hU177 => ?_)
  refine st_aload c273_171 rfl ?_
  refine st_getX (u := 132) c273_172 hT175 (tf hT175 rfl rfl) fd_8_94 rfl ?_
  refine st_iconst c273_175 ?_
  refine st_aload c273_177 rfl ?_
  refine st_getX (u := 89) c273_178 hT175 (tf hT175 rfl rfl) fd_8_29 rfl ?_
  refine st_iload c273_181 rfl ?_
  refine st_iald c273_183 hT175 (tf hT175 rfl rfl) ay_67 (by omega) (fun e178 e179 => ?_)
  have q180 : aI h174 89 (aI h 110 p1) = aI h 89 (aI h 110 p1) := (AUp_aIne hU177 (by decide) (aI h 110 p1)).trans ((AUp_aIne hU167 (by decide) (aI h 110 p1)).trans ((AUp_aIne hU161 (by decide) (aI h 110 p1)).trans ((AUp_aIne hU155 (by decide) (aI h 110 p1)).trans ((AUp_aIne hU149 (by decide) (aI h 110 p1)).trans ((AUp_aIne hU143 (by decide) (aI h 110 p1)).trans ((AUp_aIne hU41 (by decide) (aI h 110 p1)).trans ((AUp_aIne hU35 (by decide) (aI h 110 p1)).trans ((AUp_aIne hU25 (by decide) (aI h 110 p1)).trans ((AUp_aIne hU18 (by decide) (aI h 110 p1)).trans ((AUp_aIne hU11 (by decide) (aI h 110 p1)).trans (AUp_aIne hU7 (by decide) (aI h 110 p1))))))))))))
  refine st_if_ne c273_184 (by omega) (fun k181 => ?_) (fun k182 => ?_)
  refine st_iconst c273_191 ?_
  refine st_iast c273_192 hT175 (tf hT175 rfl rfl) ay_110 (by omega) (by omega) (by omega) (Ext_rf _) hS hF176 (by decide +kernel) (fun h183 hT184 hF185 hU186 => ?_)
  refine st_aload c273_193 rfl ?_
  refine st_getX (u := 132) c273_194 hT184 (tf hT184 rfl rfl) fd_8_94 rfl ?_
  refine st_iconst c273_197 ?_
  refine st_aload c273_199 rfl ?_
  refine st_getX (u := 76) c273_200 hT184 (tf hT184 rfl rfl) fd_8_16 rfl ?_
  refine st_iload c273_203 rfl ?_
  refine st_iald c273_205 hT184 (tf hT184 rfl rfl) ay_54 (by omega) (fun e187 e188 => ?_)
  have q189 : aI h183 76 (aI h 110 p1) = aI h164 76 (aI h 110 p1) := (AUp_aIne hU186 (by decide) (aI h 110 p1)).trans (AUp_aIne hU177 (by decide) (aI h 110 p1))
  refine st_aload c273_206 rfl ?_
  refine st_getX (u := 104) c273_207 hT184 (tf hT184 rfl rfl) fd_8_50 rfl ?_
  refine st_iload c273_210 rfl ?_
  refine st_iald c273_211 hT184 (tf hT184 rfl rfl) ay_82 (by omega) (fun e190 e191 => ?_)
  have q192 : aI h183 104 p1 = aI h22 104 p1 := (AUp_aIne hU186 (by decide) p1).trans ((AUp_aIne hU177 (by decide) p1).trans ((AUp_aIne hU167 (by decide) p1).trans ((AUp_aIne hU161 (by decide) p1).trans ((AUp_aIne hU155 (by decide) p1).trans ((AUp_aIne hU149 (by decide) p1).trans ((AUp_aIne hU143 (by decide) p1).trans ((AUp_aIne hU41 (by decide) p1).trans (AUp_aIne hU35 (by decide) p1))))))))
  refine st_icmp_eq c273_212 (by omega) (by omega) (fun k193 => ?_) (fun k194 => ?_)
  refine st_iconst c273_219 ?_
  refine st_iast c273_220 hT184 (tf hT184 rfl rfl) ay_110 (by omega) (by omega) (by omega) (Ext_rf _) hS hF185 (by decide +kernel) (fun h195 hT196 hF197 hU198 => ?_)
  refine st_return c273_221 ?_
  exact hQ _ _ ⟨rfl, hT196, hF197⟩
  refine st_iconst c273_215 ?_
  refine st_goto c273_216 ?_
  refine st_iast c273_220 hT184 (tf hT184 rfl rfl) ay_110 (by omega) (by omega) (by omega) (Ext_rf _) hS hF185 (by decide +kernel) (fun h199 hT200 hF201 hU202 => ?_)
  refine st_return c273_221 ?_
  exact hQ _ _ ⟨rfl, hT200, hF201⟩
  refine st_iconst c273_187 ?_
  refine st_goto c273_188 ?_
  refine st_iast c273_192 hT175 (tf hT175 rfl rfl) ay_110 (by omega) (by omega) (by omega) (Ext_rf _) hS hF176 (by decide +kernel) (fun h203 hT204 hF205 hU206 => ?_)
  refine st_aload c273_193 rfl ?_
  refine st_getX (u := 132) c273_194 hT204 (tf hT204 rfl rfl) fd_8_94 rfl ?_
  refine st_iconst c273_197 ?_
  refine st_aload c273_199 rfl ?_
  refine st_getX (u := 76) c273_200 hT204 (tf hT204 rfl rfl) fd_8_16 rfl ?_
  refine st_iload c273_203 rfl ?_
  refine st_iald c273_205 hT204 (tf hT204 rfl rfl) ay_54 (by omega) (fun e207 e208 => ?_)
  have q209 : aI h203 76 (aI h 110 p1) = aI h164 76 (aI h 110 p1) := (AUp_aIne hU206 (by decide) (aI h 110 p1)).trans (AUp_aIne hU177 (by decide) (aI h 110 p1))
  refine st_aload c273_206 rfl ?_
  refine st_getX (u := 104) c273_207 hT204 (tf hT204 rfl rfl) fd_8_50 rfl ?_
  refine st_iload c273_210 rfl ?_
  refine st_iald c273_211 hT204 (tf hT204 rfl rfl) ay_82 (by omega) (fun e210 e211 => ?_)
  have q212 : aI h203 104 p1 = aI h22 104 p1 := (AUp_aIne hU206 (by decide) p1).trans ((AUp_aIne hU177 (by decide) p1).trans ((AUp_aIne hU167 (by decide) p1).trans ((AUp_aIne hU161 (by decide) p1).trans ((AUp_aIne hU155 (by decide) p1).trans ((AUp_aIne hU149 (by decide) p1).trans ((AUp_aIne hU143 (by decide) p1).trans ((AUp_aIne hU41 (by decide) p1).trans (AUp_aIne hU35 (by decide) p1))))))))
  refine st_icmp_eq c273_212 (by omega) (by omega) (fun k213 => ?_) (fun k214 => ?_)
  refine st_iconst c273_219 ?_
  refine st_iast c273_220 hT204 (tf hT204 rfl rfl) ay_110 (by omega) (by omega) (by omega) (Ext_rf _) hS hF205 (by decide +kernel) (fun h215 hT216 hF217 hU218 => ?_)
  refine st_return c273_221 ?_
  exact hQ _ _ ⟨rfl, hT216, hF217⟩
  refine st_iconst c273_215 ?_
  refine st_goto c273_216 ?_
  refine st_iast c273_220 hT204 (tf hT204 rfl rfl) ay_110 (by omega) (by omega) (by omega) (Ext_rf _) hS hF205 (by decide +kernel) (fun h219 hT220 hF221 hU222 => ?_)
  refine st_return c273_221 ?_
  exact hQ _ _ ⟨rfl, hT220, hF221⟩
set_option maxHeartbeats 0 in
theorem K278 {Ln : Nat} {xs : Nat → Int32} {τ : List Nat} {h : List mE} {E : EP} (hT : TH E τ h) (p1 : Int) (hp1 : 0 ≤ p1 ∧ p1 ≤ 99) (p2 : Int) (hp2 : (-2147483648) ≤ p2 ∧ p2 ≤ 2147483647) (pre0 : I3 h) (d : Nat) (hd : 0 ≤ d) (Q : Option Value → List mE → Prop) (hQ : ∀ v h', ((v = some (vI 0) ∧ h = h') ∨ (v = some (vI 1) ∧ h = h')) → Q v h') : MR (mex Ln xs) d 278 0 [some (.ref 64), some (vI p1), some (vI p2)] [] h Q := by
  refine st_iload c278_0 rfl ?_
  refine st_if_ne c278_1 (by omega) (fun k1 => ?_) (fun k2 => ?_)
  refine st_aload c278_30 rfl ?_
  refine st_getX (u := 109) c278_31 hT (tf hT rfl rfl) fd_8_55 rfl ?_
  refine st_iload c278_34 rfl ?_
  refine st_iald c278_35 hT (tf hT rfl rfl) ay_87 (by omega) (fun e3 e4 => ?_)
  refine st_iconst c278_36 ?_
  refine st_icmp_ne c278_37 (by omega) (by omega) (fun k5 => ?_) (fun k6 => ?_)
  refine st_iconst c278_59 ?_
  refine st_zreturn c278_60 (by omega) ?_
  exact hQ _ _ (Or.inl ⟨rfl, rfl⟩)
  refine st_aload c278_40 rfl ?_
  refine st_getX (u := 87) c278_41 hT (tf hT rfl rfl) fd_8_27 rfl ?_
  refine st_aload c278_44 rfl ?_
  refine st_getX (u := 110) c278_45 hT (tf hT rfl rfl) fd_8_56 rfl ?_
  refine st_iload c278_48 rfl ?_
  refine st_iald c278_49 hT (tf hT rfl rfl) ay_88 (by omega) (fun e7 e8 => ?_)
  have q9 := (pre0) p1 (by omega) (by omega)
  refine st_iald c278_50 hT (tf hT rfl rfl) ay_65 (by omega) (fun e10 e11 => ?_)
  refine st_iload c278_51 rfl ?_
  refine st_icmp_ne c278_52 (by omega) (by omega) (fun k12 => ?_) (fun k13 => ?_)
  refine st_iconst c278_59 ?_
  refine st_zreturn c278_60 (by omega) ?_
  exact hQ _ _ (Or.inl ⟨rfl, rfl⟩)
  refine st_iconst c278_55 ?_
  refine st_goto c278_56 ?_
  refine st_zreturn c278_60 (by omega) ?_
  exact hQ _ _ (Or.inr ⟨rfl, rfl⟩)
  refine st_aload c278_4 rfl ?_
  refine st_getX (u := 109) c278_5 hT (tf hT rfl rfl) fd_8_55 rfl ?_
  refine st_iload c278_8 rfl ?_
  refine st_iald c278_9 hT (tf hT rfl rfl) ay_87 (by omega) (fun e14 e15 => ?_)
  refine st_iconst c278_10 ?_
  refine st_icmp_eq c278_11 (by omega) (by omega) (fun k16 => ?_) (fun k17 => ?_)
  refine st_iconst c278_24 ?_
  refine st_goto c278_25 ?_
  refine st_zreturn c278_29 (by omega) ?_
  exact hQ _ _ (Or.inr ⟨rfl, rfl⟩)
  refine st_aload c278_14 rfl ?_
  refine st_getX (u := 109) c278_15 hT (tf hT rfl rfl) fd_8_55 rfl ?_
  refine st_iload c278_18 rfl ?_
  refine st_iald c278_19 hT (tf hT rfl rfl) ay_87 (by omega) (fun e18 e19 => ?_)
  refine st_iconst c278_20 ?_
  refine st_icmp_ne c278_21 (by omega) (by omega) (fun k20 => ?_) (fun k21 => ?_)
  refine st_iconst c278_28 ?_
  refine st_zreturn c278_29 (by omega) ?_
  exact hQ _ _ (Or.inl ⟨rfl, rfl⟩)
  refine st_iconst c278_24 ?_
  refine st_goto c278_25 ?_
  refine st_zreturn c278_29 (by omega) ?_
  exact hQ _ _ (Or.inr ⟨rfl, rfl⟩)
def W279 : List (Nat × Nat) := [(92, 0)]
set_option maxHeartbeats 0 in
theorem K279 {Ln : Nat} {xs : Nat → Int32} {τ : List Nat} {h : List mE} {E : EP} (hT : TH E τ h) (hS : Stb E W279) (p1 : Int) (hp1 : (-2147483648) ≤ p1 ∧ p1 ≤ 2147483647) (p2 : Int) (hp2 : (-2147483648) ≤ p2 ∧ p2 ≤ 2147483647) (p3 : Int) (hp3 : (-2147483648) ≤ p3 ∧ p3 ≤ 2147483647) (pre0 : I3 h) (d : Nat) (hd : 2 ≤ d) (Q : Option Value → List mE → Prop) (hQ : ∀ v h', (∃ z : Int, v = some (vI z) ∧ ((-2) ≤ z ∧ z ≤ 1) ∧ TH E τ h' ∧ Fr τ W279 h h') → Q v h') : MR (mex Ln xs) d 279 0 [some (.ref 64), some (vI p1), some (vI p2), some (vI p3)] [] h Q := by
  have hF := Fr_rf τ W279 h
  refine st_aload c279_0 rfl ?_
  refine st_iload c279_1 rfl ?_
  have e1 := fI_bd (q := 64) hT (tf hT rfl rfl) fd_8_48
  refine st_callt (as := [vI p1]) c279_2 cm_216 hT (tf hT rfl rfl) fd_8_0 rfl rfl rfl rfl (by omega) (K216 hT p1 (by omega) (d - 1) (by omega) _ (fun v h0 H => H)) (fun v1 h1 H => ?_)
  rcases H with ⟨rfl, pf2, rfl⟩ | ⟨rfl, pf3, pf4, rfl⟩
  refine st_if_eq c279_5 (by omega) (fun k5 => ?_) (fun k6 => False.elim (by omega))
  refine st_iconst c279_28 ?_
  refine st_ireturn c279_29 ?_
  exact hQ _ _ ⟨(-1), rfl, by omega, hT, hF⟩
  refine st_if_eq c279_5 (by omega) (fun k7 => False.elim (by omega)) (fun k8 => ?_)
  refine st_iload c279_8 rfl ?_
  refine st_iconst c279_9 ?_
  refine st_iconst c279_10 ?_
  refine st_calls (as := [vI p2, vI 0, vI 1]) c279_11 cm_180 rfl rfl rfl rfl (by omega) (K180 hT p2 (by omega) 0 (by omega) 1 (by omega) (d - 1) (by omega) _ (fun v h0 H => H)) (fun v1 h1 H => ?_)
  rcases H with ⟨rfl, pf9, rfl⟩ | ⟨rfl, pf10, pf11, rfl⟩
  refine st_if_eq c279_14 (by omega) (fun k12 => ?_) (fun k13 => False.elim (by omega))
  refine st_iconst c279_28 ?_
  refine st_ireturn c279_29 ?_
  exact hQ _ _ ⟨(-1), rfl, by omega, hT, hF⟩
  refine st_if_eq c279_14 (by omega) (fun k14 => False.elim (by omega)) (fun k15 => ?_)
  refine st_iload c279_17 rfl ?_
  refine st_iconst c279_18 ?_
  refine st_iconst c279_19 ?_
  refine st_calls (as := [vI p3, vI 0, vI 65535]) c279_22 cm_180 rfl rfl rfl rfl (by omega) (K180 hT p3 (by omega) 0 (by omega) 65535 (by omega) (d - 1) (by omega) _ (fun v h0 H => H)) (fun v1 h1 H => ?_)
  rcases H with ⟨rfl, pf16, rfl⟩ | ⟨rfl, pf17, pf18, rfl⟩
  refine st_if_ne c279_25 (by omega) (fun k19 => False.elim (by omega)) (fun k20 => ?_)
  refine st_iconst c279_28 ?_
  refine st_ireturn c279_29 ?_
  exact hQ _ _ ⟨(-1), rfl, by omega, hT, hF⟩
  refine st_if_ne c279_25 (by omega) (fun k21 => ?_) (fun k22 => False.elim (by omega))
  refine st_aload c279_30 rfl ?_
  refine st_iload c279_31 rfl ?_
  refine st_iload c279_32 rfl ?_
  refine st_callt (as := [vI p1, vI p2]) c279_33 cm_278 hT (tf hT rfl rfl) fd_8_0 rfl rfl rfl rfl (by omega) (K278 hT p1 (by omega) p2 (by omega) pre0 (d - 1) (by omega) _ (fun v h0 H => H)) (fun v1 h1 H => ?_)
  rcases H with ⟨rfl, rfl⟩ | ⟨rfl, rfl⟩
  refine st_if_eq c279_36 (by omega) (fun k23 => ?_) (fun k24 => False.elim (by omega))
  refine st_iconst c279_52 ?_
  refine st_ireturn c279_54 ?_
  exact hQ _ _ ⟨(-2), rfl, by omega, hT, hF⟩
  refine st_if_eq c279_36 (by omega) (fun k25 => False.elim (by omega)) (fun k26 => ?_)
  refine st_aload c279_39 rfl ?_
  refine st_getX (u := 114) c279_40 hT (tf hT rfl rfl) fd_8_60 rfl ?_
  refine st_iconst c279_43 ?_
  refine st_iload c279_44 rfl ?_
  refine st_imul c279_45 ?_
  refine st_iload c279_46 rfl ?_
  refine st_iadd c279_47 ?_
  refine st_iald c279_48 hT (tf hT rfl rfl) ay_92 (by omega) (fun e27 e28 => ?_)
  refine st_if_lt c279_49 (by omega) (fun k29 => ?_) (fun k30 => ?_)
  refine st_aload c279_55 rfl ?_
  refine st_getX (u := 114) c279_56 hT (tf hT rfl rfl) fd_8_60 rfl ?_
  refine st_iconst c279_59 ?_
  refine st_iload c279_60 rfl ?_
  refine st_imul c279_61 ?_
  refine st_iload c279_62 rfl ?_
  refine st_iadd c279_63 ?_
  refine st_iload c279_64 rfl ?_
  refine st_iast c279_65 hT (tf hT rfl rfl) ay_92 (by omega) (by omega) (by omega) (Ext_rf _) hS hF (by decide +kernel) (fun h31 hT32 hF33 hU34 => ?_)
  refine st_iconst c279_66 ?_
  refine st_ireturn c279_67 ?_
  exact hQ _ _ ⟨1, rfl, by omega, hT32, hF33⟩
  refine st_iconst c279_52 ?_
  refine st_ireturn c279_54 ?_
  exact hQ _ _ ⟨(-2), rfl, by omega, hT, hF⟩
def W280 : List (Nat × Nat) := [(93, 0)]
set_option maxHeartbeats 0 in
theorem K280 {Ln : Nat} {xs : Nat → Int32} {τ : List Nat} {h : List mE} {E : EP} (hT : TH E τ h) (hS : Stb E W280) (p1 : Int) (hp1 : (-2147483648) ≤ p1 ∧ p1 ≤ 2147483647) (p2 : Int) (hp2 : (-2147483648) ≤ p2 ∧ p2 ≤ 2147483647) (p3 : Int) (hp3 : (-2147483648) ≤ p3 ∧ p3 ≤ 2147483647) (pre0 : I3 h) (d : Nat) (hd : 2 ≤ d) (Q : Option Value → List mE → Prop) (hQ : ∀ v h', (∃ z : Int, v = some (vI z) ∧ ((-2) ≤ z ∧ z ≤ 1) ∧ TH E τ h' ∧ Fr τ W280 h h') → Q v h') : MR (mex Ln xs) d 280 0 [some (.ref 64), some (vI p1), some (vI p2), some (vI p3)] [] h Q := by
  have hF := Fr_rf τ W280 h
  refine st_aload c280_0 rfl ?_
  refine st_iload c280_1 rfl ?_
  have e1 := fI_bd (q := 64) hT (tf hT rfl rfl) fd_8_48
  refine st_callt (as := [vI p1]) c280_2 cm_216 hT (tf hT rfl rfl) fd_8_0 rfl rfl rfl rfl (by omega) (K216 hT p1 (by omega) (d - 1) (by omega) _ (fun v h0 H => H)) (fun v1 h1 H => ?_)
  rcases H with ⟨rfl, pf2, rfl⟩ | ⟨rfl, pf3, pf4, rfl⟩
  refine st_if_eq c280_5 (by omega) (fun k5 => ?_) (fun k6 => False.elim (by omega))
  refine st_iconst c280_28 ?_
  refine st_ireturn c280_29 ?_
  exact hQ _ _ ⟨(-1), rfl, by omega, hT, hF⟩
  refine st_if_eq c280_5 (by omega) (fun k7 => False.elim (by omega)) (fun k8 => ?_)
  refine st_iload c280_8 rfl ?_
  refine st_iconst c280_9 ?_
  refine st_iconst c280_10 ?_
  refine st_calls (as := [vI p2, vI 0, vI 1]) c280_11 cm_180 rfl rfl rfl rfl (by omega) (K180 hT p2 (by omega) 0 (by omega) 1 (by omega) (d - 1) (by omega) _ (fun v h0 H => H)) (fun v1 h1 H => ?_)
  rcases H with ⟨rfl, pf9, rfl⟩ | ⟨rfl, pf10, pf11, rfl⟩
  refine st_if_eq c280_14 (by omega) (fun k12 => ?_) (fun k13 => False.elim (by omega))
  refine st_iconst c280_28 ?_
  refine st_ireturn c280_29 ?_
  exact hQ _ _ ⟨(-1), rfl, by omega, hT, hF⟩
  refine st_if_eq c280_14 (by omega) (fun k14 => False.elim (by omega)) (fun k15 => ?_)
  refine st_iload c280_17 rfl ?_
  refine st_iconst c280_18 ?_
  refine st_iconst c280_19 ?_
  refine st_calls (as := [vI p3, vI 0, vI 999]) c280_22 cm_180 rfl rfl rfl rfl (by omega) (K180 hT p3 (by omega) 0 (by omega) 999 (by omega) (d - 1) (by omega) _ (fun v h0 H => H)) (fun v1 h1 H => ?_)
  rcases H with ⟨rfl, pf16, rfl⟩ | ⟨rfl, pf17, pf18, rfl⟩
  refine st_if_ne c280_25 (by omega) (fun k19 => False.elim (by omega)) (fun k20 => ?_)
  refine st_iconst c280_28 ?_
  refine st_ireturn c280_29 ?_
  exact hQ _ _ ⟨(-1), rfl, by omega, hT, hF⟩
  refine st_if_ne c280_25 (by omega) (fun k21 => ?_) (fun k22 => False.elim (by omega))
  refine st_aload c280_30 rfl ?_
  refine st_iload c280_31 rfl ?_
  refine st_iload c280_32 rfl ?_
  refine st_callt (as := [vI p1, vI p2]) c280_33 cm_278 hT (tf hT rfl rfl) fd_8_0 rfl rfl rfl rfl (by omega) (K278 hT p1 (by omega) p2 (by omega) pre0 (d - 1) (by omega) _ (fun v h0 H => H)) (fun v1 h1 H => ?_)
  rcases H with ⟨rfl, rfl⟩ | ⟨rfl, rfl⟩
  refine st_if_eq c280_36 (by omega) (fun k23 => ?_) (fun k24 => False.elim (by omega))
  refine st_iconst c280_52 ?_
  refine st_ireturn c280_54 ?_
  exact hQ _ _ ⟨(-2), rfl, by omega, hT, hF⟩
  refine st_if_eq c280_36 (by omega) (fun k25 => False.elim (by omega)) (fun k26 => ?_)
  refine st_aload c280_39 rfl ?_
  refine st_getX (u := 115) c280_40 hT (tf hT rfl rfl) fd_8_61 rfl ?_
  refine st_iconst c280_43 ?_
  refine st_iload c280_44 rfl ?_
  refine st_imul c280_45 ?_
  refine st_iload c280_46 rfl ?_
  refine st_iadd c280_47 ?_
  refine st_iald c280_48 hT (tf hT rfl rfl) ay_93 (by omega) (fun e27 e28 => ?_)
  refine st_if_lt c280_49 (by omega) (fun k29 => ?_) (fun k30 => ?_)
  refine st_aload c280_55 rfl ?_
  refine st_getX (u := 115) c280_56 hT (tf hT rfl rfl) fd_8_61 rfl ?_
  refine st_iconst c280_59 ?_
  refine st_iload c280_60 rfl ?_
  refine st_imul c280_61 ?_
  refine st_iload c280_62 rfl ?_
  refine st_iadd c280_63 ?_
  refine st_iload c280_64 rfl ?_
  refine st_iast c280_65 hT (tf hT rfl rfl) ay_93 (by omega) (by omega) (by omega) (Ext_rf _) hS hF (by decide +kernel) (fun h31 hT32 hF33 hU34 => ?_)
  refine st_iconst c280_66 ?_
  refine st_ireturn c280_67 ?_
  exact hQ _ _ ⟨1, rfl, by omega, hT32, hF33⟩
  refine st_iconst c280_52 ?_
  refine st_ireturn c280_54 ?_
  exact hQ _ _ ⟨(-2), rfl, by omega, hT, hF⟩
set_option maxHeartbeats 0 in
theorem K281 {Ln : Nat} {xs : Nat → Int32} {τ : List Nat} {h : List mE} {E : EP} (hT : TH E τ h) (p1 : Int) (hp1 : (-2147483648) ≤ p1 ∧ p1 ≤ 2147483647) (p2 : Int) (hp2 : (-2147483648) ≤ p2 ∧ p2 ≤ 2147483647) (d : Nat) (hd : 2 ≤ d) (Q : Option Value → List mE → Prop) (hQ : ∀ v h', (∃ z : Int, v = some (vI z) ∧ ((-2147483648) ≤ z ∧ z ≤ 2147483647) ∧ h = h') → Q v h') : MR (mex Ln xs) d 281 0 [some (.ref 64), some (vI p1), some (vI p2)] [] h Q := by
  refine st_aload c281_0 rfl ?_
  refine st_iload c281_1 rfl ?_
  have e1 := fI_bd (q := 64) hT (tf hT rfl rfl) fd_8_48
  refine st_callt (as := [vI p1]) c281_2 cm_216 hT (tf hT rfl rfl) fd_8_0 rfl rfl rfl rfl (by omega) (K216 hT p1 (by omega) (d - 1) (by omega) _ (fun v h0 H => H)) (fun v1 h1 H => ?_)
  rcases H with ⟨rfl, pf2, rfl⟩ | ⟨rfl, pf3, pf4, rfl⟩
  refine st_if_eq c281_5 (by omega) (fun k5 => ?_) (fun k6 => False.elim (by omega))
  refine st_iconst c281_17 ?_
  refine st_ireturn c281_18 ?_
  exact hQ _ _ ⟨(-1), rfl, by omega, rfl⟩
  refine st_if_eq c281_5 (by omega) (fun k7 => False.elim (by omega)) (fun k8 => ?_)
  refine st_iload c281_8 rfl ?_
  refine st_iconst c281_9 ?_
  refine st_iconst c281_10 ?_
  refine st_calls (as := [vI p2, vI 0, vI 2]) c281_11 cm_180 rfl rfl rfl rfl (by omega) (K180 hT p2 (by omega) 0 (by omega) 2 (by omega) (d - 1) (by omega) _ (fun v h0 H => H)) (fun v1 h1 H => ?_)
  rcases H with ⟨rfl, pf9, rfl⟩ | ⟨rfl, pf10, pf11, rfl⟩
  refine st_if_ne c281_14 (by omega) (fun k12 => False.elim (by omega)) (fun k13 => ?_)
  refine st_iconst c281_17 ?_
  refine st_ireturn c281_18 ?_
  exact hQ _ _ ⟨(-1), rfl, by omega, rfl⟩
  refine st_if_ne c281_14 (by omega) (fun k14 => ?_) (fun k15 => False.elim (by omega))
  refine st_iload c281_19 rfl ?_
  refine st_if_ne c281_20 (by omega) (fun k16 => ?_) (fun k17 => ?_)
  refine st_iload c281_31 rfl ?_
  refine st_iconst c281_32 ?_
  refine st_icmp_ne c281_33 (by omega) (by omega) (fun k18 => ?_) (fun k19 => ?_)
  refine st_aload c281_44 rfl ?_
  refine st_iload c281_45 rfl ?_
  refine st_callt (as := [vI p1]) c281_46 cm_272 hT (tf hT rfl rfl) fd_8_0 rfl rfl rfl rfl (by omega) (K272 hT p1 (by omega) (d - 1) (by omega) _ (fun v h0 H => H)) (fun v1 h1 H => ?_)
  obtain ⟨z20, rfl, b21, rfl⟩ := H
  refine st_ireturn c281_49 ?_
  exact hQ _ _ ⟨z20, rfl, by omega, rfl⟩
  refine st_aload c281_36 rfl ?_
  refine st_iload c281_37 rfl ?_
  refine st_callt (as := [vI p1]) c281_38 cm_271 hT (tf hT rfl rfl) fd_8_0 rfl rfl rfl rfl (by omega) (K271 hT p1 (by omega) (d - 1) (by omega) _ (fun v h0 H => H)) (fun v1 h1 H => ?_)
  obtain ⟨z22, rfl, b23, rfl⟩ := H
  refine st_goto c281_41 ?_
  refine st_ireturn c281_49 ?_
  exact hQ _ _ ⟨z22, rfl, by omega, rfl⟩
  refine st_aload c281_23 rfl ?_
  refine st_iload c281_24 rfl ?_
  refine st_callt (as := [vI p1]) c281_25 cm_270 hT (tf hT rfl rfl) fd_8_0 rfl rfl rfl rfl (by omega) (K270 hT p1 (by omega) (d - 1) (by omega) _ (fun v h0 H => H)) (fun v1 h1 H => ?_)
  obtain ⟨z24, rfl, b25, rfl⟩ := H
  refine st_goto c281_28 ?_
  refine st_ireturn c281_49 ?_
  exact hQ _ _ ⟨z24, rfl, by omega, rfl⟩
set_option maxHeartbeats 0 in
theorem K283 {Ln : Nat} {xs : Nat → Int32} {τ : List Nat} {h : List mE} {E : EP} (hT : TH E τ h) (p1 : Int) (hp1 : (-2147483648) ≤ p1 ∧ p1 ≤ 2147483647) (p2 : Int) (hp2 : (-2147483648) ≤ p2 ∧ p2 ≤ 2147483647) (p3 : Int) (hp3 : (-2147483648) ≤ p3 ∧ p3 ≤ 2147483647) (d : Nat) (hd : 2 ≤ d) (Q : Option Value → List mE → Prop) (hQ : ∀ v h', (∃ z : Int, v = some (vI z) ∧ ((-2147483648) ≤ z ∧ z ≤ 2147483647) ∧ (PChR h p1 p2 p3 z) ∧ h = h') → Q v h') : MR (mex Ln xs) d 283 0 [some (.ref 64), some (vI p1), some (vI p2), some (vI p3)] [] h Q := by
  refine st_aload c283_0 rfl ?_
  refine st_iload c283_1 rfl ?_
  have e1 := fI_bd (q := 64) hT (tf hT rfl rfl) fd_8_15
  refine st_callt (as := [vI p1]) c283_2 cm_191 hT (tf hT rfl rfl) fd_8_0 rfl rfl rfl rfl (by omega) (K191 hT p1 (by omega) (d - 1) (by omega) _ (fun v h0 H => H)) (fun v1 h1 H => ?_)
  rcases H with ⟨rfl, pf2, rfl⟩ | ⟨rfl, pf3, pf4, rfl⟩
  refine st_if_eq c283_5 (by omega) (fun k5 => ?_) (fun k6 => False.elim (by omega))
  refine st_iconst c283_33 ?_
  refine st_ireturn c283_34 ?_
  exact hQ _ _ ⟨(-1), rfl, by omega, Or.inl ⟨by omega, by omega⟩, rfl⟩
  refine st_if_eq c283_5 (by omega) (fun k7 => False.elim (by omega)) (fun k8 => ?_)
  refine st_iload c283_8 rfl ?_
  refine st_iconst c283_9 ?_
  refine st_aload c283_10 rfl ?_
  refine st_getX (u := 89) c283_11 hT (tf hT rfl rfl) fd_8_29 rfl ?_
  refine st_iload c283_14 rfl ?_
  refine st_iald c283_15 hT (tf hT rfl rfl) ay_67 (by omega) (fun e9 e10 => ?_)
  refine st_iconst c283_16 ?_
  refine st_isub c283_17 ?_
  refine st_calls (as := [vI p2, vI 0, vI ((aI h 89 p1) - 1)]) c283_18 cm_180 rfl rfl rfl rfl (by omega) (K180 hT p2 (by omega) 0 (by omega) ((aI h 89 p1) - 1) (by omega) (d - 1) (by omega) _ (fun v h0 H => H)) (fun v1 h1 H => ?_)
  rcases H with ⟨rfl, pf11, rfl⟩ | ⟨rfl, pf12, pf13, rfl⟩
  refine st_if_eq c283_21 (by omega) (fun k14 => ?_) (fun k15 => False.elim (by omega))
  refine st_iconst c283_33 ?_
  refine st_ireturn c283_34 ?_
  exact hQ _ _ ⟨(-1), rfl, by omega, Or.inl ⟨by omega, by omega⟩, rfl⟩
  refine st_if_eq c283_21 (by omega) (fun k16 => False.elim (by omega)) (fun k17 => ?_)
  refine st_iload c283_24 rfl ?_
  refine st_iconst c283_25 ?_
  refine st_iconst c283_26 ?_
  refine st_calls (as := [vI p3, vI 0, vI 1]) c283_27 cm_180 rfl rfl rfl rfl (by omega) (K180 hT p3 (by omega) 0 (by omega) 1 (by omega) (d - 1) (by omega) _ (fun v h0 H => H)) (fun v1 h1 H => ?_)
  rcases H with ⟨rfl, pf18, rfl⟩ | ⟨rfl, pf19, pf20, rfl⟩
  refine st_if_ne c283_30 (by omega) (fun k21 => False.elim (by omega)) (fun k22 => ?_)
  refine st_iconst c283_33 ?_
  refine st_ireturn c283_34 ?_
  exact hQ _ _ ⟨(-1), rfl, by omega, Or.inl ⟨by omega, by omega⟩, rfl⟩
  refine st_if_ne c283_30 (by omega) (fun k23 => ?_) (fun k24 => False.elim (by omega))
  refine st_iload c283_35 rfl ?_
  refine st_if_ne c283_36 (by omega) (fun k25 => ?_) (fun k26 => ?_)
  refine st_iload c283_50 rfl ?_
  refine st_iconst c283_51 ?_
  refine st_iadd c283_52 ?_
  refine st_aload c283_53 rfl ?_
  refine st_getX (u := 89) c283_54 hT (tf hT rfl rfl) fd_8_29 rfl ?_
  refine st_iload c283_57 rfl ?_
  refine st_iald c283_58 hT (tf hT rfl rfl) ay_67 (by omega) (fun e27 e28 => ?_)
  refine st_icmp_ge c283_59 (by omega) (by omega) (fun k29 => ?_) (fun k30 => ?_)
  refine st_iconst c283_91 ?_
  refine st_ireturn c283_92 ?_
  exact hQ _ _ ⟨0, rfl, by omega, Or.inr ⟨by omega, by omega, by omega, by omega, by omega, by omega, by omega⟩, rfl⟩
  refine st_aload c283_62 rfl ?_
  refine st_getX (u := 91) c283_63 hT (tf hT rfl rfl) fd_8_31 rfl ?_
  refine st_iconst c283_66 ?_
  refine st_iload c283_67 rfl ?_
  refine st_imul c283_68 ?_
  refine st_iload c283_69 rfl ?_
  refine st_iadd c283_70 ?_
  refine st_iald c283_71 hT (tf hT rfl rfl) ay_69 (by omega) (fun e31 e32 => ?_)
  refine st_aload c283_72 rfl ?_
  refine st_getX (u := 91) c283_73 hT (tf hT rfl rfl) fd_8_31 rfl ?_
  refine st_iconst c283_76 ?_
  refine st_iload c283_77 rfl ?_
  refine st_imul c283_78 ?_
  refine st_iload c283_79 rfl ?_
  refine st_iadd c283_80 ?_
  refine st_iconst c283_81 ?_
  refine st_iadd c283_82 ?_
  refine st_iald c283_83 hT (tf hT rfl rfl) ay_69 (by omega) (fun e33 e34 => ?_)
  refine st_icmp_ge c283_84 (by omega) (by omega) (fun k35 => ?_) (fun k36 => ?_)
  refine st_iconst c283_91 ?_
  refine st_ireturn c283_92 ?_
  exact hQ _ _ ⟨0, rfl, by omega, Or.inr ⟨by omega, by omega, by omega, by omega, by omega, by omega, by omega⟩, rfl⟩
  refine st_iconst c283_87 ?_
  refine st_goto c283_88 ?_
  refine st_ireturn c283_92 ?_
  exact hQ _ _ ⟨1, rfl, by omega, Or.inr ⟨by omega, by omega, by omega, by omega, by omega, by omega, by omega⟩, rfl⟩
  refine st_aload c283_39 rfl ?_
  refine st_getX (u := 90) c283_40 hT (tf hT rfl rfl) fd_8_30 rfl ?_
  refine st_iconst c283_43 ?_
  refine st_iload c283_44 rfl ?_
  refine st_imul c283_45 ?_
  refine st_iload c283_46 rfl ?_
  refine st_iadd c283_47 ?_
  refine st_iald c283_48 hT (tf hT rfl rfl) ay_68 (by omega) (fun e37 e38 => ?_)
  refine st_ireturn c283_49 ?_
  exact hQ _ _ ⟨aI h 90 ((5 * p1) + p2), rfl, by omega, Or.inr ⟨by omega, by omega, by omega, by omega, by omega, by omega, by omega⟩, rfl⟩
set_option maxHeartbeats 0 in
theorem K284 {Ln : Nat} {xs : Nat → Int32} {τ : List Nat} {h : List mE} {E : EP} (hT : TH E τ h) (p1 : Int) (hp1 : (-2147483648) ≤ p1 ∧ p1 ≤ 2147483647) (p2 : Int) (hp2 : (-2147483648) ≤ p2 ∧ p2 ≤ 2147483647) (d : Nat) (hd : 2 ≤ d) (Q : Option Value → List mE → Prop) (hQ : ∀ v h', (∃ z : Int, v = some (vI z) ∧ ((-2147483648) ≤ z ∧ z ≤ 2147483647) ∧ (PRkR h p1 p2 z) ∧ h = h') → Q v h') : MR (mex Ln xs) d 284 0 [some (.ref 64), some (vI p1), some (vI p2)] [] h Q := by
  refine st_aload c284_0 rfl ?_
  refine st_iload c284_1 rfl ?_
  have e1 := fI_bd (q := 64) hT (tf hT rfl rfl) fd_8_15
  refine st_callt (as := [vI p1]) c284_2 cm_191 hT (tf hT rfl rfl) fd_8_0 rfl rfl rfl rfl (by omega) (K191 hT p1 (by omega) (d - 1) (by omega) _ (fun v h0 H => H)) (fun v1 h1 H => ?_)
  rcases H with ⟨rfl, pf2, rfl⟩ | ⟨rfl, pf3, pf4, rfl⟩
  refine st_if_eq c284_5 (by omega) (fun k5 => ?_) (fun k6 => False.elim (by omega))
  refine st_iconst c284_46 ?_
  refine st_ireturn c284_47 ?_
  exact hQ _ _ ⟨(-1), rfl, by omega, Or.inl ⟨by omega, by omega⟩, rfl⟩
  refine st_if_eq c284_5 (by omega) (fun k7 => False.elim (by omega)) (fun k8 => ?_)
  refine st_iload c284_8 rfl ?_
  refine st_iconst c284_9 ?_
  refine st_aload c284_10 rfl ?_
  refine st_getX (u := 89) c284_11 hT (tf hT rfl rfl) fd_8_29 rfl ?_
  refine st_iload c284_14 rfl ?_
  refine st_iald c284_15 hT (tf hT rfl rfl) ay_67 (by omega) (fun e9 e10 => ?_)
  refine st_iconst c284_16 ?_
  refine st_isub c284_17 ?_
  refine st_calls (as := [vI p2, vI 0, vI ((aI h 89 p1) - 1)]) c284_18 cm_180 rfl rfl rfl rfl (by omega) (K180 hT p2 (by omega) 0 (by omega) ((aI h 89 p1) - 1) (by omega) (d - 1) (by omega) _ (fun v h0 H => H)) (fun v1 h1 H => ?_)
  rcases H with ⟨rfl, pf11, rfl⟩ | ⟨rfl, pf12, pf13, rfl⟩
  refine st_if_eq c284_21 (by omega) (fun k14 => ?_) (fun k15 => False.elim (by omega))
  refine st_iconst c284_46 ?_
  refine st_ireturn c284_47 ?_
  exact hQ _ _ ⟨(-1), rfl, by omega, Or.inl ⟨by omega, by omega⟩, rfl⟩
  refine st_if_eq c284_21 (by omega) (fun k16 => False.elim (by omega)) (fun k17 => ?_)
  refine st_aload c284_24 rfl ?_
  refine st_getX (u := 90) c284_25 hT (tf hT rfl rfl) fd_8_30 rfl ?_
  refine st_iconst c284_28 ?_
  refine st_iload c284_29 rfl ?_
  refine st_imul c284_30 ?_
  refine st_aload c284_31 rfl ?_
  refine st_getX (u := 89) c284_32 hT (tf hT rfl rfl) fd_8_29 rfl ?_
  refine st_iload c284_35 rfl ?_
  refine st_iald c284_36 hT (tf hT rfl rfl) ay_67 (by omega) (fun e18 e19 => ?_)
  refine st_iadd c284_37 ?_
  refine st_iconst c284_38 ?_
  refine st_isub c284_39 ?_
  refine st_iload c284_40 rfl ?_
  refine st_isub c284_41 ?_
  refine st_iald c284_42 hT (tf hT rfl rfl) ay_68 (by omega) (fun e20 e21 => ?_)
  refine st_goto c284_43 ?_
  refine st_ireturn c284_47 ?_
  exact hQ _ _ ⟨aI h 90 ((((5 * p1) + (aI h 89 p1)) - 1) - p2), rfl, by omega, Or.inr ⟨by omega, by omega, by omega, by omega, ((((5 * p1) + (aI h 89 p1)) - 1) - p2), by omega, rfl⟩, rfl⟩
set_option maxHeartbeats 0 in
theorem K285 {Ln : Nat} {xs : Nat → Int32} {τ : List Nat} {h : List mE} {E : EP} (hT : TH E τ h) (p1 : Int) (hp1 : (-2147483648) ≤ p1 ∧ p1 ≤ 2147483647) (p2 : Int) (hp2 : (-2147483648) ≤ p2 ∧ p2 ≤ 2147483647) (d : Nat) (hd : 1 ≤ d) (Q : Option Value → List mE → Prop) (hQ : ∀ v h', (∃ z : Int, v = some (vI z) ∧ ((-2147483648) ≤ z ∧ z ≤ 2147483647) ∧ h = h') → Q v h') : MR (mex Ln xs) d 285 0 [some (.ref 64), some (vI p1), some (vI p2), none, none] [] h Q := by
  refine st_iconst c285_0 ?_
  refine st_istore (L' := [some (.ref 64), some (vI p1), some (vI p2), some (vI 0), none]) c285_1 rfl rfl ?_
  refine st_iconst c285_2 ?_
  refine st_istore (L' := [some (.ref 64), some (vI p1), some (vI p2), some (vI 0), some (vI 0)]) c285_3 rfl rfl ?_
  have lp137 : ∀ (n138 : Nat) (z135 : Int) (z136 : Int), (90 : Int) - z136 < (n138 : Int) → (-2147483648) ≤ z135 ∧ z135 ≤ 2147483647 → 0 ≤ z136 ∧ z136 ≤ 90 → MR (mex Ln xs) d 285 5 [some (.ref 64), some (vI p1), some (vI p2), some (vI z135), some (vI z136)] [] h Q := by
    intro n138
    induction n138 with
    | zero =>
      intro z135 z136 hm140 b141 b142
      exfalso; omega
    | succ n138 ih139 =>
      intro z135 z136 hm140 b141 b142
      refine st_iload c285_5 rfl ?_
      refine st_aload c285_7 rfl ?_
      refine st_getI c285_8 hT (tf hT rfl rfl) fd_8_15 (fun e143 e144 => ?_)
      refine st_icmp_ge c285_11 (by omega) (by omega) (fun k145 => ?_) (fun k146 => ?_)
      refine st_iload c285_59 rfl ?_
      refine st_ireturn c285_60 ?_
      exact hQ _ _ ⟨z135, rfl, by omega, rfl⟩
      refine st_iload c285_14 rfl ?_
      refine st_aload c285_15 rfl ?_
      refine st_getX (u := 76) c285_16 hT (tf hT rfl rfl) fd_8_16 rfl ?_
      refine st_iload c285_19 rfl ?_
      refine st_iald c285_21 hT (tf hT rfl rfl) ay_54 (by omega) (fun e147 e148 => ?_)
      refine st_iload c285_22 rfl ?_
      refine st_icmp_ne c285_23 (by omega) (by omega) (fun k149 => ?_) (fun k150 => ?_)
      refine st_iconst c285_50 ?_
      refine st_iadd c285_51 ?_
      refine st_istore (L' := [some (.ref 64), some (vI p1), some (vI p2), some (vI (z135 + 0)), some (vI z136)]) c285_52 rfl rfl ?_
      refine st_iinc (L' := [some (.ref 64), some (vI p1), some (vI p2), some (vI (z135 + 0)), some (vI (z136 + 1))]) c285_53 rfl rfl rfl ?_
      refine st_goto c285_56 ?_
      exact ih139 (z135 + 0) (z136 + 1) (by omega) (by omega) (by omega)
      refine st_aload c285_26 rfl ?_
      refine st_getX (u := 79) c285_27 hT (tf hT rfl rfl) fd_8_19 rfl ?_
      refine st_iload c285_30 rfl ?_
      refine st_iald c285_32 hT (tf hT rfl rfl) ay_57 (by omega) (fun e151 e152 => ?_)
      refine st_iload c285_33 rfl ?_
      refine st_icmp_ne c285_34 (by omega) (by omega) (fun k153 => ?_) (fun k154 => ?_)
      refine st_iconst c285_50 ?_
      refine st_iadd c285_51 ?_
      refine st_istore (L' := [some (.ref 64), some (vI p1), some (vI p2), some (vI (z135 + 0)), some (vI z136)]) c285_52 rfl rfl ?_
      refine st_iinc (L' := [some (.ref 64), some (vI p1), some (vI p2), some (vI (z135 + 0)), some (vI (z136 + 1))]) c285_53 rfl rfl rfl ?_
      refine st_goto c285_56 ?_
      exact ih139 (z135 + 0) (z136 + 1) (by omega) (by omega) (by omega)
      refine st_aload c285_37 rfl ?_
      refine st_iload c285_38 rfl ?_
      refine st_callt (as := [vI z136]) c285_40 cm_204 hT (tf hT rfl rfl) fd_8_0 rfl rfl rfl rfl (by omega) (K204 hT z136 (by omega) (d - 1) (by omega) _ (fun v h0 H => H)) (fun v1 h1 H => ?_)
      rcases H with ⟨rfl, rfl⟩ | ⟨rfl, rfl⟩
      refine st_if_eq c285_43 (by omega) (fun k155 => ?_) (fun k156 => False.elim (by omega))
      refine st_iconst c285_50 ?_
      refine st_iadd c285_51 ?_
      refine st_istore (L' := [some (.ref 64), some (vI p1), some (vI p2), some (vI (z135 + 0)), some (vI z136)]) c285_52 rfl rfl ?_
      refine st_iinc (L' := [some (.ref 64), some (vI p1), some (vI p2), some (vI (z135 + 0)), some (vI (z136 + 1))]) c285_53 rfl rfl rfl ?_
      refine st_goto c285_56 ?_
      exact ih139 (z135 + 0) (z136 + 1) (by omega) (by omega) (by omega)
      refine st_if_eq c285_43 (by omega) (fun k157 => False.elim (by omega)) (fun k158 => ?_)
      refine st_iconst c285_46 ?_
      refine st_goto c285_47 ?_
      refine st_iadd c285_51 ?_
      refine MR_wrap (fun w159 e160 e161 e162 => ?_)
      refine st_istore (L' := [some (.ref 64), some (vI p1), some (vI p2), some (vI w159), some (vI z136)]) c285_52 rfl rfl ?_
      refine st_iinc (L' := [some (.ref 64), some (vI p1), some (vI p2), some (vI w159), some (vI (z136 + 1))]) c285_53 rfl rfl rfl ?_
      refine st_goto c285_56 ?_
      exact ih139 w159 (z136 + 1) (by omega) (by omega) (by omega)
  exact lp137 ((((90 : Int) - 0 : Int) + 1).toNat) 0 0 (by omega) (by omega) (by omega)
set_option maxHeartbeats 0 in
theorem K286 {Ln : Nat} {xs : Nat → Int32} {τ : List Nat} {h : List mE} {E : EP} (hT : TH E τ h) (p1 : Int) (hp1 : (-2147483648) ≤ p1 ∧ p1 ≤ 2147483647) (p2 : Int) (hp2 : (-2147483648) ≤ p2 ∧ p2 ≤ 2147483647) (d : Nat) (hd : 1 ≤ d) (Q : Option Value → List mE → Prop) (hQ : ∀ v h', (∃ z : Int, v = some (vI z) ∧ ((-2147483648) ≤ z ∧ z ≤ 2147483647) ∧ h = h') → Q v h') : MR (mex Ln xs) d 286 0 [some (.ref 64), some (vI p1), some (vI p2), none, none] [] h Q := by
  refine st_iconst c286_0 ?_
  refine st_istore (L' := [some (.ref 64), some (vI p1), some (vI p2), some (vI 0), none]) c286_1 rfl rfl ?_
  refine st_iconst c286_2 ?_
  refine st_istore (L' := [some (.ref 64), some (vI p1), some (vI p2), some (vI 0), some (vI 0)]) c286_3 rfl rfl ?_
  have lp207 : ∀ (n208 : Nat) (z205 : Int) (z206 : Int), (100 : Int) - z206 < (n208 : Int) → (-2147483648) ≤ z205 ∧ z205 ≤ 2147483647 → 0 ≤ z206 ∧ z206 ≤ 100 → MR (mex Ln xs) d 286 5 [some (.ref 64), some (vI p1), some (vI p2), some (vI z205), some (vI z206)] [] h Q := by
    intro n208
    induction n208 with
    | zero =>
      intro z205 z206 hm210 b211 b212
      exfalso; omega
    | succ n208 ih209 =>
      intro z205 z206 hm210 b211 b212
      refine st_iload c286_5 rfl ?_
      refine st_aload c286_7 rfl ?_
      refine st_getI c286_8 hT (tf hT rfl rfl) fd_8_48 (fun e213 e214 => ?_)
      refine st_icmp_ge c286_11 (by omega) (by omega) (fun k215 => ?_) (fun k216 => ?_)
      refine st_iload c286_67 rfl ?_
      refine st_ireturn c286_68 ?_
      exact hQ _ _ ⟨z205, rfl, by omega, rfl⟩
      refine st_iload c286_14 rfl ?_
      refine st_aload c286_15 rfl ?_
      refine st_getX (u := 104) c286_16 hT (tf hT rfl rfl) fd_8_50 rfl ?_
      refine st_iload c286_19 rfl ?_
      refine st_iald c286_21 hT (tf hT rfl rfl) ay_82 (by omega) (fun e217 e218 => ?_)
      refine st_iload c286_22 rfl ?_
      refine st_icmp_ne c286_23 (by omega) (by omega) (fun k219 => ?_) (fun k220 => ?_)
      refine st_iconst c286_58 ?_
      refine st_iadd c286_59 ?_
      refine st_istore (L' := [some (.ref 64), some (vI p1), some (vI p2), some (vI (z205 + 0)), some (vI z206)]) c286_60 rfl rfl ?_
      refine st_iinc (L' := [some (.ref 64), some (vI p1), some (vI p2), some (vI (z205 + 0)), some (vI (z206 + 1))]) c286_61 rfl rfl rfl ?_
      refine st_goto c286_64 ?_
      exact ih209 (z205 + 0) (z206 + 1) (by omega) (by omega) (by omega)
      refine st_aload c286_26 rfl ?_
      refine st_iload c286_27 rfl ?_
      refine st_callt (as := [vI z206]) c286_29 cm_219 hT (tf hT rfl rfl) fd_8_0 rfl rfl rfl rfl (by omega) (K219 hT z206 (by omega) (d - 1) (by omega) _ (fun v h0 H => H)) (fun v1 h1 H => ?_)
      obtain ⟨z221, rfl, b222, rfl⟩ := H
      refine st_iload c286_32 rfl ?_
      refine st_icmp_ne c286_33 (by omega) (by omega) (fun k223 => ?_) (fun k224 => ?_)
      refine st_iconst c286_58 ?_
      refine st_iadd c286_59 ?_
      refine st_istore (L' := [some (.ref 64), some (vI p1), some (vI p2), some (vI (z205 + 0)), some (vI z206)]) c286_60 rfl rfl ?_
      refine st_iinc (L' := [some (.ref 64), some (vI p1), some (vI p2), some (vI (z205 + 0)), some (vI (z206 + 1))]) c286_61 rfl rfl rfl ?_
      refine st_goto c286_64 ?_
      exact ih209 (z205 + 0) (z206 + 1) (by omega) (by omega) (by omega)
      refine st_aload c286_36 rfl ?_
      refine st_getI c286_37 hT (tf hT rfl rfl) fd_8_1 (fun e225 e226 => ?_)
      refine st_aload c286_40 rfl ?_
      refine st_getX (u := 108) c286_41 hT (tf hT rfl rfl) fd_8_54 rfl ?_
      refine st_iload c286_44 rfl ?_
      refine st_iald c286_46 hT (tf hT rfl rfl) ay_86 (by omega) (fun e227 e228 => ?_)
      refine st_isub c286_47 ?_
      refine MR_wrap (fun w229 e230 e231 e232 => ?_)
      refine st_iconst c286_48 ?_
      refine st_icmp_ge c286_51 (by omega) (by omega) (fun k233 => ?_) (fun k234 => ?_)
      refine st_iconst c286_58 ?_
      refine st_iadd c286_59 ?_
      refine st_istore (L' := [some (.ref 64), some (vI p1), some (vI p2), some (vI (z205 + 0)), some (vI z206)]) c286_60 rfl rfl ?_
      refine st_iinc (L' := [some (.ref 64), some (vI p1), some (vI p2), some (vI (z205 + 0)), some (vI (z206 + 1))]) c286_61 rfl rfl rfl ?_
      refine st_goto c286_64 ?_
      exact ih209 (z205 + 0) (z206 + 1) (by omega) (by omega) (by omega)
      refine st_iconst c286_54 ?_
      refine st_goto c286_55 ?_
      refine st_iadd c286_59 ?_
      refine MR_wrap (fun w235 e236 e237 e238 => ?_)
      refine st_istore (L' := [some (.ref 64), some (vI p1), some (vI p2), some (vI w235), some (vI z206)]) c286_60 rfl rfl ?_
      refine st_iinc (L' := [some (.ref 64), some (vI p1), some (vI p2), some (vI w235), some (vI (z206 + 1))]) c286_61 rfl rfl rfl ?_
      refine st_goto c286_64 ?_
      exact ih209 w235 (z206 + 1) (by omega) (by omega) (by omega)
  exact lp207 ((((100 : Int) - 0 : Int) + 1).toNat) 0 0 (by omega) (by omega) (by omega)
set_option maxHeartbeats 0 in
theorem K287 {Ln : Nat} {xs : Nat → Int32} {τ : List Nat} {h : List mE} {E : EP} (hT : TH E τ h) (p1 : Int) (hp1 : (-2147483648) ≤ p1 ∧ p1 ≤ 2147483647) (p2 : Int) (hp2 : (-2147483648) ≤ p2 ∧ p2 ≤ 2147483647) (p3 : Int) (hp3 : (-2147483648) ≤ p3 ∧ p3 ≤ 2147483647) (d : Nat) (hd : 2 ≤ d) (Q : Option Value → List mE → Prop) (hQ : ∀ v h', (∃ z : Int, v = some (vI z) ∧ ((-2147483648) ≤ z ∧ z ≤ 2147483647) ∧ h = h') → Q v h') : MR (mex Ln xs) d 287 0 [some (.ref 64), some (vI p1), some (vI p2), some (vI p3)] [] h Q := by
  refine st_aload c287_0 rfl ?_
  refine st_iload c287_1 rfl ?_
  have e1 := fI_bd (q := 64) hT (tf hT rfl rfl) fd_8_7
  refine st_callt (as := [vI p1]) c287_2 cm_190 hT (tf hT rfl rfl) fd_8_0 rfl rfl rfl rfl (by omega) (K190 hT p1 (by omega) (d - 1) (by omega) _ (fun v h0 H => H)) (fun v1 h1 H => ?_)
  rcases H with ⟨rfl, pf2, rfl⟩ | ⟨rfl, pf3, pf4, rfl⟩
  refine st_if_eq c287_5 (by omega) (fun k5 => ?_) (fun k6 => False.elim (by omega))
  refine st_iconst c287_25 ?_
  refine st_goto c287_26 ?_
  refine st_ireturn c287_48 ?_
  exact hQ _ _ ⟨(-1), rfl, by omega, rfl⟩
  refine st_if_eq c287_5 (by omega) (fun k7 => False.elim (by omega)) (fun k8 => ?_)
  refine st_aload c287_8 rfl ?_
  refine st_iload c287_9 rfl ?_
  have e9 := fI_bd (q := 64) hT (tf hT rfl rfl) fd_8_2
  refine st_callt (as := [vI p2]) c287_10 cm_183 hT (tf hT rfl rfl) fd_8_0 rfl rfl rfl rfl (by omega) (K183 hT p2 (by omega) (d - 1) (by omega) _ (fun v h0 H => H)) (fun v1 h1 H => ?_)
  rcases H with ⟨rfl, pf10, rfl⟩ | ⟨rfl, pf11, pf12, rfl⟩
  refine st_if_eq c287_13 (by omega) (fun k13 => ?_) (fun k14 => False.elim (by omega))
  refine st_iconst c287_25 ?_
  refine st_goto c287_26 ?_
  refine st_ireturn c287_48 ?_
  exact hQ _ _ ⟨(-1), rfl, by omega, rfl⟩
  refine st_if_eq c287_13 (by omega) (fun k15 => False.elim (by omega)) (fun k16 => ?_)
  refine st_iload c287_16 rfl ?_
  refine st_iconst c287_17 ?_
  refine st_iconst c287_18 ?_
  refine st_calls (as := [vI p3, vI 0, vI 1]) c287_19 cm_180 rfl rfl rfl rfl (by omega) (K180 hT p3 (by omega) 0 (by omega) 1 (by omega) (d - 1) (by omega) _ (fun v h0 H => H)) (fun v1 h1 H => ?_)
  rcases H with ⟨rfl, pf17, rfl⟩ | ⟨rfl, pf18, pf19, rfl⟩
  refine st_if_ne c287_22 (by omega) (fun k20 => False.elim (by omega)) (fun k21 => ?_)
  refine st_iconst c287_25 ?_
  refine st_goto c287_26 ?_
  refine st_ireturn c287_48 ?_
  exact hQ _ _ ⟨(-1), rfl, by omega, rfl⟩
  refine st_if_ne c287_22 (by omega) (fun k22 => ?_) (fun k23 => False.elim (by omega))
  refine st_iload c287_29 rfl ?_
  refine st_if_ne c287_30 (by omega) (fun k24 => ?_) (fun k25 => ?_)
  refine st_aload c287_42 rfl ?_
  refine st_iload c287_43 rfl ?_
  refine st_iload c287_44 rfl ?_
  refine st_callt (as := [vI p1, vI p2]) c287_45 cm_286 hT (tf hT rfl rfl) fd_8_0 rfl rfl rfl rfl (by omega) (K286 hT p1 (by omega) p2 (by omega) (d - 1) (by omega) _ (fun v h0 H => H)) (fun v1 h1 H => ?_)
  obtain ⟨z26, rfl, b27, rfl⟩ := H
  refine st_ireturn c287_48 ?_
  exact hQ _ _ ⟨z26, rfl, by omega, rfl⟩
  refine st_aload c287_33 rfl ?_
  refine st_iload c287_34 rfl ?_
  refine st_iload c287_35 rfl ?_
  refine st_callt (as := [vI p1, vI p2]) c287_36 cm_285 hT (tf hT rfl rfl) fd_8_0 rfl rfl rfl rfl (by omega) (K285 hT p1 (by omega) p2 (by omega) (d - 1) (by omega) _ (fun v h0 H => H)) (fun v1 h1 H => ?_)
  obtain ⟨z28, rfl, b29, rfl⟩ := H
  refine st_goto c287_39 ?_
  refine st_ireturn c287_48 ?_
  exact hQ _ _ ⟨z28, rfl, by omega, rfl⟩
set_option maxHeartbeats 0 in
theorem K288 {Ln : Nat} {xs : Nat → Int32} {τ : List Nat} {h : List mE} {E : EP} (hT : TH E τ h) (p1 : Int) (hp1 : (-2147483648) ≤ p1 ∧ p1 ≤ 2147483647) (d : Nat) (hd : 2 ≤ d) (Q : Option Value → List mE → Prop) (hQ : ∀ v h', (∃ z : Int, v = some (vI z) ∧ ((-2) ≤ z ∧ z ≤ 1111) ∧ h = h') → Q v h') : MR (mex Ln xs) d 288 0 [some (.ref 64), some (vI p1), none, none, none, none, none, none] [] h Q := by
  refine st_aload c288_0 rfl ?_
  refine st_iload c288_1 rfl ?_
  have e1 := fI_bd (q := 64) hT (tf hT rfl rfl) fd_8_7
  refine st_callt (as := [vI p1]) c288_2 cm_190 hT (tf hT rfl rfl) fd_8_0 rfl rfl rfl rfl (by omega) (K190 hT p1 (by omega) (d - 1) (by omega) _ (fun v h0 H => H)) (fun v1 h1 H => ?_)
  rcases H with ⟨rfl, pf2, rfl⟩ | ⟨rfl, pf3, pf4, rfl⟩
  refine st_if_ne c288_5 (by omega) (fun k5 => False.elim (by omega)) (fun k6 => ?_)
  refine st_iconst c288_8 ?_
  refine st_ireturn c288_9 ?_
  exact hQ _ _ ⟨(-1), rfl, by omega, rfl⟩
  refine st_if_ne c288_5 (by omega) (fun k7 => ?_) (fun k8 => False.elim (by omega))
  refine st_iconst c288_10 ?_
  refine st_istore (L' := [some (.ref 64), some (vI p1), some (vI (-1)), none, none, none, none, none]) c288_11 rfl rfl ?_
  refine st_iconst c288_12 ?_
  refine st_istore (L' := [some (.ref 64), some (vI p1), some (vI (-1)), some (vI (-1)), none, none, none, none]) c288_13 rfl rfl ?_
  refine st_iconst c288_14 ?_
  refine st_istore (L' := [some (.ref 64), some (vI p1), some (vI (-1)), some (vI (-1)), some (vI 0), none, none, none]) c288_15 rfl rfl ?_
  refine st_iconst c288_17 ?_
  refine st_istore (L' := [some (.ref 64), some (vI p1), some (vI (-1)), some (vI (-1)), some (vI 0), some (vI 0), none, none]) c288_18 rfl rfl ?_
  refine st_iconst c288_20 ?_
  refine st_istore (L' := [some (.ref 64), some (vI p1), some (vI (-1)), some (vI (-1)), some (vI 0), some (vI 0), some (vI 0), none]) c288_21 rfl rfl ?_
  have lp154 : ∀ (n155 : Nat) (z149 : Int) (z150 : Int) (z151 : Int) (z152 : Int) (z153 : Int), (12 : Int) - z153 < (n155 : Int) → (-1) ≤ z149 ∧ z149 ≤ 11 → (-1) ≤ z150 ∧ z150 ≤ 11 → 0 ≤ z151 ∧ z151 ≤ 2147483647 → (-2147483648) ≤ z152 ∧ z152 ≤ 2147483647 → 0 ≤ z153 ∧ z153 ≤ 12 → MR (mex Ln xs) d 288 23 [some (.ref 64), some (vI p1), some (vI z149), some (vI z150), some (vI z151), some (vI z152), some (vI z153), none] [] h Q := by
    intro n155
    induction n155 with
    | zero =>
      intro z149 z150 z151 z152 z153 hm157 b158 b159 b160 b161 b162
      exfalso; omega
    | succ n155 ih156 =>
      intro z149 z150 z151 z152 z153 hm157 b158 b159 b160 b161 b162
      refine st_iload c288_23 rfl ?_
      refine st_aload c288_25 rfl ?_
      refine st_getI c288_26 hT (tf hT rfl rfl) fd_8_2 (fun e163 e164 => ?_)
      refine st_icmp_ge c288_29 (by omega) (by omega) (fun k165 => ?_) (fun k166 => ?_)
      refine st_iload c288_98 rfl ?_
      refine st_if_lt c288_99 (by omega) (fun k167 => ?_) (fun k168 => ?_)
      refine st_iconst c288_106 ?_
      refine st_goto c288_108 ?_
      refine st_ireturn c288_117 ?_
      exact hQ _ _ ⟨(-2), rfl, by omega, rfl⟩
      refine st_iload c288_102 rfl ?_
      refine st_if_ge c288_103 (by omega) (fun k169 => ?_) (fun k170 => ?_)
      refine st_iconst c288_111 ?_
      refine st_iload c288_113 rfl ?_
      refine st_imul c288_114 ?_
      refine st_iload c288_115 rfl ?_
      refine st_iadd c288_116 ?_
      refine st_ireturn c288_117 ?_
      exact hQ _ _ ⟨(100 * z149) + z150, rfl, by omega, rfl⟩
      refine st_iconst c288_106 ?_
      refine st_goto c288_108 ?_
      refine st_ireturn c288_117 ?_
      exact hQ _ _ ⟨(-2), rfl, by omega, rfl⟩
      refine st_aload c288_32 rfl ?_
      refine st_getX (u := 65) c288_33 hT (tf hT rfl rfl) fd_8_3 rfl ?_
      refine st_iload c288_36 rfl ?_
      refine st_bald c288_38 hT (tf hT rfl rfl) ay_43 (Or.inl rfl) (by omega) (fun e171 e172 => ?_)
      refine st_if_ne c288_39 (by omega) (fun k173 => ?_) (fun k174 => ?_)
      refine st_aload c288_45 rfl ?_
      refine st_iload c288_46 rfl ?_
      refine st_iload c288_47 rfl ?_
      refine st_callt (as := [vI p1, vI z153]) c288_49 cm_285 hT (tf hT rfl rfl) fd_8_0 rfl rfl rfl rfl (by omega) (K285 hT p1 (by omega) z153 (by omega) (d - 1) (by omega) _ (fun v h0 H => H)) (fun v1 h1 H => ?_)
      obtain ⟨z175, rfl, b176, rfl⟩ := H
      refine st_aload c288_52 rfl ?_
      refine st_iload c288_53 rfl ?_
      refine st_iload c288_54 rfl ?_
      refine st_callt (as := [vI p1, vI z153]) c288_56 cm_286 hT (tf hT rfl rfl) fd_8_0 rfl rfl rfl rfl (by omega) (K286 hT p1 (by omega) z153 (by omega) (d - 1) (by omega) _ (fun v h0 H => H)) (fun v1 h1 H => ?_)
      obtain ⟨z177, rfl, b178, rfl⟩ := H
      refine st_isub c288_59 ?_
      refine MR_wrap (fun w179 e180 e181 e182 => ?_)
      refine st_istore (L' := [some (.ref 64), some (vI p1), some (vI z149), some (vI z150), some (vI z151), some (vI z152), some (vI z153), some (vI w179)]) c288_60 rfl rfl ?_
      refine st_iload c288_62 rfl ?_
      refine st_iload c288_64 rfl ?_
      refine st_icmp_le c288_66 (by omega) (by omega) (fun k183 => ?_) (fun k184 => ?_)
      refine st_iload c288_76 rfl ?_
      refine st_ineg c288_78 ?_
      refine MR_wrap (fun w185 e186 e187 e188 => ?_)
      refine st_iload c288_79 rfl ?_
      refine st_icmp_le c288_81 (by omega) (by omega) (fun k189 => ?_) (fun k190 => ?_)
      refine st_iinc (L' := [some (.ref 64), some (vI p1), some (vI z149), some (vI z150), some (vI z151), some (vI z152), some (vI (z153 + 1)), some (vI w179)]) c288_92 rfl rfl rfl ?_
      refine st_goto c288_95 ?_
      refine MR_weak (A := [some (.ref 64), some (vI p1), some (vI z149), some (vI z150), some (vI z151), some (vI z152), some (vI (z153 + 1)), none]) (Lle_s (Lle_s (Lle_s (Lle_s (Lle_s (Lle_s (Lle_s (Lle_n (Lle_0))))))))) ?_
      exact ih156 z149 z150 z151 z152 (z153 + 1) (by omega) (by omega) (by omega) (by omega) (by omega) (by omega)
      refine st_iload c288_84 rfl ?_
      refine st_ineg c288_86 ?_
      refine MR_wrap (fun w191 e192 e193 e194 => ?_)
      refine st_istore (L' := [some (.ref 64), some (vI p1), some (vI z149), some (vI z150), some (vI z151), some (vI w191), some (vI z153), some (vI w179)]) c288_87 rfl rfl ?_
      refine st_iload c288_89 rfl ?_
      refine st_istore (L' := [some (.ref 64), some (vI p1), some (vI z149), some (vI z153), some (vI z151), some (vI w191), some (vI z153), some (vI w179)]) c288_91 rfl rfl ?_
      refine st_iinc (L' := [some (.ref 64), some (vI p1), some (vI z149), some (vI z153), some (vI z151), some (vI w191), some (vI (z153 + 1)), some (vI w179)]) c288_92 rfl rfl rfl ?_
      refine st_goto c288_95 ?_
      refine MR_weak (A := [some (.ref 64), some (vI p1), some (vI z149), some (vI z153), some (vI z151), some (vI w191), some (vI (z153 + 1)), none]) (Lle_s (Lle_s (Lle_s (Lle_s (Lle_s (Lle_s (Lle_s (Lle_n (Lle_0))))))))) ?_
      exact ih156 z149 z153 z151 w191 (z153 + 1) (by omega) (by omega) (by omega) (by omega) (by omega) (by omega)
      refine st_iload c288_69 rfl ?_
      refine st_istore (L' := [some (.ref 64), some (vI p1), some (vI z149), some (vI z150), some (vI w179), some (vI z152), some (vI z153), some (vI w179)]) c288_71 rfl rfl ?_
      refine st_iload c288_73 rfl ?_
      refine st_istore (L' := [some (.ref 64), some (vI p1), some (vI z153), some (vI z150), some (vI w179), some (vI z152), some (vI z153), some (vI w179)]) c288_75 rfl rfl ?_
      refine st_iload c288_76 rfl ?_
      refine st_ineg c288_78 ?_
      refine st_iload c288_79 rfl ?_
      refine st_icmp_le c288_81 (by omega) (by omega) (fun k195 => ?_) (fun k196 => ?_)
      refine st_iinc (L' := [some (.ref 64), some (vI p1), some (vI z153), some (vI z150), some (vI w179), some (vI z152), some (vI (z153 + 1)), some (vI w179)]) c288_92 rfl rfl rfl ?_
      refine st_goto c288_95 ?_
      refine MR_weak (A := [some (.ref 64), some (vI p1), some (vI z153), some (vI z150), some (vI w179), some (vI z152), some (vI (z153 + 1)), none]) (Lle_s (Lle_s (Lle_s (Lle_s (Lle_s (Lle_s (Lle_s (Lle_n (Lle_0))))))))) ?_
      exact ih156 z153 z150 w179 z152 (z153 + 1) (by omega) (by omega) (by omega) (by omega) (by omega) (by omega)
      refine st_iload c288_84 rfl ?_
      refine st_ineg c288_86 ?_
      refine st_istore (L' := [some (.ref 64), some (vI p1), some (vI z153), some (vI z150), some (vI w179), some (vI (-w179)), some (vI z153), some (vI w179)]) c288_87 rfl rfl ?_
      refine st_iload c288_89 rfl ?_
      refine st_istore (L' := [some (.ref 64), some (vI p1), some (vI z153), some (vI z153), some (vI w179), some (vI (-w179)), some (vI z153), some (vI w179)]) c288_91 rfl rfl ?_
      refine st_iinc (L' := [some (.ref 64), some (vI p1), some (vI z153), some (vI z153), some (vI w179), some (vI (-w179)), some (vI (z153 + 1)), some (vI w179)]) c288_92 rfl rfl rfl ?_
      refine st_goto c288_95 ?_
      refine MR_weak (A := [some (.ref 64), some (vI p1), some (vI z153), some (vI z153), some (vI w179), some (vI (-w179)), some (vI (z153 + 1)), none]) (Lle_s (Lle_s (Lle_s (Lle_s (Lle_s (Lle_s (Lle_s (Lle_n (Lle_0))))))))) ?_
      exact ih156 z153 z153 w179 (-w179) (z153 + 1) (by omega) (by omega) (by omega) (by omega) (by omega) (by omega)
      refine st_goto c288_42 ?_
      refine st_iinc (L' := [some (.ref 64), some (vI p1), some (vI z149), some (vI z150), some (vI z151), some (vI z152), some (vI (z153 + 1)), none]) c288_92 rfl rfl rfl ?_
      refine st_goto c288_95 ?_
      exact ih156 z149 z150 z151 z152 (z153 + 1) (by omega) (by omega) (by omega) (by omega) (by omega) (by omega)
  exact lp154 ((((12 : Int) - 0 : Int) + 1).toNat) (-1) (-1) 0 0 0 (by omega) (by omega) (by omega) (by omega) (by omega) (by omega)
set_option maxHeartbeats 0 in
theorem K289 {Ln : Nat} {xs : Nat → Int32} {τ : List Nat} {h : List mE} {E : EP} (hT : TH E τ h) (p1 : Int) (hp1 : (-2147483648) ≤ p1 ∧ p1 ≤ 2147483647) (d : Nat) (hd : 0 ≤ d) (Q : Option Value → List mE → Prop) (hQ : ∀ v h', (∃ z : Int, v = some (vI z) ∧ ((-2147483648) ≤ z ∧ z ≤ 2147483647) ∧ h = h') → Q v h') : MR (mex Ln xs) d 289 0 [some (.ref 64), some (vI p1), none, none] [] h Q := by
  refine st_iconst c289_0 ?_
  refine st_istore (L' := [some (.ref 64), some (vI p1), some (vI 0), none]) c289_1 rfl rfl ?_
  refine st_iload c289_2 rfl ?_
  rcases (by omega : (p1 < 0 ∨ 13 < p1) ∨ p1 = 0 ∨ p1 = 1 ∨ p1 = 2 ∨ p1 = 3 ∨ p1 = 4 ∨ p1 = 5 ∨ p1 = 6 ∨ p1 = 7 ∨ p1 = 8 ∨ p1 = 9 ∨ p1 = 10 ∨ p1 = 11 ∨ p1 = 12 ∨ p1 = 13) with k1 | k1 | k1 | k1 | k1 | k1 | k1 | k1 | k1 | k1 | k1 | k1 | k1 | k1 | k1
  · refine st_swd c289_3 (by omega) k1 ?_
    rw [show mjmp 3 262 = 265 from by decide]
    refine st_iconst c289_265 ?_
    refine st_ireturn c289_266 ?_
    exact hQ _ _ ⟨(-1), rfl, by omega, rfl⟩
  · refine st_sw (k := 0) (tg := 72) (by decide +kernel) k1 (by decide) ?_
    refine st_aload c289_72 rfl ?_
    refine st_getI c289_73 hT (tf hT rfl rfl) fd_8_2 (fun e2 e3 => ?_)
    refine st_ireturn c289_76 ?_
    exact hQ _ _ ⟨fI h 64 2, rfl, by omega, rfl⟩
  · refine st_sw (k := 1) (tg := 77) (by decide +kernel) k1 (by decide) ?_
    refine st_aload c289_77 rfl ?_
    refine st_getI c289_78 hT (tf hT rfl rfl) fd_8_7 (fun e4 e5 => ?_)
    refine st_ireturn c289_81 ?_
    exact hQ _ _ ⟨fI h 64 7, rfl, by omega, rfl⟩
  · refine st_sw (k := 2) (tg := 82) (by decide +kernel) k1 (by decide) ?_
    refine st_aload c289_82 rfl ?_
    refine st_getI c289_83 hT (tf hT rfl rfl) fd_8_15 (fun e6 e7 => ?_)
    refine st_ireturn c289_86 ?_
    exact hQ _ _ ⟨fI h 64 15, rfl, by omega, rfl⟩
  · refine st_sw (k := 3) (tg := 87) (by decide +kernel) k1 (by decide) ?_
    refine st_aload c289_87 rfl ?_
    refine st_getI c289_88 hT (tf hT rfl rfl) fd_8_45 (fun e8 e9 => ?_)
    refine st_ireturn c289_91 ?_
    exact hQ _ _ ⟨fI h 64 45, rfl, by omega, rfl⟩
  · refine st_sw (k := 4) (tg := 92) (by decide +kernel) k1 (by decide) ?_
    refine st_aload c289_92 rfl ?_
    refine st_getI c289_93 hT (tf hT rfl rfl) fd_8_48 (fun e10 e11 => ?_)
    refine st_ireturn c289_96 ?_
    exact hQ _ _ ⟨fI h 64 48, rfl, by omega, rfl⟩
  · refine st_sw (k := 5) (tg := 97) (by decide +kernel) k1 (by decide) ?_
    refine st_aload c289_97 rfl ?_
    refine st_getI c289_98 hT (tf hT rfl rfl) fd_8_1 (fun e12 e13 => ?_)
    refine st_ireturn c289_101 ?_
    exact hQ _ _ ⟨fI h 64 1, rfl, by omega, rfl⟩
  · refine st_sw (k := 6) (tg := 102) (by decide +kernel) k1 (by decide) ?_
    refine st_aload c289_102 rfl ?_
    refine st_getI c289_103 hT (tf hT rfl rfl) fd_8_78 (fun e14 e15 => ?_)
    refine st_ireturn c289_106 ?_
    exact hQ _ _ ⟨fI h 64 78, rfl, by omega, rfl⟩
  · refine st_sw (k := 7) (tg := 107) (by decide +kernel) k1 (by decide) ?_
    refine st_aload c289_107 rfl ?_
    refine st_getI c289_108 hT (tf hT rfl rfl) fd_8_33 (fun e16 e17 => ?_)
    refine st_ireturn c289_111 ?_
    exact hQ _ _ ⟨fI h 64 33, rfl, by omega, rfl⟩
  · refine st_sw (k := 8) (tg := 112) (by decide +kernel) k1 (by decide) ?_
    refine st_aload c289_112 rfl ?_
    refine st_getI c289_113 hT (tf hT rfl rfl) fd_8_41 (fun e18 e19 => ?_)
    refine st_ireturn c289_116 ?_
    exact hQ _ _ ⟨fI h 64 41, rfl, by omega, rfl⟩
  · refine st_sw (k := 9) (tg := 117) (by decide +kernel) k1 (by decide) ?_
    refine st_iconst c289_117 ?_
    refine st_istore (L' := [some (.ref 64), some (vI p1), some (vI 0), some (vI 0)]) c289_118 rfl rfl ?_
    have lp114 : ∀ (n115 : Nat) (z112 : Int) (z113 : Int), (90 : Int) - z113 < (n115 : Int) → (-2147483648) ≤ z112 ∧ z112 ≤ 2147483647 → 0 ≤ z113 ∧ z113 ≤ 90 → MR (mex Ln xs) d 289 119 [some (.ref 64), none, some (vI z112), some (vI z113)] [] h Q := by
      intro n115
      induction n115 with
      | zero =>
        intro z112 z113 hm117 b118 b119
        exfalso; omega
      | succ n115 ih116 =>
        intro z112 z113 hm117 b118 b119
        refine st_iload c289_119 rfl ?_
        refine st_aload c289_120 rfl ?_
        refine st_getI c289_121 hT (tf hT rfl rfl) fd_8_15 (fun e120 e121 => ?_)
        refine st_icmp_ge c289_124 (by omega) (by omega) (fun k122 => ?_) (fun k123 => ?_)
        refine st_iload c289_151 rfl ?_
        refine st_ireturn c289_152 ?_
        exact hQ _ _ ⟨z112, rfl, by omega, rfl⟩
        refine st_iload c289_127 rfl ?_
        refine st_aload c289_128 rfl ?_
        refine st_getX (u := 78) c289_129 hT (tf hT rfl rfl) fd_8_18 rfl ?_
        refine st_iload c289_132 rfl ?_
        refine st_iald c289_133 hT (tf hT rfl rfl) ay_56 (by omega) (fun e124 e125 => ?_)
        refine st_iconst c289_134 ?_
        refine st_icmp_ne c289_135 (by omega) (by omega) (fun k126 => ?_) (fun k127 => ?_)
        refine st_iconst c289_142 ?_
        refine st_iadd c289_143 ?_
        refine st_istore (L' := [some (.ref 64), none, some (vI (z112 + 0)), some (vI z113)]) c289_144 rfl rfl ?_
        refine st_iinc (L' := [some (.ref 64), none, some (vI (z112 + 0)), some (vI (z113 + 1))]) c289_145 rfl rfl rfl ?_
        refine st_goto c289_148 ?_
        exact ih116 (z112 + 0) (z113 + 1) (by omega) (by omega) (by omega)
        refine st_iconst c289_138 ?_
        refine st_goto c289_139 ?_
        refine st_iadd c289_143 ?_
        refine MR_wrap (fun w128 e129 e130 e131 => ?_)
        refine st_istore (L' := [some (.ref 64), none, some (vI w128), some (vI z113)]) c289_144 rfl rfl ?_
        refine st_iinc (L' := [some (.ref 64), none, some (vI w128), some (vI (z113 + 1))]) c289_145 rfl rfl rfl ?_
        refine st_goto c289_148 ?_
        exact ih116 w128 (z113 + 1) (by omega) (by omega) (by omega)
    refine MR_weak (A := [some (.ref 64), none, some (vI 0), some (vI 0)]) (Lle_s (Lle_n (Lle_s (Lle_s (Lle_0))))) ?_
    exact lp114 ((((90 : Int) - 0 : Int) + 1).toNat) 0 0 (by omega) (by omega) (by omega)
  · refine st_sw (k := 10) (tg := 153) (by decide +kernel) k1 (by decide) ?_
    refine st_iconst c289_153 ?_
    refine st_istore (L' := [some (.ref 64), some (vI p1), some (vI 0), some (vI 0)]) c289_154 rfl rfl ?_
    have lp226 : ∀ (n227 : Nat) (z224 : Int) (z225 : Int), (90 : Int) - z225 < (n227 : Int) → (-2147483648) ≤ z224 ∧ z224 ≤ 2147483647 → 0 ≤ z225 ∧ z225 ≤ 90 → MR (mex Ln xs) d 289 155 [some (.ref 64), none, some (vI z224), some (vI z225)] [] h Q := by
      intro n227
      induction n227 with
      | zero =>
        intro z224 z225 hm229 b230 b231
        exfalso; omega
      | succ n227 ih228 =>
        intro z224 z225 hm229 b230 b231
        refine st_iload c289_155 rfl ?_
        refine st_aload c289_156 rfl ?_
        refine st_getI c289_157 hT (tf hT rfl rfl) fd_8_15 (fun e232 e233 => ?_)
        refine st_icmp_ge c289_160 (by omega) (by omega) (fun k234 => ?_) (fun k235 => ?_)
        refine st_iload c289_187 rfl ?_
        refine st_ireturn c289_188 ?_
        exact hQ _ _ ⟨z224, rfl, by omega, rfl⟩
        refine st_iload c289_163 rfl ?_
        refine st_aload c289_164 rfl ?_
        refine st_getX (u := 78) c289_165 hT (tf hT rfl rfl) fd_8_18 rfl ?_
        refine st_iload c289_168 rfl ?_
        refine st_iald c289_169 hT (tf hT rfl rfl) ay_56 (by omega) (fun e236 e237 => ?_)
        refine st_iconst c289_170 ?_
        refine st_icmp_ne c289_171 (by omega) (by omega) (fun k238 => ?_) (fun k239 => ?_)
        refine st_iconst c289_178 ?_
        refine st_iadd c289_179 ?_
        refine st_istore (L' := [some (.ref 64), none, some (vI (z224 + 0)), some (vI z225)]) c289_180 rfl rfl ?_
        refine st_iinc (L' := [some (.ref 64), none, some (vI (z224 + 0)), some (vI (z225 + 1))]) c289_181 rfl rfl rfl ?_
        refine st_goto c289_184 ?_
        exact ih228 (z224 + 0) (z225 + 1) (by omega) (by omega) (by omega)
        refine st_iconst c289_174 ?_
        refine st_goto c289_175 ?_
        refine st_iadd c289_179 ?_
        refine MR_wrap (fun w240 e241 e242 e243 => ?_)
        refine st_istore (L' := [some (.ref 64), none, some (vI w240), some (vI z225)]) c289_180 rfl rfl ?_
        refine st_iinc (L' := [some (.ref 64), none, some (vI w240), some (vI (z225 + 1))]) c289_181 rfl rfl rfl ?_
        refine st_goto c289_184 ?_
        exact ih228 w240 (z225 + 1) (by omega) (by omega) (by omega)
    refine MR_weak (A := [some (.ref 64), none, some (vI 0), some (vI 0)]) (Lle_s (Lle_n (Lle_s (Lle_s (Lle_0))))) ?_
    exact lp226 ((((90 : Int) - 0 : Int) + 1).toNat) 0 0 (by omega) (by omega) (by omega)
  · refine st_sw (k := 11) (tg := 189) (by decide +kernel) k1 (by decide) ?_
    refine st_aload c289_189 rfl ?_
    refine st_getI c289_190 hT (tf hT rfl rfl) fd_8_77 (fun e244 e245 => ?_)
    refine st_ireturn c289_193 ?_
    exact hQ _ _ ⟨fI h 64 77, rfl, by omega, rfl⟩
  · refine st_sw (k := 12) (tg := 194) (by decide +kernel) k1 (by decide) ?_
    refine st_iconst c289_194 ?_
    refine st_istore (L' := [some (.ref 64), some (vI p1), some (vI 0), some (vI 0)]) c289_195 rfl rfl ?_
    have lp340 : ∀ (n341 : Nat) (z338 : Int) (z339 : Int), (100 : Int) - z339 < (n341 : Int) → (-2147483648) ≤ z338 ∧ z338 ≤ 2147483647 → 0 ≤ z339 ∧ z339 ≤ 100 → MR (mex Ln xs) d 289 196 [some (.ref 64), none, some (vI z338), some (vI z339)] [] h Q := by
      intro n341
      induction n341 with
      | zero =>
        intro z338 z339 hm343 b344 b345
        exfalso; omega
      | succ n341 ih342 =>
        intro z338 z339 hm343 b344 b345
        refine st_iload c289_196 rfl ?_
        refine st_aload c289_197 rfl ?_
        refine st_getI c289_198 hT (tf hT rfl rfl) fd_8_48 (fun e346 e347 => ?_)
        refine st_icmp_ge c289_201 (by omega) (by omega) (fun k348 => ?_) (fun k349 => ?_)
        refine st_iload c289_227 rfl ?_
        refine st_ireturn c289_228 ?_
        exact hQ _ _ ⟨z338, rfl, by omega, rfl⟩
        refine st_iload c289_204 rfl ?_
        refine st_aload c289_205 rfl ?_
        refine st_getX (u := 109) c289_206 hT (tf hT rfl rfl) fd_8_55 rfl ?_
        refine st_iload c289_209 rfl ?_
        refine st_iald c289_210 hT (tf hT rfl rfl) ay_87 (by omega) (fun e350 e351 => ?_)
        refine st_if_ne c289_211 (by omega) (fun k352 => ?_) (fun k353 => ?_)
        refine st_iconst c289_218 ?_
        refine st_iadd c289_219 ?_
        refine st_istore (L' := [some (.ref 64), none, some (vI (z338 + 0)), some (vI z339)]) c289_220 rfl rfl ?_
        refine st_iinc (L' := [some (.ref 64), none, some (vI (z338 + 0)), some (vI (z339 + 1))]) c289_221 rfl rfl rfl ?_
        refine st_goto c289_224 ?_
        exact ih342 (z338 + 0) (z339 + 1) (by omega) (by omega) (by omega)
        refine st_iconst c289_214 ?_
        refine st_goto c289_215 ?_
        refine st_iadd c289_219 ?_
        refine MR_wrap (fun w354 e355 e356 e357 => ?_)
        refine st_istore (L' := [some (.ref 64), none, some (vI w354), some (vI z339)]) c289_220 rfl rfl ?_
        refine st_iinc (L' := [some (.ref 64), none, some (vI w354), some (vI (z339 + 1))]) c289_221 rfl rfl rfl ?_
        refine st_goto c289_224 ?_
        exact ih342 w354 (z339 + 1) (by omega) (by omega) (by omega)
    refine MR_weak (A := [some (.ref 64), none, some (vI 0), some (vI 0)]) (Lle_s (Lle_n (Lle_s (Lle_s (Lle_0))))) ?_
    exact lp340 ((((100 : Int) - 0 : Int) + 1).toNat) 0 0 (by omega) (by omega) (by omega)
  · refine st_sw (k := 13) (tg := 229) (by decide +kernel) k1 (by decide) ?_
    refine st_iconst c289_229 ?_
    refine st_istore (L' := [some (.ref 64), some (vI p1), some (vI 0), some (vI 0)]) c289_230 rfl rfl ?_
    have lp452 : ∀ (n453 : Nat) (z450 : Int) (z451 : Int), (100 : Int) - z451 < (n453 : Int) → (-2147483648) ≤ z450 ∧ z450 ≤ 2147483647 → 0 ≤ z451 ∧ z451 ≤ 100 → MR (mex Ln xs) d 289 231 [some (.ref 64), none, some (vI z450), some (vI z451)] [] h Q := by
      intro n453
      induction n453 with
      | zero =>
        intro z450 z451 hm455 b456 b457
        exfalso; omega
      | succ n453 ih454 =>
        intro z450 z451 hm455 b456 b457
        refine st_iload c289_231 rfl ?_
        refine st_aload c289_232 rfl ?_
        refine st_getI c289_233 hT (tf hT rfl rfl) fd_8_48 (fun e458 e459 => ?_)
        refine st_icmp_ge c289_236 (by omega) (by omega) (fun k460 => ?_) (fun k461 => ?_)
        refine st_iload c289_263 rfl ?_
        refine st_ireturn c289_264 ?_
        exact hQ _ _ ⟨z450, rfl, by omega, rfl⟩
        refine st_iload c289_239 rfl ?_
        refine st_aload c289_240 rfl ?_
        refine st_getX (u := 109) c289_241 hT (tf hT rfl rfl) fd_8_55 rfl ?_
        refine st_iload c289_244 rfl ?_
        refine st_iald c289_245 hT (tf hT rfl rfl) ay_87 (by omega) (fun e462 e463 => ?_)
        refine st_iconst c289_246 ?_
        refine st_icmp_ne c289_247 (by omega) (by omega) (fun k464 => ?_) (fun k465 => ?_)
        refine st_iconst c289_254 ?_
        refine st_iadd c289_255 ?_
        refine st_istore (L' := [some (.ref 64), none, some (vI (z450 + 0)), some (vI z451)]) c289_256 rfl rfl ?_
        refine st_iinc (L' := [some (.ref 64), none, some (vI (z450 + 0)), some (vI (z451 + 1))]) c289_257 rfl rfl rfl ?_
        refine st_goto c289_260 ?_
        exact ih454 (z450 + 0) (z451 + 1) (by omega) (by omega) (by omega)
        refine st_iconst c289_250 ?_
        refine st_goto c289_251 ?_
        refine st_iadd c289_255 ?_
        refine MR_wrap (fun w466 e467 e468 e469 => ?_)
        refine st_istore (L' := [some (.ref 64), none, some (vI w466), some (vI z451)]) c289_256 rfl rfl ?_
        refine st_iinc (L' := [some (.ref 64), none, some (vI w466), some (vI (z451 + 1))]) c289_257 rfl rfl rfl ?_
        refine st_goto c289_260 ?_
        exact ih454 w466 (z451 + 1) (by omega) (by omega) (by omega)
    refine MR_weak (A := [some (.ref 64), none, some (vI 0), some (vI 0)]) (Lle_s (Lle_n (Lle_s (Lle_s (Lle_0))))) ?_
    exact lp452 ((((100 : Int) - 0 : Int) + 1).toNat) 0 0 (by omega) (by omega) (by omega)
def W195 : List (Nat × Nat) := [(8, 32), (70, 0), (71, 0), (72, 0)]
set_option maxHeartbeats 0 in
theorem K195 {Ln : Nat} {xs : Nat → Int32} {τ : List Nat} {h : List mE} {E : EP} (hT : TH E τ h) (hS : Stb E W195) (p1 : Int) (hp1 : (-2147483648) ≤ p1 ∧ p1 ≤ 2147483647) (p2 : Int) (hp2 : (-2147483648) ≤ p2 ∧ p2 ≤ 2147483647) (pre0 : fI h 64 32≤489) (d : Nat) (hd : 0 ≤ d) (Q : Option Value → List mE → Prop) (hQ : ∀ v h', (v = none ∧ (fI h' 64 32=fI h 64 32+1) ∧ TH E τ h' ∧ Fr τ W195 h h') → Q v h') : MR (mex Ln xs) d 195 0 [some (.ref 64), some (vI p1), some (vI p2)] [] h Q := by
  have hF := Fr_rf τ W195 h
  have e1 := fI_bd (q := 64) hT (tf hT rfl rfl) fd_8_32
  refine st_aload c195_0 rfl ?_
  refine st_getX (u := 92) c195_1 hT (tf hT rfl rfl) fd_8_34 rfl ?_
  refine st_aload c195_4 rfl ?_
  refine st_getI c195_5 hT (tf hT rfl rfl) fd_8_32 (fun e2 e3 => ?_)
  refine st_iload c195_8 rfl ?_
  refine st_iast c195_9 hT (tf hT rfl rfl) ay_70 (by omega) (by omega) (by omega) (Ext_rf _) hS hF (by decide +kernel) (fun h4 hT5 hF6 hU7 => ?_)
  refine st_aload c195_10 rfl ?_
  refine st_getX (u := 93) c195_11 hT5 (tf hT5 rfl rfl) fd_8_35 rfl ?_
  refine st_aload c195_14 rfl ?_
  refine st_getI c195_15 hT5 (tf hT5 rfl rfl) fd_8_32 (fun e8 e9 => ?_)
  have q10 : fI h4 64 32 = fI h 64 32 := AUp_fI hU7
  refine st_aload c195_18 rfl ?_
  refine st_getI c195_19 hT5 (tf hT5 rfl rfl) fd_8_1 (fun e11 e12 => ?_)
  have q13 : fI h4 64 1 = fI h 64 1 := AUp_fI hU7
  refine st_iast c195_22 hT5 (tf hT5 rfl rfl) ay_71 (by omega) (by omega) (by omega) (Ext_rf _) hS hF6 (by decide +kernel) (fun h14 hT15 hF16 hU17 => ?_)
  refine st_aload c195_23 rfl ?_
  refine st_getX (u := 94) c195_24 hT15 (tf hT15 rfl rfl) fd_8_36 rfl ?_
  refine st_aload c195_27 rfl ?_
  refine st_getI c195_28 hT15 (tf hT15 rfl rfl) fd_8_32 (fun e18 e19 => ?_)
  have q20 : fI h14 64 32 = fI h4 64 32 := AUp_fI hU17
  refine st_iload c195_31 rfl ?_
  refine st_iast c195_32 hT15 (tf hT15 rfl rfl) ay_72 (by omega) (by omega) (by omega) (Ext_rf _) hS hF16 (by decide +kernel) (fun h21 hT22 hF23 hU24 => ?_)
  refine st_aload c195_33 rfl ?_
  refine st_dup c195_34 rfl ?_
  refine st_getI c195_35 hT22 (tf hT22 rfl rfl) fd_8_32 (fun e25 e26 => ?_)
  have q27 : fI h21 64 32 = fI h14 64 32 := AUp_fI hU24
  refine st_iconst c195_38 ?_
  refine st_iadd c195_39 ?_
  refine st_putI c195_40 hT22 (tf hT22 rfl rfl) fd_8_32 (by omega) (by omega) (Ext_rf _) hS hF23 (by decide +kernel) (fun h28 hT29 hF30 hU31 => ?_)
  refine st_return c195_43 ?_
  have e32 := fI_bd (q := 64) hT29 (tf hT29 rfl rfl) fd_8_32
  have q33 : fI h28 64 32 = (fI h21 64 32) + 1 := FUp_fI hU31 (by omega) (by omega)
  exact hQ _ _ ⟨rfl, by omega, hT29, hF30⟩
def W198 : List (Nat × Nat) := [(8, 15), (8, 32), (54, 0), (55, 0), (57, 0), (58, 0), (60, 0), (62, 0), (64, 0), (65, 0), (70, 0), (71, 0), (72, 0)]
set_option maxHeartbeats 0 in
theorem K198 {Ln : Nat} {xs : Nat → Int32} {τ : List Nat} {h : List mE} {E : EP} (hT : TH E τ h) (hS : Stb E W198) (p1 : Int) (hp1 : (-2147483648) ≤ p1 ∧ p1 ≤ 2147483647) (p2 : Int) (hp2 : (-2147483648) ≤ p2 ∧ p2 ≤ 2147483647) (p3 : Int) (hp3 : (-2147483648) ≤ p3 ∧ p3 ≤ 2147483647) (pre0 : fI h 64 32≤fI h 64 15+fI h 64 33) (d : Nat) (hd : 2 ≤ d) (Q : Option Value → List mE → Prop) (hQ : ∀ v h', (∃ z : Int, v = some (vI z) ∧ ((-3) ≤ z ∧ z ≤ 89) ∧ (fI h' 64 32≤fI h' 64 15+fI h' 64 33) ∧ ((0 ≤ p1 ∧ p1 < fI h 64 7 ∧ 0 ≤ p2 ∧ p2 < fI h 64 2 ∧ aI h 65 p2 = 1 ∧ 0 ≤ p3 ∧ p3 ≤ 99999 ∧ fI h 64 15 ≤ 89 ∧ z = fI h 64 15 + 0 ∧ fI h' 64 15 = fI h 64 15 + 1) ∨ (0 ≤ p1 ∧ p1 < fI h 64 7 ∧ 0 ≤ p2 ∧ p2 < fI h 64 2 ∧ aI h 65 p2 = 1 ∧ 0 ≤ p3 ∧ p3 ≤ 99999 ∧ 90 ≤ fI h 64 15 ∧ z = -3 ∧ fI h' 64 15 = fI h 64 15) ∨ ((p1 < 0 ∨ fI h 64 7 ≤ p1 ∨ p2 < 0 ∨ fI h 64 2 ≤ p2 ∨ aI h 65 p2 = 0 ∨ p3 < 0 ∨ 99999 < p3) ∧ z = -1 ∧ fI h' 64 15 = fI h 64 15)) ∧ TH E τ h' ∧ Fr τ W198 h h') → Q v h') : MR (mex Ln xs) d 198 0 [some (.ref 64), some (vI p1), some (vI p2), some (vI p3), none] [] h Q := by
  have hF := Fr_rf τ W198 h
  have e1 := fI_bd (q := 64) hT (tf hT rfl rfl) fd_8_32
  have e2 := fI_bd (q := 64) hT (tf hT rfl rfl) fd_8_15
  have e3 := fI_bd (q := 64) hT (tf hT rfl rfl) fd_8_33
  refine st_aload c198_0 rfl ?_
  refine st_iload c198_1 rfl ?_
  have e4 := fI_bd (q := 64) hT (tf hT rfl rfl) fd_8_7
  refine st_callt (as := [vI p1]) c198_2 cm_190 hT (tf hT rfl rfl) fd_8_0 rfl rfl rfl rfl (by omega) (K190 hT p1 (by omega) (d - 1) (by omega) _ (fun v h0 H => H)) (fun v1 h1 H => ?_)
  rcases H with ⟨rfl, pf5, rfl⟩ | ⟨rfl, pf6, pf7, rfl⟩
  refine st_if_eq c198_5 (by omega) (fun k8 => ?_) (fun k9 => False.elim (by omega))
  refine st_iconst c198_35 ?_
  refine st_ireturn c198_36 ?_
  have e10 := fI_bd (q := 64) hT (tf hT rfl rfl) fd_8_32
  have e11 := fI_bd (q := 64) hT (tf hT rfl rfl) fd_8_15
  have e12 := fI_bd (q := 64) hT (tf hT rfl rfl) fd_8_33
  exact hQ _ _ ⟨(-1), rfl, by omega, by omega, by omega, hT, hF⟩
  refine st_if_eq c198_5 (by omega) (fun k13 => False.elim (by omega)) (fun k14 => ?_)
  refine st_aload c198_8 rfl ?_
  refine st_iload c198_9 rfl ?_
  have e15 := fI_bd (q := 64) hT (tf hT rfl rfl) fd_8_2
  refine st_callt (as := [vI p2]) c198_10 cm_183 hT (tf hT rfl rfl) fd_8_0 rfl rfl rfl rfl (by omega) (K183 hT p2 (by omega) (d - 1) (by omega) _ (fun v h0 H => H)) (fun v1 h1 H => ?_)
  rcases H with ⟨rfl, pf16, rfl⟩ | ⟨rfl, pf17, pf18, rfl⟩
  refine st_if_eq c198_13 (by omega) (fun k19 => ?_) (fun k20 => False.elim (by omega))
  refine st_iconst c198_35 ?_
  refine st_ireturn c198_36 ?_
  have e21 := fI_bd (q := 64) hT (tf hT rfl rfl) fd_8_32
  have e22 := fI_bd (q := 64) hT (tf hT rfl rfl) fd_8_15
  have e23 := fI_bd (q := 64) hT (tf hT rfl rfl) fd_8_33
  exact hQ _ _ ⟨(-1), rfl, by omega, by omega, by omega, hT, hF⟩
  refine st_if_eq c198_13 (by omega) (fun k24 => False.elim (by omega)) (fun k25 => ?_)
  refine st_aload c198_16 rfl ?_
  refine st_getX (u := 65) c198_17 hT (tf hT rfl rfl) fd_8_3 rfl ?_
  refine st_iload c198_20 rfl ?_
  refine st_bald c198_21 hT (tf hT rfl rfl) ay_43 (Or.inl rfl) (by omega) (fun e26 e27 => ?_)
  refine st_if_eq c198_22 (by omega) (fun k28 => ?_) (fun k29 => ?_)
  refine st_iconst c198_35 ?_
  refine st_ireturn c198_36 ?_
  have e30 := fI_bd (q := 64) hT (tf hT rfl rfl) fd_8_32
  have e31 := fI_bd (q := 64) hT (tf hT rfl rfl) fd_8_15
  have e32 := fI_bd (q := 64) hT (tf hT rfl rfl) fd_8_33
  exact hQ _ _ ⟨(-1), rfl, by omega, by omega, by omega, hT, hF⟩
  refine st_iload c198_25 rfl ?_
  refine st_iconst c198_26 ?_
  refine st_iconst c198_27 ?_
  refine st_calls (as := [vI p3, vI 0, vI 99999]) c198_29 cm_180 rfl rfl rfl rfl (by omega) (K180 hT p3 (by omega) 0 (by omega) 99999 (by omega) (d - 1) (by omega) _ (fun v h0 H => H)) (fun v1 h1 H => ?_)
  rcases H with ⟨rfl, pf33, rfl⟩ | ⟨rfl, pf34, pf35, rfl⟩
  refine st_if_ne c198_32 (by omega) (fun k36 => False.elim (by omega)) (fun k37 => ?_)
  refine st_iconst c198_35 ?_
  refine st_ireturn c198_36 ?_
  have e38 := fI_bd (q := 64) hT (tf hT rfl rfl) fd_8_32
  have e39 := fI_bd (q := 64) hT (tf hT rfl rfl) fd_8_15
  have e40 := fI_bd (q := 64) hT (tf hT rfl rfl) fd_8_33
  exact hQ _ _ ⟨(-1), rfl, by omega, by omega, by omega, hT, hF⟩
  refine st_if_ne c198_32 (by omega) (fun k41 => ?_) (fun k42 => False.elim (by omega))
  refine st_aload c198_37 rfl ?_
  refine st_getI c198_38 hT (tf hT rfl rfl) fd_8_15 (fun e43 e44 => ?_)
  refine st_iconst c198_41 ?_
  refine st_icmp_ne c198_43 (by omega) (by omega) (fun k45 => ?_) (fun k46 => ?_)
  refine st_aload c198_49 rfl ?_
  refine st_getI c198_50 hT (tf hT rfl rfl) fd_8_15 (fun e47 e48 => ?_)
  refine st_istore (L' := [some (.ref 64), some (vI p1), some (vI p2), some (vI p3), some (vI (fI h 64 15))]) c198_53 rfl rfl ?_
  refine st_aload c198_55 rfl ?_
  refine st_getX (u := 76) c198_56 hT (tf hT rfl rfl) fd_8_16 rfl ?_
  refine st_iload c198_59 rfl ?_
  refine st_iload c198_61 rfl ?_
  refine st_iast c198_62 hT (tf hT rfl rfl) ay_54 (by omega) (by omega) (by omega) (Ext_rf _) hS hF (by decide +kernel) (fun h49 hT50 hF51 hU52 => ?_)
  refine st_aload c198_63 rfl ?_
  refine st_getX (u := 77) c198_64 hT50 (tf hT50 rfl rfl) fd_8_17 rfl ?_
  refine st_iload c198_67 rfl ?_
  refine st_iload c198_69 rfl ?_
  refine st_iast c198_70 hT50 (tf hT50 rfl rfl) ay_55 (by omega) (by omega) (by omega) (Ext_rf _) hS hF51 (by decide +kernel) (fun h53 hT54 hF55 hU56 => ?_)
  refine st_aload c198_71 rfl ?_
  refine st_getX (u := 79) c198_72 hT54 (tf hT54 rfl rfl) fd_8_19 rfl ?_
  refine st_iload c198_75 rfl ?_
  refine st_iload c198_77 rfl ?_
  refine st_iast c198_78 hT54 (tf hT54 rfl rfl) ay_57 (by omega) (by omega) (by omega) (Ext_rf _) hS hF55 (by decide +kernel) (fun h57 hT58 hF59 hU60 => ?_)
  refine st_aload c198_79 rfl ?_
  refine st_getX (u := 82) c198_80 hT58 (tf hT58 rfl rfl) fd_8_22 rfl ?_
  refine st_iload c198_83 rfl ?_
  refine st_aload c198_85 rfl ?_
  refine st_getI c198_86 hT58 (tf hT58 rfl rfl) fd_8_1 (fun e61 e62 => ?_)
  have q63 : fI h57 64 1 = fI h 64 1 := (AUp_fI hU60).trans ((AUp_fI hU56).trans (AUp_fI hU52))
  refine st_iast c198_89 hT58 (tf hT58 rfl rfl) ay_60 (by omega) (by omega) (by omega) (Ext_rf _) hS hF59 (by decide +kernel) (fun h64 hT65 hF66 hU67 => ?_)
  refine st_aload c198_90 rfl ?_
  refine st_getX (u := 80) c198_91 hT65 (tf hT65 rfl rfl) fd_8_20 rfl ?_
  refine st_iload c198_94 rfl ?_
  refine st_iconst c198_96 ?_
  refine st_iast c198_97 hT65 (tf hT65 rfl rfl) ay_58 (by omega) (by omega) (by omega) (Ext_rf _) hS hF66 (by decide +kernel) (fun h68 hT69 hF70 hU71 => ?_)
  refine st_aload c198_98 rfl ?_
  refine st_getX (u := 84) c198_99 hT69 (tf hT69 rfl rfl) fd_8_24 rfl ?_
  refine st_iload c198_102 rfl ?_
  refine st_iconst c198_104 ?_
  refine st_iast c198_105 hT69 (tf hT69 rfl rfl) ay_62 (by omega) (by omega) (by omega) (Ext_rf _) hS hF70 (by decide +kernel) (fun h72 hT73 hF74 hU75 => ?_)
  refine st_aload c198_106 rfl ?_
  refine st_getX (u := 86) c198_107 hT73 (tf hT73 rfl rfl) fd_8_26 rfl ?_
  refine st_iload c198_110 rfl ?_
  refine st_iconst c198_112 ?_
  refine st_iast c198_113 hT73 (tf hT73 rfl rfl) ay_64 (by omega) (by omega) (by omega) (Ext_rf _) hS hF74 (by decide +kernel) (fun h76 hT77 hF78 hU79 => ?_)
  refine st_aload c198_114 rfl ?_
  refine st_getX (u := 87) c198_115 hT77 (tf hT77 rfl rfl) fd_8_27 rfl ?_
  refine st_iload c198_118 rfl ?_
  refine st_iconst c198_120 ?_
  refine st_iast c198_121 hT77 (tf hT77 rfl rfl) ay_65 (by omega) (by omega) (by omega) (Ext_rf _) hS hF78 (by decide +kernel) (fun h80 hT81 hF82 hU83 => ?_)
  refine st_aload c198_122 rfl ?_
  refine st_dup c198_123 rfl ?_
  refine st_getI c198_124 hT81 (tf hT81 rfl rfl) fd_8_15 (fun e84 e85 => ?_)
  have q86 : fI h80 64 15 = fI h 64 15 := (AUp_fI hU83).trans ((AUp_fI hU79).trans ((AUp_fI hU75).trans ((AUp_fI hU71).trans ((AUp_fI hU67).trans ((AUp_fI hU60).trans ((AUp_fI hU56).trans (AUp_fI hU52)))))))
  refine st_iconst c198_127 ?_
  refine st_iadd c198_128 ?_
  refine st_putI c198_129 hT81 (tf hT81 rfl rfl) fd_8_15 (by omega) (by omega) (Ext_rf _) hS hF82 (by decide +kernel) (fun h87 hT88 hF89 hU90 => ?_)
  refine st_aload c198_132 rfl ?_
  refine st_iload c198_133 rfl ?_
  refine st_iload c198_135 rfl ?_
  have e91 := fI_bd (q := 64) hT88 (tf hT88 rfl rfl) fd_8_32
  have q92 : fI h87 64 32 = fI h 64 32 := (FUp_fIne hU90 (fun z => absurd z.2 (by decide))).trans ((AUp_fI hU83).trans ((AUp_fI hU79).trans ((AUp_fI hU75).trans ((AUp_fI hU71).trans ((AUp_fI hU67).trans ((AUp_fI hU60).trans ((AUp_fI hU56).trans (AUp_fI hU52))))))))
  refine st_callt (as := [vI (fI h 64 15), vI p3]) c198_136 cm_195 hT88 (tf hT88 rfl rfl) fd_8_0 rfl rfl rfl rfl (by omega) (K195 hT88 (Stb_mono hS (by decide +kernel)) (fI h 64 15) (by omega) p3 (by omega) (by omega) (d - 1) (by omega) _ (fun v h0 H => H)) (fun v1 h93 H => ?_)
  obtain ⟨rfl, pf96, hT94, hF95⟩ := H
  have hF97 := Fr_cp hF89 hF95 (by decide +kernel : Wsub W195 W198 = true)
  have e98 := fI_bd (q := 64) hT94 (tf hT94 rfl rfl) fd_8_32
  refine st_iload c198_139 rfl ?_
  refine st_ireturn c198_141 ?_
  have e99 := fI_bd (q := 64) hT94 (tf hT94 rfl rfl) fd_8_15
  have q100 : fI h93 64 15 = (fI h80 64 15) + 1 := (Fr_fI hF95 (tf hT88 rfl rfl) (by decide +kernel)).trans (FUp_fI hU90 (by omega) (by omega))
  have e101 := fI_bd (q := 64) hT94 (tf hT94 rfl rfl) fd_8_33
  have q102 : fI h93 64 33 = fI h 64 33 := (Fr_fI hF95 (tf hT88 rfl rfl) (by decide +kernel)).trans ((FUp_fIne hU90 (fun z => absurd z.2 (by decide))).trans ((AUp_fI hU83).trans ((AUp_fI hU79).trans ((AUp_fI hU75).trans ((AUp_fI hU71).trans ((AUp_fI hU67).trans ((AUp_fI hU60).trans ((AUp_fI hU56).trans (AUp_fI hU52)))))))))
  exact hQ _ _ ⟨fI h 64 15, rfl, by omega, by omega, by omega, hT94, hF97⟩
  refine st_iconst c198_46 ?_
  refine st_ireturn c198_48 ?_
  have e103 := fI_bd (q := 64) hT (tf hT rfl rfl) fd_8_32
  have e104 := fI_bd (q := 64) hT (tf hT rfl rfl) fd_8_33
  exact hQ _ _ ⟨(-3), rfl, by omega, by omega, by omega, hT, hF⟩
def W209 : List (Nat × Nat) := [(8, 32), (8, 33), (55, 0), (70, 0), (71, 0), (72, 0)]
set_option maxHeartbeats 0 in
theorem K209 {Ln : Nat} {xs : Nat → Int32} {τ : List Nat} {h : List mE} {E : EP} (hT : TH E τ h) (hS : Stb E W209) (p1 : Int) (hp1 : (-2147483648) ≤ p1 ∧ p1 ≤ 2147483647) (p2 : Int) (hp2 : (-2147483648) ≤ p2 ∧ p2 ≤ 2147483647) (pre0 : fI h 64 32≤fI h 64 15+fI h 64 33) (d : Nat) (hd : 2 ≤ d) (Q : Option Value → List mE → Prop) (hQ : ∀ v h', (∃ z : Int, v = some (vI z) ∧ ((-2147483648) ≤ z ∧ z ≤ 99999) ∧ (fI h' 64 32≤fI h' 64 15+fI h' 64 33) ∧ TH E τ h' ∧ Fr τ W209 h h') → Q v h') : MR (mex Ln xs) d 209 0 [some (.ref 64), some (vI p1), some (vI p2), none] [] h Q := by
  have hF := Fr_rf τ W209 h
  have e1 := fI_bd (q := 64) hT (tf hT rfl rfl) fd_8_32
  have e2 := fI_bd (q := 64) hT (tf hT rfl rfl) fd_8_15
  have e3 := fI_bd (q := 64) hT (tf hT rfl rfl) fd_8_33
  refine st_aload c209_0 rfl ?_
  refine st_iload c209_1 rfl ?_
  have e4 := fI_bd (q := 64) hT (tf hT rfl rfl) fd_8_15
  refine st_callt (as := [vI p1]) c209_2 cm_191 hT (tf hT rfl rfl) fd_8_0 rfl rfl rfl rfl (by omega) (K191 hT p1 (by omega) (d - 1) (by omega) _ (fun v h0 H => H)) (fun v1 h1 H => ?_)
  rcases H with ⟨rfl, pf5, rfl⟩ | ⟨rfl, pf6, pf7, rfl⟩
  refine st_if_eq c209_5 (by omega) (fun k8 => ?_) (fun k9 => False.elim (by omega))
  refine st_iconst c209_23 ?_
  refine st_ireturn c209_24 ?_
  have e10 := fI_bd (q := 64) hT (tf hT rfl rfl) fd_8_32
  have e11 := fI_bd (q := 64) hT (tf hT rfl rfl) fd_8_33
  exact hQ _ _ ⟨(-1), rfl, by omega, by omega, hT, hF⟩
  refine st_if_eq c209_5 (by omega) (fun k12 => False.elim (by omega)) (fun k13 => ?_)
  refine st_iload c209_8 rfl ?_
  refine st_aload c209_9 rfl ?_
  refine st_getX (u := 77) c209_10 hT (tf hT rfl rfl) fd_8_17 rfl ?_
  refine st_iload c209_13 rfl ?_
  refine st_iald c209_14 hT (tf hT rfl rfl) ay_55 (by omega) (fun e14 e15 => ?_)
  refine st_iconst c209_15 ?_
  refine st_calls (as := [vI p2, vI (aI h 77 p1), vI 99999]) c209_17 cm_180 rfl rfl rfl rfl (by omega) (K180 hT p2 (by omega) (aI h 77 p1) (by omega) 99999 (by omega) (d - 1) (by omega) _ (fun v h0 H => H)) (fun v1 h1 H => ?_)
  rcases H with ⟨rfl, pf16, rfl⟩ | ⟨rfl, pf17, pf18, rfl⟩
  refine st_if_ne c209_20 (by omega) (fun k19 => False.elim (by omega)) (fun k20 => ?_)
  refine st_iconst c209_23 ?_
  refine st_ireturn c209_24 ?_
  have e21 := fI_bd (q := 64) hT (tf hT rfl rfl) fd_8_32
  have e22 := fI_bd (q := 64) hT (tf hT rfl rfl) fd_8_33
  exact hQ _ _ ⟨(-1), rfl, by omega, by omega, hT, hF⟩
  refine st_if_ne c209_20 (by omega) (fun k23 => ?_) (fun k24 => False.elim (by omega))
  refine st_aload c209_25 rfl ?_
  refine st_getX (u := 78) c209_26 hT (tf hT rfl rfl) fd_8_18 rfl ?_
  refine st_iload c209_29 rfl ?_
  refine st_iald c209_30 hT (tf hT rfl rfl) ay_56 (by omega) (fun e25 e26 => ?_)
  refine st_iconst c209_31 ?_
  refine st_icmp_ne c209_32 (by omega) (by omega) (fun k27 => ?_) (fun k28 => ?_)
  refine st_aload c209_38 rfl ?_
  refine st_iload c209_39 rfl ?_
  refine st_aload c209_40 rfl ?_
  refine st_getI c209_41 hT (tf hT rfl rfl) fd_8_1 (fun e29 e30 => ?_)
  refine st_callt (as := [vI p1, vI (fI h 64 1)]) c209_44 cm_196 hT (tf hT rfl rfl) fd_8_0 rfl rfl rfl rfl (by omega) (K196 hT p1 (by omega) (fI h 64 1) (by omega) (d - 1) (by omega) _ (fun v h0 H => H)) (fun v1 h1 H => ?_)
  obtain ⟨z31, rfl, b32, rfl⟩ := H
  refine st_istore (L' := [some (.ref 64), some (vI p1), some (vI p2), some (vI z31)]) c209_47 rfl rfl ?_
  refine st_iload c209_48 rfl ?_
  refine st_if_lt c209_49 (by omega) (fun k33 => ?_) (fun k34 => ?_)
  refine st_aload c209_75 rfl ?_
  refine st_getI c209_76 hT (tf hT rfl rfl) fd_8_33 (fun e35 e36 => ?_)
  refine st_iconst c209_79 ?_
  refine st_icmp_ne c209_82 (by omega) (by omega) (fun k37 => ?_) (fun k38 => ?_)
  refine st_aload c209_88 rfl ?_
  refine st_dup c209_89 rfl ?_
  refine st_getI c209_90 hT (tf hT rfl rfl) fd_8_33 (fun e39 e40 => ?_)
  refine st_iconst c209_93 ?_
  refine st_iadd c209_94 ?_
  refine st_putI c209_95 hT (tf hT rfl rfl) fd_8_33 (by omega) (by omega) (Ext_rf _) hS hF (by decide +kernel) (fun h41 hT42 hF43 hU44 => ?_)
  refine st_aload c209_98 rfl ?_
  refine st_iload c209_99 rfl ?_
  refine st_iload c209_100 rfl ?_
  have e45 := fI_bd (q := 64) hT42 (tf hT42 rfl rfl) fd_8_32
  have q46 : fI h41 64 32 = fI h 64 32 := FUp_fIne hU44 (fun z => absurd z.2 (by decide))
  refine st_callt (as := [vI p1, vI p2]) c209_101 cm_195 hT42 (tf hT42 rfl rfl) fd_8_0 rfl rfl rfl rfl (by omega) (K195 hT42 (Stb_mono hS (by decide +kernel)) p1 (by omega) p2 (by omega) (by omega) (d - 1) (by omega) _ (fun v h0 H => H)) (fun v1 h47 H => ?_)
  obtain ⟨rfl, pf50, hT48, hF49⟩ := H
  have hF51 := Fr_cp hF43 hF49 (by decide +kernel : Wsub W195 W209 = true)
  have e52 := fI_bd (q := 64) hT48 (tf hT48 rfl rfl) fd_8_32
  refine st_aload c209_104 rfl ?_
  refine st_getX (u := 77) c209_105 hT48 (tf hT48 rfl rfl) fd_8_17 rfl ?_
  refine st_iload c209_108 rfl ?_
  refine st_iload c209_109 rfl ?_
  refine st_iast c209_110 hT48 (tf hT48 rfl rfl) ay_55 (by omega) (by omega) (by omega) (Ext_rf _) hS hF51 (by decide +kernel) (fun h53 hT54 hF55 hU56 => ?_)
  refine st_iload c209_111 rfl ?_
  refine st_ireturn c209_112 ?_
  have e57 := fI_bd (q := 64) hT54 (tf hT54 rfl rfl) fd_8_32
  have q58 : fI h53 64 32 = fI h47 64 32 := AUp_fI hU56
  have e59 := fI_bd (q := 64) hT54 (tf hT54 rfl rfl) fd_8_15
  have q60 : fI h53 64 15 = fI h 64 15 := (AUp_fI hU56).trans ((Fr_fI hF49 (tf hT42 rfl rfl) (by decide +kernel)).trans (FUp_fIne hU44 (fun z => absurd z.2 (by decide))))
  have e61 := fI_bd (q := 64) hT54 (tf hT54 rfl rfl) fd_8_33
  have q62 : fI h53 64 33 = (fI h 64 33) + 1 := (AUp_fI hU56).trans ((Fr_fI hF49 (tf hT42 rfl rfl) (by decide +kernel)).trans (FUp_fI hU44 (by omega) (by omega)))
  exact hQ _ _ ⟨p2, rfl, by omega, by omega, hT54, hF55⟩
  refine st_iconst c209_85 ?_
  refine st_ireturn c209_87 ?_
  have e63 := fI_bd (q := 64) hT (tf hT rfl rfl) fd_8_32
  exact hQ _ _ ⟨(-3), rfl, by omega, by omega, hT, hF⟩
  refine st_aload c209_52 rfl ?_
  refine st_getX (u := 93) c209_53 hT (tf hT rfl rfl) fd_8_35 rfl ?_
  refine st_iload c209_56 rfl ?_
  refine st_iald c209_57 hT (tf hT rfl rfl) ay_71 (by omega) (fun e64 e65 => ?_)
  refine st_aload c209_58 rfl ?_
  refine st_getI c209_59 hT (tf hT rfl rfl) fd_8_1 (fun e66 e67 => ?_)
  refine st_icmp_ne c209_62 (by omega) (by omega) (fun k68 => ?_) (fun k69 => ?_)
  refine st_aload c209_75 rfl ?_
  refine st_getI c209_76 hT (tf hT rfl rfl) fd_8_33 (fun e70 e71 => ?_)
  refine st_iconst c209_79 ?_
  refine st_icmp_ne c209_82 (by omega) (by omega) (fun k72 => ?_) (fun k73 => ?_)
  refine st_aload c209_88 rfl ?_
  refine st_dup c209_89 rfl ?_
  refine st_getI c209_90 hT (tf hT rfl rfl) fd_8_33 (fun e74 e75 => ?_)
  refine st_iconst c209_93 ?_
  refine st_iadd c209_94 ?_
  refine st_putI c209_95 hT (tf hT rfl rfl) fd_8_33 (by omega) (by omega) (Ext_rf _) hS hF (by decide +kernel) (fun h76 hT77 hF78 hU79 => ?_)
  refine st_aload c209_98 rfl ?_
  refine st_iload c209_99 rfl ?_
  refine st_iload c209_100 rfl ?_
  have e80 := fI_bd (q := 64) hT77 (tf hT77 rfl rfl) fd_8_32
  have q81 : fI h76 64 32 = fI h 64 32 := FUp_fIne hU79 (fun z => absurd z.2 (by decide))
  refine st_callt (as := [vI p1, vI p2]) c209_101 cm_195 hT77 (tf hT77 rfl rfl) fd_8_0 rfl rfl rfl rfl (by omega) (K195 hT77 (Stb_mono hS (by decide +kernel)) p1 (by omega) p2 (by omega) (by omega) (d - 1) (by omega) _ (fun v h0 H => H)) (fun v1 h82 H => ?_)
  obtain ⟨rfl, pf85, hT83, hF84⟩ := H
  have hF86 := Fr_cp hF78 hF84 (by decide +kernel : Wsub W195 W209 = true)
  have e87 := fI_bd (q := 64) hT83 (tf hT83 rfl rfl) fd_8_32
  refine st_aload c209_104 rfl ?_
  refine st_getX (u := 77) c209_105 hT83 (tf hT83 rfl rfl) fd_8_17 rfl ?_
  refine st_iload c209_108 rfl ?_
  refine st_iload c209_109 rfl ?_
  refine st_iast c209_110 hT83 (tf hT83 rfl rfl) ay_55 (by omega) (by omega) (by omega) (Ext_rf _) hS hF86 (by decide +kernel) (fun h88 hT89 hF90 hU91 => ?_)
  refine st_iload c209_111 rfl ?_
  refine st_ireturn c209_112 ?_
  have e92 := fI_bd (q := 64) hT89 (tf hT89 rfl rfl) fd_8_32
  have q93 : fI h88 64 32 = fI h82 64 32 := AUp_fI hU91
  have e94 := fI_bd (q := 64) hT89 (tf hT89 rfl rfl) fd_8_15
  have q95 : fI h88 64 15 = fI h 64 15 := (AUp_fI hU91).trans ((Fr_fI hF84 (tf hT77 rfl rfl) (by decide +kernel)).trans (FUp_fIne hU79 (fun z => absurd z.2 (by decide))))
  have e96 := fI_bd (q := 64) hT89 (tf hT89 rfl rfl) fd_8_33
  have q97 : fI h88 64 33 = (fI h 64 33) + 1 := (AUp_fI hU91).trans ((Fr_fI hF84 (tf hT77 rfl rfl) (by decide +kernel)).trans (FUp_fI hU79 (by omega) (by omega)))
  exact hQ _ _ ⟨p2, rfl, by omega, by omega, hT89, hF90⟩
  refine st_iconst c209_85 ?_
  refine st_ireturn c209_87 ?_
  have e98 := fI_bd (q := 64) hT (tf hT rfl rfl) fd_8_32
  exact hQ _ _ ⟨(-3), rfl, by omega, by omega, hT, hF⟩
  refine st_aload c209_65 rfl ?_
  refine st_getX (u := 94) c209_66 hT (tf hT rfl rfl) fd_8_36 rfl ?_
  refine st_iload c209_69 rfl ?_
  refine st_iload c209_70 rfl ?_
  refine st_iast c209_71 hT (tf hT rfl rfl) ay_72 (by omega) (by omega) (by omega) (Ext_rf _) hS hF (by decide +kernel) (fun h99 hT100 hF101 hU102 => ?_)
  refine st_goto c209_72 ?_
  refine st_aload c209_104 rfl ?_
  refine st_getX (u := 77) c209_105 hT100 (tf hT100 rfl rfl) fd_8_17 rfl ?_
  refine st_iload c209_108 rfl ?_
  refine st_iload c209_109 rfl ?_
  refine st_iast c209_110 hT100 (tf hT100 rfl rfl) ay_55 (by omega) (by omega) (by omega) (Ext_rf _) hS hF101 (by decide +kernel) (fun h103 hT104 hF105 hU106 => ?_)
  refine st_iload c209_111 rfl ?_
  refine st_ireturn c209_112 ?_
  have e107 := fI_bd (q := 64) hT104 (tf hT104 rfl rfl) fd_8_32
  have q108 : fI h103 64 32 = fI h 64 32 := (AUp_fI hU106).trans (AUp_fI hU102)
  have e109 := fI_bd (q := 64) hT104 (tf hT104 rfl rfl) fd_8_15
  have q110 : fI h103 64 15 = fI h 64 15 := (AUp_fI hU106).trans (AUp_fI hU102)
  have e111 := fI_bd (q := 64) hT104 (tf hT104 rfl rfl) fd_8_33
  have q112 : fI h103 64 33 = fI h 64 33 := (AUp_fI hU106).trans (AUp_fI hU102)
  exact hQ _ _ ⟨p2, rfl, by omega, by omega, hT104, hF105⟩
  refine st_iconst c209_35 ?_
  refine st_ireturn c209_37 ?_
  have e113 := fI_bd (q := 64) hT (tf hT rfl rfl) fd_8_32
  have e114 := fI_bd (q := 64) hT (tf hT rfl rfl) fd_8_33
  exact hQ _ _ ⟨(-2), rfl, by omega, by omega, hT, hF⟩
def W208 : List (Nat × Nat) := [(56, 0), (61, 0), (64, 0), (66, 0), (75, 0), (87, 0), (88, 0), (89, 0), (90, 0)]
set_option maxHeartbeats 0 in
theorem K208 {Ln : Nat} {xs : Nat → Int32} {τ : List Nat} {h : List mE} {E : EP} (hT : TH E τ h) (hS : Stb E W208) (p1 : Int) (hp1 : (-2147483648) ≤ p1 ∧ p1 ≤ 2147483647) (p2 : Int) (hp2 : (-2147483648) ≤ p2 ∧ p2 ≤ 2147483647) (pre0 : I3 h) (d : Nat) (hd : 2 ≤ d) (Q : Option Value → List mE → Prop) (hQ : ∀ v h', (∃ z : Int, v = some (vI z) ∧ ((-2) ≤ z ∧ z ≤ 1) ∧ (I3 h') ∧ TH E τ h' ∧ Fr τ W208 h h') → Q v h') : MR (mex Ln xs) d 208 0 [some (.ref 64), some (vI p1), some (vI p2), none] [] h Q := by
  have hF := Fr_rf τ W208 h
  refine st_aload c208_0 rfl ?_
  refine st_iload c208_1 rfl ?_
  have e1 := fI_bd (q := 64) hT (tf hT rfl rfl) fd_8_15
  refine st_callt (as := [vI p1]) c208_2 cm_191 hT (tf hT rfl rfl) fd_8_0 rfl rfl rfl rfl (by omega) (K191 hT p1 (by omega) (d - 1) (by omega) _ (fun v h0 H => H)) (fun v1 h1 H => ?_)
  rcases H with ⟨rfl, pf2, rfl⟩ | ⟨rfl, pf3, pf4, rfl⟩
  refine st_if_eq c208_5 (by omega) (fun k5 => ?_) (fun k6 => False.elim (by omega))
  refine st_iconst c208_17 ?_
  refine st_ireturn c208_18 ?_
  exact hQ _ _ ⟨(-1), rfl, by omega, pre0, hT, hF⟩
  refine st_if_eq c208_5 (by omega) (fun k7 => False.elim (by omega)) (fun k8 => ?_)
  refine st_iload c208_8 rfl ?_
  refine st_iconst c208_9 ?_
  refine st_iconst c208_10 ?_
  refine st_calls (as := [vI p2, vI 3, vI 4]) c208_11 cm_180 rfl rfl rfl rfl (by omega) (K180 hT p2 (by omega) 3 (by omega) 4 (by omega) (d - 1) (by omega) _ (fun v h0 H => H)) (fun v1 h1 H => ?_)
  rcases H with ⟨rfl, pf9, rfl⟩ | ⟨rfl, pf10, pf11, rfl⟩
  refine st_if_ne c208_14 (by omega) (fun k12 => False.elim (by omega)) (fun k13 => ?_)
  refine st_iconst c208_17 ?_
  refine st_ireturn c208_18 ?_
  exact hQ _ _ ⟨(-1), rfl, by omega, pre0, hT, hF⟩
  refine st_if_ne c208_14 (by omega) (fun k14 => ?_) (fun k15 => False.elim (by omega))
  refine st_aload c208_19 rfl ?_
  refine st_getX (u := 83) c208_20 hT (tf hT rfl rfl) fd_8_23 rfl ?_
  refine st_iload c208_23 rfl ?_
  refine st_iald c208_24 hT (tf hT rfl rfl) ay_61 (by omega) (fun e16 e17 => ?_)
  refine st_iconst c208_25 ?_
  refine st_icmp_ge c208_26 (by omega) (by omega) (fun k18 => ?_) (fun k19 => ?_)
  refine st_iconst c208_42 ?_
  refine st_ireturn c208_44 ?_
  exact hQ _ _ ⟨(-2), rfl, by omega, pre0, hT, hF⟩
  refine st_iload c208_29 rfl ?_
  refine st_iconst c208_30 ?_
  refine st_icmp_ne c208_31 (by omega) (by omega) (fun k20 => ?_) (fun k21 => ?_)
  refine st_iload c208_45 rfl ?_
  refine st_iconst c208_46 ?_
  refine st_icmp_ne c208_47 (by omega) (by omega) (fun k22 => False.elim (by omega)) (fun k23 => ?_)
  refine st_aload c208_50 rfl ?_
  refine st_iload c208_51 rfl ?_
  refine st_callt (as := [vI p1]) c208_52 cm_206 hT (tf hT rfl rfl) fd_8_0 rfl rfl rfl rfl (by omega) (K206 hT (Stb_mono hS (by decide +kernel)) p1 (by omega) (d - 1) (by omega) _ (fun v h0 H => H)) (fun v1 h24 H => ?_)
  obtain ⟨rfl, hT25, hF26⟩ := H
  have hF27 := Fr_cp hF hF26 (by decide +kernel : Wsub W206 W208 = true)
  refine st_aload c208_55 rfl ?_
  refine st_getX (u := 88) c208_56 hT25 (tf hT25 rfl rfl) fd_8_28 rfl ?_
  refine st_iload c208_59 rfl ?_
  refine st_aload c208_60 rfl ?_
  refine st_getI c208_61 hT25 (tf hT25 rfl rfl) fd_8_1 (fun e28 e29 => ?_)
  have q30 : fI h24 64 1 = fI h 64 1 := Fr_fI hF26 (tf hT rfl rfl) (by decide +kernel)
  refine st_iast c208_64 hT25 (tf hT25 rfl rfl) ay_66 (by omega) (by omega) (by omega) (Ext_rf _) hS hF27 (by decide +kernel) (fun h31 hT32 hF33 hU34 => ?_)
  refine st_aload c208_65 rfl ?_
  refine st_getX (u := 86) c208_66 hT32 (tf hT32 rfl rfl) fd_8_26 rfl ?_
  refine st_iload c208_69 rfl ?_
  refine st_iald c208_70 hT32 (tf hT32 rfl rfl) ay_64 (by omega) (fun e35 e36 => ?_)
  have q37 : aI h31 86 p1 = aI h 86 p1 := (AUp_aIne hU34 (by decide) p1).trans (Fr_aI hF26 (tf hT rfl rfl) (by decide +kernel) p1)
  refine st_istore (L' := [some (.ref 64), some (vI p1), some (vI p2), some (vI (aI h31 86 p1))]) c208_71 rfl rfl ?_
  refine st_iload c208_72 rfl ?_
  refine st_if_lt c208_73 (by omega) (fun k38 => ?_) (fun k39 => ?_)
  refine st_iload c208_104 rfl ?_
  refine st_if_lt c208_105 (by omega) (fun k40 => ?_) (fun k41 => False.elim (by omega))
  refine st_aload c208_129 rfl ?_
  refine st_getX (u := 83) c208_130 hT32 (tf hT32 rfl rfl) fd_8_23 rfl ?_
  refine st_iload c208_133 rfl ?_
  refine st_iload c208_134 rfl ?_
  refine st_iast c208_135 hT32 (tf hT32 rfl rfl) ay_61 (by omega) (by omega) (by omega) (Ext_rf _) hS hF33 (by decide +kernel) (fun h42 hT43 hF44 hU45 => ?_)
  refine st_aload c208_136 rfl ?_
  refine st_getX (u := 78) c208_137 hT43 (tf hT43 rfl rfl) fd_8_18 rfl ?_
  refine st_iload c208_140 rfl ?_
  refine st_iconst c208_141 ?_
  refine st_iast c208_142 hT43 (tf hT43 rfl rfl) ay_56 (by omega) (by omega) (by omega) (Ext_rf _) hS hF44 (by decide +kernel) (fun h46 hT47 hF48 hU49 => ?_)
  refine st_aload c208_143 rfl ?_
  refine st_getX (u := 86) c208_144 hT47 (tf hT47 rfl rfl) fd_8_26 rfl ?_
  refine st_iload c208_147 rfl ?_
  refine st_iconst c208_148 ?_
  refine st_iast c208_149 hT47 (tf hT47 rfl rfl) ay_64 (by omega) (by omega) (by omega) (Ext_rf _) hS hF48 (by decide +kernel) (fun h50 hT51 hF52 hU53 => ?_)
  refine st_iconst c208_150 ?_
  refine st_ireturn c208_151 ?_
  exact hQ _ _ ⟨1, rfl, by omega, (I3_fr (I3_fr (I3_fr (I3_fr (I3_fr pre0 hT hF26 (by decide +kernel)) hT25 (AUp_1 hU34 (tf hT25 rfl rfl)) (by decide +kernel)) hT32 (AUp_1 hU45 (tf hT32 rfl rfl)) (by decide +kernel)) hT43 (AUp_1 hU49 (tf hT43 rfl rfl)) (by decide +kernel)) hT47 (AUp_1 hU53 (tf hT47 rfl rfl)) (by decide +kernel)), hT51, hF52⟩
  refine st_aload c208_76 rfl ?_
  refine st_iload c208_77 rfl ?_
  refine st_callt (as := [vI (aI h31 86 p1)]) c208_78 cm_236 hT32 (tf hT32 rfl rfl) fd_8_0 rfl rfl rfl rfl (by omega) (K236 hT32 (aI h31 86 p1) (by omega) (d - 1) (by omega) _ (fun v h0 H => H)) (fun v1 h1 H => ?_)
  rcases H with ⟨rfl, rfl⟩ | ⟨rfl, pf54, rfl⟩
  refine st_if_eq c208_81 (by omega) (fun k55 => ?_) (fun k56 => False.elim (by omega))
  refine st_iload c208_104 rfl ?_
  refine st_if_lt c208_105 (by omega) (fun k57 => False.elim (by omega)) (fun k58 => ?_)
  refine st_aload c208_108 rfl ?_
  refine st_getX (u := 109) c208_109 hT32 (tf hT32 rfl rfl) fd_8_55 rfl ?_
  refine st_iload c208_112 rfl ?_
  refine st_iconst c208_113 ?_
  refine st_iast c208_114 hT32 (tf hT32 rfl rfl) ay_87 (by omega) (by omega) (by omega) (Ext_rf _) hS hF33 (by decide +kernel) (fun h59 hT60 hF61 hU62 => ?_)
  have e63 := fI_bd (q := 64) hT32 (tf hT32 rfl rfl) fd_8_48
  have q64 : fI h31 64 48 = fI h 64 48 := (AUp_fI hU34).trans (Fr_fI hF26 (tf hT rfl rfl) (by decide +kernel))
  have q65 : aI h31 109 (aI h31 86 p1) = aI h 109 (aI h31 86 p1) := (AUp_aIne hU34 (by decide) (aI h31 86 p1)).trans (Fr_aI hF26 (tf hT rfl rfl) (by decide +kernel) (aI h31 86 p1))
  have q66 : aI h31 110 (aI h31 86 p1) = aI h 110 (aI h31 86 p1) := (AUp_aIne hU34 (by decide) (aI h31 86 p1)).trans (Fr_aI hF26 (tf hT rfl rfl) (by decide +kernel) (aI h31 86 p1))
  have q67 := ((I3_fr (I3_fr pre0 hT hF26 (by decide +kernel)) hT25 (AUp_1 hU34 (tf hT25 rfl rfl)) (by decide +kernel))) (aI h31 86 p1) (by omega) (by omega)
  have iv68 := I3_st (I3_fr (I3_fr pre0 hT hF26 (by decide +kernel)) hT25 (AUp_1 hU34 (tf hT25 rfl rfl)) (by decide +kernel)) hU62 (by omega) (by omega) (by omega) (by omega)
  refine st_aload c208_115 rfl ?_
  refine st_getX (u := 110) c208_116 hT60 (tf hT60 rfl rfl) fd_8_56 rfl ?_
  refine st_iload c208_119 rfl ?_
  refine st_iconst c208_120 ?_
  refine st_iast c208_121 hT60 (tf hT60 rfl rfl) ay_88 (by omega) (by omega) (by omega) (Ext_rf _) hS hF61 (by decide +kernel) (fun h69 hT70 hF71 hU72 => ?_)
  have e73 := fI_bd (q := 64) hT60 (tf hT60 rfl rfl) fd_8_48
  have q74 : fI h59 64 48 = fI h31 64 48 := AUp_fI hU62
  have q75 : aI h59 109 (aI h31 86 p1) = 0 := (AUp_aI hU62 (by omega) (by omega) (by omega) (by omega)).trans (if_pos rfl)
  have q76 : aI h59 110 (aI h31 86 p1) = aI h31 110 (aI h31 86 p1) := AUp_aIne hU62 (by decide) (aI h31 86 p1)
  have q77 := (iv68) (aI h31 86 p1) (by omega) (by omega)
  have iv78 := I3_mo iv68 hU72 (by omega) (by omega) (by omega)
  refine st_aload c208_122 rfl ?_
  refine st_getX (u := 111) c208_123 hT70 (tf hT70 rfl rfl) fd_8_57 rfl ?_
  refine st_iload c208_126 rfl ?_
  refine st_iconst c208_127 ?_
  refine st_iast c208_128 hT70 (tf hT70 rfl rfl) ay_89 (by omega) (by omega) (by omega) (Ext_rf _) hS hF71 (by decide +kernel) (fun h79 hT80 hF81 hU82 => ?_)
  refine st_aload c208_129 rfl ?_
  refine st_getX (u := 83) c208_130 hT80 (tf hT80 rfl rfl) fd_8_23 rfl ?_
  refine st_iload c208_133 rfl ?_
  refine st_iload c208_134 rfl ?_
  refine st_iast c208_135 hT80 (tf hT80 rfl rfl) ay_61 (by omega) (by omega) (by omega) (Ext_rf _) hS hF81 (by decide +kernel) (fun h83 hT84 hF85 hU86 => ?_)
  refine st_aload c208_136 rfl ?_
  refine st_getX (u := 78) c208_137 hT84 (tf hT84 rfl rfl) fd_8_18 rfl ?_
  refine st_iload c208_140 rfl ?_
  refine st_iconst c208_141 ?_
  refine st_iast c208_142 hT84 (tf hT84 rfl rfl) ay_56 (by omega) (by omega) (by omega) (Ext_rf _) hS hF85 (by decide +kernel) (fun h87 hT88 hF89 hU90 => ?_)
  refine st_aload c208_143 rfl ?_
  refine st_getX (u := 86) c208_144 hT88 (tf hT88 rfl rfl) fd_8_26 rfl ?_
  refine st_iload c208_147 rfl ?_
  refine st_iconst c208_148 ?_
  refine st_iast c208_149 hT88 (tf hT88 rfl rfl) ay_64 (by omega) (by omega) (by omega) (Ext_rf _) hS hF89 (by decide +kernel) (fun h91 hT92 hF93 hU94 => ?_)
  refine st_iconst c208_150 ?_
  refine st_ireturn c208_151 ?_
  exact hQ _ _ ⟨1, rfl, by omega, (I3_fr (I3_fr (I3_fr (I3_fr iv78 hT70 (AUp_1 hU82 (tf hT70 rfl rfl)) (by decide +kernel)) hT80 (AUp_1 hU86 (tf hT80 rfl rfl)) (by decide +kernel)) hT84 (AUp_1 hU90 (tf hT84 rfl rfl)) (by decide +kernel)) hT88 (AUp_1 hU94 (tf hT88 rfl rfl)) (by decide +kernel)), hT92, hF93⟩
  refine st_if_eq c208_81 (by omega) (fun k95 => False.elim (by omega)) (fun k96 => ?_)
  refine st_aload c208_84 rfl ?_
  refine st_getX (u := 109) c208_85 hT32 (tf hT32 rfl rfl) fd_8_55 rfl ?_
  refine st_iload c208_88 rfl ?_
  refine st_iconst c208_89 ?_
  refine st_iast c208_90 hT32 (tf hT32 rfl rfl) ay_87 (by omega) (by omega) (by omega) (Ext_rf _) hS hF33 (by decide +kernel) (fun h97 hT98 hF99 hU100 => ?_)
  have e101 := fI_bd (q := 64) hT32 (tf hT32 rfl rfl) fd_8_48
  have q102 : fI h31 64 48 = fI h 64 48 := (AUp_fI hU34).trans (Fr_fI hF26 (tf hT rfl rfl) (by decide +kernel))
  have q103 : aI h31 109 (aI h31 86 p1) = aI h 109 (aI h31 86 p1) := (AUp_aIne hU34 (by decide) (aI h31 86 p1)).trans (Fr_aI hF26 (tf hT rfl rfl) (by decide +kernel) (aI h31 86 p1))
  have q104 : aI h31 110 (aI h31 86 p1) = aI h 110 (aI h31 86 p1) := (AUp_aIne hU34 (by decide) (aI h31 86 p1)).trans (Fr_aI hF26 (tf hT rfl rfl) (by decide +kernel) (aI h31 86 p1))
  have q105 := ((I3_fr (I3_fr pre0 hT hF26 (by decide +kernel)) hT25 (AUp_1 hU34 (tf hT25 rfl rfl)) (by decide +kernel))) (aI h31 86 p1) (by omega) (by omega)
  have iv106 := I3_st (I3_fr (I3_fr pre0 hT hF26 (by decide +kernel)) hT25 (AUp_1 hU34 (tf hT25 rfl rfl)) (by decide +kernel)) hU100 (by omega) (by omega) (by omega) (by omega)
  refine st_aload c208_91 rfl ?_
  refine st_getX (u := 112) c208_92 hT98 (tf hT98 rfl rfl) fd_8_58 rfl ?_
  refine st_iload c208_95 rfl ?_
  refine st_aload c208_96 rfl ?_
  refine st_getI c208_97 hT98 (tf hT98 rfl rfl) fd_8_1 (fun e107 e108 => ?_)
  have q109 : fI h97 64 1 = fI h24 64 1 := (AUp_fI hU100).trans (AUp_fI hU34)
  refine st_iast c208_100 hT98 (tf hT98 rfl rfl) ay_90 (by omega) (by omega) (by omega) (Ext_rf _) hS hF99 (by decide +kernel) (fun h110 hT111 hF112 hU113 => ?_)
  refine st_goto c208_101 ?_
  refine st_aload c208_129 rfl ?_
  refine st_getX (u := 83) c208_130 hT111 (tf hT111 rfl rfl) fd_8_23 rfl ?_
  refine st_iload c208_133 rfl ?_
  refine st_iload c208_134 rfl ?_
  refine st_iast c208_135 hT111 (tf hT111 rfl rfl) ay_61 (by omega) (by omega) (by omega) (Ext_rf _) hS hF112 (by decide +kernel) (fun h114 hT115 hF116 hU117 => ?_)
  refine st_aload c208_136 rfl ?_
  refine st_getX (u := 78) c208_137 hT115 (tf hT115 rfl rfl) fd_8_18 rfl ?_
  refine st_iload c208_140 rfl ?_
  refine st_iconst c208_141 ?_
  refine st_iast c208_142 hT115 (tf hT115 rfl rfl) ay_56 (by omega) (by omega) (by omega) (Ext_rf _) hS hF116 (by decide +kernel) (fun h118 hT119 hF120 hU121 => ?_)
  refine st_aload c208_143 rfl ?_
  refine st_getX (u := 86) c208_144 hT119 (tf hT119 rfl rfl) fd_8_26 rfl ?_
  refine st_iload c208_147 rfl ?_
  refine st_iconst c208_148 ?_
  refine st_iast c208_149 hT119 (tf hT119 rfl rfl) ay_64 (by omega) (by omega) (by omega) (Ext_rf _) hS hF120 (by decide +kernel) (fun h122 hT123 hF124 hU125 => ?_)
  refine st_iconst c208_150 ?_
  refine st_ireturn c208_151 ?_
  exact hQ _ _ ⟨1, rfl, by omega, (I3_fr (I3_fr (I3_fr (I3_fr iv106 hT98 (AUp_1 hU113 (tf hT98 rfl rfl)) (by decide +kernel)) hT111 (AUp_1 hU117 (tf hT111 rfl rfl)) (by decide +kernel)) hT115 (AUp_1 hU121 (tf hT115 rfl rfl)) (by decide +kernel)) hT119 (AUp_1 hU125 (tf hT119 rfl rfl)) (by decide +kernel)), hT123, hF124⟩
  refine st_aload c208_34 rfl ?_
  refine st_iload c208_35 rfl ?_
  refine st_callt (as := [vI p1]) c208_36 cm_204 hT (tf hT rfl rfl) fd_8_0 rfl rfl rfl rfl (by omega) (K204 hT p1 (by omega) (d - 1) (by omega) _ (fun v h0 H => H)) (fun v1 h1 H => ?_)
  rcases H with ⟨rfl, rfl⟩ | ⟨rfl, rfl⟩
  refine st_if_ne c208_39 (by omega) (fun k126 => False.elim (by omega)) (fun k127 => ?_)
  refine st_iconst c208_42 ?_
  refine st_ireturn c208_44 ?_
  exact hQ _ _ ⟨(-2), rfl, by omega, pre0, hT, hF⟩
  refine st_if_ne c208_39 (by omega) (fun k128 => ?_) (fun k129 => False.elim (by omega))
  refine st_iload c208_45 rfl ?_
  refine st_iconst c208_46 ?_
  refine st_icmp_ne c208_47 (by omega) (by omega) (fun k130 => ?_) (fun k131 => False.elim (by omega))
  refine st_aload c208_129 rfl ?_
  refine st_getX (u := 83) c208_130 hT (tf hT rfl rfl) fd_8_23 rfl ?_
  refine st_iload c208_133 rfl ?_
  refine st_iload c208_134 rfl ?_
  refine st_iast c208_135 hT (tf hT rfl rfl) ay_61 (by omega) (by omega) (by omega) (Ext_rf _) hS hF (by decide +kernel) (fun h132 hT133 hF134 hU135 => ?_)
  refine st_aload c208_136 rfl ?_
  refine st_getX (u := 78) c208_137 hT133 (tf hT133 rfl rfl) fd_8_18 rfl ?_
  refine st_iload c208_140 rfl ?_
  refine st_iconst c208_141 ?_
  refine st_iast c208_142 hT133 (tf hT133 rfl rfl) ay_56 (by omega) (by omega) (by omega) (Ext_rf _) hS hF134 (by decide +kernel) (fun h136 hT137 hF138 hU139 => ?_)
  refine st_aload c208_143 rfl ?_
  refine st_getX (u := 86) c208_144 hT137 (tf hT137 rfl rfl) fd_8_26 rfl ?_
  refine st_iload c208_147 rfl ?_
  refine st_iconst c208_148 ?_
  refine st_iast c208_149 hT137 (tf hT137 rfl rfl) ay_64 (by omega) (by omega) (by omega) (Ext_rf _) hS hF138 (by decide +kernel) (fun h140 hT141 hF142 hU143 => ?_)
  refine st_iconst c208_150 ?_
  refine st_ireturn c208_151 ?_
  exact hQ _ _ ⟨1, rfl, by omega, (I3_fr (I3_fr (I3_fr pre0 hT (AUp_1 hU135 (tf hT rfl rfl)) (by decide +kernel)) hT133 (AUp_1 hU139 (tf hT133 rfl rfl)) (by decide +kernel)) hT137 (AUp_1 hU143 (tf hT137 rfl rfl)) (by decide +kernel)), hT141, hF142⟩
def W218 : List (Nat × Nat) := [(8, 48), (81, 0), (82, 0), (83, 0), (84, 0), (85, 0), (86, 0), (88, 0), (89, 0), (90, 0), (92, 0), (93, 0)]
set_option maxHeartbeats 0 in
theorem K218 {Ln : Nat} {xs : Nat → Int32} {τ : List Nat} {h : List mE} {E : EP} (hT : TH E τ h) (hS : Stb E W218) (p1 : Int) (hp1 : (-2147483648) ≤ p1 ∧ p1 ≤ 2147483647) (p2 : Int) (hp2 : (-2147483648) ≤ p2 ∧ p2 ≤ 2147483647) (p3 : Int) (hp3 : (-2147483648) ≤ p3 ∧ p3 ≤ 2147483647) (p4 : Int) (hp4 : (-2147483648) ≤ p4 ∧ p4 ≤ 2147483647) (p5 : Int) (hp5 : (-2147483648) ≤ p5 ∧ p5 ≤ 2147483647) (pre0 : I3 h) (pre1 : I6 h) (d : Nat) (hd : 2 ≤ d) (Q : Option Value → List mE → Prop) (hQ : ∀ v h', (∃ z : Int, v = some (vI z) ∧ ((-3) ≤ z ∧ z ≤ 99) ∧ (I3 h') ∧ (I6 h') ∧ ((0 ≤ p1 ∧ p1 < fI h 64 45 ∧ 0 ≤ p2 ∧ p2 < fI h 64 7 ∧ fI h 64 1 ≤ p3 ∧ p3 ≤ 23999 ∧ 1 ≤ p4 ∧ p4 ≤ 60 ∧ 1 ≤ p5 ∧ p5 ≤ 24 ∧ fI h 64 48 ≤ 99 ∧ z = fI h 64 48 + 0 ∧ fI h' 64 48 = fI h 64 48 + 1) ∨ (0 ≤ p1 ∧ p1 < fI h 64 45 ∧ 0 ≤ p2 ∧ p2 < fI h 64 7 ∧ fI h 64 1 ≤ p3 ∧ p3 ≤ 23999 ∧ 1 ≤ p4 ∧ p4 ≤ 60 ∧ 1 ≤ p5 ∧ p5 ≤ 24 ∧ 100 ≤ fI h 64 48 ∧ z = -3 ∧ fI h' 64 48 = fI h 64 48) ∨ ((p1 < 0 ∨ fI h 64 45 ≤ p1 ∨ p2 < 0 ∨ fI h 64 7 ≤ p2 ∨ p3 < fI h 64 1 ∨ 23999 < p3 ∨ p4 < 1 ∨ 60 < p4 ∨ p5 < 1 ∨ 24 < p5) ∧ z = -1 ∧ fI h' 64 48 = fI h 64 48)) ∧ TH E τ h' ∧ Fr τ W218 h h') → Q v h') : MR (mex Ln xs) d 218 0 [some (.ref 64), some (vI p1), some (vI p2), some (vI p3), some (vI p4), some (vI p5), none, none] [] h Q := by
  have hF := Fr_rf τ W218 h
  refine st_aload c218_0 rfl ?_
  refine st_iload c218_1 rfl ?_
  have e1 := fI_bd (q := 64) hT (tf hT rfl rfl) fd_8_45
  refine st_callt (as := [vI p1]) c218_2 cm_215 hT (tf hT rfl rfl) fd_8_0 rfl rfl rfl rfl (by omega) (K215 hT p1 (by omega) (d - 1) (by omega) _ (fun v h0 H => H)) (fun v1 h1 H => ?_)
  rcases H with ⟨rfl, pf2, rfl⟩ | ⟨rfl, pf3, pf4, rfl⟩
  refine st_if_eq c218_5 (by omega) (fun k5 => ?_) (fun k6 => False.elim (by omega))
  refine st_iconst c218_52 ?_
  refine st_ireturn c218_53 ?_
  have e7 := fI_bd (q := 64) hT (tf hT rfl rfl) fd_8_48
  exact hQ _ _ ⟨(-1), rfl, by omega, pre0, pre1, by omega, hT, hF⟩
  refine st_if_eq c218_5 (by omega) (fun k8 => False.elim (by omega)) (fun k9 => ?_)
  refine st_aload c218_8 rfl ?_
  refine st_iload c218_9 rfl ?_
  have e10 := fI_bd (q := 64) hT (tf hT rfl rfl) fd_8_7
  refine st_callt (as := [vI p2]) c218_10 cm_190 hT (tf hT rfl rfl) fd_8_0 rfl rfl rfl rfl (by omega) (K190 hT p2 (by omega) (d - 1) (by omega) _ (fun v h0 H => H)) (fun v1 h1 H => ?_)
  rcases H with ⟨rfl, pf11, rfl⟩ | ⟨rfl, pf12, pf13, rfl⟩
  refine st_if_eq c218_13 (by omega) (fun k14 => ?_) (fun k15 => False.elim (by omega))
  refine st_iconst c218_52 ?_
  refine st_ireturn c218_53 ?_
  have e16 := fI_bd (q := 64) hT (tf hT rfl rfl) fd_8_48
  exact hQ _ _ ⟨(-1), rfl, by omega, pre0, pre1, by omega, hT, hF⟩
  refine st_if_eq c218_13 (by omega) (fun k17 => False.elim (by omega)) (fun k18 => ?_)
  refine st_iload c218_16 rfl ?_
  refine st_aload c218_17 rfl ?_
  refine st_getI c218_18 hT (tf hT rfl rfl) fd_8_1 (fun e19 e20 => ?_)
  refine st_iconst c218_21 ?_
  refine st_calls (as := [vI p3, vI (fI h 64 1), vI 23999]) c218_24 cm_180 rfl rfl rfl rfl (by omega) (K180 hT p3 (by omega) (fI h 64 1) (by omega) 23999 (by omega) (d - 1) (by omega) _ (fun v h0 H => H)) (fun v1 h1 H => ?_)
  rcases H with ⟨rfl, pf21, rfl⟩ | ⟨rfl, pf22, pf23, rfl⟩
  refine st_if_eq c218_27 (by omega) (fun k24 => ?_) (fun k25 => False.elim (by omega))
  refine st_iconst c218_52 ?_
  refine st_ireturn c218_53 ?_
  have e26 := fI_bd (q := 64) hT (tf hT rfl rfl) fd_8_48
  exact hQ _ _ ⟨(-1), rfl, by omega, pre0, pre1, by omega, hT, hF⟩
  refine st_if_eq c218_27 (by omega) (fun k27 => False.elim (by omega)) (fun k28 => ?_)
  refine st_iload c218_30 rfl ?_
  refine st_iconst c218_32 ?_
  refine st_iconst c218_33 ?_
  refine st_calls (as := [vI p4, vI 1, vI 60]) c218_35 cm_180 rfl rfl rfl rfl (by omega) (K180 hT p4 (by omega) 1 (by omega) 60 (by omega) (d - 1) (by omega) _ (fun v h0 H => H)) (fun v1 h1 H => ?_)
  rcases H with ⟨rfl, pf29, rfl⟩ | ⟨rfl, pf30, pf31, rfl⟩
  refine st_if_eq c218_38 (by omega) (fun k32 => ?_) (fun k33 => False.elim (by omega))
  refine st_iconst c218_52 ?_
  refine st_ireturn c218_53 ?_
  have e34 := fI_bd (q := 64) hT (tf hT rfl rfl) fd_8_48
  exact hQ _ _ ⟨(-1), rfl, by omega, pre0, pre1, by omega, hT, hF⟩
  refine st_if_eq c218_38 (by omega) (fun k35 => False.elim (by omega)) (fun k36 => ?_)
  refine st_iload c218_41 rfl ?_
  refine st_iconst c218_43 ?_
  refine st_iconst c218_44 ?_
  refine st_calls (as := [vI p5, vI 1, vI 24]) c218_46 cm_180 rfl rfl rfl rfl (by omega) (K180 hT p5 (by omega) 1 (by omega) 24 (by omega) (d - 1) (by omega) _ (fun v h0 H => H)) (fun v1 h1 H => ?_)
  rcases H with ⟨rfl, pf37, rfl⟩ | ⟨rfl, pf38, pf39, rfl⟩
  refine st_if_ne c218_49 (by omega) (fun k40 => False.elim (by omega)) (fun k41 => ?_)
  refine st_iconst c218_52 ?_
  refine st_ireturn c218_53 ?_
  have e42 := fI_bd (q := 64) hT (tf hT rfl rfl) fd_8_48
  exact hQ _ _ ⟨(-1), rfl, by omega, pre0, pre1, by omega, hT, hF⟩
  refine st_if_ne c218_49 (by omega) (fun k43 => ?_) (fun k44 => False.elim (by omega))
  refine st_aload c218_54 rfl ?_
  refine st_getI c218_55 hT (tf hT rfl rfl) fd_8_48 (fun e45 e46 => ?_)
  refine st_iconst c218_58 ?_
  refine st_icmp_ne c218_60 (by omega) (by omega) (fun k47 => ?_) (fun k48 => ?_)
  refine st_aload c218_66 rfl ?_
  refine st_getI c218_67 hT (tf hT rfl rfl) fd_8_48 (fun e49 e50 => ?_)
  refine st_istore (L' := [some (.ref 64), some (vI p1), some (vI p2), some (vI p3), some (vI p4), some (vI p5), some (vI (fI h 64 48)), none]) c218_70 rfl rfl ?_
  refine st_aload c218_72 rfl ?_
  refine st_getX (u := 103) c218_73 hT (tf hT rfl rfl) fd_8_49 rfl ?_
  refine st_iload c218_76 rfl ?_
  refine st_iload c218_78 rfl ?_
  refine st_iast c218_79 hT (tf hT rfl rfl) ay_81 (by omega) (by omega) (by omega) (Ext_rf _) hS hF (by decide +kernel) (fun h51 hT52 hF53 hU54 => ?_)
  refine st_aload c218_80 rfl ?_
  refine st_getX (u := 104) c218_81 hT52 (tf hT52 rfl rfl) fd_8_50 rfl ?_
  refine st_iload c218_84 rfl ?_
  refine st_iload c218_86 rfl ?_
  refine st_iast c218_87 hT52 (tf hT52 rfl rfl) ay_82 (by omega) (by omega) (by omega) (Ext_rf _) hS hF53 (by decide +kernel) (fun h55 hT56 hF57 hU58 => ?_)
  refine st_aload c218_88 rfl ?_
  refine st_getX (u := 105) c218_89 hT56 (tf hT56 rfl rfl) fd_8_51 rfl ?_
  refine st_iload c218_92 rfl ?_
  refine st_iload c218_94 rfl ?_
  refine st_iast c218_95 hT56 (tf hT56 rfl rfl) ay_83 (by omega) (by omega) (by omega) (Ext_rf _) hS hF57 (by decide +kernel) (fun h59 hT60 hF61 hU62 => ?_)
  refine st_aload c218_96 rfl ?_
  refine st_getX (u := 106) c218_97 hT60 (tf hT60 rfl rfl) fd_8_52 rfl ?_
  refine st_iload c218_100 rfl ?_
  refine st_iload c218_102 rfl ?_
  refine st_iast c218_104 hT60 (tf hT60 rfl rfl) ay_84 (by omega) (by omega) (by omega) (Ext_rf _) hS hF61 (by decide +kernel) (fun h63 hT64 hF65 hU66 => ?_)
  refine st_aload c218_105 rfl ?_
  refine st_getX (u := 107) c218_106 hT64 (tf hT64 rfl rfl) fd_8_53 rfl ?_
  refine st_iload c218_109 rfl ?_
  refine st_iload c218_111 rfl ?_
  refine st_iast c218_113 hT64 (tf hT64 rfl rfl) ay_85 (by omega) (by omega) (by omega) (Ext_rf _) hS hF65 (by decide +kernel) (fun h67 hT68 hF69 hU70 => ?_)
  refine st_aload c218_114 rfl ?_
  refine st_getX (u := 108) c218_115 hT68 (tf hT68 rfl rfl) fd_8_54 rfl ?_
  refine st_iload c218_118 rfl ?_
  refine st_aload c218_120 rfl ?_
  refine st_getI c218_121 hT68 (tf hT68 rfl rfl) fd_8_1 (fun e71 e72 => ?_)
  have q73 : fI h67 64 1 = fI h 64 1 := (AUp_fI hU70).trans ((AUp_fI hU66).trans ((AUp_fI hU62).trans ((AUp_fI hU58).trans (AUp_fI hU54))))
  refine st_iast c218_124 hT68 (tf hT68 rfl rfl) ay_86 (by omega) (by omega) (by omega) (Ext_rf _) hS hF69 (by decide +kernel) (fun h74 hT75 hF76 hU77 => ?_)
  refine st_aload c218_125 rfl ?_
  refine st_getX (u := 110) c218_126 hT75 (tf hT75 rfl rfl) fd_8_56 rfl ?_
  refine st_iload c218_129 rfl ?_
  refine st_iconst c218_131 ?_
  refine st_iast c218_132 hT75 (tf hT75 rfl rfl) ay_88 (by omega) (by omega) (by omega) (Ext_rf _) hS hF76 (by decide +kernel) (fun h78 hT79 hF80 hU81 => ?_)
  have e82 := fI_bd (q := 64) hT75 (tf hT75 rfl rfl) fd_8_48
  have q83 : fI h74 64 48 = fI h 64 48 := (AUp_fI hU77).trans ((AUp_fI hU70).trans ((AUp_fI hU66).trans ((AUp_fI hU62).trans ((AUp_fI hU58).trans (AUp_fI hU54)))))
  have q84 : aI h74 109 (fI h 64 48) = aI h 109 (fI h 64 48) := (AUp_aIne hU77 (by decide) (fI h 64 48)).trans ((AUp_aIne hU70 (by decide) (fI h 64 48)).trans ((AUp_aIne hU66 (by decide) (fI h 64 48)).trans ((AUp_aIne hU62 (by decide) (fI h 64 48)).trans ((AUp_aIne hU58 (by decide) (fI h 64 48)).trans (AUp_aIne hU54 (by decide) (fI h 64 48))))))
  have q85 : aI h74 110 (fI h 64 48) = aI h 110 (fI h 64 48) := (AUp_aIne hU77 (by decide) (fI h 64 48)).trans ((AUp_aIne hU70 (by decide) (fI h 64 48)).trans ((AUp_aIne hU66 (by decide) (fI h 64 48)).trans ((AUp_aIne hU62 (by decide) (fI h 64 48)).trans ((AUp_aIne hU58 (by decide) (fI h 64 48)).trans (AUp_aIne hU54 (by decide) (fI h 64 48))))))
  have q86 := ((I3_fr (I3_fr (I3_fr (I3_fr (I3_fr (I3_fr pre0 hT (AUp_1 hU54 (tf hT rfl rfl)) (by decide +kernel)) hT52 (AUp_1 hU58 (tf hT52 rfl rfl)) (by decide +kernel)) hT56 (AUp_1 hU62 (tf hT56 rfl rfl)) (by decide +kernel)) hT60 (AUp_1 hU66 (tf hT60 rfl rfl)) (by decide +kernel)) hT64 (AUp_1 hU70 (tf hT64 rfl rfl)) (by decide +kernel)) hT68 (AUp_1 hU77 (tf hT68 rfl rfl)) (by decide +kernel))) (fI h 64 48) (by omega) (by omega)
  have iv87 := I3_mo (I3_fr (I3_fr (I3_fr (I3_fr (I3_fr (I3_fr pre0 hT (AUp_1 hU54 (tf hT rfl rfl)) (by decide +kernel)) hT52 (AUp_1 hU58 (tf hT52 rfl rfl)) (by decide +kernel)) hT56 (AUp_1 hU62 (tf hT56 rfl rfl)) (by decide +kernel)) hT60 (AUp_1 hU66 (tf hT60 rfl rfl)) (by decide +kernel)) hT64 (AUp_1 hU70 (tf hT64 rfl rfl)) (by decide +kernel)) hT68 (AUp_1 hU77 (tf hT68 rfl rfl)) (by decide +kernel)) hU81 (by omega) (by omega) (by omega)
  refine st_aload c218_133 rfl ?_
  refine st_getX (u := 111) c218_134 hT79 (tf hT79 rfl rfl) fd_8_57 rfl ?_
  refine st_iload c218_137 rfl ?_
  refine st_iconst c218_139 ?_
  refine st_iast c218_140 hT79 (tf hT79 rfl rfl) ay_89 (by omega) (by omega) (by omega) (Ext_rf _) hS hF80 (by decide +kernel) (fun h88 hT89 hF90 hU91 => ?_)
  refine st_aload c218_141 rfl ?_
  refine st_getX (u := 112) c218_142 hT89 (tf hT89 rfl rfl) fd_8_58 rfl ?_
  refine st_iload c218_145 rfl ?_
  refine st_iconst c218_147 ?_
  refine st_iast c218_148 hT89 (tf hT89 rfl rfl) ay_90 (by omega) (by omega) (by omega) (Ext_rf _) hS hF90 (by decide +kernel) (fun h92 hT93 hF94 hU95 => ?_)
  refine st_iconst c218_149 ?_
  refine st_istore (L' := [some (.ref 64), some (vI p1), some (vI p2), some (vI p3), some (vI p4), some (vI p5), some (vI (fI h 64 48)), some (vI 0)]) c218_150 rfl rfl ?_
  have lp146 : ∀ (n147 : Nat) (z141 : Int) (h142 : List mE), (2 : Int) - z141 < (n147 : Int) → 0 ≤ z141 ∧ z141 ≤ 2 → TH E τ h142 → Fr τ W218 h h142 → Fr τ [(92, 0), (93, 0)] h92 h142 → MR (mex Ln xs) d 218 152 [some (.ref 64), none, none, none, none, none, some (vI (fI h 64 48)), some (vI z141)] [] h142 Q := by
    intro n147
    induction n147 with
    | zero =>
      intro z141 h142 hm149 b150 hT143 hF144 hL145
      exfalso; omega
    | succ n147 ih148 =>
      intro z141 h142 hm149 b150 hT143 hF144 hL145
      refine st_iload c218_152 rfl ?_
      refine st_iconst c218_154 ?_
      refine st_icmp_ge c218_155 (by omega) (by omega) (fun k151 => ?_) (fun k152 => ?_)
      refine st_aload c218_190 rfl ?_
      refine st_dup c218_191 rfl ?_
      refine st_getI c218_192 hT143 (tf hT143 rfl rfl) fd_8_48 (fun e153 e154 => ?_)
      have q155 : fI h142 64 48 = fI h74 64 48 := (Fr_fI hL145 (tf hT93 rfl rfl) (by decide +kernel)).trans ((AUp_fI hU95).trans ((AUp_fI hU91).trans (AUp_fI hU81)))
      refine st_iconst c218_195 ?_
      refine st_iadd c218_196 ?_
      refine st_putI c218_197 hT143 (tf hT143 rfl rfl) fd_8_48 (by omega) (by omega) (Ext_rf _) hS hF144 (by decide +kernel) (fun h156 hT157 hF158 hU159 => ?_)
      have iv160 := I3_new (I3_fr (I3_fr (I3_fr iv87 hT79 (AUp_1 hU91 (tf hT79 rfl rfl)) (by decide +kernel)) hT89 (AUp_1 hU95 (tf hT89 rfl rfl)) (by decide +kernel)) hT93 hL145 (by decide +kernel)) hU159 (by omega) (by omega)
      have iv161 := I6_ord (I6_fr (I6_fr (I6_fr (I6_fr (I6_fr (I6_fr (I6_fr (I6_fr (I6_fr (I6_fr pre1 hT (AUp_1 hU54 (tf hT rfl rfl)) (by decide +kernel)) hT52 (AUp_1 hU58 (tf hT52 rfl rfl)) (by decide +kernel)) hT56 (AUp_1 hU62 (tf hT56 rfl rfl)) (by decide +kernel)) hT60 (AUp_1 hU66 (tf hT60 rfl rfl)) (by decide +kernel)) hT64 (AUp_1 hU70 (tf hT64 rfl rfl)) (by decide +kernel)) hT68 (AUp_1 hU77 (tf hT68 rfl rfl)) (by decide +kernel)) hT75 (AUp_1 hU81 (tf hT75 rfl rfl)) (by decide +kernel)) hT79 (AUp_1 hU91 (tf hT79 rfl rfl)) (by decide +kernel)) hT89 (AUp_1 hU95 (tf hT89 rfl rfl)) (by decide +kernel)) hT93 hL145 (by decide +kernel)) hU159 (by omega) (by omega)
      refine st_iload c218_200 rfl ?_
      refine st_ireturn c218_202 ?_
      have e162 := fI_bd (q := 64) hT157 (tf hT157 rfl rfl) fd_8_48
      have q163 : fI h156 64 48 = (fI h142 64 48) + 1 := FUp_fI hU159 (by omega) (by omega)
      exact hQ _ _ ⟨fI h 64 48, rfl, by omega, iv160, iv161, by omega, hT157, hF158⟩
      refine st_aload c218_158 rfl ?_
      refine st_getX (u := 114) c218_159 hT143 (tf hT143 rfl rfl) fd_8_60 rfl ?_
      refine st_iconst c218_162 ?_
      refine st_iload c218_163 rfl ?_
      refine st_imul c218_165 ?_
      refine st_iload c218_166 rfl ?_
      refine st_iadd c218_168 ?_
      refine st_iconst c218_169 ?_
      refine st_iast c218_170 hT143 (tf hT143 rfl rfl) ay_92 (by omega) (by omega) (by omega) (Ext_rf _) hS hF144 (by decide +kernel) (fun h164 hT165 hF166 hU167 => ?_)
      refine st_aload c218_171 rfl ?_
      refine st_getX (u := 115) c218_172 hT165 (tf hT165 rfl rfl) fd_8_61 rfl ?_
      refine st_iconst c218_175 ?_
      refine st_iload c218_176 rfl ?_
      refine st_imul c218_178 ?_
      refine st_iload c218_179 rfl ?_
      refine st_iadd c218_181 ?_
      refine st_iconst c218_182 ?_
      refine st_iast c218_183 hT165 (tf hT165 rfl rfl) ay_93 (by omega) (by omega) (by omega) (Ext_rf _) hS hF166 (by decide +kernel) (fun h168 hT169 hF170 hU171 => ?_)
      refine st_iinc (L' := [some (.ref 64), none, none, none, none, none, some (vI (fI h 64 48)), some (vI (z141 + 1))]) c218_184 rfl rfl rfl ?_
      refine st_goto c218_187 ?_
      exact ih148 (z141 + 1) h168 (by omega) (by omega) hT169 hF170 (AUp_Fr (AUp_Fr hL145 hU167 (fun u hu => by rw [ty_1 hu (tf hT169 rfl rfl)]; decide)) hU171 (fun u hu => by rw [ty_1 hu (tf hT169 rfl rfl)]; decide))
  refine MR_weak (A := [some (.ref 64), none, none, none, none, none, some (vI (fI h 64 48)), some (vI 0)]) (Lle_s (Lle_n (Lle_n (Lle_n (Lle_n (Lle_n (Lle_s (Lle_s (Lle_0))))))))) ?_
  exact lp146 ((((2 : Int) - 0 : Int) + 1).toNat) 0 h92 (by omega) (by omega) hT93 hF94 (Fr_rf _ _ _)
  refine st_iconst c218_63 ?_
  refine st_ireturn c218_65 ?_
  exact hQ _ _ ⟨(-3), rfl, by omega, pre0, pre1, by omega, hT, hF⟩
def W222 : List (Nat × Nat) := [(8, 62), (94, 0)]
set_option maxHeartbeats 0 in
theorem K222 {Ln : Nat} {xs : Nat → Int32} {τ : List Nat} {h : List mE} {E : EP} (hT : TH E τ h) (hS : Stb E W222) (p1 : Int) (hp1 : (-2147483648) ≤ p1 ∧ p1 ≤ 2147483647) (pre0 : I6 h) (d : Nat) (hd : 2 ≤ d) (Q : Option Value → List mE → Prop) (hQ : ∀ v h', (∃ z : Int, v = some (vI z) ∧ ((-3) ≤ z ∧ z ≤ 6) ∧ (I6 h') ∧ TH E τ h' ∧ Fr τ W222 h h') → Q v h') : MR (mex Ln xs) d 222 0 [some (.ref 64), some (vI p1), none] [] h Q := by
  have hF := Fr_rf τ W222 h
  refine st_aload c222_0 rfl ?_
  refine st_iload c222_1 rfl ?_
  have e1 := fI_bd (q := 64) hT (tf hT rfl rfl) fd_8_48
  refine st_callt (as := [vI p1]) c222_2 cm_216 hT (tf hT rfl rfl) fd_8_0 rfl rfl rfl rfl (by omega) (K216 hT p1 (by omega) (d - 1) (by omega) _ (fun v h0 H => H)) (fun v1 h1 H => ?_)
  rcases H with ⟨rfl, pf2, rfl⟩ | ⟨rfl, pf3, pf4, rfl⟩
  refine st_if_ne c222_5 (by omega) (fun k5 => False.elim (by omega)) (fun k6 => ?_)
  refine st_iconst c222_8 ?_
  refine st_ireturn c222_9 ?_
  exact hQ _ _ ⟨(-1), rfl, by omega, pre0, hT, hF⟩
  refine st_if_ne c222_5 (by omega) (fun k7 => ?_) (fun k8 => False.elim (by omega))
  refine st_aload c222_10 rfl ?_
  refine st_getX (u := 109) c222_11 hT (tf hT rfl rfl) fd_8_55 rfl ?_
  refine st_iload c222_14 rfl ?_
  refine st_iald c222_15 hT (tf hT rfl rfl) ay_87 (by omega) (fun e9 e10 => ?_)
  refine st_if_eq c222_16 (by omega) (fun k11 => ?_) (fun k12 => ?_)
  refine st_iconst c222_22 ?_
  refine st_istore (L' := [some (.ref 64), some (vI p1), some (vI 0)]) c222_23 rfl rfl ?_
  have lp64 : ∀ (n65 : Nat) (z63 : Int), (6 : Int) - z63 < (n65 : Int) → 0 ≤ z63 ∧ z63 ≤ 6 → MR (mex Ln xs) d 222 24 [some (.ref 64), some (vI p1), some (vI z63)] [] h Q := by
    intro n65
    induction n65 with
    | zero =>
      intro z63 hm67 b68
      exfalso; omega
    | succ n65 ih66 =>
      intro z63 hm67 b68
      refine st_iload c222_24 rfl ?_
      refine st_aload c222_25 rfl ?_
      refine st_getI c222_26 hT (tf hT rfl rfl) fd_8_62 (fun e69 e70 => ?_)
      refine st_icmp_ge c222_29 (by omega) (by omega) (fun k71 => ?_) (fun k72 => ?_)
      refine st_aload c222_51 rfl ?_
      refine st_getI c222_52 hT (tf hT rfl rfl) fd_8_62 (fun e73 e74 => ?_)
      refine st_iconst c222_55 ?_
      refine st_icmp_ne c222_57 (by omega) (by omega) (fun k75 => ?_) (fun k76 => ?_)
      refine st_aload c222_63 rfl ?_
      refine st_getX (u := 116) c222_64 hT (tf hT rfl rfl) fd_8_63 rfl ?_
      refine st_aload c222_67 rfl ?_
      refine st_getI c222_68 hT (tf hT rfl rfl) fd_8_62 (fun e77 e78 => ?_)
      refine st_iload c222_71 rfl ?_
      refine st_iast c222_72 hT (tf hT rfl rfl) ay_94 (by omega) (by omega) (by omega) (Ext_rf _) hS hF (by decide +kernel) (fun h79 hT80 hF81 hU82 => ?_)
      refine st_aload c222_73 rfl ?_
      refine st_dup c222_74 rfl ?_
      refine st_getI c222_75 hT80 (tf hT80 rfl rfl) fd_8_62 (fun e83 e84 => ?_)
      have q85 : fI h79 64 62 = fI h 64 62 := AUp_fI hU82
      refine st_iconst c222_78 ?_
      refine st_iadd c222_79 ?_
      refine st_putI c222_80 hT80 (tf hT80 rfl rfl) fd_8_62 (by omega) (by omega) (Ext_rf _) hS hF81 (by decide +kernel) (fun h86 hT87 hF88 hU89 => ?_)
      have iv90 := I6_add pre0 hU82 hU89 (by omega) (by omega) (by omega) (by omega) (by omega) (by omega)
      refine st_aload c222_83 rfl ?_
      refine st_getI c222_84 hT87 (tf hT87 rfl rfl) fd_8_62 (fun e91 e92 => ?_)
      have q93 : fI h86 64 62 = (fI h79 64 62) + 1 := FUp_fI hU89 (by omega) (by omega)
      refine st_ireturn c222_87 ?_
      exact hQ _ _ ⟨fI h86 64 62, rfl, by omega, iv90, hT87, hF88⟩
      refine st_iconst c222_60 ?_
      refine st_ireturn c222_62 ?_
      exact hQ _ _ ⟨(-3), rfl, by omega, pre0, hT, hF⟩
      refine st_aload c222_32 rfl ?_
      refine st_getX (u := 116) c222_33 hT (tf hT rfl rfl) fd_8_63 rfl ?_
      refine st_iload c222_36 rfl ?_
      refine st_iald c222_37 hT (tf hT rfl rfl) ay_94 (by omega) (fun e94 e95 => ?_)
      have q96 := (pre0) z63 (by omega) (by omega)
      refine st_iload c222_38 rfl ?_
      refine st_icmp_ne c222_39 (by omega) (by omega) (fun k97 => ?_) (fun k98 => ?_)
      refine st_iinc (L' := [some (.ref 64), some (vI p1), some (vI (z63 + 1))]) c222_45 rfl rfl rfl ?_
      refine st_goto c222_48 ?_
      exact ih66 (z63 + 1) (by omega) (by omega)
      refine st_iconst c222_42 ?_
      refine st_ireturn c222_44 ?_
      exact hQ _ _ ⟨(-2), rfl, by omega, pre0, hT, hF⟩
  exact lp64 ((((6 : Int) - 0 : Int) + 1).toNat) 0 (by omega) (by omega)
  refine st_iconst c222_19 ?_
  refine st_ireturn c222_21 ?_
  exact hQ _ _ ⟨(-2), rfl, by omega, pre0, hT, hF⟩
def W235 : List (Nat × Nat) := [(56, 0), (57, 0), (58, 0), (59, 0), (60, 0), (65, 0), (87, 0), (89, 0)]
set_option maxHeartbeats 0 in
theorem K235 {Ln : Nat} {xs : Nat → Int32} {τ : List Nat} {h : List mE} {E : EP} (hT : TH E τ h) (hS : Stb E W235) (p1 : Int) (hp1 : (-2147483648) ≤ p1 ∧ p1 ≤ 2147483647) (pre0 : I3 h) (d : Nat) (hd : 2 ≤ d) (Q : Option Value → List mE → Prop) (hQ : ∀ v h', (∃ z : Int, v = some (vI z) ∧ ((-2147483648) ≤ z ∧ z ≤ 2147483647) ∧ (I3 h') ∧ TH E τ h' ∧ Fr τ W235 h h') → Q v h') : MR (mex Ln xs) d 235 0 [some (.ref 64), some (vI p1), none] [] h Q := by
  have hF := Fr_rf τ W235 h
  refine st_aload c235_0 rfl ?_
  refine st_iload c235_1 rfl ?_
  have e1 := fI_bd (q := 64) hT (tf hT rfl rfl) fd_8_48
  refine st_callt (as := [vI p1]) c235_2 cm_216 hT (tf hT rfl rfl) fd_8_0 rfl rfl rfl rfl (by omega) (K216 hT p1 (by omega) (d - 1) (by omega) _ (fun v h0 H => H)) (fun v1 h1 H => ?_)
  rcases H with ⟨rfl, pf2, rfl⟩ | ⟨rfl, pf3, pf4, rfl⟩
  refine st_if_ne c235_5 (by omega) (fun k5 => False.elim (by omega)) (fun k6 => ?_)
  refine st_iconst c235_8 ?_
  refine st_ireturn c235_9 ?_
  exact hQ _ _ ⟨(-1), rfl, by omega, pre0, hT, hF⟩
  refine st_if_ne c235_5 (by omega) (fun k7 => ?_) (fun k8 => False.elim (by omega))
  refine st_aload c235_10 rfl ?_
  refine st_getX (u := 109) c235_11 hT (tf hT rfl rfl) fd_8_55 rfl ?_
  refine st_iload c235_14 rfl ?_
  refine st_iald c235_15 hT (tf hT rfl rfl) ay_87 (by omega) (fun e9 e10 => ?_)
  refine st_iconst c235_16 ?_
  refine st_icmp_ne c235_17 (by omega) (by omega) (fun k11 => ?_) (fun k12 => ?_)
  refine st_iconst c235_34 ?_
  refine st_ireturn c235_36 ?_
  exact hQ _ _ ⟨(-2), rfl, by omega, pre0, hT, hF⟩
  refine st_aload c235_20 rfl ?_
  refine st_getX (u := 83) c235_21 hT (tf hT rfl rfl) fd_8_23 rfl ?_
  refine st_aload c235_24 rfl ?_
  refine st_getX (u := 110) c235_25 hT (tf hT rfl rfl) fd_8_56 rfl ?_
  refine st_iload c235_28 rfl ?_
  refine st_iald c235_29 hT (tf hT rfl rfl) ay_88 (by omega) (fun e13 e14 => ?_)
  have q15 := (pre0) p1 (by omega) (by omega)
  refine st_iald c235_30 hT (tf hT rfl rfl) ay_61 (by omega) (fun e16 e17 => ?_)
  refine st_if_eq c235_31 (by omega) (fun k18 => ?_) (fun k19 => ?_)
  refine st_aload c235_37 rfl ?_
  refine st_getX (u := 110) c235_38 hT (tf hT rfl rfl) fd_8_56 rfl ?_
  refine st_iload c235_41 rfl ?_
  refine st_iald c235_42 hT (tf hT rfl rfl) ay_88 (by omega) (fun e20 e21 => ?_)
  have q22 := (pre0) p1 (by omega) (by omega)
  refine st_istore (L' := [some (.ref 64), some (vI p1), some (vI (aI h 110 p1))]) c235_43 rfl rfl ?_
  refine st_aload c235_44 rfl ?_
  refine st_iload c235_45 rfl ?_
  refine st_aload c235_46 rfl ?_
  refine st_iload c235_47 rfl ?_
  refine st_callt (as := [vI p1]) c235_48 cm_219 hT (tf hT rfl rfl) fd_8_0 rfl rfl rfl rfl (by omega) (K219 hT p1 (by omega) (d - 1) (by omega) _ (fun v h0 H => H)) (fun v1 h1 H => ?_)
  obtain ⟨z23, rfl, b24, rfl⟩ := H
  refine st_iconst c235_51 ?_
  refine st_callt (as := [vI (aI h 110 p1), vI z23, vI 0]) c235_52 cm_214 hT (tf hT rfl rfl) fd_8_0 rfl rfl rfl rfl (by omega) (K214 hT (Stb_mono hS (by decide +kernel)) (aI h 110 p1) (by omega) z23 (by omega) 0 (by omega) (d - 1) (by omega) _ (fun v h0 H => H)) (fun v1 h25 H => ?_)
  obtain ⟨rfl, hT26, hF27⟩ := H
  have hF28 := Fr_cp hF hF27 (by decide +kernel : Wsub W214 W235 = true)
  refine st_aload c235_55 rfl ?_
  refine st_getX (u := 87) c235_56 hT26 (tf hT26 rfl rfl) fd_8_27 rfl ?_
  refine st_iload c235_59 rfl ?_
  refine st_iload c235_60 rfl ?_
  refine st_iast c235_61 hT26 (tf hT26 rfl rfl) ay_65 (by omega) (by omega) (by omega) (Ext_rf _) hS hF28 (by decide +kernel) (fun h29 hT30 hF31 hU32 => ?_)
  refine st_aload c235_62 rfl ?_
  refine st_getX (u := 109) c235_63 hT30 (tf hT30 rfl rfl) fd_8_55 rfl ?_
  refine st_iload c235_66 rfl ?_
  refine st_iconst c235_67 ?_
  refine st_iast c235_68 hT30 (tf hT30 rfl rfl) ay_87 (by omega) (by omega) (by omega) (Ext_rf _) hS hF31 (by decide +kernel) (fun h33 hT34 hF35 hU36 => ?_)
  have e37 := fI_bd (q := 64) hT30 (tf hT30 rfl rfl) fd_8_48
  have q38 : fI h29 64 48 = fI h 64 48 := (AUp_fI hU32).trans (Fr_fI hF27 (tf hT rfl rfl) (by decide +kernel))
  have q39 : aI h29 109 p1 = aI h 109 p1 := (AUp_aIne hU32 (by decide) p1).trans (Fr_aI hF27 (tf hT rfl rfl) (by decide +kernel) p1)
  have q40 : aI h29 110 p1 = aI h 110 p1 := (AUp_aIne hU32 (by decide) p1).trans (Fr_aI hF27 (tf hT rfl rfl) (by decide +kernel) p1)
  have q41 := ((I3_fr (I3_fr pre0 hT hF27 (by decide +kernel)) hT26 (AUp_1 hU32 (tf hT26 rfl rfl)) (by decide +kernel))) p1 (by omega) (by omega)
  have iv42 := I3_st (I3_fr (I3_fr pre0 hT hF27 (by decide +kernel)) hT26 (AUp_1 hU32 (tf hT26 rfl rfl)) (by decide +kernel)) hU36 (by omega) (by omega) (by omega) (by omega)
  refine st_aload c235_69 rfl ?_
  refine st_getX (u := 111) c235_70 hT34 (tf hT34 rfl rfl) fd_8_57 rfl ?_
  refine st_iload c235_73 rfl ?_
  refine st_aload c235_74 rfl ?_
  refine st_getX (u := 80) c235_75 hT34 (tf hT34 rfl rfl) fd_8_20 rfl ?_
  refine st_iload c235_78 rfl ?_
  refine st_iald c235_79 hT34 (tf hT34 rfl rfl) ay_58 (by omega) (fun e43 e44 => ?_)
  have q45 : aI h33 80 (aI h 110 p1) = aI h25 80 (aI h 110 p1) := (AUp_aIne hU36 (by decide) (aI h 110 p1)).trans (AUp_aIne hU32 (by decide) (aI h 110 p1))
  refine st_aload c235_80 rfl ?_
  refine st_getX (u := 105) c235_81 hT34 (tf hT34 rfl rfl) fd_8_51 rfl ?_
  refine st_iload c235_84 rfl ?_
  refine st_iald c235_85 hT34 (tf hT34 rfl rfl) ay_83 (by omega) (fun e46 e47 => ?_)
  have q48 : aI h33 105 p1 = aI h 105 p1 := (AUp_aIne hU36 (by decide) p1).trans ((AUp_aIne hU32 (by decide) p1).trans (Fr_aI hF27 (tf hT rfl rfl) (by decide +kernel) p1))
  refine st_icmp_le c235_86 (by omega) (by omega) (fun k49 => ?_) (fun k50 => ?_)
  refine st_aload c235_98 rfl ?_
  refine st_getX (u := 105) c235_99 hT34 (tf hT34 rfl rfl) fd_8_51 rfl ?_
  refine st_iload c235_102 rfl ?_
  refine st_iald c235_103 hT34 (tf hT34 rfl rfl) ay_83 (by omega) (fun e51 e52 => ?_)
  have q53 : aI h33 105 p1 = aI h 105 p1 := (AUp_aIne hU36 (by decide) p1).trans ((AUp_aIne hU32 (by decide) p1).trans (Fr_aI hF27 (tf hT rfl rfl) (by decide +kernel) p1))
  refine st_iast c235_104 hT34 (tf hT34 rfl rfl) ay_89 (by omega) (by omega) (by omega) (Ext_rf _) hS hF35 (by decide +kernel) (fun h54 hT55 hF56 hU57 => ?_)
  refine st_aload c235_105 rfl ?_
  refine st_getX (u := 80) c235_106 hT55 (tf hT55 rfl rfl) fd_8_20 rfl ?_
  refine st_iload c235_109 rfl ?_
  refine st_iald c235_110 hT55 (tf hT55 rfl rfl) ay_58 (by omega) (fun e58 e59 => ?_)
  have q60 : aI h54 80 (aI h 110 p1) = aI h33 80 (aI h 110 p1) := AUp_aIne hU57 (by decide) (aI h 110 p1)
  refine st_ireturn c235_111 ?_
  exact hQ _ _ ⟨aI h54 80 (aI h 110 p1), rfl, by omega, (I3_fr iv42 hT34 (AUp_1 hU57 (tf hT34 rfl rfl)) (by decide +kernel)), hT55, hF56⟩
  refine st_aload c235_89 rfl ?_
  refine st_getX (u := 80) c235_90 hT34 (tf hT34 rfl rfl) fd_8_20 rfl ?_
  refine st_iload c235_93 rfl ?_
  refine st_iald c235_94 hT34 (tf hT34 rfl rfl) ay_58 (by omega) (fun e61 e62 => ?_)
  have q63 : aI h33 80 (aI h 110 p1) = aI h25 80 (aI h 110 p1) := (AUp_aIne hU36 (by decide) (aI h 110 p1)).trans (AUp_aIne hU32 (by decide) (aI h 110 p1))
  refine st_goto c235_95 ?_
  refine st_iast c235_104 hT34 (tf hT34 rfl rfl) ay_89 (by omega) (by omega) (by omega) (Ext_rf _) hS hF35 (by decide +kernel) (fun h64 hT65 hF66 hU67 => ?_)
  refine st_aload c235_105 rfl ?_
  refine st_getX (u := 80) c235_106 hT65 (tf hT65 rfl rfl) fd_8_20 rfl ?_
  refine st_iload c235_109 rfl ?_
  refine st_iald c235_110 hT65 (tf hT65 rfl rfl) ay_58 (by omega) (fun e68 e69 => ?_)
  have q70 : aI h64 80 (aI h 110 p1) = aI h33 80 (aI h 110 p1) := AUp_aIne hU67 (by decide) (aI h 110 p1)
  refine st_ireturn c235_111 ?_
  exact hQ _ _ ⟨aI h64 80 (aI h 110 p1), rfl, by omega, (I3_fr iv42 hT34 (AUp_1 hU67 (tf hT34 rfl rfl)) (by decide +kernel)), hT65, hF66⟩
  refine st_iconst c235_34 ?_
  refine st_ireturn c235_36 ?_
  exact hQ _ _ ⟨(-2), rfl, by omega, pre0, hT, hF⟩
def W237 : List (Nat × Nat) := [(56, 0), (57, 0), (58, 0), (59, 0), (60, 0), (64, 0), (87, 0), (90, 0)]
set_option maxHeartbeats 0 in
theorem K237 {Ln : Nat} {xs : Nat → Int32} {τ : List Nat} {h : List mE} {E : EP} (hT : TH E τ h) (hS : Stb E W237) (p1 : Int) (hp1 : (-2147483648) ≤ p1 ∧ p1 ≤ 2147483647) (p2 : Int) (hp2 : (-2147483648) ≤ p2 ∧ p2 ≤ 2147483647) (pre0 : I3 h) (d : Nat) (hd : 2 ≤ d) (Q : Option Value → List mE → Prop) (hQ : ∀ v h', (∃ z : Int, v = some (vI z) ∧ ((-2147483648) ≤ z ∧ z ≤ 2147483647) ∧ (I3 h') ∧ TH E τ h' ∧ Fr τ W237 h h') → Q v h') : MR (mex Ln xs) d 237 0 [some (.ref 64), some (vI p1), some (vI p2), none] [] h Q := by
  have hF := Fr_rf τ W237 h
  refine st_aload c237_0 rfl ?_
  refine st_iload c237_1 rfl ?_
  have e1 := fI_bd (q := 64) hT (tf hT rfl rfl) fd_8_48
  refine st_callt (as := [vI p1]) c237_2 cm_216 hT (tf hT rfl rfl) fd_8_0 rfl rfl rfl rfl (by omega) (K216 hT p1 (by omega) (d - 1) (by omega) _ (fun v h0 H => H)) (fun v1 h1 H => ?_)
  rcases H with ⟨rfl, pf2, rfl⟩ | ⟨rfl, pf3, pf4, rfl⟩
  refine st_if_eq c237_5 (by omega) (fun k5 => ?_) (fun k6 => False.elim (by omega))
  refine st_iconst c237_25 ?_
  refine st_ireturn c237_26 ?_
  exact hQ _ _ ⟨(-1), rfl, by omega, pre0, hT, hF⟩
  refine st_if_eq c237_5 (by omega) (fun k7 => False.elim (by omega)) (fun k8 => ?_)
  refine st_aload c237_8 rfl ?_
  refine st_iload c237_9 rfl ?_
  have e9 := fI_bd (q := 64) hT (tf hT rfl rfl) fd_8_2
  refine st_callt (as := [vI p2]) c237_10 cm_183 hT (tf hT rfl rfl) fd_8_0 rfl rfl rfl rfl (by omega) (K183 hT p2 (by omega) (d - 1) (by omega) _ (fun v h0 H => H)) (fun v1 h1 H => ?_)
  rcases H with ⟨rfl, pf10, rfl⟩ | ⟨rfl, pf11, pf12, rfl⟩
  refine st_if_eq c237_13 (by omega) (fun k13 => ?_) (fun k14 => False.elim (by omega))
  refine st_iconst c237_25 ?_
  refine st_ireturn c237_26 ?_
  exact hQ _ _ ⟨(-1), rfl, by omega, pre0, hT, hF⟩
  refine st_if_eq c237_13 (by omega) (fun k15 => False.elim (by omega)) (fun k16 => ?_)
  refine st_aload c237_16 rfl ?_
  refine st_getX (u := 65) c237_17 hT (tf hT rfl rfl) fd_8_3 rfl ?_
  refine st_iload c237_20 rfl ?_
  refine st_bald c237_21 hT (tf hT rfl rfl) ay_43 (Or.inl rfl) (by omega) (fun e17 e18 => ?_)
  refine st_if_ne c237_22 (by omega) (fun k19 => ?_) (fun k20 => ?_)
  refine st_aload c237_27 rfl ?_
  refine st_getX (u := 109) c237_28 hT (tf hT rfl rfl) fd_8_55 rfl ?_
  refine st_iload c237_31 rfl ?_
  refine st_iald c237_32 hT (tf hT rfl rfl) ay_87 (by omega) (fun e21 e22 => ?_)
  refine st_iconst c237_33 ?_
  refine st_icmp_ne c237_34 (by omega) (by omega) (fun k23 => ?_) (fun k24 => ?_)
  refine st_iconst c237_60 ?_
  refine st_ireturn c237_62 ?_
  exact hQ _ _ ⟨(-2), rfl, by omega, pre0, hT, hF⟩
  refine st_aload c237_37 rfl ?_
  refine st_iload c237_38 rfl ?_
  refine st_callt (as := [vI p1]) c237_39 cm_236 hT (tf hT rfl rfl) fd_8_0 rfl rfl rfl rfl (by omega) (K236 hT p1 (by omega) (d - 1) (by omega) _ (fun v h0 H => H)) (fun v1 h1 H => ?_)
  rcases H with ⟨rfl, rfl⟩ | ⟨rfl, pf25, rfl⟩
  refine st_if_eq c237_42 (by omega) (fun k26 => ?_) (fun k27 => False.elim (by omega))
  refine st_iconst c237_60 ?_
  refine st_ireturn c237_62 ?_
  exact hQ _ _ ⟨(-2), rfl, by omega, pre0, hT, hF⟩
  refine st_if_eq c237_42 (by omega) (fun k28 => False.elim (by omega)) (fun k29 => ?_)
  refine st_aload c237_45 rfl ?_
  refine st_aload c237_46 rfl ?_
  refine st_iload c237_47 rfl ?_
  refine st_callt (as := [vI p1]) c237_48 cm_219 hT (tf hT rfl rfl) fd_8_0 rfl rfl rfl rfl (by omega) (K219 hT p1 (by omega) (d - 1) (by omega) _ (fun v h0 H => H)) (fun v1 h1 H => ?_)
  obtain ⟨z30, rfl, b31, rfl⟩ := H
  refine st_iload c237_51 rfl ?_
  refine st_callt (as := [vI z30, vI p2]) c237_52 cm_184 hT (tf hT rfl rfl) fd_8_0 rfl rfl rfl rfl (by omega) (K184 hT z30 (by omega) p2 (by omega) (d - 1) (by omega) _ (fun v h0 H => H)) (fun v1 h1 H => ?_)
  obtain ⟨z33, rfl, b34, pf32, rfl⟩ := H
  refine st_iconst c237_55 ?_
  refine st_icmp_lt c237_57 (by omega) (by omega) (fun k35 => ?_) (fun k36 => ?_)
  refine st_aload c237_63 rfl ?_
  refine st_getX (u := 110) c237_64 hT (tf hT rfl rfl) fd_8_56 rfl ?_
  refine st_iload c237_67 rfl ?_
  refine st_iald c237_68 hT (tf hT rfl rfl) ay_88 (by omega) (fun e37 e38 => ?_)
  have q39 := (pre0) p1 (by omega) (by omega)
  refine st_istore (L' := [some (.ref 64), some (vI p1), some (vI p2), some (vI (aI h 110 p1))]) c237_69 rfl rfl ?_
  refine st_aload c237_70 rfl ?_
  refine st_getX (u := 109) c237_71 hT (tf hT rfl rfl) fd_8_55 rfl ?_
  refine st_iload c237_74 rfl ?_
  refine st_iconst c237_75 ?_
  refine st_iast c237_76 hT (tf hT rfl rfl) ay_87 (by omega) (by omega) (by omega) (Ext_rf _) hS hF (by decide +kernel) (fun h40 hT41 hF42 hU43 => ?_)
  have q44 := (pre0) p1 (by omega) (by omega)
  have iv45 := I3_st pre0 hU43 (by omega) (by omega) (by omega) (by omega)
  refine st_aload c237_77 rfl ?_
  refine st_getX (u := 112) c237_78 hT41 (tf hT41 rfl rfl) fd_8_58 rfl ?_
  refine st_iload c237_81 rfl ?_
  refine st_aload c237_82 rfl ?_
  refine st_getI c237_83 hT41 (tf hT41 rfl rfl) fd_8_1 (fun e46 e47 => ?_)
  have q48 : fI h40 64 1 = fI h 64 1 := AUp_fI hU43
  refine st_iast c237_86 hT41 (tf hT41 rfl rfl) ay_90 (by omega) (by omega) (by omega) (Ext_rf _) hS hF42 (by decide +kernel) (fun h49 hT50 hF51 hU52 => ?_)
  refine st_aload c237_87 rfl ?_
  refine st_getX (u := 86) c237_88 hT50 (tf hT50 rfl rfl) fd_8_26 rfl ?_
  refine st_iload c237_91 rfl ?_
  refine st_iconst c237_92 ?_
  refine st_iast c237_93 hT50 (tf hT50 rfl rfl) ay_64 (by omega) (by omega) (by omega) (Ext_rf _) hS hF51 (by decide +kernel) (fun h53 hT54 hF55 hU56 => ?_)
  refine st_aload c237_94 rfl ?_
  refine st_iload c237_95 rfl ?_
  refine st_iload c237_96 rfl ?_
  refine st_iconst c237_97 ?_
  refine st_callt (as := [vI (aI h 110 p1), vI p2, vI 1]) c237_98 cm_214 hT54 (tf hT54 rfl rfl) fd_8_0 rfl rfl rfl rfl (by omega) (K214 hT54 (Stb_mono hS (by decide +kernel)) (aI h 110 p1) (by omega) p2 (by omega) 1 (by omega) (d - 1) (by omega) _ (fun v h0 H => H)) (fun v1 h57 H => ?_)
  obtain ⟨rfl, hT58, hF59⟩ := H
  have hF60 := Fr_cp hF55 hF59 (by decide +kernel : Wsub W214 W237 = true)
  refine st_aload c237_101 rfl ?_
  refine st_getX (u := 80) c237_102 hT58 (tf hT58 rfl rfl) fd_8_20 rfl ?_
  refine st_iload c237_105 rfl ?_
  refine st_iald c237_106 hT58 (tf hT58 rfl rfl) ay_58 (by omega) (fun e61 e62 => ?_)
  refine st_ireturn c237_107 ?_
  exact hQ _ _ ⟨aI h57 80 (aI h 110 p1), rfl, by omega, (I3_fr (I3_fr (I3_fr iv45 hT41 (AUp_1 hU52 (tf hT41 rfl rfl)) (by decide +kernel)) hT50 (AUp_1 hU56 (tf hT50 rfl rfl)) (by decide +kernel)) hT54 hF59 (by decide +kernel)), hT58, hF60⟩
  refine st_iconst c237_60 ?_
  refine st_ireturn c237_62 ?_
  exact hQ _ _ ⟨(-2), rfl, by omega, pre0, hT, hF⟩
  refine st_iconst c237_25 ?_
  refine st_ireturn c237_26 ?_
  exact hQ _ _ ⟨(-1), rfl, by omega, pre0, hT, hF⟩
def W238 : List (Nat × Nat) := [(64, 0), (87, 0), (88, 0)]
set_option maxHeartbeats 0 in
theorem K238 {Ln : Nat} {xs : Nat → Int32} {τ : List Nat} {h : List mE} {E : EP} (hT : TH E τ h) (hS : Stb E W238) (p1 : Int) (hp1 : (-2147483648) ≤ p1 ∧ p1 ≤ 2147483647) (pre0 : I3 h) (d : Nat) (hd : 2 ≤ d) (Q : Option Value → List mE → Prop) (hQ : ∀ v h', (∃ z : Int, v = some (vI z) ∧ ((-2) ≤ z ∧ z ≤ 1) ∧ (I3 h') ∧ TH E τ h' ∧ Fr τ W238 h h') → Q v h') : MR (mex Ln xs) d 238 0 [some (.ref 64), some (vI p1)] [] h Q := by
  have hF := Fr_rf τ W238 h
  refine st_aload c238_0 rfl ?_
  refine st_iload c238_1 rfl ?_
  have e1 := fI_bd (q := 64) hT (tf hT rfl rfl) fd_8_48
  refine st_callt (as := [vI p1]) c238_2 cm_216 hT (tf hT rfl rfl) fd_8_0 rfl rfl rfl rfl (by omega) (K216 hT p1 (by omega) (d - 1) (by omega) _ (fun v h0 H => H)) (fun v1 h1 H => ?_)
  rcases H with ⟨rfl, pf2, rfl⟩ | ⟨rfl, pf3, pf4, rfl⟩
  refine st_if_ne c238_5 (by omega) (fun k5 => False.elim (by omega)) (fun k6 => ?_)
  refine st_iconst c238_8 ?_
  refine st_ireturn c238_9 ?_
  exact hQ _ _ ⟨(-1), rfl, by omega, pre0, hT, hF⟩
  refine st_if_ne c238_5 (by omega) (fun k7 => ?_) (fun k8 => False.elim (by omega))
  refine st_aload c238_10 rfl ?_
  refine st_getX (u := 109) c238_11 hT (tf hT rfl rfl) fd_8_55 rfl ?_
  refine st_iload c238_14 rfl ?_
  refine st_iald c238_15 hT (tf hT rfl rfl) ay_87 (by omega) (fun e9 e10 => ?_)
  refine st_iconst c238_16 ?_
  refine st_icmp_le c238_17 (by omega) (by omega) (fun k11 => ?_) (fun k12 => ?_)
  refine st_aload c238_23 rfl ?_
  refine st_getX (u := 109) c238_24 hT (tf hT rfl rfl) fd_8_55 rfl ?_
  refine st_iload c238_27 rfl ?_
  refine st_iald c238_28 hT (tf hT rfl rfl) ay_87 (by omega) (fun e13 e14 => ?_)
  refine st_iconst c238_29 ?_
  refine st_icmp_ne c238_30 (by omega) (by omega) (fun k15 => ?_) (fun k16 => ?_)
  refine st_aload c238_45 rfl ?_
  refine st_getX (u := 110) c238_46 hT (tf hT rfl rfl) fd_8_56 rfl ?_
  refine st_iload c238_49 rfl ?_
  refine st_iconst c238_50 ?_
  refine st_iast c238_51 hT (tf hT rfl rfl) ay_88 (by omega) (by omega) (by omega) (Ext_rf _) hS hF (by decide +kernel) (fun h17 hT18 hF19 hU20 => ?_)
  refine st_aload c238_52 rfl ?_
  refine st_getX (u := 109) c238_53 hT18 (tf hT18 rfl rfl) fd_8_55 rfl ?_
  refine st_iload c238_56 rfl ?_
  refine st_iconst c238_57 ?_
  refine st_iast c238_58 hT18 (tf hT18 rfl rfl) ay_87 (by omega) (by omega) (by omega) (Ext_rf _) hS hF19 (by decide +kernel) (fun h21 hT22 hF23 hU24 => ?_)
  have iv25 := I3_rev pre0 hU20 hU24 (by omega) (by omega) (by omega) (by omega) (by omega)
  refine st_iconst c238_59 ?_
  refine st_ireturn c238_60 ?_
  exact hQ _ _ ⟨1, rfl, by omega, iv25, hT22, hF23⟩
  refine st_aload c238_33 rfl ?_
  refine st_getX (u := 86) c238_34 hT (tf hT rfl rfl) fd_8_26 rfl ?_
  refine st_aload c238_37 rfl ?_
  refine st_getX (u := 110) c238_38 hT (tf hT rfl rfl) fd_8_56 rfl ?_
  refine st_iload c238_41 rfl ?_
  refine st_iald c238_42 hT (tf hT rfl rfl) ay_88 (by omega) (fun e26 e27 => ?_)
  have q28 := (pre0) p1 (by omega) (by omega)
  refine st_iconst c238_43 ?_
  refine st_iast c238_44 hT (tf hT rfl rfl) ay_64 (by omega) (by omega) (by omega) (Ext_rf _) hS hF (by decide +kernel) (fun h29 hT30 hF31 hU32 => ?_)
  refine st_aload c238_45 rfl ?_
  refine st_getX (u := 110) c238_46 hT30 (tf hT30 rfl rfl) fd_8_56 rfl ?_
  refine st_iload c238_49 rfl ?_
  refine st_iconst c238_50 ?_
  refine st_iast c238_51 hT30 (tf hT30 rfl rfl) ay_88 (by omega) (by omega) (by omega) (Ext_rf _) hS hF31 (by decide +kernel) (fun h33 hT34 hF35 hU36 => ?_)
  refine st_aload c238_52 rfl ?_
  refine st_getX (u := 109) c238_53 hT34 (tf hT34 rfl rfl) fd_8_55 rfl ?_
  refine st_iload c238_56 rfl ?_
  refine st_iconst c238_57 ?_
  refine st_iast c238_58 hT34 (tf hT34 rfl rfl) ay_87 (by omega) (by omega) (by omega) (Ext_rf _) hS hF35 (by decide +kernel) (fun h37 hT38 hF39 hU40 => ?_)
  have e41 := fI_bd (q := 64) hT30 (tf hT30 rfl rfl) fd_8_48
  have q42 : fI h29 64 48 = fI h 64 48 := AUp_fI hU32
  have iv43 := I3_rev (I3_fr pre0 hT (AUp_1 hU32 (tf hT rfl rfl)) (by decide +kernel)) hU36 hU40 (by omega) (by omega) (by omega) (by omega) (by omega)
  refine st_iconst c238_59 ?_
  refine st_ireturn c238_60 ?_
  exact hQ _ _ ⟨1, rfl, by omega, iv43, hT38, hF39⟩
  refine st_iconst c238_20 ?_
  refine st_ireturn c238_22 ?_
  exact hQ _ _ ⟨(-2), rfl, by omega, pre0, hT, hF⟩
def W227 : List (Nat × Nat) := [(8, 62), (8, 64), (8, 65), (64, 0), (87, 0), (88, 0), (95, 0), (96, 0), (97, 0), (98, 0)]
set_option maxHeartbeats 0 in
theorem K227 {Ln : Nat} {xs : Nat → Int32} {τ : List Nat} {h : List mE} {E : EP} (hT : TH E τ h) (hS : Stb E W227) (pre0 : I3 h) (pre1 : I6 h) (d : Nat) (hd : 4 ≤ d) (Q : Option Value → List mE → Prop) (hQ : ∀ v h', (∃ z : Int, v = some (vI z) ∧ ((-2147483648) ≤ z ∧ z ≤ 2147483647) ∧ (I3 h') ∧ (I6 h') ∧ TH E τ h' ∧ Fr τ W227 h h') → Q v h') : MR (mex Ln xs) d 227 0 [some (.ref 64), none, none, none, none, none] [] h Q := by
  have hF := Fr_rf τ W227 h
  refine st_aload c227_0 rfl ?_
  refine st_getI c227_1 hT (tf hT rfl rfl) fd_8_62 (fun e1 e2 => ?_)
  refine st_if_ne c227_4 (by omega) (fun k3 => ?_) (fun k4 => ?_)
  refine st_iconst c227_10 ?_
  refine st_istore (L' := [some (.ref 64), some (vI 0), none, none, none, none]) c227_11 rfl rfl ?_
  have lp108 : ∀ (n109 : Nat) (z103 : Int) (h104 : List mE), (90 : Int) - z103 < (n109 : Int) → 0 ≤ z103 ∧ z103 ≤ 90 → TH E τ h104 → Fr τ W227 h h104 → Fr τ [(95, 0)] h h104 → MR (mex Ln xs) d 227 12 [some (.ref 64), some (vI z103), none, none, none, none] [] h104 Q := by
    intro n109
    induction n109 with
    | zero =>
      intro z103 h104 hm111 b112 hT105 hF106 hL107
      exfalso; omega
    | succ n109 ih110 =>
      intro z103 h104 hm111 b112 hT105 hF106 hL107
      refine st_iload c227_12 rfl ?_
      refine st_aload c227_13 rfl ?_
      refine st_getI c227_14 hT105 (tf hT105 rfl rfl) fd_8_15 (fun e113 e114 => ?_)
      have q115 : fI h104 64 15 = fI h 64 15 := Fr_fI hL107 (tf hT rfl rfl) (by decide +kernel)
      refine st_icmp_ge c227_17 (by omega) (by omega) (fun k116 => ?_) (fun k117 => ?_)
      refine st_aload c227_33 rfl ?_
      refine st_callt (as := []) c227_34 cm_224 hT105 (tf hT105 rfl rfl) fd_8_0 rfl rfl rfl rfl (by omega) (K224 hT105 (Stb_mono hS (by decide +kernel)) (d - 1) (by omega) _ (fun v h0 H => H)) (fun v1 h118 H => ?_)
      obtain ⟨rfl, hT119, hF120⟩ := H
      have hF121 := Fr_cp hF106 hF120 (by decide +kernel : Wsub W224 W227 = true)
      refine st_aload c227_37 rfl ?_
      refine st_iconst c227_38 ?_
      have e122 := fI_bd (q := 64) hT119 (tf hT119 rfl rfl) fd_8_62
      have q123 : fI h118 64 62 = fI h 64 62 := (Fr_fI hF120 (tf hT105 rfl rfl) (by decide +kernel)).trans (Fr_fI hL107 (tf hT rfl rfl) (by decide +kernel))
      refine st_callt (as := [vI 0]) c227_39 cm_226 hT119 (tf hT119 rfl rfl) fd_8_0 rfl rfl rfl rfl (by omega) (K226 hT119 (Stb_mono hS (by decide +kernel)) 0 (by omega) (by omega) (d - 1) (by omega) _ (fun v h0 H => H)) (fun v1 h124 H => ?_)
      obtain ⟨w127, rfl, hT125, hF126⟩ := H
      have hF128 := Fr_cp hF121 hF126 (by decide +kernel : Wsub W226 W227 = true)
      refine st_lstore (L' := [some (.ref 64), some (.long w127), none, none, none, none]) c227_42 rfl rfl ?_
      refine st_iconst c227_43 ?_
      refine st_istore (L' := [some (.ref 64), some (.long w127), none, some (vI 0), none, none]) c227_44 rfl rfl ?_
      refine st_aload c227_45 rfl ?_
      refine st_iconst c227_46 ?_
      refine st_putI c227_47 hT125 (tf hT125 rfl rfl) fd_8_65 (by omega) (by omega) (Ext_rf _) hS hF128 (by decide +kernel) (fun h129 hT130 hF131 hU132 => ?_)
      refine st_aload c227_50 rfl ?_
      refine st_iconst c227_51 ?_
      refine st_putI c227_52 hT130 (tf hT130 rfl rfl) fd_8_64 (by omega) (by omega) (Ext_rf _) hS hF131 (by decide +kernel) (fun h133 hT134 hF135 hU136 => ?_)
      refine st_iconst c227_55 ?_
      refine st_istore (L' := [some (.ref 64), some (.long w127), none, some (vI 0), some (vI 0), none]) c227_56 rfl rfl ?_
      have lp2118 : ∀ (n2119 : Nat) (w2112 : Int64) (z2113 : Int) (h2114 : List mE), (6 : Int) - z2113 < (n2119 : Int) → 0 ≤ z2113 ∧ z2113 ≤ 6 → TH E τ h2114 → Fr τ W227 h h2114 → Fr τ [(95, 0), (96, 0), (97, 0)] h133 h2114 → MR (mex Ln xs) d 227 58 [some (.ref 64), some (.long w2112), none, some (vI 0), some (vI z2113), none] [] h2114 Q := by
        intro n2119
        induction n2119 with
        | zero =>
          intro w2112 z2113 h2114 hm2121 b2122 hT2115 hF2116 hL2117
          exfalso; omega
        | succ n2119 ih2120 =>
          intro w2112 z2113 h2114 hm2121 b2122 hT2115 hF2116 hL2117
          refine st_iload c227_58 rfl ?_
          refine st_aload c227_60 rfl ?_
          refine st_getI c227_61 hT2115 (tf hT2115 rfl rfl) fd_8_62 (fun e2123 e2124 => ?_)
          have q2125 : fI h2114 64 62 = fI h118 64 62 := (Fr_fI hL2117 (tf hT134 rfl rfl) (by decide +kernel)).trans ((FUp_fIne hU136 (fun z => absurd z.2 (by decide))).trans ((FUp_fIne hU132 (fun z => absurd z.2 (by decide))).trans (Fr_fI hF126 (tf hT119 rfl rfl) (by decide +kernel))))
          refine st_icmp_ge c227_64 (by omega) (by omega) (fun k2126 => ?_) (fun k2127 => ?_)
          refine st_iconst c227_184 ?_
          refine st_istore (L' := [some (.ref 64), some (.long w2112), none, some (vI 0), some (vI 0), none]) c227_185 rfl rfl ?_
          have lp2736 : ∀ (n2737 : Nat) (z2730 : Int) (z2731 : Int) (h2732 : List mE), (6 : Int) - z2731 < (n2737 : Int) → (-2147483648) ≤ z2730 ∧ z2730 ≤ 2147483647 → 0 ≤ z2731 ∧ z2731 ≤ 6 → I3 h2732 → TH E τ h2732 → Fr τ W227 h h2732 → Fr τ [(8, 65), (64, 0), (87, 0), (88, 0)] h2114 h2732 → MR (mex Ln xs) d 227 187 [some (.ref 64), none, none, some (vI z2730), some (vI z2731), none] [] h2732 Q := by
            intro n2737
            induction n2737 with
            | zero =>
              intro z2730 z2731 h2732 hm2739 b2740 b2741 x2742 hT2733 hF2734 hL2735
              exfalso; omega
            | succ n2737 ih2738 =>
              intro z2730 z2731 h2732 hm2739 b2740 b2741 x2742 hT2733 hF2734 hL2735
              refine st_iload c227_187 rfl ?_
              refine st_aload c227_189 rfl ?_
              refine st_getI c227_190 hT2733 (tf hT2733 rfl rfl) fd_8_62 (fun e2743 e2744 => ?_)
              have q2745 : fI h2732 64 62 = fI h2114 64 62 := Fr_fI hL2735 (tf hT2115 rfl rfl) (by decide +kernel)
              refine st_icmp_ge c227_193 (by omega) (by omega) (fun k2746 => ?_) (fun k2747 => ?_)
              refine st_aload c227_305 rfl ?_
              refine st_iconst c227_306 ?_
              refine st_putI c227_307 hT2733 (tf hT2733 rfl rfl) fd_8_62 (by omega) (by omega) (Ext_rf _) hS hF2734 (by decide +kernel) (fun h2748 hT2749 hF2750 hU2751 => ?_)
              have iv2752 := I6_zero hU2751
              refine st_iload c227_310 rfl ?_
              refine st_ireturn c227_311 ?_
              exact hQ _ _ ⟨z2730, rfl, by omega, (I3_fr x2742 hT2733 (FUp_1 hU2751 (tf hT2733 rfl rfl)) (by decide +kernel)), iv2752, hT2749, hF2750⟩
              refine st_aload c227_196 rfl ?_
              refine st_getX (u := 118) c227_197 hT2733 (tf hT2733 rfl rfl) fd_8_67 rfl ?_
              refine st_iload c227_200 rfl ?_
              refine st_iald c227_202 hT2733 (tf hT2733 rfl rfl) ay_96 (by omega) (fun e2753 e2754 => ?_)
              have q2755 : aI h2732 118 z2731 = aI h2114 118 z2731 := Fr_aI hL2735 (tf hT2115 rfl rfl) (by decide +kernel) z2731
              refine st_if_ge c227_203 (by omega) (fun k2756 => ?_) (fun k2757 => ?_)
              refine st_iinc (L' := [some (.ref 64), none, none, some (vI (z2730 + 1)), some (vI z2731), none]) c227_209 rfl rfl rfl ?_
              refine st_aload c227_212 rfl ?_
              refine st_dup c227_213 rfl ?_
              refine st_getI c227_214 hT2733 (tf hT2733 rfl rfl) fd_8_65 (fun e2758 e2759 => ?_)
              refine st_aload c227_217 rfl ?_
              refine st_aload c227_218 rfl ?_
              refine st_getX (u := 79) c227_219 hT2733 (tf hT2733 rfl rfl) fd_8_19 rfl ?_
              refine st_aload c227_222 rfl ?_
              refine st_getX (u := 118) c227_223 hT2733 (tf hT2733 rfl rfl) fd_8_67 rfl ?_
              refine st_iload c227_226 rfl ?_
              refine st_iald c227_228 hT2733 (tf hT2733 rfl rfl) ay_96 (by omega) (fun e2760 e2761 => ?_)
              have q2762 : aI h2732 118 z2731 = aI h2114 118 z2731 := Fr_aI hL2735 (tf hT2115 rfl rfl) (by decide +kernel) z2731
              refine st_iald c227_229 hT2733 (tf hT2733 rfl rfl) ay_57 (by omega) (fun e2763 e2764 => ?_)
              have q2765 : aI h2732 79 (aI h2732 118 z2731) = aI h 79 (aI h2732 118 z2731) := (Fr_aI hL2735 (tf hT2115 rfl rfl) (by decide +kernel) (aI h2732 118 z2731)).trans ((Fr_aI hL2117 (tf hT134 rfl rfl) (by decide +kernel) (aI h2732 118 z2731)).trans ((FUp_aI hU136 (aI h2732 118 z2731)).trans ((FUp_aI hU132 (aI h2732 118 z2731)).trans ((Fr_aI hF126 (tf hT119 rfl rfl) (by decide +kernel) (aI h2732 118 z2731)).trans ((Fr_aI hF120 (tf hT105 rfl rfl) (by decide +kernel) (aI h2732 118 z2731)).trans (Fr_aI hL107 (tf hT rfl rfl) (by decide +kernel) (aI h2732 118 z2731)))))))
              refine st_aload c227_230 rfl ?_
              refine st_aload c227_231 rfl ?_
              refine st_getX (u := 116) c227_232 hT2733 (tf hT2733 rfl rfl) fd_8_63 rfl ?_
              refine st_iload c227_235 rfl ?_
              refine st_iald c227_237 hT2733 (tf hT2733 rfl rfl) ay_94 (by omega) (fun e2766 e2767 => ?_)
              have e2768 := fI_bd (q := 64) hT2733 (tf hT2733 rfl rfl) fd_8_48
              have q2769 : fI h2732 64 48 = fI h 64 48 := (Fr_fI hL2735 (tf hT2115 rfl rfl) (by decide +kernel)).trans ((Fr_fI hL2117 (tf hT134 rfl rfl) (by decide +kernel)).trans ((FUp_fIne hU136 (fun z => absurd z.2 (by decide))).trans ((FUp_fIne hU132 (fun z => absurd z.2 (by decide))).trans ((Fr_fI hF126 (tf hT119 rfl rfl) (by decide +kernel)).trans ((Fr_fI hF120 (tf hT105 rfl rfl) (by decide +kernel)).trans (Fr_fI hL107 (tf hT rfl rfl) (by decide +kernel)))))))
              have q2770 := ((I6_fr (I6_fr (I6_fr (I6_fr (I6_fr (I6_fr (I6_fr pre1 hT hL107 (by decide +kernel)) hT105 hF120 (by decide +kernel)) hT119 hF126 (by decide +kernel)) hT125 (FUp_1 hU132 (tf hT125 rfl rfl)) (by decide +kernel)) hT130 (FUp_1 hU136 (tf hT130 rfl rfl)) (by decide +kernel)) hT134 hL2117 (by decide +kernel)) hT2115 hL2735 (by decide +kernel))) z2731 (by omega) (by omega)
              have q2771 : aI h2732 116 z2731 = aI h 116 z2731 := (Fr_aI hL2735 (tf hT2115 rfl rfl) (by decide +kernel) z2731).trans ((Fr_aI hL2117 (tf hT134 rfl rfl) (by decide +kernel) z2731).trans ((FUp_aI hU136 z2731).trans ((FUp_aI hU132 z2731).trans ((Fr_aI hF126 (tf hT119 rfl rfl) (by decide +kernel) z2731).trans ((Fr_aI hF120 (tf hT105 rfl rfl) (by decide +kernel) z2731).trans (Fr_aI hL107 (tf hT rfl rfl) (by decide +kernel) z2731))))))
              refine st_callt (as := [vI (aI h2732 116 z2731)]) c227_238 cm_219 hT2733 (tf hT2733 rfl rfl) fd_8_0 rfl rfl rfl rfl (by omega) (K219 hT2733 (aI h2732 116 z2731) (by omega) (d - 1) (by omega) _ (fun v h0 H => H)) (fun v1 h1 H => ?_)
              obtain ⟨z2772, rfl, b2773, rfl⟩ := H
              refine st_callt (as := [vI (aI h2732 79 (aI h2732 118 z2731)), vI z2772]) c227_241 cm_184 hT2733 (tf hT2733 rfl rfl) fd_8_0 rfl rfl rfl rfl (by omega) (K184 hT2733 (aI h2732 79 (aI h2732 118 z2731)) (by omega) z2772 (by omega) (d - 1) (by omega) _ (fun v h0 H => H)) (fun v1 h1 H => ?_)
              obtain ⟨z2775, rfl, b2776, pf2774, rfl⟩ := H
              refine st_iadd c227_244 ?_
              refine MR_wrap (fun w2777 e2778 e2779 e2780 => ?_)
              refine st_putI c227_245 hT2733 (tf hT2733 rfl rfl) fd_8_65 (by omega) (by omega) (Ext_rf _) hS hF2734 (by decide +kernel) (fun h2781 hT2782 hF2783 hU2784 => ?_)
              refine st_aload c227_248 rfl ?_
              refine st_getX (u := 109) c227_249 hT2782 (tf hT2782 rfl rfl) fd_8_55 rfl ?_
              refine st_aload c227_252 rfl ?_
              refine st_getX (u := 116) c227_253 hT2782 (tf hT2782 rfl rfl) fd_8_63 rfl ?_
              refine st_iload c227_256 rfl ?_
              refine st_iald c227_258 hT2782 (tf hT2782 rfl rfl) ay_94 (by omega) (fun e2785 e2786 => ?_)
              have e2787 := fI_bd (q := 64) hT2782 (tf hT2782 rfl rfl) fd_8_62
              have q2788 : fI h2781 64 62 = fI h2732 64 62 := FUp_fIne hU2784 (fun z => absurd z.2 (by decide))
              have e2789 := fI_bd (q := 64) hT2782 (tf hT2782 rfl rfl) fd_8_48
              have q2790 : fI h2781 64 48 = fI h2732 64 48 := FUp_fIne hU2784 (fun z => absurd z.2 (by decide))
              have q2791 := ((I6_fr (I6_fr (I6_fr (I6_fr (I6_fr (I6_fr (I6_fr (I6_fr pre1 hT hL107 (by decide +kernel)) hT105 hF120 (by decide +kernel)) hT119 hF126 (by decide +kernel)) hT125 (FUp_1 hU132 (tf hT125 rfl rfl)) (by decide +kernel)) hT130 (FUp_1 hU136 (tf hT130 rfl rfl)) (by decide +kernel)) hT134 hL2117 (by decide +kernel)) hT2115 hL2735 (by decide +kernel)) hT2733 (FUp_1 hU2784 (tf hT2733 rfl rfl)) (by decide +kernel))) z2731 (by omega) (by omega)
              have q2792 : aI h2781 116 z2731 = aI h2732 116 z2731 := FUp_aI hU2784 z2731
              refine st_iconst c227_259 ?_
              refine st_iast c227_260 hT2782 (tf hT2782 rfl rfl) ay_87 (by omega) (by omega) (by omega) (Ext_rf _) hS hF2783 (by decide +kernel) (fun h2793 hT2794 hF2795 hU2796 => ?_)
              refine st_aload c227_261 rfl ?_
              refine st_getX (u := 110) c227_262 hT2794 (tf hT2794 rfl rfl) fd_8_56 rfl ?_
              refine st_aload c227_265 rfl ?_
              refine st_getX (u := 116) c227_266 hT2794 (tf hT2794 rfl rfl) fd_8_63 rfl ?_
              refine st_iload c227_269 rfl ?_
              refine st_iald c227_271 hT2794 (tf hT2794 rfl rfl) ay_94 (by omega) (fun e2797 e2798 => ?_)
              have e2799 := fI_bd (q := 64) hT2794 (tf hT2794 rfl rfl) fd_8_62
              have q2800 : fI h2793 64 62 = fI h2781 64 62 := AUp_fI hU2796
              have e2801 := fI_bd (q := 64) hT2794 (tf hT2794 rfl rfl) fd_8_48
              have q2802 : fI h2793 64 48 = fI h2781 64 48 := AUp_fI hU2796
              have q2803 := ((I6_fr (I6_fr (I6_fr (I6_fr (I6_fr (I6_fr (I6_fr (I6_fr (I6_fr pre1 hT hL107 (by decide +kernel)) hT105 hF120 (by decide +kernel)) hT119 hF126 (by decide +kernel)) hT125 (FUp_1 hU132 (tf hT125 rfl rfl)) (by decide +kernel)) hT130 (FUp_1 hU136 (tf hT130 rfl rfl)) (by decide +kernel)) hT134 hL2117 (by decide +kernel)) hT2115 hL2735 (by decide +kernel)) hT2733 (FUp_1 hU2784 (tf hT2733 rfl rfl)) (by decide +kernel)) hT2782 (AUp_1 hU2796 (tf hT2782 rfl rfl)) (by decide +kernel))) z2731 (by omega) (by omega)
              have q2804 : aI h2793 116 z2731 = aI h2781 116 z2731 := AUp_aIne hU2796 (by decide) z2731
              refine st_aload c227_272 rfl ?_
              refine st_getX (u := 118) c227_273 hT2794 (tf hT2794 rfl rfl) fd_8_67 rfl ?_
              refine st_iload c227_276 rfl ?_
              refine st_iald c227_278 hT2794 (tf hT2794 rfl rfl) ay_96 (by omega) (fun e2805 e2806 => ?_)
              have q2807 : aI h2793 118 z2731 = aI h2732 118 z2731 := (AUp_aIne hU2796 (by decide) z2731).trans (FUp_aI hU2784 z2731)
              refine st_iast c227_279 hT2794 (tf hT2794 rfl rfl) ay_88 (by omega) (by omega) (by omega) (Ext_rf _) hS hF2795 (by decide +kernel) (fun h2808 hT2809 hF2810 hU2811 => ?_)
              have iv2812 := I3_two (I3_fr x2742 hT2733 (FUp_1 hU2784 (tf hT2733 rfl rfl)) (by decide +kernel)) hU2796 hU2811 (by omega) (by omega) (by omega) (by omega) (by omega)
              refine st_aload c227_280 rfl ?_
              refine st_getX (u := 86) c227_281 hT2809 (tf hT2809 rfl rfl) fd_8_26 rfl ?_
              refine st_aload c227_284 rfl ?_
              refine st_getX (u := 118) c227_285 hT2809 (tf hT2809 rfl rfl) fd_8_67 rfl ?_
              refine st_iload c227_288 rfl ?_
              refine st_iald c227_290 hT2809 (tf hT2809 rfl rfl) ay_96 (by omega) (fun e2813 e2814 => ?_)
              have q2815 : aI h2808 118 z2731 = aI h2793 118 z2731 := AUp_aIne hU2811 (by decide) z2731
              refine st_aload c227_291 rfl ?_
              refine st_getX (u := 116) c227_292 hT2809 (tf hT2809 rfl rfl) fd_8_63 rfl ?_
              refine st_iload c227_295 rfl ?_
              refine st_iald c227_297 hT2809 (tf hT2809 rfl rfl) ay_94 (by omega) (fun e2816 e2817 => ?_)
              have e2818 := fI_bd (q := 64) hT2809 (tf hT2809 rfl rfl) fd_8_62
              have q2819 : fI h2808 64 62 = fI h2793 64 62 := AUp_fI hU2811
              have e2820 := fI_bd (q := 64) hT2809 (tf hT2809 rfl rfl) fd_8_48
              have q2821 : fI h2808 64 48 = fI h2793 64 48 := AUp_fI hU2811
              have q2822 := ((I6_fr (I6_fr (I6_fr (I6_fr (I6_fr (I6_fr (I6_fr (I6_fr (I6_fr (I6_fr pre1 hT hL107 (by decide +kernel)) hT105 hF120 (by decide +kernel)) hT119 hF126 (by decide +kernel)) hT125 (FUp_1 hU132 (tf hT125 rfl rfl)) (by decide +kernel)) hT130 (FUp_1 hU136 (tf hT130 rfl rfl)) (by decide +kernel)) hT134 hL2117 (by decide +kernel)) hT2115 hL2735 (by decide +kernel)) hT2733 (FUp_1 hU2784 (tf hT2733 rfl rfl)) (by decide +kernel)) hT2782 (AUp_1 hU2796 (tf hT2782 rfl rfl)) (by decide +kernel)) hT2794 (AUp_1 hU2811 (tf hT2794 rfl rfl)) (by decide +kernel))) z2731 (by omega) (by omega)
              have q2823 : aI h2808 116 z2731 = aI h2793 116 z2731 := AUp_aIne hU2811 (by decide) z2731
              refine st_iast c227_298 hT2809 (tf hT2809 rfl rfl) ay_64 (by omega) (by omega) (by omega) (Ext_rf _) hS hF2810 (by decide +kernel) (fun h2824 hT2825 hF2826 hU2827 => ?_)
              refine st_iinc (L' := [some (.ref 64), none, none, some (vI (z2730 + 1)), some (vI (z2731 + 1)), none]) c227_299 rfl rfl rfl ?_
              refine st_goto c227_302 ?_
              have e2829 : vI (z2730 + 1) = vI (Int32.ofInt (z2730 + 1)).toInt := by unfold vI; rw [Int32.ofInt_toInt]
              rw [e2829]
              have b2830 := to_lo (Int32.ofInt (z2730 + 1))
              have b2831 := to_hi (Int32.ofInt (z2730 + 1))
              exact ih2738 ((Int32.ofInt (z2730 + 1)).toInt) (z2731 + 1) h2824 (by omega) (by omega) (by omega) ((I3_fr iv2812 hT2809 (AUp_1 hU2827 (tf hT2809 rfl rfl)) (by decide +kernel))) hT2825 hF2826 (AUp_Fr (AUp_Fr (AUp_Fr (FUp_Fr hL2735 hU2784 (fun u hu => by rw [ty_1 hu (tf hT2825 rfl rfl)]; decide)) hU2796 (fun u hu => by rw [ty_1 hu (tf hT2825 rfl rfl)]; decide)) hU2811 (fun u hu => by rw [ty_1 hu (tf hT2825 rfl rfl)]; decide)) hU2827 (fun u hu => by rw [ty_1 hu (tf hT2825 rfl rfl)]; decide))
              refine st_goto c227_206 ?_
              refine st_iinc (L' := [some (.ref 64), none, none, some (vI z2730), some (vI (z2731 + 1)), none]) c227_299 rfl rfl rfl ?_
              refine st_goto c227_302 ?_
              exact ih2738 z2730 (z2731 + 1) h2732 (by omega) (by omega) (by omega) (x2742) hT2733 hF2734 hL2735
          refine MR_weak (A := [some (.ref 64), none, none, some (vI 0), some (vI 0), none]) (Lle_s (Lle_n (Lle_s (Lle_s (Lle_s (Lle_s (Lle_0))))))) ?_
          exact lp2736 ((((6 : Int) - 0 : Int) + 1).toNat) 0 0 h2114 (by omega) (by omega) (by omega) ((I3_fr (I3_fr (I3_fr (I3_fr (I3_fr (I3_fr pre0 hT hL107 (by decide +kernel)) hT105 hF120 (by decide +kernel)) hT119 hF126 (by decide +kernel)) hT125 (FUp_1 hU132 (tf hT125 rfl rfl)) (by decide +kernel)) hT130 (FUp_1 hU136 (tf hT130 rfl rfl)) (by decide +kernel)) hT134 hL2117 (by decide +kernel))) hT2115 hF2116 (Fr_rf _ _ _)
          refine st_aload c227_67 rfl ?_
          refine st_getX (u := 118) c227_68 hT2115 (tf hT2115 rfl rfl) fd_8_67 rfl ?_
          refine st_iload c227_71 rfl ?_
          refine st_iconst c227_73 ?_
          refine st_iast c227_74 hT2115 (tf hT2115 rfl rfl) ay_96 (by omega) (by omega) (by omega) (Ext_rf _) hS hF2116 (by decide +kernel) (fun h2832 hT2833 hF2834 hU2835 => ?_)
          refine st_iconst c227_75 ?_
          refine st_istore (L' := [some (.ref 64), some (.long w2112), none, some (vI 0), some (vI z2113), some (vI 0)]) c227_76 rfl rfl ?_
          have lp3171 : ∀ (n3172 : Nat) (w3165 : Int64) (z3166 : Int) (h3167 : List mE), (90 : Int) - z3166 < (n3172 : Int) → 0 ≤ z3166 ∧ z3166 ≤ 90 → TH E τ h3167 → Fr τ W227 h h3167 → Fr τ [(95, 0), (96, 0), (97, 0)] h2832 h3167 → MR (mex Ln xs) d 227 78 [some (.ref 64), some (.long w3165), none, some (vI 0), some (vI z2113), some (vI z3166)] [] h3167 Q := by
            intro n3172
            induction n3172 with
            | zero =>
              intro w3165 z3166 h3167 hm3174 b3175 hT3168 hF3169 hL3170
              exfalso; omega
            | succ n3172 ih3173 =>
              intro w3165 z3166 h3167 hm3174 b3175 hT3168 hF3169 hL3170
              refine st_iload c227_78 rfl ?_
              refine st_aload c227_80 rfl ?_
              refine st_getI c227_81 hT3168 (tf hT3168 rfl rfl) fd_8_15 (fun e3176 e3177 => ?_)
              have q3178 : fI h3167 64 15 = fI h104 64 15 := (Fr_fI hL3170 (tf hT2833 rfl rfl) (by decide +kernel)).trans ((AUp_fI hU2835).trans ((Fr_fI hL2117 (tf hT134 rfl rfl) (by decide +kernel)).trans ((FUp_fIne hU136 (fun z => absurd z.2 (by decide))).trans ((FUp_fIne hU132 (fun z => absurd z.2 (by decide))).trans ((Fr_fI hF126 (tf hT119 rfl rfl) (by decide +kernel)).trans (Fr_fI hF120 (tf hT105 rfl rfl) (by decide +kernel)))))))
              refine st_icmp_ge c227_84 (by omega) (by omega) (fun k3179 => ?_) (fun k3180 => ?_)
              refine st_iinc (L' := [some (.ref 64), some (.long w3165), none, some (vI 0), some (vI (z2113 + 1)), some (vI z3166)]) c227_178 rfl rfl rfl ?_
              refine st_goto c227_181 ?_
              refine MR_weak (A := [some (.ref 64), some (.long w3165), none, some (vI 0), some (vI (z2113 + 1)), none]) (Lle_s (Lle_s (Lle_s (Lle_s (Lle_s (Lle_n (Lle_0))))))) ?_
              exact ih2120 w3165 (z2113 + 1) h3167 (by omega) (by omega) hT3168 hF3169 (Fr_cp (AUp_Fr hL2117 hU2835 (fun u hu => by rw [ty_1 hu (tf hT3168 rfl rfl)]; decide)) hL3170 (by decide +kernel))
              refine st_aload c227_87 rfl ?_
              refine st_getX (u := 118) c227_88 hT3168 (tf hT3168 rfl rfl) fd_8_67 rfl ?_
              refine st_iload c227_91 rfl ?_
              refine st_iald c227_93 hT3168 (tf hT3168 rfl rfl) ay_96 (by omega) (fun e3181 e3182 => ?_)
              refine st_if_ge c227_94 (by omega) (fun k3183 => ?_) (fun k3184 => ?_)
              refine st_iinc (L' := [some (.ref 64), some (.long w3165), none, some (vI 0), some (vI (z2113 + 1)), some (vI z3166)]) c227_178 rfl rfl rfl ?_
              refine st_goto c227_181 ?_
              refine MR_weak (A := [some (.ref 64), some (.long w3165), none, some (vI 0), some (vI (z2113 + 1)), none]) (Lle_s (Lle_s (Lle_s (Lle_s (Lle_s (Lle_n (Lle_0))))))) ?_
              exact ih2120 w3165 (z2113 + 1) h3167 (by omega) (by omega) hT3168 hF3169 (Fr_cp (AUp_Fr hL2117 hU2835 (fun u hu => by rw [ty_1 hu (tf hT3168 rfl rfl)]; decide)) hL3170 (by decide +kernel))
              refine st_aload c227_97 rfl ?_
              refine st_iload c227_98 rfl ?_
              refine st_iload c227_100 rfl ?_
              refine st_callt (as := [vI z2113, vI z3166]) c227_102 cm_223 hT3168 (tf hT3168 rfl rfl) fd_8_0 rfl rfl rfl rfl (by omega) (K223 hT3168 z2113 (by omega) z3166 (by omega) (d - 1) (by omega) _ (fun v h0 H => H)) (fun v1 h1 H => ?_)
              rcases H with ⟨rfl, rfl⟩ | ⟨rfl, rfl⟩
              refine st_if_ne c227_105 (by omega) (fun k3185 => False.elim (by omega)) (fun k3186 => ?_)
              refine st_goto c227_108 ?_
              refine st_iinc (L' := [some (.ref 64), some (.long w3165), none, some (vI 0), some (vI z2113), some (vI (z3166 + 1))]) c227_172 rfl rfl rfl ?_
              refine st_goto c227_175 ?_
              exact ih3173 w3165 (z3166 + 1) h3167 (by omega) (by omega) hT3168 hF3169 hL3170
              refine st_if_ne c227_105 (by omega) (fun k3187 => ?_) (fun k3188 => False.elim (by omega))
              refine st_aload c227_111 rfl ?_
              refine st_getX (u := 117) c227_112 hT3168 (tf hT3168 rfl rfl) fd_8_66 rfl ?_
              refine st_iload c227_115 rfl ?_
              refine st_iconst c227_117 ?_
              refine st_zast c227_118 hT3168 (tf hT3168 rfl rfl) ay_95 (by omega) (by omega) (Ext_rf _) hS hF3169 (by decide +kernel) (fun h3189 hT3190 hF3191 hU3192 => ?_)
              refine st_aload c227_119 rfl ?_
              refine st_iload c227_120 rfl ?_
              refine st_iload c227_122 rfl ?_
              refine st_callt (as := [vI z2113, vI z3166]) c227_124 cm_225 hT3190 (tf hT3190 rfl rfl) fd_8_0 rfl rfl rfl rfl (by omega) (K225 hT3190 z2113 (by omega) z3166 (by omega) (d - 1) (by omega) _ (fun v h0 H => H)) (fun v1 h1 H => ?_)
              obtain ⟨w3193, rfl, rfl⟩ := H
              refine st_aload c227_127 rfl ?_
              refine st_iload c227_128 rfl ?_
              refine st_iconst c227_130 ?_
              refine st_iadd c227_131 ?_
              have e3194 := fI_bd (q := 64) hT3190 (tf hT3190 rfl rfl) fd_8_62
              have q3195 : fI h3189 64 62 = fI h2114 64 62 := (AUp_fI hU3192).trans ((Fr_fI hL3170 (tf hT2833 rfl rfl) (by decide +kernel)).trans (AUp_fI hU2835))
              refine st_callt (as := [vI (z2113 + 1)]) c227_132 cm_226 hT3190 (tf hT3190 rfl rfl) fd_8_0 rfl rfl rfl rfl (by omega) (K226 hT3190 (Stb_mono hS (by decide +kernel)) (z2113 + 1) (by omega) (by omega) (d - 1) (by omega) _ (fun v h0 H => H)) (fun v1 h3196 H => ?_)
              obtain ⟨w3199, rfl, hT3197, hF3198⟩ := H
              have hF3200 := Fr_cp hF3191 hF3198 (by decide +kernel : Wsub W226 W227 = true)
              refine st_ladd c227_135 (fun w3201 => ?_)
              refine st_lload c227_136 rfl ?_
              refine st_lcmp c227_137 (fun w3202 e3203 e3204 => ?_)
              refine st_if_ne c227_138 (by omega) (fun k3205 => ?_) (fun k3206 => ?_)
              refine st_aload c227_164 rfl ?_
              refine st_getX (u := 117) c227_165 hT3197 (tf hT3197 rfl rfl) fd_8_66 rfl ?_
              refine st_iload c227_168 rfl ?_
              refine st_iconst c227_170 ?_
              refine st_zast c227_171 hT3197 (tf hT3197 rfl rfl) ay_95 (by omega) (by omega) (Ext_rf _) hS hF3200 (by decide +kernel) (fun h3207 hT3208 hF3209 hU3210 => ?_)
              refine st_iinc (L' := [some (.ref 64), some (.long w3165), none, some (vI 0), some (vI z2113), some (vI (z3166 + 1))]) c227_172 rfl rfl rfl ?_
              refine st_goto c227_175 ?_
              exact ih3173 w3165 (z3166 + 1) h3207 (by omega) (by omega) hT3208 hF3209 (AUp_Fr (Fr_cp (AUp_Fr hL3170 hU3192 (fun u hu => by rw [ty_1 hu (tf hT3208 rfl rfl)]; decide)) hF3198 (by decide +kernel)) hU3210 (fun u hu => by rw [ty_1 hu (tf hT3208 rfl rfl)]; decide))
              refine st_aload c227_141 rfl ?_
              refine st_getX (u := 118) c227_142 hT3197 (tf hT3197 rfl rfl) fd_8_67 rfl ?_
              refine st_iload c227_145 rfl ?_
              refine st_iload c227_147 rfl ?_
              refine st_iast c227_149 hT3197 (tf hT3197 rfl rfl) ay_96 (by omega) (by omega) (by omega) (Ext_rf _) hS hF3200 (by decide +kernel) (fun h3211 hT3212 hF3213 hU3214 => ?_)
              refine st_lload c227_150 rfl ?_
              refine st_aload c227_151 rfl ?_
              refine st_iload c227_152 rfl ?_
              refine st_iload c227_154 rfl ?_
              refine st_callt (as := [vI z2113, vI z3166]) c227_156 cm_225 hT3212 (tf hT3212 rfl rfl) fd_8_0 rfl rfl rfl rfl (by omega) (K225 hT3212 z2113 (by omega) z3166 (by omega) (d - 1) (by omega) _ (fun v h0 H => H)) (fun v1 h1 H => ?_)
              obtain ⟨w3215, rfl, rfl⟩ := H
              refine st_lsub c227_159 (fun w3216 => ?_)
              refine st_lstore (L' := [some (.ref 64), some (.long w3216), none, some (vI 0), some (vI z2113), some (vI z3166)]) c227_160 rfl rfl ?_
              refine st_goto c227_161 ?_
              refine st_iinc (L' := [some (.ref 64), some (.long w3216), none, some (vI 0), some (vI z2113), some (vI (z3166 + 1))]) c227_172 rfl rfl rfl ?_
              refine st_goto c227_175 ?_
              exact ih3173 w3216 (z3166 + 1) h3211 (by omega) (by omega) hT3212 hF3213 (AUp_Fr (Fr_cp (AUp_Fr hL3170 hU3192 (fun u hu => by rw [ty_1 hu (tf hT3212 rfl rfl)]; decide)) hF3198 (by decide +kernel)) hU3214 (fun u hu => by rw [ty_1 hu (tf hT3212 rfl rfl)]; decide))
          exact lp3171 ((((90 : Int) - 0 : Int) + 1).toNat) w2112 0 h2832 (by omega) (by omega) hT2833 hF2834 (Fr_rf _ _ _)
      exact lp2118 ((((6 : Int) - 0 : Int) + 1).toNat) w127 0 h133 (by omega) (by omega) hT134 hF135 (Fr_rf _ _ _)
      refine st_aload c227_20 rfl ?_
      refine st_getX (u := 117) c227_21 hT105 (tf hT105 rfl rfl) fd_8_66 rfl ?_
      refine st_iload c227_24 rfl ?_
      refine st_iconst c227_25 ?_
      refine st_zast c227_26 hT105 (tf hT105 rfl rfl) ay_95 (by omega) (by omega) (Ext_rf _) hS hF106 (by decide +kernel) (fun h3217 hT3218 hF3219 hU3220 => ?_)
      refine st_iinc (L' := [some (.ref 64), some (vI (z103 + 1)), none, none, none, none]) c227_27 rfl rfl rfl ?_
      refine st_goto c227_30 ?_
      exact ih110 (z103 + 1) h3217 (by omega) (by omega) hT3218 hF3219 (AUp_Fr hL107 hU3220 (fun u hu => by rw [ty_1 hu (tf hT3218 rfl rfl)]; decide))
  exact lp108 ((((90 : Int) - 0 : Int) + 1).toNat) 0 h (by omega) (by omega) hT hF (Fr_rf _ _ _)
  refine st_iconst c227_7 ?_
  refine st_ireturn c227_9 ?_
  exact hQ _ _ ⟨(-2), rfl, by omega, pre0, pre1, hT, hF⟩
set_option maxHeartbeats 0 in
theorem K282 {Ln : Nat} {xs : Nat → Int32} {τ : List Nat} {h : List mE} {E : EP} (hT : TH E τ h) (p1 : Int) (hp1 : (-2147483648) ≤ p1 ∧ p1 ≤ 2147483647) (p2 : Int) (hp2 : (-2147483648) ≤ p2 ∧ p2 ≤ 2147483647) (pre0 : I3 h) (d : Nat) (hd : 3 ≤ d) (Q : Option Value → List mE → Prop) (hQ : ∀ v h', (∃ z : Int, v = some (vI z) ∧ ((-2147483648) ≤ z ∧ z ≤ 2147483647) ∧ h = h') → Q v h') : MR (mex Ln xs) d 282 0 [some (.ref 64), some (vI p1), some (vI p2), none, none] [] h Q := by
  refine st_aload c282_0 rfl ?_
  refine st_iload c282_1 rfl ?_
  have e1 := fI_bd (q := 64) hT (tf hT rfl rfl) fd_8_48
  refine st_callt (as := [vI p1]) c282_2 cm_216 hT (tf hT rfl rfl) fd_8_0 rfl rfl rfl rfl (by omega) (K216 hT p1 (by omega) (d - 1) (by omega) _ (fun v h0 H => H)) (fun v1 h1 H => ?_)
  rcases H with ⟨rfl, pf2, rfl⟩ | ⟨rfl, pf3, pf4, rfl⟩
  refine st_if_eq c282_5 (by omega) (fun k5 => ?_) (fun k6 => False.elim (by omega))
  refine st_iconst c282_37 ?_
  refine st_ireturn c282_40 ?_
  exact hQ _ _ ⟨(-2000000000), rfl, by omega, rfl⟩
  refine st_if_eq c282_5 (by omega) (fun k7 => False.elim (by omega)) (fun k8 => ?_)
  refine st_aload c282_8 rfl ?_
  refine st_iload c282_9 rfl ?_
  refine st_callt (as := [vI p1]) c282_10 cm_236 hT (tf hT rfl rfl) fd_8_0 rfl rfl rfl rfl (by omega) (K236 hT p1 (by omega) (d - 1) (by omega) _ (fun v h0 H => H)) (fun v1 h1 H => ?_)
  rcases H with ⟨rfl, rfl⟩ | ⟨rfl, pf9, rfl⟩
  refine st_if_eq c282_13 (by omega) (fun k10 => ?_) (fun k11 => False.elim (by omega))
  refine st_iconst c282_37 ?_
  refine st_ireturn c282_40 ?_
  exact hQ _ _ ⟨(-2000000000), rfl, by omega, rfl⟩
  refine st_if_eq c282_13 (by omega) (fun k12 => False.elim (by omega)) (fun k13 => ?_)
  refine st_iload c282_16 rfl ?_
  refine st_iconst c282_17 ?_
  refine st_aload c282_18 rfl ?_
  refine st_getX (u := 89) c282_19 hT (tf hT rfl rfl) fd_8_29 rfl ?_
  refine st_aload c282_22 rfl ?_
  refine st_getX (u := 110) c282_23 hT (tf hT rfl rfl) fd_8_56 rfl ?_
  refine st_iload c282_26 rfl ?_
  refine st_iald c282_27 hT (tf hT rfl rfl) ay_88 (by omega) (fun e14 e15 => ?_)
  have q16 := (pre0) p1 (by omega) (by omega)
  refine st_iald c282_28 hT (tf hT rfl rfl) ay_67 (by omega) (fun e17 e18 => ?_)
  refine st_iconst c282_29 ?_
  refine st_isub c282_30 ?_
  refine st_calls (as := [vI p2, vI 0, vI ((aI h 89 (aI h 110 p1)) - 1)]) c282_31 cm_180 rfl rfl rfl rfl (by omega) (K180 hT p2 (by omega) 0 (by omega) ((aI h 89 (aI h 110 p1)) - 1) (by omega) (d - 1) (by omega) _ (fun v h0 H => H)) (fun v1 h1 H => ?_)
  rcases H with ⟨rfl, pf19, rfl⟩ | ⟨rfl, pf20, pf21, rfl⟩
  refine st_if_ne c282_34 (by omega) (fun k22 => False.elim (by omega)) (fun k23 => ?_)
  refine st_iconst c282_37 ?_
  refine st_ireturn c282_40 ?_
  exact hQ _ _ ⟨(-2000000000), rfl, by omega, rfl⟩
  refine st_if_ne c282_34 (by omega) (fun k24 => ?_) (fun k25 => False.elim (by omega))
  refine st_aload c282_41 rfl ?_
  refine st_getX (u := 110) c282_42 hT (tf hT rfl rfl) fd_8_56 rfl ?_
  refine st_iload c282_45 rfl ?_
  refine st_iald c282_46 hT (tf hT rfl rfl) ay_88 (by omega) (fun e26 e27 => ?_)
  have q28 := (pre0) p1 (by omega) (by omega)
  refine st_istore (L' := [some (.ref 64), some (vI p1), some (vI p2), some (vI (aI h 110 p1)), none]) c282_47 rfl rfl ?_
  refine st_aload c282_48 rfl ?_
  refine st_iload c282_49 rfl ?_
  refine st_iconst c282_50 ?_
  refine st_callt (as := [vI p1, vI 2]) c282_51 cm_244 hT (tf hT rfl rfl) fd_8_0 rfl rfl rfl rfl (by omega) (K244 hT p1 (by omega) 2 (by omega) (d - 1) (by omega) _ (fun v h0 H => H)) (fun v1 h1 H => ?_)
  obtain ⟨z29, rfl, b30, rfl⟩ := H
  refine st_istore (L' := [some (.ref 64), some (vI p1), some (vI p2), some (vI (aI h 110 p1)), some (vI z29)]) c282_54 rfl rfl ?_
  refine st_aload c282_56 rfl ?_
  refine st_getX (u := 91) c282_57 hT (tf hT rfl rfl) fd_8_31 rfl ?_
  refine st_iconst c282_60 ?_
  refine st_iload c282_61 rfl ?_
  refine st_imul c282_62 ?_
  refine st_iload c282_63 rfl ?_
  refine st_iadd c282_64 ?_
  refine st_iald c282_65 hT (tf hT rfl rfl) ay_69 (by omega) (fun e31 e32 => ?_)
  refine st_iload c282_66 rfl ?_
  refine st_imul c282_68 ?_
  refine MR_wrap (fun w33 e34 e35 e36 => ?_)
  clear e36
  refine st_iload c282_69 rfl ?_
  refine st_iconst c282_70 ?_
  refine st_iadd c282_71 ?_
  refine st_aload c282_72 rfl ?_
  refine st_getX (u := 89) c282_73 hT (tf hT rfl rfl) fd_8_29 rfl ?_
  refine st_iload c282_76 rfl ?_
  refine st_iald c282_77 hT (tf hT rfl rfl) ay_67 (by omega) (fun e37 e38 => ?_)
  refine st_icmp_ge c282_78 (by omega) (by omega) (fun k39 => ?_) (fun k40 => ?_)
  refine st_iconst c282_99 ?_
  refine st_isub c282_100 ?_
  refine st_ireturn c282_101 ?_
  exact hQ _ _ ⟨w33 - 0, rfl, by omega, rfl⟩
  refine st_aload c282_81 rfl ?_
  refine st_getX (u := 91) c282_82 hT (tf hT rfl rfl) fd_8_31 rfl ?_
  refine st_iconst c282_85 ?_
  refine st_iload c282_86 rfl ?_
  refine st_imul c282_87 ?_
  refine st_iload c282_88 rfl ?_
  refine st_iadd c282_89 ?_
  refine st_iconst c282_90 ?_
  refine st_iadd c282_91 ?_
  refine st_iald c282_92 hT (tf hT rfl rfl) ay_69 (by omega) (fun e41 e42 => ?_)
  refine st_iload c282_93 rfl ?_
  refine st_imul c282_95 ?_
  refine MR_wrap (fun w43 e44 e45 e46 => ?_)
  clear e46
  refine st_goto c282_96 ?_
  refine st_isub c282_100 ?_
  refine MR_wrap (fun w47 e48 e49 e50 => ?_)
  refine st_ireturn c282_101 ?_
  exact hQ _ _ ⟨w47, rfl, by omega, rfl⟩
set_option maxHeartbeats 0 in
theorem K231 {Ln : Nat} {xs : Nat → Int32} {τ : List Nat} {h : List mE} {E : EP} (hT : TH E τ h) (p1 : Int) (hp1 : 1 ≤ p1 ∧ p1 ≤ 5) (pre0 : ∀ j : Int, 0 ≤ j → j < p1 → 0 ≤ aI h 86 (aI h 121 j)) (pre1 : ∀ k : Int, 0 ≤ k → k < p1 → 0 ≤ aI h 122 k ∧ aI h 122 k < p1) (d : Nat) (hd : 1 ≤ d) (Q : Option Value → List mE → Prop) (hQ : ∀ v h', (∃ z : Int, v = some (vI z) ∧ ((-2147483648) ≤ z ∧ z ≤ 1000000) ∧ h = h') → Q v h') : MR (mex Ln xs) d 231 0 [some (.ref 64), some (vI p1), none, none, none, none] [] h Q := by
  refine st_aload c231_0 rfl ?_
  refine st_getI c231_1 hT (tf hT rfl rfl) fd_8_73 (fun e1 e2 => ?_)
  refine st_istore (L' := [some (.ref 64), some (vI p1), some (vI (fI h 64 73)), none, none, none]) c231_4 rfl rfl ?_
  refine st_iconst c231_5 ?_
  refine st_istore (L' := [some (.ref 64), some (vI p1), some (vI (fI h 64 73)), some (vI 0), none, none]) c231_6 rfl rfl ?_
  refine st_iconst c231_7 ?_
  refine st_istore (L' := [some (.ref 64), some (vI p1), some (vI (fI h 64 73)), some (vI 0), some (vI 0), none]) c231_8 rfl rfl ?_
  have lp78 : ∀ (n79 : Nat) (z75 : Int) (z76 : Int) (z77 : Int), (5 : Int) - z77 < (n79 : Int) → 0 ≤ z75 ∧ z75 ≤ 11 → (-2147483648) ≤ z76 ∧ z76 ≤ 2147483647 → 0 ≤ z77 ∧ z77 ≤ 5 → MR (mex Ln xs) d 231 10 [some (.ref 64), some (vI p1), some (vI z75), some (vI z76), some (vI z77), none] [] h Q := by
    intro n79
    induction n79 with
    | zero =>
      intro z75 z76 z77 hm81 b82 b83 b84
      exfalso; omega
    | succ n79 ih80 =>
      intro z75 z76 z77 hm81 b82 b83 b84
      refine st_iload c231_10 rfl ?_
      refine st_iload c231_12 rfl ?_
      refine st_icmp_ge c231_13 (by omega) (by omega) (fun k85 => ?_) (fun k86 => ?_)
      refine st_iload c231_58 rfl ?_
      refine st_aload c231_59 rfl ?_
      refine st_iload c231_60 rfl ?_
      refine st_aload c231_61 rfl ?_
      refine st_getI c231_62 hT (tf hT rfl rfl) fd_8_73 (fun e87 e88 => ?_)
      refine st_callt (as := [vI z75, vI (fI h 64 73)]) c231_65 cm_184 hT (tf hT rfl rfl) fd_8_0 rfl rfl rfl rfl (by omega) (K184 hT z75 (by omega) (fI h 64 73) (by omega) (d - 1) (by omega) _ (fun v h0 H => H)) (fun v1 h1 H => ?_)
      obtain ⟨z90, rfl, b91, pf89, rfl⟩ := H
      refine st_iadd c231_68 ?_
      refine MR_wrap (fun w92 e93 e94 e95 => ?_)
      refine st_istore (L' := [some (.ref 64), some (vI p1), some (vI z75), some (vI w92), some (vI z77), none]) c231_69 rfl rfl ?_
      refine st_iload c231_70 rfl ?_
      refine st_iconst c231_71 ?_
      refine st_icmp_le c231_73 (by omega) (by omega) (fun k96 => ?_) (fun k97 => ?_)
      refine st_iload c231_81 rfl ?_
      refine st_ireturn c231_82 ?_
      exact hQ _ _ ⟨w92, rfl, by omega, rfl⟩
      refine st_iconst c231_76 ?_
      refine st_goto c231_78 ?_
      refine st_ireturn c231_82 ?_
      exact hQ _ _ ⟨1000000, rfl, by omega, rfl⟩
      refine st_aload c231_16 rfl ?_
      refine st_aload c231_17 rfl ?_
      refine st_getX (u := 86) c231_18 hT (tf hT rfl rfl) fd_8_26 rfl ?_
      refine st_aload c231_21 rfl ?_
      refine st_getX (u := 121) c231_22 hT (tf hT rfl rfl) fd_8_71 rfl ?_
      refine st_aload c231_25 rfl ?_
      refine st_getX (u := 122) c231_26 hT (tf hT rfl rfl) fd_8_72 rfl ?_
      refine st_iload c231_29 rfl ?_
      refine st_iald c231_31 hT (tf hT rfl rfl) ay_100 (by omega) (fun e98 e99 => ?_)
      have y1 := pre1 z77 (by omega) (by omega)
      have y2 := pre0 (aI h 122 z77) (by omega) (by omega)
      refine st_iald c231_32 hT (tf hT rfl rfl) ay_99 (by omega) (fun e100 e101 => ?_)
      refine st_iald c231_33 hT (tf hT rfl rfl) ay_64 (by omega) (fun e102 e103 => ?_)
      refine st_callt (as := [vI (aI h 86 (aI h 121 (aI h 122 z77)))]) c231_34 cm_219 hT (tf hT rfl rfl) fd_8_0 rfl rfl rfl rfl (by omega) (K219 hT (aI h 86 (aI h 121 (aI h 122 z77))) (by omega) (d - 1) (by omega) _ (fun v h0 H => H)) (fun v1 h1 H => ?_)
      obtain ⟨z104, rfl, b105, rfl⟩ := H
      refine st_istore (L' := [some (.ref 64), some (vI p1), some (vI z75), some (vI z76), some (vI z77), some (vI z104)]) c231_37 rfl rfl ?_
      refine st_iload c231_39 rfl ?_
      refine st_aload c231_40 rfl ?_
      refine st_iload c231_41 rfl ?_
      refine st_iload c231_42 rfl ?_
      refine st_callt (as := [vI z75, vI z104]) c231_44 cm_184 hT (tf hT rfl rfl) fd_8_0 rfl rfl rfl rfl (by omega) (K184 hT z75 (by omega) z104 (by omega) (d - 1) (by omega) _ (fun v h0 H => H)) (fun v1 h1 H => ?_)
      obtain ⟨z107, rfl, b108, pf106, rfl⟩ := H
      refine st_iadd c231_47 ?_
      refine MR_wrap (fun w109 e110 e111 e112 => ?_)
      refine st_istore (L' := [some (.ref 64), some (vI p1), some (vI z75), some (vI w109), some (vI z77), some (vI z104)]) c231_48 rfl rfl ?_
      refine st_iload c231_49 rfl ?_
      refine st_istore (L' := [some (.ref 64), some (vI p1), some (vI z104), some (vI w109), some (vI z77), some (vI z104)]) c231_51 rfl rfl ?_
      refine st_iinc (L' := [some (.ref 64), some (vI p1), some (vI z104), some (vI w109), some (vI (z77 + 1)), some (vI z104)]) c231_52 rfl rfl rfl ?_
      refine st_goto c231_55 ?_
      refine MR_weak (A := [some (.ref 64), some (vI p1), some (vI z104), some (vI w109), some (vI (z77 + 1)), none]) (Lle_s (Lle_s (Lle_s (Lle_s (Lle_s (Lle_n (Lle_0))))))) ?_
      exact ih80 z104 w109 (z77 + 1) (by omega) (by omega) (by omega) (by omega)
  exact lp78 ((((5 : Int) - 0 : Int) + 1).toNat) (fI h 64 73) 0 0 (by omega) (by omega) (by omega) (by omega)
def W233 : List (Nat × Nat) := [(8, 70), (8, 73), (8, 74), (99, 0), (100, 0), (101, 0)]
set_option maxHeartbeats 0 in
theorem K233 {Ln : Nat} {xs : Nat → Int32} {τ : List Nat} {h : List mE} {E : EP} (hT : TH E τ h) (hS : Stb E W233) (d : Nat) (hd : 2 ≤ d) (Q : Option Value → List mE → Prop) (hQ : ∀ v h', (∃ z : Int, v = some (vI z) ∧ ((-2147483648) ≤ z ∧ z ≤ 999999) ∧ TH E τ h' ∧ Fr τ W233 h h') → Q v h') : MR (mex Ln xs) d 233 0 [some (.ref 64), none, none, none, none, none, none] [] h Q := by
  have hF := Fr_rf τ W233 h
  refine st_iconst c233_0 ?_
  refine st_istore (L' := [some (.ref 64), some (vI 0), none, none, none, none, none]) c233_1 rfl rfl ?_
  refine st_iconst c233_2 ?_
  refine st_istore (L' := [some (.ref 64), some (vI 0), some (vI 0), none, none, none, none]) c233_3 rfl rfl ?_
  refine st_iconst c233_4 ?_
  refine st_istore (L' := [some (.ref 64), some (vI 0), some (vI 0), some (vI 0), none, none, none]) c233_5 rfl rfl ?_
  have lp646 : ∀ (n647 : Nat) (z639 : Int) (z640 : Int) (z641 : Int) (h642 : List mE), (5 : Int) - z641 < (n647 : Int) → 0 ≤ z639 ∧ z639 ≤ 5 → (-2147483648) ≤ z640 ∧ z640 ≤ 2147483647 → 0 ≤ z641 ∧ z641 ≤ 5 → z639 ≤ z641 → (∀ j : Int, 0 ≤ j → j < z639 → 0 ≤ aI h642 86 (aI h642 121 j)) → TH E τ h642 → Fr τ W233 h h642 → Fr τ [(8, 73), (99, 0)] h h642 → MR (mex Ln xs) d 233 6 [some (.ref 64), some (vI z639), some (vI z640), some (vI z641), none, none, none] [] h642 Q := by
    intro n647
    induction n647 with
    | zero =>
      intro z639 z640 z641 h642 hm649 b650 b651 b652 x653 x654 hT643 hF644 hL645
      exfalso; omega
    | succ n647 ih648 =>
      intro z639 z640 z641 h642 hm649 b650 b651 b652 x653 x654 hT643 hF644 hL645
      refine st_iload c233_6 rfl ?_
      refine st_aload c233_7 rfl ?_
      refine st_getI c233_8 hT643 (tf hT643 rfl rfl) fd_8_70 (fun e655 e656 => ?_)
      have q657 : fI h642 64 70 = fI h 64 70 := Fr_fI hL645 (tf hT rfl rfl) (by decide +kernel)
      refine st_icmp_ge c233_11 (by omega) (by omega) (fun k658 => ?_) (fun k659 => ?_)
      refine st_aload c233_130 rfl ?_
      refine st_iconst c233_131 ?_
      refine st_putI c233_132 hT643 (tf hT643 rfl rfl) fd_8_70 (by omega) (by omega) (Ext_rf _) hS hF644 (by decide +kernel) (fun h660 hT661 hF662 hU663 => ?_)
      refine st_iload c233_135 rfl ?_
      refine st_if_ne c233_136 (by omega) (fun k664 => ?_) (fun k665 => ?_)
      refine st_iload c233_142 rfl ?_
      refine st_iconst c233_143 ?_
      refine st_icmp_le c233_146 (by omega) (by omega) (fun k666 => ?_) (fun k667 => ?_)
      refine st_iconst c233_152 ?_
      refine st_istore (L' := [some (.ref 64), some (vI z639), some (vI z640), some (vI 1000000), none, none, none]) c233_154 rfl rfl ?_
      refine st_iconst c233_155 ?_
      refine st_istore (L' := [some (.ref 64), some (vI z639), some (vI z640), some (vI 1000000), some (vI 0), none, none]) c233_156 rfl rfl ?_
      refine st_aload c233_158 rfl ?_
      refine st_getX (u := 122) c233_159 hT661 (tf hT661 rfl rfl) fd_8_72 rfl ?_
      refine st_iconst c233_162 ?_
      refine st_iconst c233_163 ?_
      refine st_iast c233_164 hT661 (tf hT661 rfl rfl) ay_100 (by omega) (by omega) (by omega) (Ext_rf _) hS hF662 (by decide +kernel) (fun h668 hT669 hF670 hU671 => ?_)
      have lp964 : ∀ (n965 : Nat) (z958 : Int) (z959 : Int) (h960 : List mE), RM (aI h960 122) z639 ((z959 : Int) + 1).toNat < (n965 : Int) → (-2147483648) ≤ z958 ∧ z958 ≤ 1000000 → (-1) ≤ z959 ∧ z959 ≤ 4 → (∀ j : Int, 0 ≤ j → j < z639 → 0 ≤ aI h960 86 (aI h960 121 j)) → (∀ k : Int, 0 ≤ k → k < z959 → 0 ≤ aI h960 122 k ∧ aI h960 122 k < z639) → z959 < 0 ∨ (-1 ≤ aI h960 122 z959 ∧ aI h960 122 z959 < z639) → z959+1 ≤ z639 → 1 ≤ z639 → TH E τ h960 → Fr τ W233 h h960 → Fr τ [(8, 74), (100, 0), (101, 0)] h668 h960 → MR (mex Ln xs) d 233 165 [some (.ref 64), some (vI z639), none, some (vI z958), some (vI z959), none, none] [] h960 Q := by
        intro n965
        induction n965 with
        | zero =>
          intro z958 z959 h960 hm967 b968 b969 x970 x971 x972 x973 x974 hT961 hF962 hL963
          have zz := RM_pos (f := aI h960 122) (m := z639) (z959 + 1).toNat (fun i a b => by
            rcases (by omega : i < z959 ∨ (i = z959 ∧ 0 ≤ z959)) with e | e
            · have := x971 i a e; omega
            · rw [e.1]; omega)
          exfalso; omega
        | succ n965 ih966 =>
          intro z958 z959 h960 hm967 b968 b969 x970 x971 x972 x973 x974 hT961 hF962 hL963
          refine st_iload c233_165 rfl ?_
          refine st_if_lt c233_167 (by omega) (fun k975 => ?_) (fun k976 => ?_)
          refine st_iload c233_293 rfl ?_
          refine st_iconst c233_294 ?_
          refine st_icmp_lt c233_296 (by omega) (by omega) (fun k977 => ?_) (fun k978 => ?_)
          refine st_iload c233_304 rfl ?_
          refine st_ireturn c233_305 ?_
          exact hQ _ _ ⟨z958, rfl, by omega, hT961, hF962⟩
          refine st_iconst c233_299 ?_
          refine st_goto c233_301 ?_
          refine st_ireturn c233_305 ?_
          exact hQ _ _ ⟨(-3), rfl, by omega, hT961, hF962⟩
          refine st_aload c233_170 rfl ?_
          refine st_getX (u := 122) c233_171 hT961 (tf hT961 rfl rfl) fd_8_72 rfl ?_
          refine st_iload c233_174 rfl ?_
          refine st_dup2 c233_176 rfl rfl ?_
          refine st_iald c233_177 hT961 (tf hT961 rfl rfl) ay_100 (by omega) (fun e979 e980 => ?_)
          refine st_iconst c233_178 ?_
          refine st_iadd c233_179 ?_
          refine st_iast c233_180 hT961 (tf hT961 rfl rfl) ay_100 (by omega) (by omega) (by omega) (Ext_rf _) hS hF962 (by decide +kernel) (fun h981 hT982 hF983 hU984 => ?_)
          refine st_aload c233_181 rfl ?_
          refine st_getX (u := 122) c233_182 hT982 (tf hT982 rfl rfl) fd_8_72 rfl ?_
          refine st_iload c233_185 rfl ?_
          refine st_iald c233_187 hT982 (tf hT982 rfl rfl) ay_100 (by omega) (fun e985 e986 => ?_)
          have q987 : aI h981 122 z959 = (aI h960 122 z959) + 1 := (AUp_aI hU984 (by omega) (by omega) (by omega) (by omega)).trans (if_pos rfl)
          refine st_iload c233_188 rfl ?_
          refine st_icmp_ne c233_189 (by omega) (by omega) (fun k988 => ?_) (fun k989 => ?_)
          refine st_aload c233_198 rfl ?_
          refine st_iload c233_199 rfl ?_
          refine st_callt (as := [vI z959]) c233_201 cm_232 hT982 (tf hT982 rfl rfl) fd_8_0 rfl rfl rfl rfl (by omega) (K232 hT982 z959 (by omega) (d - 1) (by omega) _ (fun v h0 H => H)) (fun v1 h1 H => ?_)
          rcases H with ⟨rfl, rfl⟩ | ⟨rfl, rfl⟩
          refine st_if_eq c233_204 (by omega) (fun k990 => ?_) (fun k991 => False.elim (by omega))
          refine st_iload c233_210 rfl ?_
          refine st_iload c233_212 rfl ?_
          refine st_iconst c233_213 ?_
          refine st_isub c233_214 ?_
          refine st_icmp_ge c233_215 (by omega) (by omega) (fun k992 => ?_) (fun k993 => ?_)
          refine st_aload c233_232 rfl ?_
          refine st_iload c233_233 rfl ?_
          have fA994 : ∀ i : Int, aI h981 86 i = aI h960 86 i := fun i => AUp_aIne hU984 (by decide) i
          have fA995 : ∀ i : Int, aI h981 121 i = aI h960 121 i := fun i => AUp_aIne hU984 (by decide) i
          have p996 : ∀ j : Int, 0 ≤ j → j < z639 → 0 ≤ aI h981 86 (aI h981 121 j) := fun j a b => by rw [fA994, fA995]; exact x970 j a b
          have rA : ∀ i : Int, 0 ≤ i → i < z959 → aI h981 122 i = aI h960 122 i := fun i a b => (AUp_aI hU984 (by omega) (by omega) (by omega) a).trans (if_neg (by omega))
          have rB : aI h981 122 z959 = aI h960 122 z959 + 1 := (AUp_aI hU984 (by omega) (by omega) (by omega) (by omega)).trans (if_pos rfl)
          have p997 : ∀ k : Int, 0 ≤ k → k < z959 + 1 → 0 ≤ aI h981 122 k ∧ aI h981 122 k < z639 := fun k a b => by
            by_cases e : k = z959
            · rw [e]; omega
            · rw [rA k a (by omega)]; exact x971 k a (by omega)
          refine st_callt (as := [vI z639]) c233_234 cm_231 hT982 (tf hT982 rfl rfl) fd_8_0 rfl rfl rfl rfl (by omega) (K231 hT982 z639 (by omega) p996 (fun k a b => p997 k a (by omega)) (d - 1) (by omega) _ (fun v h0 H => H)) (fun v1 h1 H => ?_)
          obtain ⟨z998, rfl, b999, rfl⟩ := H
          refine st_istore (L' := [some (.ref 64), some (vI z639), none, some (vI z958), some (vI z959), some (vI z998), none]) c233_237 rfl rfl ?_
          refine st_iload c233_239 rfl ?_
          refine st_iload c233_241 rfl ?_
          refine st_icmp_lt c233_242 (by omega) (by omega) (fun k1000 => ?_) (fun k1001 => ?_)
          refine st_iload c233_248 rfl ?_
          refine st_istore (L' := [some (.ref 64), some (vI z639), none, some (vI z998), some (vI z959), some (vI z998), none]) c233_250 rfl rfl ?_
          refine st_aload c233_251 rfl ?_
          refine st_iload c233_252 rfl ?_
          refine st_putI c233_253 hT982 (tf hT982 rfl rfl) fd_8_74 (by omega) (by omega) (Ext_rf _) hS hF983 (by decide +kernel) (fun h1002 hT1003 hF1004 hU1005 => ?_)
          refine st_iconst c233_256 ?_
          refine st_istore (L' := [some (.ref 64), some (vI z639), none, some (vI z998), some (vI z959), some (vI z998), some (vI 0)]) c233_257 rfl rfl ?_
          have lp1096 : ∀ (n1097 : Nat) (z1091 : Int) (h1092 : List mE), (5 : Int) - z1091 < (n1097 : Int) → 0 ≤ z1091 ∧ z1091 ≤ 5 → (∀ k : Int, 0 ≤ k → k < z639 → 0 ≤ aI h1092 122 k ∧ aI h1092 122 k < z639) → TH E τ h1092 → Fr τ W233 h h1092 → Fr τ [(101, 0)] h1002 h1092 → MR (mex Ln xs) d 233 259 [some (.ref 64), some (vI z639), none, some (vI z998), some (vI z959), none, some (vI z1091)] [] h1092 Q := by
            intro n1097
            induction n1097 with
            | zero =>
              intro z1091 h1092 hm1099 b1100 x1101 hT1093 hF1094 hL1095
              exfalso; omega
            | succ n1097 ih1098 =>
              intro z1091 h1092 hm1099 b1100 x1101 hT1093 hF1094 hL1095
              refine st_iload c233_259 rfl ?_
              refine st_iload c233_261 rfl ?_
              refine st_icmp_ge c233_262 (by omega) (by omega) (fun k1102 => ?_) (fun k1103 => ?_)
              refine st_goto c233_290 ?_
              refine MR_weak (A := [some (.ref 64), some (vI z639), none, some (vI z998), some (vI z959), none, none]) (Lle_s (Lle_s (Lle_s (Lle_s (Lle_s (Lle_s (Lle_n (Lle_0)))))))) ?_
              have rA : ∀ i : Int, 0 ≤ i → i < z959 → aI h981 122 i = aI h960 122 i := fun i a b => (AUp_aI hU984 (by omega) (by omega) (by omega) a).trans (if_neg (by omega))
              have rB : aI h981 122 z959 = aI h960 122 z959 + 1 := (AUp_aI hU984 (by omega) (by omega) (by omega) (by omega)).trans (if_pos rfl)
              have fA1104 : ∀ i : Int, aI h1092 86 i = aI h960 86 i := fun i => (Fr_aI hL1095 (tf hT1003 rfl rfl) (by decide +kernel) i).trans ((FUp_aI hU1005 i).trans (AUp_aIne hU984 (by decide) i))
              have fA1105 : ∀ i : Int, aI h1092 121 i = aI h960 121 i := fun i => (Fr_aI hL1095 (tf hT1003 rfl rfl) (by decide +kernel) i).trans ((FUp_aI hU1005 i).trans (AUp_aIne hU984 (by decide) i))
              have p1106 : ∀ j : Int, 0 ≤ j → j < z639 → 0 ≤ aI h1092 86 (aI h1092 121 j) := fun j a b => by rw [fA1104, fA1105]; exact x970 j a b
              have rP := RP_pos z959.toNat
              have rM := RMz_a (m := z639) (by omega) rA rB
              have rF1107 : ∀ i : Int, aI h1092 122 i = aI h981 122 i := fun i => (Fr_aI hL1095 (tf hT1003 rfl rfl) (by decide +kernel) i).trans (FUp_aI hU1005 i)
              rw [← RM_eq (g := aI h1092 122) (z959 + 1).toNat (fun i _ _ => rF1107 i)] at rM
              rw [← rF1107] at rB
              exact ih966 z998 z959 h1092 (by omega) (by omega) (by omega) p1106 (fun k a b => by rw [rF1107 k, rA k a b]; exact x971 k a b) (Or.inr (by omega)) (by omega) (by omega) hT1093 hF1094 (Fr_cp (FUp_Fr (AUp_Fr hL963 hU984 (fun u hu => by rw [ty_1 hu (tf hT1093 rfl rfl)]; decide)) hU1005 (fun u hu => by rw [ty_1 hu (tf hT1093 rfl rfl)]; decide)) hL1095 (by decide +kernel))
              refine st_aload c233_265 rfl ?_
              refine st_getX (u := 123) c233_266 hT1093 (tf hT1093 rfl rfl) fd_8_75 rfl ?_
              refine st_iload c233_269 rfl ?_
              refine st_aload c233_271 rfl ?_
              refine st_getX (u := 121) c233_272 hT1093 (tf hT1093 rfl rfl) fd_8_71 rfl ?_
              refine st_aload c233_275 rfl ?_
              refine st_getX (u := 122) c233_276 hT1093 (tf hT1093 rfl rfl) fd_8_72 rfl ?_
              refine st_iload c233_279 rfl ?_
              refine st_iald c233_281 hT1093 (tf hT1093 rfl rfl) ay_100 (by omega) (fun e1108 e1109 => ?_)
              have q1110 : aI h1092 122 z1091 = aI h981 122 z1091 := (Fr_aI hL1095 (tf hT1003 rfl rfl) (by decide +kernel) z1091).trans (FUp_aI hU1005 z1091)
              have y1 := x1101 z1091 (by omega) (by omega)
              refine st_iald c233_282 hT1093 (tf hT1093 rfl rfl) ay_99 (by omega) (fun e1111 e1112 => ?_)
              have q1113 : aI h1092 121 (aI h1092 122 z1091) = aI h642 121 (aI h1092 122 z1091) := (Fr_aI hL1095 (tf hT1003 rfl rfl) (by decide +kernel) (aI h1092 122 z1091)).trans ((FUp_aI hU1005 (aI h1092 122 z1091)).trans ((AUp_aIne hU984 (by decide) (aI h1092 122 z1091)).trans ((Fr_aI hL963 (tf hT669 rfl rfl) (by decide +kernel) (aI h1092 122 z1091)).trans ((AUp_aIne hU671 (by decide) (aI h1092 122 z1091)).trans (FUp_aI hU663 (aI h1092 122 z1091))))))
              refine st_iast c233_283 hT1093 (tf hT1093 rfl rfl) ay_101 (by omega) (by omega) (by omega) (Ext_rf _) hS hF1094 (by decide +kernel) (fun h1114 hT1115 hF1116 hU1117 => ?_)
              refine st_iinc (L' := [some (.ref 64), some (vI z639), none, some (vI z998), some (vI z959), none, some (vI (z1091 + 1))]) c233_284 rfl rfl rfl ?_
              refine st_goto c233_287 ?_
              have fA1118 : ∀ i : Int, aI h1114 122 i = aI h1092 122 i := fun i => AUp_aIne hU1117 (by decide) i
              exact ih1098 (z1091 + 1) h1114 (by omega) (by omega) (fun k a b => by rw [fA1118]; exact x1101 k a b) hT1115 hF1116 (AUp_Fr hL1095 hU1117 (fun u hu => by rw [ty_1 hu (tf hT1115 rfl rfl)]; decide))
          refine MR_weak (A := [some (.ref 64), some (vI z639), none, some (vI z998), some (vI z959), none, some (vI 0)]) (Lle_s (Lle_s (Lle_s (Lle_s (Lle_s (Lle_n (Lle_s (Lle_0)))))))) ?_
          have rA : ∀ i : Int, 0 ≤ i → i < z959 → aI h981 122 i = aI h960 122 i := fun i a b => (AUp_aI hU984 (by omega) (by omega) (by omega) a).trans (if_neg (by omega))
          have rB : aI h981 122 z959 = aI h960 122 z959 + 1 := (AUp_aI hU984 (by omega) (by omega) (by omega) (by omega)).trans (if_pos rfl)
          have rF1119 : ∀ i : Int, aI h1002 122 i = aI h981 122 i := fun i => FUp_aI hU1005 i
          have p1120 : ∀ k : Int, 0 ≤ k → k < z959 + 1 → 0 ≤ aI h1002 122 k ∧ aI h1002 122 k < z639 := fun k a b => by
            rw [rF1119 k]
            by_cases e : k = z959
            · rw [e]; omega
            · rw [rA k a (by omega)]; exact x971 k a (by omega)
          exact lp1096 ((((5 : Int) - 0 : Int) + 1).toNat) 0 h1002 (by omega) (by omega) (fun k a b => p1120 k a (by omega)) hT1003 hF1004 (Fr_rf _ _ _)
          refine st_goto c233_245 ?_
          refine MR_weak (A := [some (.ref 64), some (vI z639), none, some (vI z958), some (vI z959), none, none]) (Lle_s (Lle_s (Lle_s (Lle_s (Lle_s (Lle_n (Lle_s (Lle_0)))))))) ?_
          have rA : ∀ i : Int, 0 ≤ i → i < z959 → aI h981 122 i = aI h960 122 i := fun i a b => (AUp_aI hU984 (by omega) (by omega) (by omega) a).trans (if_neg (by omega))
          have rB : aI h981 122 z959 = aI h960 122 z959 + 1 := (AUp_aI hU984 (by omega) (by omega) (by omega) (by omega)).trans (if_pos rfl)
          have fA1121 : ∀ i : Int, aI h981 86 i = aI h960 86 i := fun i => AUp_aIne hU984 (by decide) i
          have fA1122 : ∀ i : Int, aI h981 121 i = aI h960 121 i := fun i => AUp_aIne hU984 (by decide) i
          have p1123 : ∀ j : Int, 0 ≤ j → j < z639 → 0 ≤ aI h981 86 (aI h981 121 j) := fun j a b => by rw [fA1121, fA1122]; exact x970 j a b
          have rP := RP_pos z959.toNat
          have rM := RMz_a (m := z639) (by omega) rA rB
          exact ih966 z958 z959 h981 (by omega) (by omega) (by omega) p1123 (fun k a b => by rw [rA k a b]; exact x971 k a b) (Or.inr (by omega)) (by omega) (by omega) hT982 hF983 (AUp_Fr hL963 hU984 (fun u hu => by rw [ty_1 hu (tf hT982 rfl rfl)]; decide))
          refine st_iinc (L' := [some (.ref 64), some (vI z639), none, some (vI z958), some (vI (z959 + 1)), none, none]) c233_218 rfl rfl rfl ?_
          refine st_aload c233_221 rfl ?_
          refine st_getX (u := 122) c233_222 hT982 (tf hT982 rfl rfl) fd_8_72 rfl ?_
          refine st_iload c233_225 rfl ?_
          refine st_iconst c233_227 ?_
          refine st_iast c233_228 hT982 (tf hT982 rfl rfl) ay_100 (by omega) (by omega) (by omega) (Ext_rf _) hS hF983 (by decide +kernel) (fun h1124 hT1125 hF1126 hU1127 => ?_)
          refine st_goto c233_229 ?_
          have rA : ∀ i : Int, 0 ≤ i → i < z959 → aI h981 122 i = aI h960 122 i := fun i a b => (AUp_aI hU984 (by omega) (by omega) (by omega) a).trans (if_neg (by omega))
          have rB : aI h981 122 z959 = aI h960 122 z959 + 1 := (AUp_aI hU984 (by omega) (by omega) (by omega) (by omega)).trans (if_pos rfl)
          have fA1128 : ∀ i : Int, aI h1124 86 i = aI h960 86 i := fun i => (AUp_aIne hU1127 (by decide) i).trans (AUp_aIne hU984 (by decide) i)
          have fA1129 : ∀ i : Int, aI h1124 121 i = aI h960 121 i := fun i => (AUp_aIne hU1127 (by decide) i).trans (AUp_aIne hU984 (by decide) i)
          have p1130 : ∀ j : Int, 0 ≤ j → j < z639 → 0 ≤ aI h1124 86 (aI h1124 121 j) := fun j a b => by rw [fA1128, fA1129]; exact x970 j a b
          have rP := RP_pos z959.toNat
          have rK : ∀ i : Int, 0 ≤ i → i < z959 + 1 → aI h1124 122 i = aI h981 122 i := fun i a b => (AUp_aI hU1127 (by omega) (by omega) (by omega) a).trans (if_neg (by omega))
          have rK1 : aI h1124 122 (z959 + 1) = -1 := (AUp_aI hU1127 (by omega) (by omega) (by omega) (by omega)).trans (if_pos rfl)
          have rM := RMz_c (m := z639) (by omega) (by omega) (by omega) rA rB rK rK1
          have p1131 : ∀ k : Int, 0 ≤ k → k < z959 + 1 → 0 ≤ aI h981 122 k ∧ aI h981 122 k < z639 := fun k a b => by
            by_cases e : k = z959
            · rw [e]; omega
            · rw [rA k a (by omega)]; exact x971 k a (by omega)
          have p1132 : ∀ k : Int, 0 ≤ k → k < z959 + 1 → 0 ≤ aI h1124 122 k ∧ aI h1124 122 k < z639 := fun k a b => by rw [rK k a b]; exact p1131 k a b
          exact ih966 z958 (z959 + 1) h1124 (by omega) (by omega) (by omega) p1130 p1132 (Or.inr (by omega)) (by omega) (by omega) hT1125 hF1126 (AUp_Fr (AUp_Fr hL963 hU984 (fun u hu => by rw [ty_1 hu (tf hT1125 rfl rfl)]; decide)) hU1127 (fun u hu => by rw [ty_1 hu (tf hT1125 rfl rfl)]; decide))
          refine st_if_eq c233_204 (by omega) (fun k1133 => False.elim (by omega)) (fun k1134 => ?_)
          refine st_goto c233_207 ?_
          have rA : ∀ i : Int, 0 ≤ i → i < z959 → aI h981 122 i = aI h960 122 i := fun i a b => (AUp_aI hU984 (by omega) (by omega) (by omega) a).trans (if_neg (by omega))
          have rB : aI h981 122 z959 = aI h960 122 z959 + 1 := (AUp_aI hU984 (by omega) (by omega) (by omega) (by omega)).trans (if_pos rfl)
          have fA1135 : ∀ i : Int, aI h981 86 i = aI h960 86 i := fun i => AUp_aIne hU984 (by decide) i
          have fA1136 : ∀ i : Int, aI h981 121 i = aI h960 121 i := fun i => AUp_aIne hU984 (by decide) i
          have p1137 : ∀ j : Int, 0 ≤ j → j < z639 → 0 ≤ aI h981 86 (aI h981 121 j) := fun j a b => by rw [fA1135, fA1136]; exact x970 j a b
          have rP := RP_pos z959.toNat
          have rM := RMz_a (m := z639) (by omega) rA rB
          exact ih966 z958 z959 h981 (by omega) (by omega) (by omega) p1137 (fun k a b => by rw [rA k a b]; exact x971 k a b) (Or.inr (by omega)) (by omega) (by omega) hT982 hF983 (AUp_Fr hL963 hU984 (fun u hu => by rw [ty_1 hu (tf hT982 rfl rfl)]; decide))
          refine st_iinc (L' := [some (.ref 64), some (vI z639), none, some (vI z958), some (vI (z959 + (-1))), none, none]) c233_192 rfl rfl rfl ?_
          refine st_goto c233_195 ?_
          have rA : ∀ i : Int, 0 ≤ i → i < z959 → aI h981 122 i = aI h960 122 i := fun i a b => (AUp_aI hU984 (by omega) (by omega) (by omega) a).trans (if_neg (by omega))
          have rB : aI h981 122 z959 = aI h960 122 z959 + 1 := (AUp_aI hU984 (by omega) (by omega) (by omega) (by omega)).trans (if_pos rfl)
          have fA1138 : ∀ i : Int, aI h981 86 i = aI h960 86 i := fun i => AUp_aIne hU984 (by decide) i
          have fA1139 : ∀ i : Int, aI h981 121 i = aI h960 121 i := fun i => AUp_aIne hU984 (by decide) i
          have p1140 : ∀ j : Int, 0 ≤ j → j < z639 → 0 ≤ aI h981 86 (aI h981 121 j) := fun j a b => by rw [fA1138, fA1139]; exact x970 j a b
          have rP := RP_pos z959.toNat
          have rM := RMz_b (m := z639) (by omega) rA rB (by omega)
          have p1141 : ∀ k : Int, 0 ≤ k → k < (z959 + (-1)) → 0 ≤ aI h981 122 k ∧ aI h981 122 k < z639 := fun k a b => by rw [rA k a (by omega)]; exact x971 k a (by omega)
          have p1142 : (z959 + (-1)) < 0 ∨ (-1 ≤ aI h981 122 (z959 + (-1)) ∧ aI h981 122 (z959 + (-1)) < z639) := by
            rcases (by omega : z959 = 0 ∨ 0 ≤ (z959 + (-1))) with e | e
            · exact Or.inl (by omega)
            · have e2 := x971 (z959 + (-1)) e (by omega); rw [← rA (z959 + (-1)) e (by omega)] at e2; exact Or.inr (by omega)
          exact ih966 z958 (z959 + (-1)) h981 (by omega) (by omega) (by omega) p1140 p1141 p1142 (by omega) (by omega) hT982 hF983 (AUp_Fr hL963 hU984 (fun u hu => by rw [ty_1 hu (tf hT982 rfl rfl)]; decide))
      refine MR_weak (A := [some (.ref 64), some (vI z639), none, some (vI 1000000), some (vI 0), none, none]) (Lle_s (Lle_s (Lle_n (Lle_s (Lle_s (Lle_s (Lle_s (Lle_0)))))))) ?_
      have fA1143 : ∀ i : Int, aI h668 86 i = aI h642 86 i := fun i => (AUp_aIne hU671 (by decide) i).trans (FUp_aI hU663 i)
      have fA1144 : ∀ i : Int, aI h668 121 i = aI h642 121 i := fun i => (AUp_aIne hU671 (by decide) i).trans (FUp_aI hU663 i)
      have p1145 : ∀ j : Int, 0 ≤ j → j < z639 → 0 ≤ aI h668 86 (aI h668 121 j) := fun j a b => by rw [fA1143, fA1144]; exact x654 j a b
      have r0 : aI h668 122 0 = -1 := (AUp_aI hU671 (by omega) (by omega) (by omega) (by omega)).trans (if_pos rfl)
      exact lp964 (((RM (aI h668 122) z639 ((0 : Int) + 1).toNat : Int) + 1).toNat) 1000000 0 h668 (by omega) (by omega) (by omega) p1145 (fun k a b => absurd b (by omega)) (Or.inr (by omega)) (by omega) (by omega) hT669 hF670 (Fr_rf _ _ _)
      refine st_iconst c233_149 ?_
      refine st_ireturn c233_151 ?_
      exact hQ _ _ ⟨(-4), rfl, by omega, hT661, hF662⟩
      refine st_iconst c233_139 ?_
      refine st_ireturn c233_141 ?_
      exact hQ _ _ ⟨(-2), rfl, by omega, hT661, hF662⟩
      refine st_aload c233_14 rfl ?_
      refine st_aload c233_15 rfl ?_
      refine st_getX (u := 121) c233_16 hT643 (tf hT643 rfl rfl) fd_8_71 rfl ?_
      refine st_iload c233_19 rfl ?_
      refine st_iald c233_20 hT643 (tf hT643 rfl rfl) ay_99 (by omega) (fun e1146 e1147 => ?_)
      refine st_callt (as := [vI (aI h642 121 z641)]) c233_21 cm_229 hT643 (tf hT643 rfl rfl) fd_8_0 rfl rfl rfl rfl (by omega) (K229 hT643 (aI h642 121 z641) (by omega) (d - 1) (by omega) _ (fun v h0 H => H)) (fun v1 h1 H => ?_)
      rcases H with ⟨rfl, rfl⟩ | ⟨rfl, pf1148, rfl⟩
      refine st_if_ne c233_24 (by omega) (fun k1149 => False.elim (by omega)) (fun k1150 => ?_)
      refine st_goto c233_27 ?_
      refine st_iinc (L' := [some (.ref 64), some (vI z639), some (vI z640), some (vI (z641 + 1)), none, none, none]) c233_124 rfl rfl rfl ?_
      refine st_goto c233_127 ?_
      exact ih648 z639 z640 (z641 + 1) h642 (by omega) (by omega) (by omega) (by omega) (by omega) x654 hT643 hF644 hL645
      refine st_if_ne c233_24 (by omega) (fun k1151 => ?_) (fun k1152 => False.elim (by omega))
      refine st_aload c233_30 rfl ?_
      refine st_getX (u := 121) c233_31 hT643 (tf hT643 rfl rfl) fd_8_71 rfl ?_
      refine st_iload c233_34 rfl ?_
      refine st_iald c233_35 hT643 (tf hT643 rfl rfl) ay_99 (by omega) (fun e1153 e1154 => ?_)
      refine st_istore (L' := [some (.ref 64), some (vI z639), some (vI z640), some (vI z641), some (vI (aI h642 121 z641)), none, none]) c233_36 rfl rfl ?_
      refine st_iload c233_38 rfl ?_
      refine st_if_ne c233_39 (by omega) (fun k1155 => ?_) (fun k1156 => ?_)
      refine st_iload c233_53 rfl ?_
      refine st_istore (L' := [some (.ref 64), some (vI z639), some (vI z640), some (vI z641), some (vI (aI h642 121 z641)), some (vI z639), none]) c233_54 rfl rfl ?_
      have lp1196 : ∀ (n1197 : Nat) (z1191 : Int) (h1192 : List mE), (z1191 : Int) - 0 < (n1197 : Int) → 0 ≤ z1191 ∧ z1191 ≤ 4 → (∀ j : Int, 0 ≤ j → j ≤ z639 → j ≠ z1191 → 0 ≤ aI h1192 86 (aI h1192 121 j)) → 0 ≤ aI h1192 86 (aI h642 121 z641) → z1191 ≤ z639 → TH E τ h1192 → Fr τ W233 h h1192 → Fr τ [(99, 0)] h642 h1192 → MR (mex Ln xs) d 233 56 [some (.ref 64), some (vI z639), some (vI z640), some (vI z641), some (vI (aI h642 121 z641)), some (vI z1191), none] [] h1192 Q := by
        intro n1197
        induction n1197 with
        | zero =>
          intro z1191 h1192 hm1199 b1200 x1201 x1202 x1203 hT1193 hF1194 hL1195
          exfalso; omega
        | succ n1197 ih1198 =>
          intro z1191 h1192 hm1199 b1200 x1201 x1202 x1203 hT1193 hF1194 hL1195
          refine st_iload c233_56 rfl ?_
          refine st_if_le c233_58 (by omega) (fun k1204 => ?_) (fun k1205 => ?_)
          refine st_aload c233_97 rfl ?_
          refine st_getX (u := 121) c233_98 hT1193 (tf hT1193 rfl rfl) fd_8_71 rfl ?_
          refine st_iload c233_101 rfl ?_
          refine st_iload c233_103 rfl ?_
          refine st_iast c233_105 hT1193 (tf hT1193 rfl rfl) ay_99 (by omega) (by omega) (by omega) (Ext_rf _) hS hF1194 (by decide +kernel) (fun h1206 hT1207 hF1208 hU1209 => ?_)
          refine st_iload c233_106 rfl ?_
          refine st_aload c233_107 rfl ?_
          refine st_getX (u := 69) c233_108 hT1207 (tf hT1207 rfl rfl) fd_8_8 rfl ?_
          refine st_aload c233_111 rfl ?_
          refine st_getX (u := 76) c233_112 hT1207 (tf hT1207 rfl rfl) fd_8_16 rfl ?_
          refine st_iload c233_115 rfl ?_
          refine st_iald c233_117 hT1207 (tf hT1207 rfl rfl) ay_54 (by omega) (fun e1210 e1211 => ?_)
          have q1212 : aI h1206 76 (aI h642 121 z641) = aI h 76 (aI h642 121 z641) := (AUp_aIne hU1209 (by decide) (aI h642 121 z641)).trans ((Fr_aI hL1195 (tf hT643 rfl rfl) (by decide +kernel) (aI h642 121 z641)).trans (Fr_aI hL645 (tf hT rfl rfl) (by decide +kernel) (aI h642 121 z641)))
          refine st_iald c233_118 hT1207 (tf hT1207 rfl rfl) ay_47 (by omega) (fun e1213 e1214 => ?_)
          have q1215 : aI h1206 69 (aI h1206 76 (aI h642 121 z641)) = aI h 69 (aI h1206 76 (aI h642 121 z641)) := (AUp_aIne hU1209 (by decide) (aI h1206 76 (aI h642 121 z641))).trans ((Fr_aI hL1195 (tf hT643 rfl rfl) (by decide +kernel) (aI h1206 76 (aI h642 121 z641))).trans (Fr_aI hL645 (tf hT rfl rfl) (by decide +kernel) (aI h1206 76 (aI h642 121 z641))))
          refine st_iadd c233_119 ?_
          refine MR_wrap (fun w1216 e1217 e1218 e1219 => ?_)
          refine st_istore (L' := [some (.ref 64), some (vI z639), some (vI w1216), some (vI z641), some (vI (aI h642 121 z641)), some (vI z1191), none]) c233_120 rfl rfl ?_
          refine st_iinc (L' := [some (.ref 64), some (vI (z639 + 1)), some (vI w1216), some (vI z641), some (vI (aI h642 121 z641)), some (vI z1191), none]) c233_121 rfl rfl rfl ?_
          refine st_iinc (L' := [some (.ref 64), some (vI (z639 + 1)), some (vI w1216), some (vI (z641 + 1)), some (vI (aI h642 121 z641)), some (vI z1191), none]) c233_124 rfl rfl rfl ?_
          refine st_goto c233_127 ?_
          refine MR_weak (A := [some (.ref 64), some (vI (z639 + 1)), some (vI w1216), some (vI (z641 + 1)), none, none, none]) (Lle_s (Lle_s (Lle_s (Lle_s (Lle_n (Lle_n (Lle_s (Lle_0)))))))) ?_
          have p1220 : ∀ j : Int, 0 ≤ j → j < z639 + 1 → 0 ≤ aI h1206 86 (aI h1206 121 j) := fun j a b => by
            rw [AUp_aIne (q' := 86) hU1209 (by decide) _, AUp_aI hU1209 (by omega) (by omega) (by omega) a]
            by_cases e : j = z1191
            · rw [if_pos e]; exact x1202
            · rw [if_neg e]; exact x1201 j a (by omega) e
          exact ih648 (z639 + 1) w1216 (z641 + 1) h1206 (by omega) (by omega) (by omega) (by omega) (by omega) p1220 hT1207 hF1208 (AUp_Fr (Fr_cp hL645 hL1195 (by decide +kernel)) hU1209 (fun u hu => by rw [ty_1 hu (tf hT1207 rfl rfl)]; decide))
          refine st_aload c233_61 rfl ?_
          refine st_getX (u := 121) c233_62 hT1193 (tf hT1193 rfl rfl) fd_8_71 rfl ?_
          refine st_iload c233_65 rfl ?_
          refine st_iconst c233_67 ?_
          refine st_isub c233_68 ?_
          refine st_iald c233_69 hT1193 (tf hT1193 rfl rfl) ay_99 (by omega) (fun e1221 e1222 => ?_)
          refine st_iload c233_70 rfl ?_
          refine st_icmp_le c233_72 (by omega) (by omega) (fun k1223 => ?_) (fun k1224 => ?_)
          refine st_aload c233_97 rfl ?_
          refine st_getX (u := 121) c233_98 hT1193 (tf hT1193 rfl rfl) fd_8_71 rfl ?_
          refine st_iload c233_101 rfl ?_
          refine st_iload c233_103 rfl ?_
          refine st_iast c233_105 hT1193 (tf hT1193 rfl rfl) ay_99 (by omega) (by omega) (by omega) (Ext_rf _) hS hF1194 (by decide +kernel) (fun h1225 hT1226 hF1227 hU1228 => ?_)
          refine st_iload c233_106 rfl ?_
          refine st_aload c233_107 rfl ?_
          refine st_getX (u := 69) c233_108 hT1226 (tf hT1226 rfl rfl) fd_8_8 rfl ?_
          refine st_aload c233_111 rfl ?_
          refine st_getX (u := 76) c233_112 hT1226 (tf hT1226 rfl rfl) fd_8_16 rfl ?_
          refine st_iload c233_115 rfl ?_
          refine st_iald c233_117 hT1226 (tf hT1226 rfl rfl) ay_54 (by omega) (fun e1229 e1230 => ?_)
          have q1231 : aI h1225 76 (aI h642 121 z641) = aI h 76 (aI h642 121 z641) := (AUp_aIne hU1228 (by decide) (aI h642 121 z641)).trans ((Fr_aI hL1195 (tf hT643 rfl rfl) (by decide +kernel) (aI h642 121 z641)).trans (Fr_aI hL645 (tf hT rfl rfl) (by decide +kernel) (aI h642 121 z641)))
          refine st_iald c233_118 hT1226 (tf hT1226 rfl rfl) ay_47 (by omega) (fun e1232 e1233 => ?_)
          have q1234 : aI h1225 69 (aI h1225 76 (aI h642 121 z641)) = aI h 69 (aI h1225 76 (aI h642 121 z641)) := (AUp_aIne hU1228 (by decide) (aI h1225 76 (aI h642 121 z641))).trans ((Fr_aI hL1195 (tf hT643 rfl rfl) (by decide +kernel) (aI h1225 76 (aI h642 121 z641))).trans (Fr_aI hL645 (tf hT rfl rfl) (by decide +kernel) (aI h1225 76 (aI h642 121 z641))))
          refine st_iadd c233_119 ?_
          refine MR_wrap (fun w1235 e1236 e1237 e1238 => ?_)
          refine st_istore (L' := [some (.ref 64), some (vI z639), some (vI w1235), some (vI z641), some (vI (aI h642 121 z641)), some (vI z1191), none]) c233_120 rfl rfl ?_
          refine st_iinc (L' := [some (.ref 64), some (vI (z639 + 1)), some (vI w1235), some (vI z641), some (vI (aI h642 121 z641)), some (vI z1191), none]) c233_121 rfl rfl rfl ?_
          refine st_iinc (L' := [some (.ref 64), some (vI (z639 + 1)), some (vI w1235), some (vI (z641 + 1)), some (vI (aI h642 121 z641)), some (vI z1191), none]) c233_124 rfl rfl rfl ?_
          refine st_goto c233_127 ?_
          refine MR_weak (A := [some (.ref 64), some (vI (z639 + 1)), some (vI w1235), some (vI (z641 + 1)), none, none, none]) (Lle_s (Lle_s (Lle_s (Lle_s (Lle_n (Lle_n (Lle_s (Lle_0)))))))) ?_
          have p1239 : ∀ j : Int, 0 ≤ j → j < z639 + 1 → 0 ≤ aI h1225 86 (aI h1225 121 j) := fun j a b => by
            rw [AUp_aIne (q' := 86) hU1228 (by decide) _, AUp_aI hU1228 (by omega) (by omega) (by omega) a]
            by_cases e : j = z1191
            · rw [if_pos e]; exact x1202
            · rw [if_neg e]; exact x1201 j a (by omega) e
          exact ih648 (z639 + 1) w1235 (z641 + 1) h1225 (by omega) (by omega) (by omega) (by omega) (by omega) p1239 hT1226 hF1227 (AUp_Fr (Fr_cp hL645 hL1195 (by decide +kernel)) hU1228 (fun u hu => by rw [ty_1 hu (tf hT1226 rfl rfl)]; decide))
          refine st_aload c233_75 rfl ?_
          refine st_getX (u := 121) c233_76 hT1193 (tf hT1193 rfl rfl) fd_8_71 rfl ?_
          refine st_iload c233_79 rfl ?_
          refine st_aload c233_81 rfl ?_
          refine st_getX (u := 121) c233_82 hT1193 (tf hT1193 rfl rfl) fd_8_71 rfl ?_
          refine st_iload c233_85 rfl ?_
          refine st_iconst c233_87 ?_
          refine st_isub c233_88 ?_
          refine st_iald c233_89 hT1193 (tf hT1193 rfl rfl) ay_99 (by omega) (fun e1240 e1241 => ?_)
          refine st_iast c233_90 hT1193 (tf hT1193 rfl rfl) ay_99 (by omega) (by omega) (by omega) (Ext_rf _) hS hF1194 (by decide +kernel) (fun h1242 hT1243 hF1244 hU1245 => ?_)
          refine st_iinc (L' := [some (.ref 64), some (vI z639), some (vI z640), some (vI z641), some (vI (aI h642 121 z641)), some (vI (z1191 + (-1))), none]) c233_91 rfl rfl rfl ?_
          refine st_goto c233_94 ?_
          have p1246 : ∀ j : Int, 0 ≤ j → j ≤ z639 → j ≠ (z1191 + (-1)) → 0 ≤ aI h1242 86 (aI h1242 121 j) := fun j a b c => by
            rw [AUp_aIne (q' := 86) hU1245 (by decide) _, AUp_aI hU1245 (by omega) (by omega) (by omega) a]
            by_cases e : j = z1191
            · rw [if_pos e]; exact x1201 _ (by omega) (by omega) (by omega)
            · rw [if_neg e]; exact x1201 j a b e
          have p1247 : 0 ≤ aI h1242 86 (aI h642 121 z641) := by rw [AUp_aIne (q' := 86) hU1245 (by decide) _]; exact x1202
          exact ih1198 (z1191 + (-1)) h1242 (by omega) (by omega) p1246 p1247 (by omega) hT1243 hF1244 (AUp_Fr hL1195 hU1245 (fun u hu => by rw [ty_1 hu (tf hT1243 rfl rfl)]; decide))
      have fA1248 : ∀ i : Int, aI h642 86 i = aI h642 86 i := fun i => rfl
      have fA1249 : ∀ i : Int, aI h642 121 i = aI h642 121 i := fun i => rfl
      have p1250 : ∀ j : Int, 0 ≤ j → j ≤ z639 → j ≠ z639 → 0 ≤ aI h642 86 (aI h642 121 j) := fun j a b c => by rw [fA1248, fA1249]; exact x654 j a (by omega)
      have p1251 : 0 ≤ aI h642 86 (aI h642 121 z641) := by rw [fA1248]; omega
      exact lp1196 ((((z639 : Int) - 0 : Int) + 1).toNat) z639 h642 (by omega) (by omega) p1250 p1251 (by omega) hT643 hF644 (Fr_rf _ _ _)
      refine st_aload c233_42 rfl ?_
      refine st_aload c233_43 rfl ?_
      refine st_getX (u := 79) c233_44 hT643 (tf hT643 rfl rfl) fd_8_19 rfl ?_
      refine st_iload c233_47 rfl ?_
      refine st_iald c233_49 hT643 (tf hT643 rfl rfl) ay_57 (by omega) (fun e1252 e1253 => ?_)
      have q1254 : aI h642 79 (aI h642 121 z641) = aI h 79 (aI h642 121 z641) := Fr_aI hL645 (tf hT rfl rfl) (by decide +kernel) (aI h642 121 z641)
      refine st_putI c233_50 hT643 (tf hT643 rfl rfl) fd_8_73 (by omega) (by omega) (Ext_rf _) hS hF644 (by decide +kernel) (fun h1255 hT1256 hF1257 hU1258 => ?_)
      refine st_iload c233_53 rfl ?_
      refine st_istore (L' := [some (.ref 64), some (vI z639), some (vI z640), some (vI z641), some (vI (aI h642 121 z641)), some (vI z639), none]) c233_54 rfl rfl ?_
      have lp1271 : ∀ (n1272 : Nat) (z1266 : Int) (h1267 : List mE), (0 : Int) < (n1272 : Int) → 0 ≤ z1266 ∧ z1266 ≤ 0 → (∀ j : Int, 0 ≤ j → j ≤ z639 → j ≠ z1266 → 0 ≤ aI h1267 86 (aI h1267 121 j)) → 0 ≤ aI h1267 86 (aI h642 121 z641) → z1266 ≤ z639 → TH E τ h1267 → Fr τ W233 h h1267 → Fr τ [(99, 0)] h1255 h1267 → MR (mex Ln xs) d 233 56 [some (.ref 64), some (vI z639), some (vI z640), some (vI z641), some (vI (aI h642 121 z641)), some (vI z1266), none] [] h1267 Q := by
        intro n1272
        induction n1272 with
        | zero =>
          intro z1266 h1267 hm1274 b1275 x1276 x1277 x1278 hT1268 hF1269 hL1270
          exfalso; omega
        | succ n1272 ih1273 =>
          intro z1266 h1267 hm1274 b1275 x1276 x1277 x1278 hT1268 hF1269 hL1270
          refine st_iload c233_56 rfl ?_
          refine st_if_le c233_58 (by omega) (fun k1279 => ?_) (fun k1280 => False.elim (by omega))
          refine st_aload c233_97 rfl ?_
          refine st_getX (u := 121) c233_98 hT1268 (tf hT1268 rfl rfl) fd_8_71 rfl ?_
          refine st_iload c233_101 rfl ?_
          refine st_iload c233_103 rfl ?_
          refine st_iast c233_105 hT1268 (tf hT1268 rfl rfl) ay_99 (by omega) (by omega) (by omega) (Ext_rf _) hS hF1269 (by decide +kernel) (fun h1281 hT1282 hF1283 hU1284 => ?_)
          refine st_iload c233_106 rfl ?_
          refine st_aload c233_107 rfl ?_
          refine st_getX (u := 69) c233_108 hT1282 (tf hT1282 rfl rfl) fd_8_8 rfl ?_
          refine st_aload c233_111 rfl ?_
          refine st_getX (u := 76) c233_112 hT1282 (tf hT1282 rfl rfl) fd_8_16 rfl ?_
          refine st_iload c233_115 rfl ?_
          refine st_iald c233_117 hT1282 (tf hT1282 rfl rfl) ay_54 (by omega) (fun e1285 e1286 => ?_)
          have q1287 : aI h1281 76 (aI h642 121 z641) = aI h 76 (aI h642 121 z641) := (AUp_aIne hU1284 (by decide) (aI h642 121 z641)).trans ((Fr_aI hL1270 (tf hT1256 rfl rfl) (by decide +kernel) (aI h642 121 z641)).trans ((FUp_aI hU1258 (aI h642 121 z641)).trans (Fr_aI hL645 (tf hT rfl rfl) (by decide +kernel) (aI h642 121 z641))))
          refine st_iald c233_118 hT1282 (tf hT1282 rfl rfl) ay_47 (by omega) (fun e1288 e1289 => ?_)
          have q1290 : aI h1281 69 (aI h1281 76 (aI h642 121 z641)) = aI h 69 (aI h1281 76 (aI h642 121 z641)) := (AUp_aIne hU1284 (by decide) (aI h1281 76 (aI h642 121 z641))).trans ((Fr_aI hL1270 (tf hT1256 rfl rfl) (by decide +kernel) (aI h1281 76 (aI h642 121 z641))).trans ((FUp_aI hU1258 (aI h1281 76 (aI h642 121 z641))).trans (Fr_aI hL645 (tf hT rfl rfl) (by decide +kernel) (aI h1281 76 (aI h642 121 z641)))))
          refine st_iadd c233_119 ?_
          refine MR_wrap (fun w1291 e1292 e1293 e1294 => ?_)
          refine st_istore (L' := [some (.ref 64), some (vI z639), some (vI w1291), some (vI z641), some (vI (aI h642 121 z641)), some (vI z1266), none]) c233_120 rfl rfl ?_
          refine st_iinc (L' := [some (.ref 64), some (vI (z639 + 1)), some (vI w1291), some (vI z641), some (vI (aI h642 121 z641)), some (vI z1266), none]) c233_121 rfl rfl rfl ?_
          refine st_iinc (L' := [some (.ref 64), some (vI (z639 + 1)), some (vI w1291), some (vI (z641 + 1)), some (vI (aI h642 121 z641)), some (vI z1266), none]) c233_124 rfl rfl rfl ?_
          refine st_goto c233_127 ?_
          refine MR_weak (A := [some (.ref 64), some (vI (z639 + 1)), some (vI w1291), some (vI (z641 + 1)), none, none, none]) (Lle_s (Lle_s (Lle_s (Lle_s (Lle_n (Lle_n (Lle_s (Lle_0)))))))) ?_
          have p1295 : ∀ j : Int, 0 ≤ j → j < z639 + 1 → 0 ≤ aI h1281 86 (aI h1281 121 j) := fun j a b => by
            rw [AUp_aIne (q' := 86) hU1284 (by decide) _, AUp_aI hU1284 (by omega) (by omega) (by omega) a]
            by_cases e : j = z1266
            · rw [if_pos e]; exact x1277
            · rw [if_neg e]; exact x1276 j a (by omega) e
          exact ih648 (z639 + 1) w1291 (z641 + 1) h1281 (by omega) (by omega) (by omega) (by omega) (by omega) p1295 hT1282 hF1283 (AUp_Fr (Fr_cp (FUp_Fr hL645 hU1258 (fun u hu => by rw [ty_1 hu (tf hT1282 rfl rfl)]; decide)) hL1270 (by decide +kernel)) hU1284 (fun u hu => by rw [ty_1 hu (tf hT1282 rfl rfl)]; decide))
      have fA1296 : ∀ i : Int, aI h1255 86 i = aI h642 86 i := fun i => FUp_aI hU1258 i
      have fA1297 : ∀ i : Int, aI h1255 121 i = aI h642 121 i := fun i => FUp_aI hU1258 i
      have p1298 : ∀ j : Int, 0 ≤ j → j ≤ z639 → j ≠ z639 → 0 ≤ aI h1255 86 (aI h1255 121 j) := fun j a b c => by rw [fA1296, fA1297]; exact x654 j a (by omega)
      have p1299 : 0 ≤ aI h1255 86 (aI h642 121 z641) := by rw [fA1296]; omega
      exact lp1271 ((((0 : Int) : Int) + 1).toNat) z639 h1255 (by omega) (by omega) p1298 p1299 (by omega) hT1256 hF1257 (Fr_rf _ _ _)
  exact lp646 ((((5 : Int) - 0 : Int) + 1).toNat) 0 0 0 h (by omega) (by omega) (by omega) (by omega) (by omega) (fun j a b => absurd b (by omega)) hT hF (Fr_rf _ _ _)
def W266 : List (Nat × Nat) := [(111, 0)]
set_option maxHeartbeats 0 in
theorem K266 {Ln : Nat} {xs : Nat → Int32} {τ : List Nat} {h : List mE} {E : EP} (hT : TH E τ h) (hS : Stb E W266) (p1 : Int) (hp1 : 0 ≤ p1 ∧ p1 ≤ 15) (pre0 : I4 h) (pre1 : p1 < fI h 64 78) (d : Nat) (hd : 1 ≤ d) (Q : Option Value → List mE → Prop) (hQ : ∀ v h', (∃ z : Int, v = some (vI z) ∧ (0 ≤ z ∧ z ≤ 9999999) ∧ TH E τ h' ∧ Fr τ W266 h h') → Q v h') : MR (mex Ln xs) d 266 0 [some (.ref 64), some (vI p1), none, none, none, none] [] h Q := by
  have hF := Fr_rf τ W266 h
  refine st_iconst c266_0 ?_
  refine st_istore (L' := [some (.ref 64), some (vI p1), some (vI 0), none, none, none]) c266_1 rfl rfl ?_
  refine st_iconst c266_2 ?_
  refine st_istore (L' := [some (.ref 64), some (vI p1), some (vI 0), some (vI 0), none, none]) c266_3 rfl rfl ?_
  refine st_iconst c266_4 ?_
  refine st_iload c266_7 rfl ?_
  refine st_imul c266_8 ?_
  refine st_istore (L' := [some (.ref 64), some (vI p1), some (vI 0), some (vI 0), some (vI (220 * p1)), none]) c266_9 rfl rfl ?_
  have lp154 : ∀ (n155 : Nat) (z147 : Int) (z148 : Int) (z149 : Int) (h150 : List mE), (3520 : Int) - z149 < (n155 : Int) → 0 ≤ z147 ∧ z147 ≤ 220 → 0 ≤ z148 ∧ z148 ≤ 1 → 0 ≤ z149 ∧ z149 ≤ 3520 → 0 ≤ z147 ∧ z147 ≤ z149 - 220 * p1 → Rn (aI h 129) (aI h 130) (220 * p1 + aI h 128 p1 - z149).toNat z149 z147 ≠ none → TH E τ h150 → Fr τ W266 h h150 → Fr τ [(111, 0)] h h150 → MR (mex Ln xs) d 266 11 [some (.ref 64), some (vI p1), some (vI z147), some (vI z148), some (vI z149), none] [] h150 Q := by
    intro n155
    induction n155 with
    | zero =>
      intro z147 z148 z149 h150 hm157 b158 b159 b160 x161 x162 hT151 hF152 hL153
      exfalso; omega
    | succ n155 ih156 =>
      intro z147 z148 z149 h150 hm157 b158 b159 b160 x161 x162 hT151 hF152 hL153
      refine st_iload c266_11 rfl ?_
      refine st_iconst c266_13 ?_
      refine st_iload c266_16 rfl ?_
      refine st_imul c266_17 ?_
      refine st_aload c266_18 rfl ?_
      refine st_getX (u := 128) c266_19 hT151 (tf hT151 rfl rfl) fd_8_82 rfl ?_
      refine st_iload c266_22 rfl ?_
      refine st_iald c266_23 hT151 (tf hT151 rfl rfl) ay_106 (by omega) (fun e163 e164 => ?_)
      have q165 : aI h150 128 p1 = aI h 128 p1 := Fr_aI hL153 (tf hT rfl rfl) (by decide +kernel) p1
      refine st_iadd c266_24 ?_
      refine st_icmp_ge c266_25 (by omega) (by omega) (fun k166 => ?_) (fun k167 => ?_)
      refine st_iconst c266_221 ?_
      refine st_ireturn c266_222 ?_
      exact hQ _ _ ⟨0, rfl, by omega, hT151, hF152⟩
      refine st_aload c266_28 rfl ?_
      refine st_getX (u := 129) c266_29 hT151 (tf hT151 rfl rfl) fd_8_83 rfl ?_
      refine st_iload c266_32 rfl ?_
      refine st_iald c266_34 hT151 (tf hT151 rfl rfl) ay_107 (by omega) (fun e168 e169 => ?_)
      have q170 : aI h150 129 z149 = aI h 129 z149 := Fr_aI hL153 (tf hT rfl rfl) (by decide +kernel) z149
      have q171 : aI h150 130 z149 = aI h 130 z149 := Fr_aI hL153 (tf hT rfl rfl) (by decide +kernel) z149
      obtain ⟨w1, w2, w3, w4, w5⟩ := Rn_step x162 (by omega)
      have w2a : aI h 129 z149 ≠ 2 ∨ (0 ≤ aI h 130 z149 ∧ aI h 130 z149 < 14) := w2.imp id (fun q => ⟨q.1, q.2.1⟩)
      have w5a : (aI h 129 z149 = 1 ∨ aI h 129 z149 = 2 ∨ aI h 129 z149 = 3 ∨ aI h 129 z149 = 4) ∨ 2 ≤ z147 := w5.imp id (fun q => q.1)
      refine st_istore (L' := [some (.ref 64), some (vI p1), some (vI z147), some (vI z148), some (vI z149), some (vI (aI h150 129 z149))]) c266_35 rfl rfl ?_
      refine st_iload c266_37 rfl ?_
      refine st_iconst c266_39 ?_
      refine st_icmp_eq c266_40 (by omega) (by omega) (fun k172 => ?_) (fun k173 => ?_)
      refine st_aload c266_49 rfl ?_
      refine st_getX (u := 133) c266_50 hT151 (tf hT151 rfl rfl) fd_8_95 rfl ?_
      refine st_iload c266_53 rfl ?_
      refine st_iload c266_54 rfl ?_
      refine st_iconst c266_56 ?_
      refine st_icmp_ne c266_57 (by omega) (by omega) (fun k174 => False.elim (by omega)) (fun k175 => ?_)
      refine st_aload c266_60 rfl ?_
      refine st_getX (u := 130) c266_61 hT151 (tf hT151 rfl rfl) fd_8_84 rfl ?_
      refine st_iload c266_64 rfl ?_
      refine st_iald c266_66 hT151 (tf hT151 rfl rfl) ay_108 (by omega) (fun e176 e177 => ?_)
      have q178 : aI h150 130 z149 = aI h 130 z149 := Fr_aI hL153 (tf hT rfl rfl) (by decide +kernel) z149
      refine st_goto c266_67 ?_
      refine st_iast c266_82 hT151 (tf hT151 rfl rfl) ay_111 (by omega) (by omega) (by omega) (Ext_rf _) hS hF152 (by decide +kernel) (fun h179 hT180 hF181 hU182 => ?_)
      refine st_iinc (L' := [some (.ref 64), some (vI p1), some (vI (z147 + 1)), some (vI z148), some (vI z149), some (vI (aI h150 129 z149))]) c266_83 rfl rfl rfl ?_
      refine st_goto c266_86 ?_
      refine st_iinc (L' := [some (.ref 64), some (vI p1), some (vI (z147 + 1)), some (vI z148), some (vI (z149 + 1)), some (vI (aI h150 129 z149))]) c266_215 rfl rfl rfl ?_
      refine st_goto c266_218 ?_
      refine MR_weak (A := [some (.ref 64), some (vI p1), some (vI (z147 + 1)), some (vI z148), some (vI (z149 + 1)), none]) (Lle_s (Lle_s (Lle_s (Lle_s (Lle_s (Lle_n (Lle_0))))))) ?_
      have p183 : Rn (aI h 129) (aI h 130) (220 * p1 + aI h 128 p1 - (z149 + 1)).toNat (z149 + 1) (z147 + 1) ≠ none := by
        rw [show 220 * p1 + aI h 128 p1 - (z149 + 1) = 220 * p1 + aI h 128 p1 - z149 - 1 by omega]
        rcases w1 with q | q
        · rcases w2 with q2 | q2
          · exfalso; omega
          · exact q2.2.2
        · exact q
      exact ih156 (z147 + 1) z148 (z149 + 1) h179 (by omega) (by omega) (by omega) (by omega) (by omega) p183 hT180 hF181 (AUp_Fr hL153 hU182 (fun u hu => by rw [ty_1 hu (tf hT180 rfl rfl)]; decide))
      refine st_iload c266_43 rfl ?_
      refine st_iconst c266_45 ?_
      refine st_icmp_ne c266_46 (by omega) (by omega) (fun k184 => ?_) (fun k185 => ?_)
      refine st_iload c266_89 rfl ?_
      refine st_iconst c266_91 ?_
      refine st_icmp_ne c266_92 (by omega) (by omega) (fun k186 => ?_) (fun k187 => ?_)
      refine st_iload c266_130 rfl ?_
      refine st_iconst c266_132 ?_
      refine st_icmp_ne c266_133 (by omega) (by omega) (fun k188 => ?_) (fun k189 => ?_)
      refine st_iinc (L' := [some (.ref 64), some (vI p1), some (vI (z147 + (-1))), some (vI z148), some (vI z149), some (vI (aI h150 129 z149))]) c266_185 rfl rfl rfl ?_
      refine st_aload c266_188 rfl ?_
      refine st_getX (u := 133) c266_189 hT151 (tf hT151 rfl rfl) fd_8_95 rfl ?_
      refine st_iload c266_192 rfl ?_
      refine st_iconst c266_193 ?_
      refine st_isub c266_194 ?_
      refine st_iload c266_195 rfl ?_
      refine st_aload c266_197 rfl ?_
      refine st_getX (u := 133) c266_198 hT151 (tf hT151 rfl rfl) fd_8_95 rfl ?_
      refine st_iload c266_201 rfl ?_
      refine st_iconst c266_202 ?_
      refine st_isub c266_203 ?_
      refine st_iald c266_204 hT151 (tf hT151 rfl rfl) ay_111 (by omega) (fun e190 e191 => ?_)
      refine st_aload c266_205 rfl ?_
      refine st_getX (u := 133) c266_206 hT151 (tf hT151 rfl rfl) fd_8_95 rfl ?_
      refine st_iload c266_209 rfl ?_
      refine st_iald c266_210 hT151 (tf hT151 rfl rfl) ay_111 (by omega) (fun e192 e193 => ?_)
      refine st_calls (as := [vI (aI h150 129 z149), vI (aI h150 133 ((z147 + (-1)) - 1)), vI (aI h150 133 (z147 + (-1)))]) c266_211 cm_265 rfl rfl rfl rfl (by omega) (K265 hT151 (aI h150 129 z149) (by omega) (aI h150 133 ((z147 + (-1)) - 1)) (by omega) (aI h150 133 (z147 + (-1))) (by omega) (d - 1) (by omega) _ (fun v h0 H => H)) (fun v1 h1 H => ?_)
      obtain ⟨z194, rfl, b195, rfl⟩ := H
      refine st_iast c266_214 hT151 (tf hT151 rfl rfl) ay_111 (by omega) (by omega) (by omega) (Ext_rf _) hS hF152 (by decide +kernel) (fun h196 hT197 hF198 hU199 => ?_)
      refine st_iinc (L' := [some (.ref 64), some (vI p1), some (vI (z147 + (-1))), some (vI z148), some (vI (z149 + 1)), some (vI (aI h150 129 z149))]) c266_215 rfl rfl rfl ?_
      refine st_goto c266_218 ?_
      refine MR_weak (A := [some (.ref 64), some (vI p1), some (vI (z147 + (-1))), some (vI z148), some (vI (z149 + 1)), none]) (Lle_s (Lle_s (Lle_s (Lle_s (Lle_s (Lle_n (Lle_0))))))) ?_
      have p200 : Rn (aI h 129) (aI h 130) (220 * p1 + aI h 128 p1 - (z149 + 1)).toNat (z149 + 1) (z147 + (-1)) ≠ none := by
        rw [show 220 * p1 + aI h 128 p1 - (z149 + 1) = 220 * p1 + aI h 128 p1 - z149 - 1 by omega]
        rcases w5 with q | q
        · exfalso; omega
        · exact q.2
      exact ih156 (z147 + (-1)) z148 (z149 + 1) h196 (by omega) (by omega) (by omega) (by omega) (by omega) p200 hT197 hF198 (AUp_Fr hL153 hU199 (fun u hu => by rw [ty_1 hu (tf hT197 rfl rfl)]; decide))
      refine st_iload c266_136 rfl ?_
      refine st_if_ne c266_137 (by omega) (fun k201 => ?_) (fun k202 => ?_)
      refine st_iconst c266_178 ?_
      refine st_istore (L' := [some (.ref 64), some (vI p1), some (vI z147), some (vI 0), some (vI z149), some (vI (aI h150 129 z149))]) c266_179 rfl rfl ?_
      refine st_iconst c266_180 ?_
      refine st_istore (L' := [some (.ref 64), some (vI p1), some (vI 0), some (vI 0), some (vI z149), some (vI (aI h150 129 z149))]) c266_181 rfl rfl ?_
      refine st_goto c266_182 ?_
      refine st_iinc (L' := [some (.ref 64), some (vI p1), some (vI 0), some (vI 0), some (vI (z149 + 1)), some (vI (aI h150 129 z149))]) c266_215 rfl rfl rfl ?_
      refine st_goto c266_218 ?_
      refine MR_weak (A := [some (.ref 64), some (vI p1), some (vI 0), some (vI 0), some (vI (z149 + 1)), none]) (Lle_s (Lle_s (Lle_s (Lle_s (Lle_s (Lle_n (Lle_0))))))) ?_
      have p203 : Rn (aI h 129) (aI h 130) (220 * p1 + aI h 128 p1 - (z149 + 1)).toNat (z149 + 1) 0 ≠ none := by
        rw [show 220 * p1 + aI h 128 p1 - (z149 + 1) = 220 * p1 + aI h 128 p1 - z149 - 1 by omega]
        rcases w4 with q | q
        · exfalso; omega
        · exact q
      exact ih156 0 0 (z149 + 1) h150 (by omega) (by omega) (by omega) (by omega) (by omega) p203 hT151 hF152 hL153
      refine st_aload c266_140 rfl ?_
      refine st_getX (u := 133) c266_141 hT151 (tf hT151 rfl rfl) fd_8_95 rfl ?_
      refine st_iconst c266_144 ?_
      refine st_iald c266_145 hT151 (tf hT151 rfl rfl) ay_111 (by omega) (fun e204 e205 => ?_)
      refine st_if_ge c266_146 (by omega) (fun k206 => ?_) (fun k207 => ?_)
      refine st_aload c266_153 rfl ?_
      refine st_getX (u := 133) c266_154 hT151 (tf hT151 rfl rfl) fd_8_95 rfl ?_
      refine st_iconst c266_157 ?_
      refine st_iald c266_158 hT151 (tf hT151 rfl rfl) ay_111 (by omega) (fun e208 e209 => ?_)
      refine st_iconst c266_159 ?_
      refine st_icmp_le c266_162 (by omega) (by omega) (fun k210 => ?_) (fun k211 => ?_)
      refine st_aload c266_171 rfl ?_
      refine st_getX (u := 133) c266_172 hT151 (tf hT151 rfl rfl) fd_8_95 rfl ?_
      refine st_iconst c266_175 ?_
      refine st_iald c266_176 hT151 (tf hT151 rfl rfl) ay_111 (by omega) (fun e212 e213 => ?_)
      refine st_ireturn c266_177 ?_
      exact hQ _ _ ⟨aI h150 133 0, rfl, by omega, hT151, hF152⟩
      refine st_iconst c266_165 ?_
      refine st_goto c266_168 ?_
      refine st_ireturn c266_177 ?_
      exact hQ _ _ ⟨9999999, rfl, by omega, hT151, hF152⟩
      refine st_iconst c266_149 ?_
      refine st_goto c266_150 ?_
      refine st_ireturn c266_177 ?_
      exact hQ _ _ ⟨0, rfl, by omega, hT151, hF152⟩
      refine st_aload c266_95 rfl ?_
      refine st_getX (u := 132) c266_96 hT151 (tf hT151 rfl rfl) fd_8_94 rfl ?_
      refine st_iconst c266_99 ?_
      refine st_iald c266_100 hT151 (tf hT151 rfl rfl) ay_110 (by omega) (fun e214 e215 => ?_)
      have q216 : aI h150 132 0 = aI h 132 0 := Fr_aI hL153 (tf hT rfl rfl) (by decide +kernel) 0
      refine st_aload c266_101 rfl ?_
      refine st_getX (u := 130) c266_102 hT151 (tf hT151 rfl rfl) fd_8_84 rfl ?_
      refine st_iload c266_105 rfl ?_
      refine st_iald c266_107 hT151 (tf hT151 rfl rfl) ay_108 (by omega) (fun e217 e218 => ?_)
      have q219 : aI h150 130 z149 = aI h 130 z149 := Fr_aI hL153 (tf hT rfl rfl) (by decide +kernel) z149
      refine st_aload c266_108 rfl ?_
      refine st_getX (u := 131) c266_109 hT151 (tf hT151 rfl rfl) fd_8_85 rfl ?_
      refine st_iload c266_112 rfl ?_
      refine st_iald c266_114 hT151 (tf hT151 rfl rfl) ay_109 (by omega) (fun e220 e221 => ?_)
      have q222 : aI h150 131 z149 = aI h 131 z149 := Fr_aI hL153 (tf hT rfl rfl) (by decide +kernel) z149
      refine st_calls (as := [vI (aI h150 132 0), vI (aI h150 130 z149), vI (aI h150 131 z149)]) c266_115 cm_180 rfl rfl rfl rfl (by omega) (K180 hT151 (aI h150 132 0) (by omega) (aI h150 130 z149) (by omega) (aI h150 131 z149) (by omega) (d - 1) (by omega) _ (fun v h0 H => H)) (fun v1 h1 H => ?_)
      rcases H with ⟨rfl, pf223, rfl⟩ | ⟨rfl, pf224, pf225, rfl⟩
      refine st_if_ne c266_118 (by omega) (fun k226 => False.elim (by omega)) (fun k227 => ?_)
      refine st_iconst c266_121 ?_
      refine st_goto c266_122 ?_
      refine st_istore (L' := [some (.ref 64), some (vI p1), some (vI z147), some (vI 1), some (vI z149), some (vI (aI h150 129 z149))]) c266_126 rfl rfl ?_
      refine st_goto c266_127 ?_
      refine st_iinc (L' := [some (.ref 64), some (vI p1), some (vI z147), some (vI 1), some (vI (z149 + 1)), some (vI (aI h150 129 z149))]) c266_215 rfl rfl rfl ?_
      refine st_goto c266_218 ?_
      refine MR_weak (A := [some (.ref 64), some (vI p1), some (vI z147), some (vI 1), some (vI (z149 + 1)), none]) (Lle_s (Lle_s (Lle_s (Lle_s (Lle_s (Lle_n (Lle_0))))))) ?_
      have p228 : Rn (aI h 129) (aI h 130) (220 * p1 + aI h 128 p1 - (z149 + 1)).toNat (z149 + 1) z147 ≠ none := by
        rw [show 220 * p1 + aI h 128 p1 - (z149 + 1) = 220 * p1 + aI h 128 p1 - z149 - 1 by omega]
        rcases w3 with q | q
        · exfalso; omega
        · exact q
      exact ih156 z147 1 (z149 + 1) h150 (by omega) (by omega) (by omega) (by omega) (by omega) p228 hT151 hF152 hL153
      refine st_if_ne c266_118 (by omega) (fun k229 => ?_) (fun k230 => False.elim (by omega))
      refine st_iconst c266_125 ?_
      refine st_istore (L' := [some (.ref 64), some (vI p1), some (vI z147), some (vI 0), some (vI z149), some (vI (aI h150 129 z149))]) c266_126 rfl rfl ?_
      refine st_goto c266_127 ?_
      refine st_iinc (L' := [some (.ref 64), some (vI p1), some (vI z147), some (vI 0), some (vI (z149 + 1)), some (vI (aI h150 129 z149))]) c266_215 rfl rfl rfl ?_
      refine st_goto c266_218 ?_
      refine MR_weak (A := [some (.ref 64), some (vI p1), some (vI z147), some (vI 0), some (vI (z149 + 1)), none]) (Lle_s (Lle_s (Lle_s (Lle_s (Lle_s (Lle_n (Lle_0))))))) ?_
      have p231 : Rn (aI h 129) (aI h 130) (220 * p1 + aI h 128 p1 - (z149 + 1)).toNat (z149 + 1) z147 ≠ none := by
        rw [show 220 * p1 + aI h 128 p1 - (z149 + 1) = 220 * p1 + aI h 128 p1 - z149 - 1 by omega]
        rcases w3 with q | q
        · exfalso; omega
        · exact q
      exact ih156 z147 0 (z149 + 1) h150 (by omega) (by omega) (by omega) (by omega) (by omega) p231 hT151 hF152 hL153
      refine st_aload c266_49 rfl ?_
      refine st_getX (u := 133) c266_50 hT151 (tf hT151 rfl rfl) fd_8_95 rfl ?_
      refine st_iload c266_53 rfl ?_
      refine st_iload c266_54 rfl ?_
      refine st_iconst c266_56 ?_
      refine st_icmp_ne c266_57 (by omega) (by omega) (fun k232 => ?_) (fun k233 => False.elim (by omega))
      refine st_aload c266_70 rfl ?_
      refine st_getX (u := 132) c266_71 hT151 (tf hT151 rfl rfl) fd_8_94 rfl ?_
      refine st_aload c266_74 rfl ?_
      refine st_getX (u := 130) c266_75 hT151 (tf hT151 rfl rfl) fd_8_84 rfl ?_
      refine st_iload c266_78 rfl ?_
      refine st_iald c266_80 hT151 (tf hT151 rfl rfl) ay_108 (by omega) (fun e234 e235 => ?_)
      have q236 : aI h150 130 z149 = aI h 130 z149 := Fr_aI hL153 (tf hT rfl rfl) (by decide +kernel) z149
      refine st_iald c266_81 hT151 (tf hT151 rfl rfl) ay_110 (by omega) (fun e237 e238 => ?_)
      have q239 : aI h150 132 (aI h150 130 z149) = aI h 132 (aI h150 130 z149) := Fr_aI hL153 (tf hT rfl rfl) (by decide +kernel) (aI h150 130 z149)
      refine st_iast c266_82 hT151 (tf hT151 rfl rfl) ay_111 (by omega) (by omega) (by omega) (Ext_rf _) hS hF152 (by decide +kernel) (fun h240 hT241 hF242 hU243 => ?_)
      refine st_iinc (L' := [some (.ref 64), some (vI p1), some (vI (z147 + 1)), some (vI z148), some (vI z149), some (vI (aI h150 129 z149))]) c266_83 rfl rfl rfl ?_
      refine st_goto c266_86 ?_
      refine st_iinc (L' := [some (.ref 64), some (vI p1), some (vI (z147 + 1)), some (vI z148), some (vI (z149 + 1)), some (vI (aI h150 129 z149))]) c266_215 rfl rfl rfl ?_
      refine st_goto c266_218 ?_
      refine MR_weak (A := [some (.ref 64), some (vI p1), some (vI (z147 + 1)), some (vI z148), some (vI (z149 + 1)), none]) (Lle_s (Lle_s (Lle_s (Lle_s (Lle_s (Lle_n (Lle_0))))))) ?_
      have p244 : Rn (aI h 129) (aI h 130) (220 * p1 + aI h 128 p1 - (z149 + 1)).toNat (z149 + 1) (z147 + 1) ≠ none := by
        rw [show 220 * p1 + aI h 128 p1 - (z149 + 1) = 220 * p1 + aI h 128 p1 - z149 - 1 by omega]
        rcases w1 with q | q
        · rcases w2 with q2 | q2
          · exfalso; omega
          · exact q2.2.2
        · exact q
      exact ih156 (z147 + 1) z148 (z149 + 1) h240 (by omega) (by omega) (by omega) (by omega) (by omega) p244 hT241 hF242 (AUp_Fr hL153 hU243 (fun u hu => by rw [ty_1 hu (tf hT241 rfl rfl)]; decide))
  have y0 := pre0 p1 (by omega) pre1
  exact lp154 ((((3520 : Int) - (220 * p1) : Int) + 1).toNat) 0 0 (220 * p1) h (by omega) (by omega) (by omega) (by omega) (by omega) (by rw [show 220 * p1 + aI h 128 p1 - 220 * p1 = aI h 128 p1 by omega]; exact y0) hT hF (Fr_rf _ _ _)
def W274 : List (Nat × Nat) := [(110, 0), (111, 0)]
set_option maxHeartbeats 0 in
theorem K274 {Ln : Nat} {xs : Nat → Int32} {τ : List Nat} {h : List mE} {E : EP} (hT : TH E τ h) (hS : Stb E W274) (p1 : Int) (hp1 : (-2147483648) ≤ p1 ∧ p1 ≤ 2147483647) (p2 : Int) (hp2 : (-2147483648) ≤ p2 ∧ p2 ≤ 2147483647) (p3 : Int) (hp3 : (-2147483648) ≤ p3 ∧ p3 ≤ 2147483647) (pre0 : I3 h) (pre1 : I4 h) (d : Nat) (hd : 3 ≤ d) (Q : Option Value → List mE → Prop) (hQ : ∀ v h', (∃ z : Int, v = some (vI z) ∧ ((-2000000000) ≤ z ∧ z ≤ 9999999) ∧ TH E τ h' ∧ Fr τ W274 h h') → Q v h') : MR (mex Ln xs) d 274 0 [some (.ref 64), some (vI p1), some (vI p2), some (vI p3)] [] h Q := by
  have hF := Fr_rf τ W274 h
  refine st_iload c274_0 rfl ?_
  refine st_iconst c274_1 ?_
  refine st_aload c274_2 rfl ?_
  refine st_getI c274_3 hT (tf hT rfl rfl) fd_8_78 (fun e1 e2 => ?_)
  refine st_iconst c274_6 ?_
  refine st_isub c274_7 ?_
  refine st_calls (as := [vI p1, vI 0, vI ((fI h 64 78) - 1)]) c274_8 cm_180 rfl rfl rfl rfl (by omega) (K180 hT p1 (by omega) 0 (by omega) ((fI h 64 78) - 1) (by omega) (d - 1) (by omega) _ (fun v h0 H => H)) (fun v1 h1 H => ?_)
  rcases H with ⟨rfl, pf3, rfl⟩ | ⟨rfl, pf4, pf5, rfl⟩
  refine st_if_eq c274_11 (by omega) (fun k6 => ?_) (fun k7 => False.elim (by omega))
  refine st_iconst c274_41 ?_
  refine st_ireturn c274_44 ?_
  exact hQ _ _ ⟨(-2000000000), rfl, by omega, hT, hF⟩
  refine st_if_eq c274_11 (by omega) (fun k8 => False.elim (by omega)) (fun k9 => ?_)
  refine st_aload c274_14 rfl ?_
  refine st_iload c274_15 rfl ?_
  have e10 := fI_bd (q := 64) hT (tf hT rfl rfl) fd_8_48
  refine st_callt (as := [vI p2]) c274_16 cm_216 hT (tf hT rfl rfl) fd_8_0 rfl rfl rfl rfl (by omega) (K216 hT p2 (by omega) (d - 1) (by omega) _ (fun v h0 H => H)) (fun v1 h1 H => ?_)
  rcases H with ⟨rfl, pf11, rfl⟩ | ⟨rfl, pf12, pf13, rfl⟩
  refine st_if_eq c274_19 (by omega) (fun k14 => ?_) (fun k15 => False.elim (by omega))
  refine st_iconst c274_41 ?_
  refine st_ireturn c274_44 ?_
  exact hQ _ _ ⟨(-2000000000), rfl, by omega, hT, hF⟩
  refine st_if_eq c274_19 (by omega) (fun k16 => False.elim (by omega)) (fun k17 => ?_)
  refine st_iload c274_22 rfl ?_
  refine st_iconst c274_23 ?_
  refine st_iconst c274_24 ?_
  refine st_calls (as := [vI p3, vI 0, vI 999]) c274_27 cm_180 rfl rfl rfl rfl (by omega) (K180 hT p3 (by omega) 0 (by omega) 999 (by omega) (d - 1) (by omega) _ (fun v h0 H => H)) (fun v1 h1 H => ?_)
  rcases H with ⟨rfl, pf18, rfl⟩ | ⟨rfl, pf19, pf20, rfl⟩
  refine st_if_eq c274_30 (by omega) (fun k21 => ?_) (fun k22 => False.elim (by omega))
  refine st_iconst c274_41 ?_
  refine st_ireturn c274_44 ?_
  exact hQ _ _ ⟨(-2000000000), rfl, by omega, hT, hF⟩
  refine st_if_eq c274_30 (by omega) (fun k23 => False.elim (by omega)) (fun k24 => ?_)
  refine st_aload c274_33 rfl ?_
  refine st_iload c274_34 rfl ?_
  refine st_callt (as := [vI p2]) c274_35 cm_236 hT (tf hT rfl rfl) fd_8_0 rfl rfl rfl rfl (by omega) (K236 hT p2 (by omega) (d - 1) (by omega) _ (fun v h0 H => H)) (fun v1 h1 H => ?_)
  rcases H with ⟨rfl, rfl⟩ | ⟨rfl, pf25, rfl⟩
  refine st_if_ne c274_38 (by omega) (fun k26 => False.elim (by omega)) (fun k27 => ?_)
  refine st_iconst c274_41 ?_
  refine st_ireturn c274_44 ?_
  exact hQ _ _ ⟨(-2000000000), rfl, by omega, hT, hF⟩
  refine st_if_ne c274_38 (by omega) (fun k28 => ?_) (fun k29 => False.elim (by omega))
  refine st_aload c274_45 rfl ?_
  refine st_iload c274_46 rfl ?_
  refine st_iload c274_47 rfl ?_
  refine st_aload c274_48 rfl ?_
  refine st_iload c274_49 rfl ?_
  refine st_callt (as := [vI p2]) c274_50 cm_241 hT (tf hT rfl rfl) fd_8_0 rfl rfl rfl rfl (by omega) (K241 hT p2 (by omega) (d - 1) (by omega) _ (fun v h0 H => H)) (fun v1 h1 H => ?_)
  obtain ⟨z30, rfl, b31, rfl⟩ := H
  refine st_callt (as := [vI p2, vI p3, vI z30]) c274_53 cm_273 hT (tf hT rfl rfl) fd_8_0 rfl rfl rfl rfl (by omega) (K273 hT (Stb_mono hS (by decide +kernel)) p2 (by omega) p3 (by omega) z30 (by omega) pre0 (by omega) (d - 1) (by omega) _ (fun v h0 H => H)) (fun v1 h32 H => ?_)
  obtain ⟨rfl, hT33, hF34⟩ := H
  have hF35 := Fr_cp hF hF34 (by decide +kernel : Wsub W273 W274 = true)
  refine st_aload c274_56 rfl ?_
  refine st_iload c274_57 rfl ?_
  have e36 := fI_bd (q := 64) hT33 (tf hT33 rfl rfl) fd_8_78
  have q37 : fI h32 64 78 = fI h 64 78 := Fr_fI hF34 (tf hT rfl rfl) (by decide +kernel)
  refine st_callt (as := [vI p1]) c274_58 cm_266 hT33 (tf hT33 rfl rfl) fd_8_0 rfl rfl rfl rfl (by omega) (K266 hT33 (Stb_mono hS (by decide +kernel)) p1 (by omega) (I4_fr pre1 hT hF35 (by decide +kernel)) (by omega) (d - 1) (by omega) _ (fun v h0 H => H)) (fun v1 h38 H => ?_)
  obtain ⟨z41, rfl, b42, hT39, hF40⟩ := H
  have hF43 := Fr_cp hF35 hF40 (by decide +kernel : Wsub W266 W274 = true)
  refine st_ireturn c274_61 ?_
  exact hQ _ _ ⟨z41, rfl, by omega, hT39, hF43⟩
def W275 : List (Nat × Nat) := [(8, 96), (111, 0)]
set_option maxHeartbeats 0 in
theorem K275 {Ln : Nat} {xs : Nat → Int32} {τ : List Nat} {h : List mE} {E : EP} (hT : TH E τ h) (hS : Stb E W275) (p1 : Int) (hp1 : (-2147483648) ≤ p1 ∧ p1 ≤ 2147483647) (p2 : Int) (hp2 : 0 ≤ p2 ∧ p2 ≤ 99) (p3 : Int) (hp3 : (-2147483648) ≤ p3 ∧ p3 ≤ 2147483647) (pre0 : I4 h) (d : Nat) (hd : 2 ≤ d) (Q : Option Value → List mE → Prop) (hQ : ∀ v h', (∃ z : Int, v = some (vI z) ∧ (0 ≤ z ∧ z ≤ 9999999) ∧ TH E τ h' ∧ Fr τ W275 h h') → Q v h') : MR (mex Ln xs) d 275 0 [some (.ref 64), some (vI p1), some (vI p2), some (vI p3), none, none, none, none] [] h Q := by
  have hF := Fr_rf τ W275 h
  refine st_iconst c275_0 ?_
  refine st_istore (L' := [some (.ref 64), some (vI p1), some (vI p2), some (vI p3), some (vI 0), none, none, none]) c275_1 rfl rfl ?_
  refine st_iconst c275_3 ?_
  refine st_istore (L' := [some (.ref 64), some (vI p1), some (vI p2), some (vI p3), some (vI 0), some (vI 0), none, none]) c275_4 rfl rfl ?_
  refine st_aload c275_6 rfl ?_
  refine st_iconst c275_7 ?_
  refine st_putI c275_8 hT (tf hT rfl rfl) fd_8_96 (by omega) (by omega) (Ext_rf _) hS hF (by decide +kernel) (fun h1 hT2 hF3 hU4 => ?_)
  refine st_aload c275_11 rfl ?_
  refine st_getI c275_12 hT2 (tf hT2 rfl rfl) fd_8_78 (fun e5 e6 => ?_)
  have q7 : fI h1 64 78 = fI h 64 78 := FUp_fIne hU4 (fun z => absurd z.2 (by decide))
  refine st_iconst c275_15 ?_
  refine st_isub c275_16 ?_
  refine st_istore (L' := [some (.ref 64), some (vI p1), some (vI p2), some (vI p3), some (vI 0), some (vI 0), some (vI ((fI h1 64 78) - 1)), none]) c275_17 rfl rfl ?_
  have lp165 : ∀ (n166 : Nat) (z158 : Int) (z159 : Int) (z160 : Int) (h161 : List mE), (z160 : Int) - (-1) < (n166 : Int) → 0 ≤ z158 ∧ z158 ≤ 2 → 0 ≤ z159 ∧ z159 ≤ 9999999 → (-1) ≤ z160 ∧ z160 ≤ 15 → z160 < fI h161 64 78 → TH E τ h161 → Fr τ W275 h h161 → Fr τ [(8, 96), (111, 0)] h1 h161 → MR (mex Ln xs) d 275 19 [some (.ref 64), some (vI p1), some (vI p2), some (vI p3), some (vI z158), some (vI z159), some (vI z160), none] [] h161 Q := by
    intro n166
    induction n166 with
    | zero =>
      intro z158 z159 z160 h161 hm168 b169 b170 b171 x172 hT162 hF163 hL164
      exfalso; omega
    | succ n166 ih167 =>
      intro z158 z159 z160 h161 hm168 b169 b170 b171 x172 hT162 hF163 hL164
      have e173 := fI_bd (q := 64) hT162 (tf hT162 rfl rfl) fd_8_78
      have q174 : fI h161 64 78 = fI h1 64 78 := Fr_fI hL164 (tf hT2 rfl rfl) (by decide +kernel)
      refine st_iload c275_19 rfl ?_
      refine st_if_lt c275_21 (by omega) (fun k175 => ?_) (fun k176 => ?_)
      refine st_iload c275_113 rfl ?_
      refine st_ireturn c275_115 ?_
      exact hQ _ _ ⟨z159, rfl, by omega, hT162, hF163⟩
      refine st_iload c275_24 rfl ?_
      refine st_iconst c275_26 ?_
      refine st_icmp_ge c275_27 (by omega) (by omega) (fun k177 => ?_) (fun k178 => ?_)
      refine st_iload c275_113 rfl ?_
      refine st_ireturn c275_115 ?_
      exact hQ _ _ ⟨z159, rfl, by omega, hT162, hF163⟩
      refine st_aload c275_30 rfl ?_
      refine st_getX (u := 125) c275_31 hT162 (tf hT162 rfl rfl) fd_8_79 rfl ?_
      refine st_iload c275_34 rfl ?_
      refine st_iald c275_36 hT162 (tf hT162 rfl rfl) ay_103 (by omega) (fun e179 e180 => ?_)
      have q181 : aI h161 125 z160 = aI h 125 z160 := (Fr_aI hL164 (tf hT2 rfl rfl) (by decide +kernel) z160).trans (FUp_aI hU4 z160)
      refine st_iload c275_37 rfl ?_
      refine st_icmp_ne c275_38 (by omega) (by omega) (fun k182 => ?_) (fun k183 => ?_)
      refine st_iinc (L' := [some (.ref 64), some (vI p1), some (vI p2), some (vI p3), some (vI z158), some (vI z159), some (vI (z160 + (-1))), none]) c275_107 rfl rfl rfl ?_
      refine st_goto c275_110 ?_
      exact ih167 z158 z159 (z160 + (-1)) h161 (by omega) (by omega) (by omega) (by omega) (by omega) hT162 hF163 hL164
      refine st_aload c275_41 rfl ?_
      refine st_getX (u := 126) c275_42 hT162 (tf hT162 rfl rfl) fd_8_80 rfl ?_
      refine st_iload c275_45 rfl ?_
      refine st_iald c275_47 hT162 (tf hT162 rfl rfl) ay_104 (by omega) (fun e184 e185 => ?_)
      have q186 : aI h161 126 z160 = aI h 126 z160 := (Fr_aI hL164 (tf hT2 rfl rfl) (by decide +kernel) z160).trans (FUp_aI hU4 z160)
      refine st_iload c275_48 rfl ?_
      refine st_icmp_gt c275_49 (by omega) (by omega) (fun k187 => ?_) (fun k188 => ?_)
      refine st_iinc (L' := [some (.ref 64), some (vI p1), some (vI p2), some (vI p3), some (vI z158), some (vI z159), some (vI (z160 + (-1))), none]) c275_107 rfl rfl rfl ?_
      refine st_goto c275_110 ?_
      exact ih167 z158 z159 (z160 + (-1)) h161 (by omega) (by omega) (by omega) (by omega) (by omega) hT162 hF163 hL164
      refine st_aload c275_52 rfl ?_
      refine st_getX (u := 127) c275_53 hT162 (tf hT162 rfl rfl) fd_8_81 rfl ?_
      refine st_iload c275_56 rfl ?_
      refine st_iald c275_58 hT162 (tf hT162 rfl rfl) ay_105 (by omega) (fun e189 e190 => ?_)
      have q191 : aI h161 127 z160 = aI h 127 z160 := (Fr_aI hL164 (tf hT2 rfl rfl) (by decide +kernel) z160).trans (FUp_aI hU4 z160)
      refine st_aload c275_59 rfl ?_
      refine st_getX (u := 111) c275_60 hT162 (tf hT162 rfl rfl) fd_8_57 rfl ?_
      refine st_iload c275_63 rfl ?_
      refine st_iald c275_64 hT162 (tf hT162 rfl rfl) ay_89 (by omega) (fun e192 e193 => ?_)
      have q194 : aI h161 111 p2 = aI h 111 p2 := (Fr_aI hL164 (tf hT2 rfl rfl) (by decide +kernel) p2).trans (FUp_aI hU4 p2)
      refine st_iconst c275_65 ?_
      refine st_idivc c275_67 (by omega) (by omega) (fun w195 e196 e197 => ?_)
      refine st_icmp_le c275_68 (by omega) (by omega) (fun k198 => ?_) (fun k199 => ?_)
      refine st_aload c275_74 rfl ?_
      refine st_iload c275_75 rfl ?_
      refine st_callt (as := [vI z160]) c275_77 cm_266 hT162 (tf hT162 rfl rfl) fd_8_0 rfl rfl rfl rfl (by omega) (K266 hT162 (Stb_mono hS (by decide +kernel)) z160 (by omega) (I4_fr pre0 hT hF163 (by decide +kernel)) (by omega) (d - 1) (by omega) _ (fun v h0 H => H)) (fun v1 h200 H => ?_)
      obtain ⟨z203, rfl, b204, hT201, hF202⟩ := H
      have hF205 := Fr_cp hF163 hF202 (by decide +kernel : Wsub W266 W275 = true)
      refine st_istore (L' := [some (.ref 64), some (vI p1), some (vI p2), some (vI p3), some (vI z158), some (vI z159), some (vI z160), some (vI z203)]) c275_80 rfl rfl ?_
      refine st_iload c275_82 rfl ?_
      refine st_if_eq c275_84 (by omega) (fun k206 => ?_) (fun k207 => ?_)
      refine st_iload c275_94 rfl ?_
      refine st_istore (L' := [some (.ref 64), some (vI p1), some (vI p2), some (vI p3), some (vI z158), some (vI z203), some (vI z160), some (vI z203)]) c275_96 rfl rfl ?_
      refine st_aload c275_98 rfl ?_
      refine st_iload c275_99 rfl ?_
      refine st_putI c275_101 hT201 (tf hT201 rfl rfl) fd_8_96 (by omega) (by omega) (Ext_rf _) hS hF205 (by decide +kernel) (fun h208 hT209 hF210 hU211 => ?_)
      refine st_iinc (L' := [some (.ref 64), some (vI p1), some (vI p2), some (vI p3), some (vI (z158 + 1)), some (vI z203), some (vI z160), some (vI z203)]) c275_104 rfl rfl rfl ?_
      refine st_iinc (L' := [some (.ref 64), some (vI p1), some (vI p2), some (vI p3), some (vI (z158 + 1)), some (vI z203), some (vI (z160 + (-1))), some (vI z203)]) c275_107 rfl rfl rfl ?_
      refine st_goto c275_110 ?_
      refine MR_weak (A := [some (.ref 64), some (vI p1), some (vI p2), some (vI p3), some (vI (z158 + 1)), some (vI z203), some (vI (z160 + (-1))), none]) (Lle_s (Lle_s (Lle_s (Lle_s (Lle_s (Lle_s (Lle_s (Lle_n (Lle_0))))))))) ?_
      have e212 := fI_bd (q := 64) hT209 (tf hT209 rfl rfl) fd_8_78
      have q213 : fI h208 64 78 = fI h161 64 78 := (FUp_fIne hU211 (fun z => absurd z.2 (by decide))).trans (Fr_fI hF202 (tf hT162 rfl rfl) (by decide +kernel))
      exact ih167 (z158 + 1) z203 (z160 + (-1)) h208 (by omega) (by omega) (by omega) (by omega) (by omega) hT209 hF210 (FUp_Fr (Fr_cp hL164 hF202 (by decide +kernel)) hU211 (fun u hu => by rw [ty_1 hu (tf hT209 rfl rfl)]; decide))
      refine st_iload c275_87 rfl ?_
      refine st_iload c275_89 rfl ?_
      refine st_icmp_ge c275_91 (by omega) (by omega) (fun k214 => ?_) (fun k215 => ?_)
      refine st_iinc (L' := [some (.ref 64), some (vI p1), some (vI p2), some (vI p3), some (vI (z158 + 1)), some (vI z159), some (vI z160), some (vI z203)]) c275_104 rfl rfl rfl ?_
      refine st_iinc (L' := [some (.ref 64), some (vI p1), some (vI p2), some (vI p3), some (vI (z158 + 1)), some (vI z159), some (vI (z160 + (-1))), some (vI z203)]) c275_107 rfl rfl rfl ?_
      refine st_goto c275_110 ?_
      refine MR_weak (A := [some (.ref 64), some (vI p1), some (vI p2), some (vI p3), some (vI (z158 + 1)), some (vI z159), some (vI (z160 + (-1))), none]) (Lle_s (Lle_s (Lle_s (Lle_s (Lle_s (Lle_s (Lle_s (Lle_n (Lle_0))))))))) ?_
      have e216 := fI_bd (q := 64) hT201 (tf hT201 rfl rfl) fd_8_78
      have q217 : fI h200 64 78 = fI h161 64 78 := Fr_fI hF202 (tf hT162 rfl rfl) (by decide +kernel)
      exact ih167 (z158 + 1) z159 (z160 + (-1)) h200 (by omega) (by omega) (by omega) (by omega) (by omega) hT201 hF205 (Fr_cp hL164 hF202 (by decide +kernel))
      refine st_iload c275_94 rfl ?_
      refine st_istore (L' := [some (.ref 64), some (vI p1), some (vI p2), some (vI p3), some (vI z158), some (vI z203), some (vI z160), some (vI z203)]) c275_96 rfl rfl ?_
      refine st_aload c275_98 rfl ?_
      refine st_iload c275_99 rfl ?_
      refine st_putI c275_101 hT201 (tf hT201 rfl rfl) fd_8_96 (by omega) (by omega) (Ext_rf _) hS hF205 (by decide +kernel) (fun h218 hT219 hF220 hU221 => ?_)
      refine st_iinc (L' := [some (.ref 64), some (vI p1), some (vI p2), some (vI p3), some (vI (z158 + 1)), some (vI z203), some (vI z160), some (vI z203)]) c275_104 rfl rfl rfl ?_
      refine st_iinc (L' := [some (.ref 64), some (vI p1), some (vI p2), some (vI p3), some (vI (z158 + 1)), some (vI z203), some (vI (z160 + (-1))), some (vI z203)]) c275_107 rfl rfl rfl ?_
      refine st_goto c275_110 ?_
      refine MR_weak (A := [some (.ref 64), some (vI p1), some (vI p2), some (vI p3), some (vI (z158 + 1)), some (vI z203), some (vI (z160 + (-1))), none]) (Lle_s (Lle_s (Lle_s (Lle_s (Lle_s (Lle_s (Lle_s (Lle_n (Lle_0))))))))) ?_
      have e222 := fI_bd (q := 64) hT219 (tf hT219 rfl rfl) fd_8_78
      have q223 : fI h218 64 78 = fI h161 64 78 := (FUp_fIne hU221 (fun z => absurd z.2 (by decide))).trans (Fr_fI hF202 (tf hT162 rfl rfl) (by decide +kernel))
      exact ih167 (z158 + 1) z203 (z160 + (-1)) h218 (by omega) (by omega) (by omega) (by omega) (by omega) hT219 hF220 (FUp_Fr (Fr_cp hL164 hF202 (by decide +kernel)) hU221 (fun u hu => by rw [ty_1 hu (tf hT219 rfl rfl)]; decide))
      refine st_goto c275_71 ?_
      refine st_iinc (L' := [some (.ref 64), some (vI p1), some (vI p2), some (vI p3), some (vI z158), some (vI z159), some (vI (z160 + (-1))), none]) c275_107 rfl rfl rfl ?_
      refine st_goto c275_110 ?_
      exact ih167 z158 z159 (z160 + (-1)) h161 (by omega) (by omega) (by omega) (by omega) (by omega) hT162 hF163 hL164
  exact lp165 ((((((fI h1 64 78) - 1) : Int) - (-1) : Int) + 1).toNat) 0 0 ((fI h1 64 78) - 1) h1 (by omega) (by omega) (by omega) (by omega) (by omega) hT2 hF3 (Fr_rf _ _ _)
def W276 : List (Nat × Nat) := [(8, 96), (110, 0), (111, 0)]
set_option maxHeartbeats 0 in
theorem K276 {Ln : Nat} {xs : Nat → Int32} {τ : List Nat} {h : List mE} {E : EP} (hT : TH E τ h) (hS : Stb E W276) (p1 : Int) (hp1 : (-2147483648) ≤ p1 ∧ p1 ≤ 2147483647) (p2 : Int) (hp2 : (-2147483648) ≤ p2 ∧ p2 ≤ 2147483647) (p3 : Int) (hp3 : (-2147483648) ≤ p3 ∧ p3 ≤ 2147483647) (pre0 : I3 h) (pre1 : I4 h) (d : Nat) (hd : 3 ≤ d) (Q : Option Value → List mE → Prop) (hQ : ∀ v h', (∃ z : Int, v = some (vI z) ∧ ((-2147483648) ≤ z ∧ z ≤ 2147483647) ∧ TH E τ h' ∧ Fr τ W276 h h') → Q v h') : MR (mex Ln xs) d 276 0 [some (.ref 64), some (vI p1), some (vI p2), some (vI p3), none] [] h Q := by
  have hF := Fr_rf τ W276 h
  refine st_aload c276_0 rfl ?_
  refine st_iload c276_1 rfl ?_
  have e1 := fI_bd (q := 64) hT (tf hT rfl rfl) fd_8_48
  refine st_callt (as := [vI p1]) c276_2 cm_216 hT (tf hT rfl rfl) fd_8_0 rfl rfl rfl rfl (by omega) (K216 hT p1 (by omega) (d - 1) (by omega) _ (fun v h0 H => H)) (fun v1 h1 H => ?_)
  rcases H with ⟨rfl, pf2, rfl⟩ | ⟨rfl, pf3, pf4, rfl⟩
  refine st_if_eq c276_5 (by omega) (fun k5 => ?_) (fun k6 => False.elim (by omega))
  refine st_iconst c276_32 ?_
  refine st_ireturn c276_35 ?_
  exact hQ _ _ ⟨(-2000000000), rfl, by omega, hT, hF⟩
  refine st_if_eq c276_5 (by omega) (fun k7 => False.elim (by omega)) (fun k8 => ?_)
  refine st_iload c276_8 rfl ?_
  refine st_calls (as := [vI p2]) c276_9 cm_181 rfl rfl rfl rfl (by omega) (K181 hT p2 (by omega) (d - 1) (by omega) _ (fun v h0 H => H)) (fun v1 h1 H => ?_)
  rcases H with ⟨rfl, pf9, rfl⟩ | ⟨rfl, pf10, pf11, rfl⟩
  refine st_if_eq c276_12 (by omega) (fun k12 => ?_) (fun k13 => False.elim (by omega))
  refine st_iconst c276_32 ?_
  refine st_ireturn c276_35 ?_
  exact hQ _ _ ⟨(-2000000000), rfl, by omega, hT, hF⟩
  refine st_if_eq c276_12 (by omega) (fun k14 => False.elim (by omega)) (fun k15 => ?_)
  refine st_iload c276_15 rfl ?_
  refine st_iconst c276_16 ?_
  refine st_iconst c276_17 ?_
  refine st_calls (as := [vI p3, vI 0, vI 5]) c276_18 cm_180 rfl rfl rfl rfl (by omega) (K180 hT p3 (by omega) 0 (by omega) 5 (by omega) (d - 1) (by omega) _ (fun v h0 H => H)) (fun v1 h1 H => ?_)
  rcases H with ⟨rfl, pf16, rfl⟩ | ⟨rfl, pf17, pf18, rfl⟩
  refine st_if_eq c276_21 (by omega) (fun k19 => ?_) (fun k20 => False.elim (by omega))
  refine st_iconst c276_32 ?_
  refine st_ireturn c276_35 ?_
  exact hQ _ _ ⟨(-2000000000), rfl, by omega, hT, hF⟩
  refine st_if_eq c276_21 (by omega) (fun k21 => False.elim (by omega)) (fun k22 => ?_)
  refine st_aload c276_24 rfl ?_
  refine st_iload c276_25 rfl ?_
  refine st_callt (as := [vI p1]) c276_26 cm_236 hT (tf hT rfl rfl) fd_8_0 rfl rfl rfl rfl (by omega) (K236 hT p1 (by omega) (d - 1) (by omega) _ (fun v h0 H => H)) (fun v1 h1 H => ?_)
  rcases H with ⟨rfl, rfl⟩ | ⟨rfl, pf23, rfl⟩
  refine st_if_ne c276_29 (by omega) (fun k24 => False.elim (by omega)) (fun k25 => ?_)
  refine st_iconst c276_32 ?_
  refine st_ireturn c276_35 ?_
  exact hQ _ _ ⟨(-2000000000), rfl, by omega, hT, hF⟩
  refine st_if_ne c276_29 (by omega) (fun k26 => ?_) (fun k27 => False.elim (by omega))
  refine st_aload c276_36 rfl ?_
  refine st_iload c276_37 rfl ?_
  refine st_aload c276_38 rfl ?_
  refine st_iload c276_39 rfl ?_
  refine st_iload c276_40 rfl ?_
  refine st_iconst c276_41 ?_
  refine st_icmp_ne c276_42 (by omega) (by omega) (fun k28 => ?_) (fun k29 => ?_)
  refine st_iload c276_49 rfl ?_
  refine st_iconst c276_50 ?_
  refine st_icmp_ne c276_51 (by omega) (by omega) (fun k30 => ?_) (fun k31 => ?_)
  refine st_iconst c276_58 ?_
  refine st_callt (as := [vI p1, vI 2]) c276_59 cm_244 hT (tf hT rfl rfl) fd_8_0 rfl rfl rfl rfl (by omega) (K244 hT p1 (by omega) 2 (by omega) (d - 1) (by omega) _ (fun v h0 H => H)) (fun v1 h1 H => ?_)
  obtain ⟨z32, rfl, b33, rfl⟩ := H
  refine st_aload c276_62 rfl ?_
  refine st_iload c276_63 rfl ?_
  refine st_callt (as := [vI p1]) c276_64 cm_241 hT (tf hT rfl rfl) fd_8_0 rfl rfl rfl rfl (by omega) (K241 hT p1 (by omega) (d - 1) (by omega) _ (fun v h0 H => H)) (fun v1 h1 H => ?_)
  obtain ⟨z34, rfl, b35, rfl⟩ := H
  refine st_callt (as := [vI p1, vI z32, vI z34]) c276_67 cm_273 hT (tf hT rfl rfl) fd_8_0 rfl rfl rfl rfl (by omega) (K273 hT (Stb_mono hS (by decide +kernel)) p1 (by omega) z32 (by omega) z34 (by omega) pre0 (by omega) (d - 1) (by omega) _ (fun v h0 H => H)) (fun v1 h36 H => ?_)
  obtain ⟨rfl, hT37, hF38⟩ := H
  have hF39 := Fr_cp hF hF38 (by decide +kernel : Wsub W273 W276 = true)
  refine st_iload c276_70 rfl ?_
  refine st_iconst c276_71 ?_
  refine st_icmp_ne c276_72 (by omega) (by omega) (fun k40 => ?_) (fun k41 => ?_)
  refine st_aload c276_83 rfl ?_
  refine st_iconst c276_84 ?_
  refine st_iload c276_85 rfl ?_
  refine st_iload c276_86 rfl ?_
  refine st_callt (as := [vI 0, vI p1, vI p2]) c276_87 cm_275 hT37 (tf hT37 rfl rfl) fd_8_0 rfl rfl rfl rfl (by omega) (K275 hT37 (Stb_mono hS (by decide +kernel)) 0 (by omega) p1 (by omega) p2 (by omega) (I4_fr pre1 hT hF39 (by decide +kernel)) (d - 1) (by omega) _ (fun v h0 H => H)) (fun v1 h42 H => ?_)
  obtain ⟨z45, rfl, b46, hT43, hF44⟩ := H
  have hF47 := Fr_cp hF39 hF44 (by decide +kernel : Wsub W275 W276 = true)
  refine st_istore (L' := [some (.ref 64), some (vI p1), some (vI p2), some (vI p3), some (vI z45)]) c276_90 rfl rfl ?_
  refine st_iload c276_92 rfl ?_
  refine st_iconst c276_93 ?_
  refine st_icmp_ne c276_94 (by omega) (by omega) (fun k48 => ?_) (fun k49 => ?_)
  refine st_iload c276_102 rfl ?_
  refine st_iconst c276_103 ?_
  refine st_icmp_ne c276_104 (by omega) (by omega) (fun k50 => ?_) (fun k51 => ?_)
  refine st_iload c276_120 rfl ?_
  refine st_ireturn c276_122 ?_
  exact hQ _ _ ⟨z45, rfl, by omega, hT43, hF47⟩
  refine st_iload c276_107 rfl ?_
  refine st_aload c276_109 rfl ?_
  refine st_iconst c276_110 ?_
  refine st_iload c276_111 rfl ?_
  refine st_iload c276_112 rfl ?_
  refine st_callt (as := [vI 1, vI p1, vI p2]) c276_113 cm_275 hT43 (tf hT43 rfl rfl) fd_8_0 rfl rfl rfl rfl (by omega) (K275 hT43 (Stb_mono hS (by decide +kernel)) 1 (by omega) p1 (by omega) p2 (by omega) (I4_fr pre1 hT hF47 (by decide +kernel)) (d - 1) (by omega) _ (fun v h0 H => H)) (fun v1 h52 H => ?_)
  obtain ⟨z55, rfl, b56, hT53, hF54⟩ := H
  have hF57 := Fr_cp hF47 hF54 (by decide +kernel : Wsub W275 W276 = true)
  refine st_iadd c276_116 ?_
  refine st_goto c276_117 ?_
  refine st_ireturn c276_122 ?_
  exact hQ _ _ ⟨z45 + z55, rfl, by omega, hT53, hF57⟩
  refine st_aload c276_97 rfl ?_
  refine st_getI c276_98 hT43 (tf hT43 rfl rfl) fd_8_96 (fun e58 e59 => ?_)
  refine st_ireturn c276_101 ?_
  exact hQ _ _ ⟨fI h42 64 96, rfl, by omega, hT43, hF47⟩
  refine st_aload c276_75 rfl ?_
  refine st_iconst c276_76 ?_
  refine st_iload c276_77 rfl ?_
  refine st_iload c276_78 rfl ?_
  refine st_callt (as := [vI 1, vI p1, vI p2]) c276_79 cm_275 hT37 (tf hT37 rfl rfl) fd_8_0 rfl rfl rfl rfl (by omega) (K275 hT37 (Stb_mono hS (by decide +kernel)) 1 (by omega) p1 (by omega) p2 (by omega) (I4_fr pre1 hT hF39 (by decide +kernel)) (d - 1) (by omega) _ (fun v h0 H => H)) (fun v1 h60 H => ?_)
  obtain ⟨z63, rfl, b64, hT61, hF62⟩ := H
  have hF65 := Fr_cp hF39 hF62 (by decide +kernel : Wsub W275 W276 = true)
  refine st_ireturn c276_82 ?_
  exact hQ _ _ ⟨z63, rfl, by omega, hT61, hF65⟩
  refine st_iconst c276_54 ?_
  refine st_goto c276_55 ?_
  refine st_callt (as := [vI p1, vI 1]) c276_59 cm_244 hT (tf hT rfl rfl) fd_8_0 rfl rfl rfl rfl (by omega) (K244 hT p1 (by omega) 1 (by omega) (d - 1) (by omega) _ (fun v h0 H => H)) (fun v1 h1 H => ?_)
  obtain ⟨z66, rfl, b67, rfl⟩ := H
  refine st_aload c276_62 rfl ?_
  refine st_iload c276_63 rfl ?_
  refine st_callt (as := [vI p1]) c276_64 cm_241 hT (tf hT rfl rfl) fd_8_0 rfl rfl rfl rfl (by omega) (K241 hT p1 (by omega) (d - 1) (by omega) _ (fun v h0 H => H)) (fun v1 h1 H => ?_)
  obtain ⟨z68, rfl, b69, rfl⟩ := H
  refine st_callt (as := [vI p1, vI z66, vI z68]) c276_67 cm_273 hT (tf hT rfl rfl) fd_8_0 rfl rfl rfl rfl (by omega) (K273 hT (Stb_mono hS (by decide +kernel)) p1 (by omega) z66 (by omega) z68 (by omega) pre0 (by omega) (d - 1) (by omega) _ (fun v h0 H => H)) (fun v1 h70 H => ?_)
  obtain ⟨rfl, hT71, hF72⟩ := H
  have hF73 := Fr_cp hF hF72 (by decide +kernel : Wsub W273 W276 = true)
  refine st_iload c276_70 rfl ?_
  refine st_iconst c276_71 ?_
  refine st_icmp_ne c276_72 (by omega) (by omega) (fun k74 => ?_) (fun k75 => False.elim (by omega))
  refine st_aload c276_83 rfl ?_
  refine st_iconst c276_84 ?_
  refine st_iload c276_85 rfl ?_
  refine st_iload c276_86 rfl ?_
  refine st_callt (as := [vI 0, vI p1, vI p2]) c276_87 cm_275 hT71 (tf hT71 rfl rfl) fd_8_0 rfl rfl rfl rfl (by omega) (K275 hT71 (Stb_mono hS (by decide +kernel)) 0 (by omega) p1 (by omega) p2 (by omega) (I4_fr pre1 hT hF73 (by decide +kernel)) (d - 1) (by omega) _ (fun v h0 H => H)) (fun v1 h76 H => ?_)
  obtain ⟨z79, rfl, b80, hT77, hF78⟩ := H
  have hF81 := Fr_cp hF73 hF78 (by decide +kernel : Wsub W275 W276 = true)
  refine st_istore (L' := [some (.ref 64), some (vI p1), some (vI p2), some (vI p3), some (vI z79)]) c276_90 rfl rfl ?_
  refine st_iload c276_92 rfl ?_
  refine st_iconst c276_93 ?_
  refine st_icmp_ne c276_94 (by omega) (by omega) (fun k82 => ?_) (fun k83 => False.elim (by omega))
  refine st_iload c276_102 rfl ?_
  refine st_iconst c276_103 ?_
  refine st_icmp_ne c276_104 (by omega) (by omega) (fun k84 => ?_) (fun k85 => False.elim (by omega))
  refine st_iload c276_120 rfl ?_
  refine st_ireturn c276_122 ?_
  exact hQ _ _ ⟨z79, rfl, by omega, hT77, hF81⟩
  refine st_iconst c276_45 ?_
  refine st_goto c276_46 ?_
  refine st_callt (as := [vI p1, vI 0]) c276_59 cm_244 hT (tf hT rfl rfl) fd_8_0 rfl rfl rfl rfl (by omega) (K244 hT p1 (by omega) 0 (by omega) (d - 1) (by omega) _ (fun v h0 H => H)) (fun v1 h1 H => ?_)
  obtain ⟨z86, rfl, b87, rfl⟩ := H
  refine st_aload c276_62 rfl ?_
  refine st_iload c276_63 rfl ?_
  refine st_callt (as := [vI p1]) c276_64 cm_241 hT (tf hT rfl rfl) fd_8_0 rfl rfl rfl rfl (by omega) (K241 hT p1 (by omega) (d - 1) (by omega) _ (fun v h0 H => H)) (fun v1 h1 H => ?_)
  obtain ⟨z88, rfl, b89, rfl⟩ := H
  refine st_callt (as := [vI p1, vI z86, vI z88]) c276_67 cm_273 hT (tf hT rfl rfl) fd_8_0 rfl rfl rfl rfl (by omega) (K273 hT (Stb_mono hS (by decide +kernel)) p1 (by omega) z86 (by omega) z88 (by omega) pre0 (by omega) (d - 1) (by omega) _ (fun v h0 H => H)) (fun v1 h90 H => ?_)
  obtain ⟨rfl, hT91, hF92⟩ := H
  have hF93 := Fr_cp hF hF92 (by decide +kernel : Wsub W273 W276 = true)
  refine st_iload c276_70 rfl ?_
  refine st_iconst c276_71 ?_
  refine st_icmp_ne c276_72 (by omega) (by omega) (fun k94 => ?_) (fun k95 => False.elim (by omega))
  refine st_aload c276_83 rfl ?_
  refine st_iconst c276_84 ?_
  refine st_iload c276_85 rfl ?_
  refine st_iload c276_86 rfl ?_
  refine st_callt (as := [vI 0, vI p1, vI p2]) c276_87 cm_275 hT91 (tf hT91 rfl rfl) fd_8_0 rfl rfl rfl rfl (by omega) (K275 hT91 (Stb_mono hS (by decide +kernel)) 0 (by omega) p1 (by omega) p2 (by omega) (I4_fr pre1 hT hF93 (by decide +kernel)) (d - 1) (by omega) _ (fun v h0 H => H)) (fun v1 h96 H => ?_)
  obtain ⟨z99, rfl, b100, hT97, hF98⟩ := H
  have hF101 := Fr_cp hF93 hF98 (by decide +kernel : Wsub W275 W276 = true)
  refine st_istore (L' := [some (.ref 64), some (vI p1), some (vI p2), some (vI p3), some (vI z99)]) c276_90 rfl rfl ?_
  refine st_iload c276_92 rfl ?_
  refine st_iconst c276_93 ?_
  refine st_icmp_ne c276_94 (by omega) (by omega) (fun k102 => ?_) (fun k103 => False.elim (by omega))
  refine st_iload c276_102 rfl ?_
  refine st_iconst c276_103 ?_
  refine st_icmp_ne c276_104 (by omega) (by omega) (fun k104 => ?_) (fun k105 => False.elim (by omega))
  refine st_iload c276_120 rfl ?_
  refine st_ireturn c276_122 ?_
  exact hQ _ _ ⟨z99, rfl, by omega, hT97, hF101⟩
def W277 : List (Nat × Nat) := [(8, 96), (110, 0), (111, 0)]
set_option maxHeartbeats 0 in
theorem K277 {Ln : Nat} {xs : Nat → Int32} {τ : List Nat} {h : List mE} {E : EP} (hT : TH E τ h) (hS : Stb E W277) (p1 : Int) (hp1 : (-2147483648) ≤ p1 ∧ p1 ≤ 2147483647) (p2 : Int) (hp2 : (-2147483648) ≤ p2 ∧ p2 ≤ 2147483647) (pre0 : I3 h) (pre1 : I4 h) (d : Nat) (hd : 3 ≤ d) (Q : Option Value → List mE → Prop) (hQ : ∀ v h', (∃ z : Int, v = some (vI z) ∧ ((-2) ≤ z ∧ z ≤ 66) ∧ TH E τ h' ∧ Fr τ W277 h h') → Q v h') : MR (mex Ln xs) d 277 0 [some (.ref 64), some (vI p1), some (vI p2), none, none] [] h Q := by
  have hF := Fr_rf τ W277 h
  refine st_aload c277_0 rfl ?_
  refine st_iload c277_1 rfl ?_
  have e1 := fI_bd (q := 64) hT (tf hT rfl rfl) fd_8_48
  refine st_callt (as := [vI p1]) c277_2 cm_216 hT (tf hT rfl rfl) fd_8_0 rfl rfl rfl rfl (by omega) (K216 hT p1 (by omega) (d - 1) (by omega) _ (fun v h0 H => H)) (fun v1 h1 H => ?_)
  rcases H with ⟨rfl, pf2, rfl⟩ | ⟨rfl, pf3, pf4, rfl⟩
  refine st_if_eq c277_5 (by omega) (fun k5 => ?_) (fun k6 => False.elim (by omega))
  refine st_iconst c277_18 ?_
  refine st_ireturn c277_19 ?_
  exact hQ _ _ ⟨(-1), rfl, by omega, hT, hF⟩
  refine st_if_eq c277_5 (by omega) (fun k7 => False.elim (by omega)) (fun k8 => ?_)
  refine st_iload c277_8 rfl ?_
  refine st_iconst c277_9 ?_
  refine st_iconst c277_10 ?_
  refine st_calls (as := [vI p2, vI 1, vI 60]) c277_12 cm_180 rfl rfl rfl rfl (by omega) (K180 hT p2 (by omega) 1 (by omega) 60 (by omega) (d - 1) (by omega) _ (fun v h0 H => H)) (fun v1 h1 H => ?_)
  rcases H with ⟨rfl, pf9, rfl⟩ | ⟨rfl, pf10, pf11, rfl⟩
  refine st_if_ne c277_15 (by omega) (fun k12 => False.elim (by omega)) (fun k13 => ?_)
  refine st_iconst c277_18 ?_
  refine st_ireturn c277_19 ?_
  exact hQ _ _ ⟨(-1), rfl, by omega, hT, hF⟩
  refine st_if_ne c277_15 (by omega) (fun k14 => ?_) (fun k15 => False.elim (by omega))
  refine st_aload c277_20 rfl ?_
  refine st_iload c277_21 rfl ?_
  refine st_callt (as := [vI p1]) c277_22 cm_236 hT (tf hT rfl rfl) fd_8_0 rfl rfl rfl rfl (by omega) (K236 hT p1 (by omega) (d - 1) (by omega) _ (fun v h0 H => H)) (fun v1 h1 H => ?_)
  rcases H with ⟨rfl, rfl⟩ | ⟨rfl, pf16, rfl⟩
  refine st_if_ne c277_25 (by omega) (fun k17 => False.elim (by omega)) (fun k18 => ?_)
  refine st_iconst c277_28 ?_
  refine st_ireturn c277_30 ?_
  exact hQ _ _ ⟨(-2), rfl, by omega, hT, hF⟩
  refine st_if_ne c277_25 (by omega) (fun k19 => ?_) (fun k20 => False.elim (by omega))
  refine st_aload c277_31 rfl ?_
  refine st_iload c277_32 rfl ?_
  refine st_iload c277_33 rfl ?_
  refine st_iload c277_34 rfl ?_
  refine st_callt (as := [vI p1, vI p2, vI p2]) c277_35 cm_273 hT (tf hT rfl rfl) fd_8_0 rfl rfl rfl rfl (by omega) (K273 hT (Stb_mono hS (by decide +kernel)) p1 (by omega) p2 (by omega) p2 (by omega) pre0 (by omega) (d - 1) (by omega) _ (fun v h0 H => H)) (fun v1 h21 H => ?_)
  obtain ⟨rfl, hT22, hF23⟩ := H
  have hF24 := Fr_cp hF hF23 (by decide +kernel : Wsub W273 W277 = true)
  refine st_aload c277_38 rfl ?_
  refine st_iconst c277_39 ?_
  refine st_iload c277_40 rfl ?_
  refine st_aload c277_41 rfl ?_
  refine st_callt (as := []) c277_42 cm_182 hT22 (tf hT22 rfl rfl) fd_8_0 rfl rfl rfl rfl (by omega) (K182 hT22 (d - 1) (by omega) _ (fun v h0 H => H)) (fun v1 h1 H => ?_)
  obtain ⟨z25, rfl, b26, rfl⟩ := H
  refine st_callt (as := [vI 0, vI p1, vI z25]) c277_45 cm_275 hT22 (tf hT22 rfl rfl) fd_8_0 rfl rfl rfl rfl (by omega) (K275 hT22 (Stb_mono hS (by decide +kernel)) 0 (by omega) p1 (by omega) z25 (by omega) (I4_fr pre1 hT hF24 (by decide +kernel)) (d - 1) (by omega) _ (fun v h0 H => H)) (fun v1 h27 H => ?_)
  obtain ⟨z30, rfl, b31, hT28, hF29⟩ := H
  have hF32 := Fr_cp hF24 hF29 (by decide +kernel : Wsub W275 W277 = true)
  refine st_istore (L' := [some (.ref 64), some (vI p1), some (vI p2), some (vI z30), none]) c277_48 rfl rfl ?_
  refine st_iload c277_49 rfl ?_
  refine st_iconst c277_50 ?_
  refine st_iadd c277_51 ?_
  refine st_istore (L' := [some (.ref 64), some (vI p1), some (vI p2), some (vI z30), some (vI (p2 + 1))]) c277_52 rfl rfl ?_
  have lp126 : ∀ (n127 : Nat) (z121 : Int) (h122 : List mE), (67 : Int) - z121 < (n127 : Int) → 2 ≤ z121 ∧ z121 ≤ 67 → TH E τ h122 → Fr τ W277 h h122 → Fr τ [(8, 96), (110, 0), (111, 0)] h27 h122 → MR (mex Ln xs) d 277 54 [some (.ref 64), some (vI p1), some (vI p2), some (vI z30), some (vI z121)] [] h122 Q := by
    intro n127
    induction n127 with
    | zero =>
      intro z121 h122 hm129 b130 hT123 hF124 hL125
      exfalso; omega
    | succ n127 ih128 =>
      intro z121 h122 hm129 b130 hT123 hF124 hL125
      refine st_iload c277_54 rfl ?_
      refine st_iload c277_56 rfl ?_
      refine st_iconst c277_57 ?_
      refine st_iadd c277_59 ?_
      refine st_icmp_gt c277_60 (by omega) (by omega) (fun k131 => ?_) (fun k132 => ?_)
      refine st_iconst c277_95 ?_
      refine st_ireturn c277_97 ?_
      exact hQ _ _ ⟨(-2), rfl, by omega, hT123, hF124⟩
      refine st_aload c277_63 rfl ?_
      refine st_iload c277_64 rfl ?_
      refine st_iload c277_65 rfl ?_
      refine st_iload c277_67 rfl ?_
      have q133 : aI h122 109 p1 = aI h 109 p1 := (Fr_aI hL125 (tf hT28 rfl rfl) (by decide +kernel) p1).trans ((Fr_aI hF29 (tf hT22 rfl rfl) (by decide +kernel) p1).trans (Fr_aI hF23 (tf hT rfl rfl) (by decide +kernel) p1))
      refine st_callt (as := [vI p1, vI z121, vI z121]) c277_69 cm_273 hT123 (tf hT123 rfl rfl) fd_8_0 rfl rfl rfl rfl (by omega) (K273 hT123 (Stb_mono hS (by decide +kernel)) p1 (by omega) z121 (by omega) z121 (by omega) (I3_fr pre0 hT hF124 (by decide +kernel)) (by omega) (d - 1) (by omega) _ (fun v h0 H => H)) (fun v1 h134 H => ?_)
      obtain ⟨rfl, hT135, hF136⟩ := H
      have hF137 := Fr_cp hF124 hF136 (by decide +kernel : Wsub W273 W277 = true)
      refine st_aload c277_72 rfl ?_
      refine st_iconst c277_73 ?_
      refine st_iload c277_74 rfl ?_
      refine st_aload c277_75 rfl ?_
      refine st_callt (as := []) c277_76 cm_182 hT135 (tf hT135 rfl rfl) fd_8_0 rfl rfl rfl rfl (by omega) (K182 hT135 (d - 1) (by omega) _ (fun v h0 H => H)) (fun v1 h1 H => ?_)
      obtain ⟨z138, rfl, b139, rfl⟩ := H
      refine st_callt (as := [vI 0, vI p1, vI z138]) c277_79 cm_275 hT135 (tf hT135 rfl rfl) fd_8_0 rfl rfl rfl rfl (by omega) (K275 hT135 (Stb_mono hS (by decide +kernel)) 0 (by omega) p1 (by omega) z138 (by omega) (I4_fr pre1 hT hF137 (by decide +kernel)) (d - 1) (by omega) _ (fun v h0 H => H)) (fun v1 h140 H => ?_)
      obtain ⟨z143, rfl, b144, hT141, hF142⟩ := H
      have hF145 := Fr_cp hF137 hF142 (by decide +kernel : Wsub W275 W277 = true)
      refine st_iload c277_82 rfl ?_
      refine st_icmp_ge c277_83 (by omega) (by omega) (fun k146 => ?_) (fun k147 => ?_)
      refine st_iinc (L' := [some (.ref 64), some (vI p1), some (vI p2), some (vI z30), some (vI (z121 + 1))]) c277_89 rfl rfl rfl ?_
      refine st_goto c277_92 ?_
      exact ih128 (z121 + 1) h140 (by omega) (by omega) hT141 hF145 (Fr_cp (Fr_cp hL125 hF136 (by decide +kernel)) hF142 (by decide +kernel))
      refine st_iload c277_86 rfl ?_
      refine st_ireturn c277_88 ?_
      exact hQ _ _ ⟨z121, rfl, by omega, hT141, hF145⟩
  exact lp126 ((((67 : Int) - (p2 + 1) : Int) + 1).toNat) (p2 + 1) h27 (by omega) (by omega) hT28 hF32 (Fr_rf _ _ _)
