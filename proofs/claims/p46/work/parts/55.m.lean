set_option maxHeartbeats 0 in
theorem K223 {Ln : Nat} {xs : Nat → Int32} {τ : List Nat} {h : List mE} {E : EP} (hT : TH E τ h) (p1 : Int) (hp1 : 0 ≤ p1 ∧ p1 ≤ 5) (p2 : Int) (hp2 : 0 ≤ p2 ∧ p2 ≤ 89) (d : Nat) (hd : 0 ≤ d) (Q : Option Value → List mE → Prop) (hQ : ∀ v h', ((v = some (vI 0) ∧ h = h') ∨ (v = some (vI 1) ∧ h = h')) → Q v h') : MR (mex Ln xs) d 223 0 [some (.ref 64), some (vI p1), some (vI p2)] [] h Q := by
  refine st_aload c223_0 rfl ?_
  refine st_getX (u := 117) c223_1 hT (tf hT rfl rfl) fd_8_66 rfl ?_
  refine st_iload c223_4 rfl ?_
  refine st_bald c223_5 hT (tf hT rfl rfl) ay_95 (Or.inl rfl) (by omega) (fun e1 e2 => ?_)
  refine st_if_ne c223_6 (by omega) (fun k3 => ?_) (fun k4 => ?_)
  refine st_iconst c223_29 ?_
  refine st_zreturn c223_30 (by omega) ?_
  exact hQ _ _ (Or.inl ⟨rfl, rfl⟩)
  refine st_aload c223_9 rfl ?_
  refine st_getX (u := 120) c223_10 hT (tf hT rfl rfl) fd_8_69 rfl ?_
  refine st_iconst c223_13 ?_
  refine st_iload c223_15 rfl ?_
  refine st_imul c223_16 ?_
  refine st_iload c223_17 rfl ?_
  refine st_iadd c223_18 ?_
  refine st_jald c223_19 hT (tf hT rfl rfl) ay_98 (by omega) (fun w5 => ?_)
  refine st_lconst c223_20 ?_
  refine st_lcmp c223_21 (fun w6 e7 e8 => ?_)
  refine st_if_lt c223_22 (by omega) (fun k9 => ?_) (fun k10 => ?_)
  refine st_iconst c223_29 ?_
  refine st_zreturn c223_30 (by omega) ?_
  exact hQ _ _ (Or.inl ⟨rfl, rfl⟩)
  refine st_iconst c223_25 ?_
  refine st_goto c223_26 ?_
  refine st_zreturn c223_30 (by omega) ?_
  exact hQ _ _ (Or.inr ⟨rfl, rfl⟩)
set_option maxHeartbeats 0 in
theorem K225 {Ln : Nat} {xs : Nat → Int32} {τ : List Nat} {h : List mE} {E : EP} (hT : TH E τ h) (p1 : Int) (hp1 : 0 ≤ p1 ∧ p1 ≤ 5) (p2 : Int) (hp2 : 0 ≤ p2 ∧ p2 ≤ 89) (d : Nat) (hd : 1 ≤ d) (Q : Option Value → List mE → Prop) (hQ : ∀ v h', (∃ w : Int64, v = some (.long w) ∧ h = h') → Q v h') : MR (mex Ln xs) d 225 0 [some (.ref 64), some (vI p1), some (vI p2)] [] h Q := by
  refine st_lconst c225_0 ?_
  refine st_lconst c225_3 ?_
  refine st_aload c225_6 rfl ?_
  refine st_aload c225_7 rfl ?_
  refine st_getX (u := 79) c225_8 hT (tf hT rfl rfl) fd_8_19 rfl ?_
  refine st_iload c225_11 rfl ?_
  refine st_iald c225_12 hT (tf hT rfl rfl) ay_57 (by omega) (fun e1 e2 => ?_)
  refine st_aload c225_13 rfl ?_
  refine st_aload c225_14 rfl ?_
  refine st_getX (u := 116) c225_15 hT (tf hT rfl rfl) fd_8_63 rfl ?_
  refine st_iload c225_18 rfl ?_
  refine st_iald c225_19 hT (tf hT rfl rfl) ay_94 (by omega) (fun e3 e4 => ?_)
  refine st_callt (as := [vI (aI h 116 p1)]) c225_20 cm_219 hT (tf hT rfl rfl) fd_8_0 rfl rfl rfl rfl (by omega) (K219 hT (aI h 116 p1) (by omega) (d - 1) (by omega) _ (fun v h0 H => H)) (fun v1 h1 H => ?_)
  obtain ⟨z5, rfl, b6, rfl⟩ := H
  refine st_callt (as := [vI (aI h 79 p2), vI z5]) c225_23 cm_184 hT (tf hT rfl rfl) fd_8_0 rfl rfl rfl rfl (by omega) (K184 hT (aI h 79 p2) (by omega) z5 (by omega) (d - 1) (by omega) _ (fun v h0 H => H)) (fun v1 h1 H => ?_)
  obtain ⟨z8, rfl, b9, pf7, rfl⟩ := H
  refine st_i2l c225_26 (fun w10 => ?_)
  refine st_lmul c225_27 (fun w11 => ?_)
  refine st_lsub c225_28 (fun w12 => ?_)
  refine st_aload c225_29 rfl ?_
  refine st_getX (u := 76) c225_30 hT (tf hT rfl rfl) fd_8_16 rfl ?_
  refine st_iload c225_33 rfl ?_
  refine st_iald c225_34 hT (tf hT rfl rfl) ay_54 (by omega) (fun e13 e14 => ?_)
  refine st_aload c225_35 rfl ?_
  refine st_getX (u := 104) c225_36 hT (tf hT rfl rfl) fd_8_50 rfl ?_
  refine st_aload c225_39 rfl ?_
  refine st_getX (u := 116) c225_40 hT (tf hT rfl rfl) fd_8_63 rfl ?_
  refine st_iload c225_43 rfl ?_
  refine st_iald c225_44 hT (tf hT rfl rfl) ay_94 (by omega) (fun e15 e16 => ?_)
  refine st_iald c225_45 hT (tf hT rfl rfl) ay_82 (by omega) (fun e17 e18 => ?_)
  refine st_icmp_ne c225_46 (by omega) (by omega) (fun k19 => ?_) (fun k20 => ?_)
  refine st_lconst c225_53 ?_
  refine st_lsub c225_54 (fun w21 => ?_)
  refine st_lreturn c225_55 ?_
  exact hQ _ _ ⟨_, rfl, rfl⟩
  refine st_lconst c225_49 ?_
  refine st_goto c225_50 ?_
  refine st_lsub c225_54 (fun w22 => ?_)
  refine st_lreturn c225_55 ?_
  exact hQ _ _ ⟨_, rfl, rfl⟩
def W224 : List (Nat × Nat) := [(98, 0)]
set_option maxHeartbeats 0 in
theorem K224 {Ln : Nat} {xs : Nat → Int32} {τ : List Nat} {h : List mE} {E : EP} (hT : TH E τ h) (hS : Stb E W224) (d : Nat) (hd : 3 ≤ d) (Q : Option Value → List mE → Prop) (hQ : ∀ v h', (v = none ∧ TH E τ h' ∧ Fr τ W224 h h') → Q v h') : MR (mex Ln xs) d 224 0 [some (.ref 64), none, none] [] h Q := by
  have hF := Fr_rf τ W224 h
  refine st_iconst c224_0 ?_
  refine st_istore (L' := [some (.ref 64), some (vI 0), none]) c224_1 rfl rfl ?_
  have lp1278 : ∀ (n1279 : Nat) (z1273 : Int) (h1274 : List mE), (6 : Int) - z1273 < (n1279 : Int) → 0 ≤ z1273 ∧ z1273 ≤ 6 → TH E τ h1274 → Fr τ W224 h h1274 → Fr τ [(98, 0)] h h1274 → MR (mex Ln xs) d 224 2 [some (.ref 64), some (vI z1273), none] [] h1274 Q := by
    intro n1279
    induction n1279 with
    | zero =>
      intro z1273 h1274 hm1281 b1282 hT1275 hF1276 hL1277
      exfalso; omega
    | succ n1279 ih1280 =>
      intro z1273 h1274 hm1281 b1282 hT1275 hF1276 hL1277
      refine st_iload c224_2 rfl ?_
      refine st_aload c224_3 rfl ?_
      refine st_getI c224_4 hT1275 (tf hT1275 rfl rfl) fd_8_62 (fun e1283 e1284 => ?_)
      have q1285 : fI h1274 64 62 = fI h 64 62 := Fr_fI hL1277 (tf hT rfl rfl) (by decide +kernel)
      refine st_icmp_ge c224_7 (by omega) (by omega) (fun k1286 => ?_) (fun k1287 => ?_)
      refine st_return c224_83 ?_
      exact hQ _ _ ⟨rfl, hT1275, hF1276⟩
      refine st_iconst c224_10 ?_
      refine st_istore (L' := [some (.ref 64), some (vI z1273), some (vI 0)]) c224_11 rfl rfl ?_
      have lp1559 : ∀ (n1560 : Nat) (z1554 : Int) (h1555 : List mE), (90 : Int) - z1554 < (n1560 : Int) → 0 ≤ z1554 ∧ z1554 ≤ 90 → TH E τ h1555 → Fr τ W224 h h1555 → Fr τ [(98, 0)] h1274 h1555 → MR (mex Ln xs) d 224 12 [some (.ref 64), some (vI z1273), some (vI z1554)] [] h1555 Q := by
        intro n1560
        induction n1560 with
        | zero =>
          intro z1554 h1555 hm1562 b1563 hT1556 hF1557 hL1558
          exfalso; omega
        | succ n1560 ih1561 =>
          intro z1554 h1555 hm1562 b1563 hT1556 hF1557 hL1558
          refine st_iload c224_12 rfl ?_
          refine st_aload c224_13 rfl ?_
          refine st_getI c224_14 hT1556 (tf hT1556 rfl rfl) fd_8_15 (fun e1564 e1565 => ?_)
          have q1566 : fI h1555 64 15 = fI h 64 15 := (Fr_fI hL1558 (tf hT1275 rfl rfl) (by decide +kernel)).trans (Fr_fI hL1277 (tf hT rfl rfl) (by decide +kernel))
          refine st_icmp_ge c224_17 (by omega) (by omega) (fun k1567 => ?_) (fun k1568 => ?_)
          refine st_iinc (L' := [some (.ref 64), some (vI (z1273 + 1)), some (vI z1554)]) c224_77 rfl rfl rfl ?_
          refine st_goto c224_80 ?_
          refine MR_weak (A := [some (.ref 64), some (vI (z1273 + 1)), none]) (Lle_s (Lle_s (Lle_n (Lle_0)))) ?_
          exact ih1280 (z1273 + 1) h1555 (by omega) (by omega) hT1556 hF1557 (Fr_cp hL1277 hL1558 (by decide +kernel))
          refine st_aload c224_20 rfl ?_
          refine st_getX (u := 120) c224_21 hT1556 (tf hT1556 rfl rfl) fd_8_69 rfl ?_
          refine st_iconst c224_24 ?_
          refine st_iload c224_26 rfl ?_
          refine st_imul c224_27 ?_
          refine st_iload c224_28 rfl ?_
          refine st_iadd c224_29 ?_
          refine st_aload c224_30 rfl ?_
          refine st_getX (u := 109) c224_31 hT1556 (tf hT1556 rfl rfl) fd_8_55 rfl ?_
          refine st_aload c224_34 rfl ?_
          refine st_getX (u := 116) c224_35 hT1556 (tf hT1556 rfl rfl) fd_8_63 rfl ?_
          refine st_iload c224_38 rfl ?_
          refine st_iald c224_39 hT1556 (tf hT1556 rfl rfl) ay_94 (by omega) (fun e1569 e1570 => ?_)
          have q1571 : aI h1555 116 z1273 = aI h 116 z1273 := (Fr_aI hL1558 (tf hT1275 rfl rfl) (by decide +kernel) z1273).trans (Fr_aI hL1277 (tf hT rfl rfl) (by decide +kernel) z1273)
          refine st_iald c224_40 hT1556 (tf hT1556 rfl rfl) ay_87 (by omega) (fun e1572 e1573 => ?_)
          have q1574 : aI h1555 109 (aI h1555 116 z1273) = aI h 109 (aI h1555 116 z1273) := (Fr_aI hL1558 (tf hT1275 rfl rfl) (by decide +kernel) (aI h1555 116 z1273)).trans (Fr_aI hL1277 (tf hT rfl rfl) (by decide +kernel) (aI h1555 116 z1273))
          refine st_if_ne c224_41 (by omega) (fun k1575 => ?_) (fun k1576 => ?_)
          refine st_lconst c224_67 ?_
          refine st_jast c224_70 hT1556 (tf hT1556 rfl rfl) ay_98 (by omega) hS hF1557 (fun h1577 hT1578 hF1579 hU1580 => ?_)
          refine st_iinc (L' := [some (.ref 64), some (vI z1273), some (vI (z1554 + 1))]) c224_71 rfl rfl rfl ?_
          refine st_goto c224_74 ?_
          exact ih1561 (z1554 + 1) h1577 (by omega) (by omega) hT1578 hF1579 (JUp_Fr hL1558 hU1580)
          refine st_aload c224_44 rfl ?_
          refine st_iload c224_45 rfl ?_
          refine st_aload c224_46 rfl ?_
          refine st_getX (u := 116) c224_47 hT1556 (tf hT1556 rfl rfl) fd_8_63 rfl ?_
          refine st_iload c224_50 rfl ?_
          refine st_iald c224_51 hT1556 (tf hT1556 rfl rfl) ay_94 (by omega) (fun e1581 e1582 => ?_)
          have q1583 : aI h1555 116 z1273 = aI h 116 z1273 := (Fr_aI hL1558 (tf hT1275 rfl rfl) (by decide +kernel) z1273).trans (Fr_aI hL1277 (tf hT rfl rfl) (by decide +kernel) z1273)
          refine st_callt (as := [vI z1554, vI (aI h1555 116 z1273)]) c224_52 cm_220 hT1556 (tf hT1556 rfl rfl) fd_8_0 rfl rfl rfl rfl (by omega) (K220 hT1556 z1554 (by omega) (aI h1555 116 z1273) (by omega) (d - 1) (by omega) _ (fun v h0 H => H)) (fun v1 h1 H => ?_)
          obtain ⟨z1584, rfl, b1585, rfl⟩ := H
          refine st_if_ne c224_55 (by omega) (fun k1586 => ?_) (fun k1587 => ?_)
          refine st_lconst c224_67 ?_
          refine st_jast c224_70 hT1556 (tf hT1556 rfl rfl) ay_98 (by omega) hS hF1557 (fun h1588 hT1589 hF1590 hU1591 => ?_)
          refine st_iinc (L' := [some (.ref 64), some (vI z1273), some (vI (z1554 + 1))]) c224_71 rfl rfl rfl ?_
          refine st_goto c224_74 ?_
          exact ih1561 (z1554 + 1) h1588 (by omega) (by omega) hT1589 hF1590 (JUp_Fr hL1558 hU1591)
          refine st_aload c224_58 rfl ?_
          refine st_iload c224_59 rfl ?_
          refine st_iload c224_60 rfl ?_
          refine st_callt (as := [vI z1273, vI z1554]) c224_61 cm_225 hT1556 (tf hT1556 rfl rfl) fd_8_0 rfl rfl rfl rfl (by omega) (K225 hT1556 z1273 (by omega) z1554 (by omega) (d - 1) (by omega) _ (fun v h0 H => H)) (fun v1 h1 H => ?_)
          obtain ⟨w1592, rfl, rfl⟩ := H
          refine st_goto c224_64 ?_
          refine st_jast c224_70 hT1556 (tf hT1556 rfl rfl) ay_98 (by omega) hS hF1557 (fun h1593 hT1594 hF1595 hU1596 => ?_)
          refine st_iinc (L' := [some (.ref 64), some (vI z1273), some (vI (z1554 + 1))]) c224_71 rfl rfl rfl ?_
          refine st_goto c224_74 ?_
          exact ih1561 (z1554 + 1) h1593 (by omega) (by omega) hT1594 hF1595 (JUp_Fr hL1558 hU1596)
      exact lp1559 ((((90 : Int) - 0 : Int) + 1).toNat) 0 h1274 (by omega) (by omega) hT1275 hF1276 (Fr_rf _ _ _)
  exact lp1278 ((((6 : Int) - 0 : Int) + 1).toNat) 0 h (by omega) (by omega) hT hF (Fr_rf _ _ _)
def W226 : List (Nat × Nat) := [(97, 0)]
set_option maxHeartbeats 0 in
theorem K226 {Ln : Nat} {xs : Nat → Int32} {τ : List Nat} {h : List mE} {E : EP} (hT : TH E τ h) (hS : Stb E W226) (p1 : Int) (hp1 : 0 ≤ p1 ∧ p1 ≤ 6) (pre0 : p1≤fI h 64 62) (d : Nat) (hd : 1 ≤ d) (Q : Option Value → List mE → Prop) (hQ : ∀ v h', (∃ w : Int64, v = some (.long w) ∧ TH E τ h' ∧ Fr τ W226 h h') → Q v h') : MR (mex Ln xs) d 226 0 [some (.ref 64), some (vI p1), none, none, none, none, none, none] [] h Q := by
  have hF := Fr_rf τ W226 h
  have e1 := fI_bd (q := 64) hT (tf hT rfl rfl) fd_8_62
  refine st_aload c226_0 rfl ?_
  refine st_getI c226_1 hT (tf hT rfl rfl) fd_8_62 (fun e2 e3 => ?_)
  refine st_iload c226_4 rfl ?_
  refine st_isub c226_5 ?_
  refine st_istore (L' := [some (.ref 64), some (vI p1), some (vI ((fI h 64 62) - p1)), none, none, none, none, none]) c226_6 rfl rfl ?_
  refine st_iconst c226_7 ?_
  refine st_istore (L' := [some (.ref 64), some (vI p1), some (vI ((fI h 64 62) - p1)), some (vI 0), none, none, none, none]) c226_8 rfl rfl ?_
  have lp138 : ∀ (n139 : Nat) (z133 : Int) (h134 : List mE), (64 : Int) - z133 < (n139 : Int) → 0 ≤ z133 ∧ z133 ≤ 64 → TH E τ h134 → Fr τ W226 h h134 → Fr τ [(97, 0)] h h134 → MR (mex Ln xs) d 226 9 [some (.ref 64), some (vI p1), some (vI ((fI h 64 62) - p1)), some (vI z133), none, none, none, none] [] h134 Q := by
    intro n139
    induction n139 with
    | zero =>
      intro z133 h134 hm141 b142 hT135 hF136 hL137
      exfalso; omega
    | succ n139 ih140 =>
      intro z133 h134 hm141 b142 hT135 hF136 hL137
      refine st_iload c226_9 rfl ?_
      refine st_iconst c226_10 ?_
      refine st_iload c226_11 rfl ?_
      refine st_ishl1 c226_12 (by omega) (fun e143 e144 => ?_)
      refine st_icmp_ge c226_13 (by omega) (by omega) (fun k145 => ?_) (fun k146 => ?_)
      refine st_iconst c226_39 ?_
      refine st_istore (L' := [some (.ref 64), some (vI p1), some (vI ((fI h 64 62) - p1)), some (vI 0), none, none, none, none]) c226_40 rfl rfl ?_
      have lp4954 : ∀ (n4955 : Nat) (z4949 : Int) (h4950 : List mE), (90 : Int) - z4949 < (n4955 : Int) → 0 ≤ z4949 ∧ z4949 ≤ 90 → TH E τ h4950 → Fr τ W226 h h4950 → Fr τ [(97, 0)] h134 h4950 → MR (mex Ln xs) d 226 41 [some (.ref 64), some (vI p1), some (vI ((fI h 64 62) - p1)), some (vI z4949), none, none, none, none] [] h4950 Q := by
        intro n4955
        induction n4955 with
        | zero =>
          intro z4949 h4950 hm4957 b4958 hT4951 hF4952 hL4953
          exfalso; omega
        | succ n4955 ih4956 =>
          intro z4949 h4950 hm4957 b4958 hT4951 hF4952 hL4953
          refine st_iload c226_41 rfl ?_
          refine st_aload c226_42 rfl ?_
          refine st_getI c226_43 hT4951 (tf hT4951 rfl rfl) fd_8_15 (fun e4959 e4960 => ?_)
          have q4961 : fI h4950 64 15 = fI h 64 15 := (Fr_fI hL4953 (tf hT135 rfl rfl) (by decide +kernel)).trans (Fr_fI hL137 (tf hT rfl rfl) (by decide +kernel))
          refine st_icmp_ge c226_46 (by omega) (by omega) (fun k4962 => ?_) (fun k4963 => ?_)
          refine st_lconst c226_185 ?_
          refine st_lstore (L' := [some (.ref 64), some (vI p1), some (vI ((fI h 64 62) - p1)), some (.long (Int64.ofInt 0)), none, none, none, none]) c226_186 rfl rfl ?_
          refine st_iconst c226_187 ?_
          refine st_istore (L' := [some (.ref 64), some (vI p1), some (vI ((fI h 64 62) - p1)), some (.long (Int64.ofInt 0)), none, some (vI 0), none, none]) c226_188 rfl rfl ?_
          have lp5057 : ∀ (n5058 : Nat) (w5055 : Int64) (z5056 : Int), (64 : Int) - z5056 < (n5058 : Int) → 0 ≤ z5056 ∧ z5056 ≤ 64 → MR (mex Ln xs) d 226 190 [some (.ref 64), none, some (vI ((fI h 64 62) - p1)), some (.long w5055), none, some (vI z5056), none, none] [] h4950 Q := by
            intro n5058
            induction n5058 with
            | zero =>
              intro w5055 z5056 hm5060 b5061
              exfalso; omega
            | succ n5058 ih5059 =>
              intro w5055 z5056 hm5060 b5061
              refine st_iload c226_190 rfl ?_
              refine st_iconst c226_192 ?_
              refine st_iload c226_193 rfl ?_
              refine st_ishl1 c226_194 (by omega) (fun e5062 e5063 => ?_)
              refine st_icmp_ge c226_195 (by omega) (by omega) (fun k5064 => ?_) (fun k5065 => ?_)
              refine st_lload c226_228 rfl ?_
              refine st_lreturn c226_229 ?_
              exact hQ _ _ ⟨_, rfl, hT4951, hF4952⟩
              refine st_aload c226_198 rfl ?_
              refine st_getX (u := 119) c226_199 hT4951 (tf hT4951 rfl rfl) fd_8_68 rfl ?_
              refine st_iload c226_202 rfl ?_
              refine st_jald c226_204 hT4951 (tf hT4951 rfl rfl) ay_97 (by omega) (fun w5066 => ?_)
              refine st_lload c226_205 rfl ?_
              refine st_lcmp c226_206 (fun w5067 e5068 e5069 => ?_)
              refine st_if_le c226_207 (by omega) (fun k5070 => ?_) (fun k5071 => ?_)
              refine st_lload c226_220 rfl ?_
              refine st_lstore (L' := [some (.ref 64), none, some (vI ((fI h 64 62) - p1)), some (.long w5055), none, some (vI z5056), none, none]) c226_221 rfl rfl ?_
              refine st_iinc (L' := [some (.ref 64), none, some (vI ((fI h 64 62) - p1)), some (.long w5055), none, some (vI (z5056 + 1)), none, none]) c226_222 rfl rfl rfl ?_
              refine st_goto c226_225 ?_
              exact ih5059 w5055 (z5056 + 1) (by omega) (by omega)
              refine st_aload c226_210 rfl ?_
              refine st_getX (u := 119) c226_211 hT4951 (tf hT4951 rfl rfl) fd_8_68 rfl ?_
              refine st_iload c226_214 rfl ?_
              refine st_jald c226_216 hT4951 (tf hT4951 rfl rfl) ay_97 (by omega) (fun w5072 => ?_)
              refine st_goto c226_217 ?_
              refine st_lstore (L' := [some (.ref 64), none, some (vI ((fI h 64 62) - p1)), some (.long w5072), none, some (vI z5056), none, none]) c226_221 rfl rfl ?_
              refine st_iinc (L' := [some (.ref 64), none, some (vI ((fI h 64 62) - p1)), some (.long w5072), none, some (vI (z5056 + 1)), none, none]) c226_222 rfl rfl rfl ?_
              refine st_goto c226_225 ?_
              exact ih5059 w5072 (z5056 + 1) (by omega) (by omega)
          refine MR_weak (A := [some (.ref 64), none, some (vI ((fI h 64 62) - p1)), some (.long (Int64.ofInt 0)), none, some (vI 0), none, none]) (Lle_s (Lle_n (Lle_s (Lle_s (Lle_s (Lle_s (Lle_s (Lle_s (Lle_0))))))))) ?_
          exact lp5057 ((((64 : Int) - 0 : Int) + 1).toNat) (Int64.ofInt 0) 0 (by omega) (by omega)
          refine st_iconst c226_49 ?_
          refine st_iload c226_50 rfl ?_
          refine st_ishl1 c226_51 (by omega) (fun e5073 e5074 => ?_)
          refine st_iconst c226_52 ?_
          refine st_isub c226_53 ?_
          refine st_istore (L' := [some (.ref 64), some (vI p1), some (vI ((fI h 64 62) - p1)), some (vI z4949), some (vI ((P2 ((fI h 64 62) - p1)) - 1)), none, none, none]) c226_54 rfl rfl ?_
          have lp5415 : ∀ (n5416 : Nat) (z5410 : Int) (h5411 : List mE), (z5410 : Int) - 0 < (n5416 : Int) → 0 ≤ z5410 ∧ z5410 ≤ 63 → TH E τ h5411 → Fr τ W226 h h5411 → Fr τ [(97, 0)] h4950 h5411 → MR (mex Ln xs) d 226 56 [some (.ref 64), some (vI p1), some (vI ((fI h 64 62) - p1)), some (vI z4949), some (vI z5410), none, none, none] [] h5411 Q := by
            intro n5416
            induction n5416 with
            | zero =>
              intro z5410 h5411 hm5418 b5419 hT5412 hF5413 hL5414
              exfalso; omega
            | succ n5416 ih5417 =>
              intro z5410 h5411 hm5418 b5419 hT5412 hF5413 hL5414
              refine st_iload c226_56 rfl ?_
              refine st_if_le c226_58 (by omega) (fun k5420 => ?_) (fun k5421 => ?_)
              refine st_iinc (L' := [some (.ref 64), some (vI p1), some (vI ((fI h 64 62) - p1)), some (vI (z4949 + 1)), some (vI z5410), none, none, none]) c226_179 rfl rfl rfl ?_
              refine st_goto c226_182 ?_
              refine MR_weak (A := [some (.ref 64), some (vI p1), some (vI ((fI h 64 62) - p1)), some (vI (z4949 + 1)), none, none, none, none]) (Lle_s (Lle_s (Lle_s (Lle_s (Lle_n (Lle_s (Lle_s (Lle_s (Lle_0))))))))) ?_
              exact ih4956 (z4949 + 1) h5411 (by omega) (by omega) hT5412 hF5413 (Fr_cp hL4953 hL5414 (by decide +kernel))
              refine st_iconst c226_61 ?_
              refine st_istore (L' := [some (.ref 64), some (vI p1), some (vI ((fI h 64 62) - p1)), some (vI z4949), some (vI z5410), some (vI 0), none, none]) c226_62 rfl rfl ?_
              have lp5697 : ∀ (n5698 : Nat) (z5692 : Int) (h5693 : List mE), (6 : Int) - z5692 < (n5698 : Int) → 0 ≤ z5692 ∧ z5692 ≤ 6 → TH E τ h5693 → Fr τ W226 h h5693 → Fr τ [(97, 0)] h5411 h5693 → MR (mex Ln xs) d 226 64 [some (.ref 64), some (vI p1), some (vI ((fI h 64 62) - p1)), some (vI z4949), some (vI z5410), some (vI z5692), none, none] [] h5693 Q := by
                intro n5698
                induction n5698 with
                | zero =>
                  intro z5692 h5693 hm5700 b5701 hT5694 hF5695 hL5696
                  exfalso; omega
                | succ n5698 ih5699 =>
                  intro z5692 h5693 hm5700 b5701 hT5694 hF5695 hL5696
                  refine st_iload c226_64 rfl ?_
                  refine st_iload c226_66 rfl ?_
                  refine st_icmp_ge c226_67 (by omega) (by omega) (fun k5702 => ?_) (fun k5703 => ?_)
                  refine st_iinc (L' := [some (.ref 64), some (vI p1), some (vI ((fI h 64 62) - p1)), some (vI z4949), some (vI (z5410 + (-1))), some (vI z5692), none, none]) c226_173 rfl rfl rfl ?_
                  refine st_goto c226_176 ?_
                  refine MR_weak (A := [some (.ref 64), some (vI p1), some (vI ((fI h 64 62) - p1)), some (vI z4949), some (vI (z5410 + (-1))), none, none, none]) (Lle_s (Lle_s (Lle_s (Lle_s (Lle_s (Lle_n (Lle_s (Lle_s (Lle_0))))))))) ?_
                  exact ih5417 (z5410 + (-1)) h5693 (by omega) (by omega) hT5694 hF5695 (Fr_cp hL5414 hL5696 (by decide +kernel))
                  refine st_iload c226_70 rfl ?_
                  refine st_iload c226_72 rfl ?_
                  refine st_ishrw c226_74 (fun w5704 e5705 e5706 => ?_)
                  refine st_iconst c226_75 ?_
                  refine st_iandr c226_76 (by omega) (fun w5707 e5708 e5709 => ?_)
                  refine st_if_eq c226_77 (by omega) (fun k5710 => ?_) (fun k5711 => ?_)
                  refine st_iinc (L' := [some (.ref 64), some (vI p1), some (vI ((fI h 64 62) - p1)), some (vI z4949), some (vI z5410), some (vI (z5692 + 1)), none, none]) c226_167 rfl rfl rfl ?_
                  refine st_goto c226_170 ?_
                  exact ih5699 (z5692 + 1) h5693 (by omega) (by omega) hT5694 hF5695 hL5696
                  refine st_aload c226_80 rfl ?_
                  refine st_getX (u := 119) c226_81 hT5694 (tf hT5694 rfl rfl) fd_8_68 rfl ?_
                  refine st_iload c226_84 rfl ?_
                  refine st_iconst c226_86 ?_
                  refine st_iload c226_87 rfl ?_
                  refine st_ishl1 c226_89 (by omega) (fun e5712 e5713 => ?_)
                  refine st_iconst c226_90 ?_
                  refine st_ixorw c226_91 (fun w5714 e5715 e5716 => ?_)
                  refine st_iandl c226_92 (by omega) (fun w5717 e5718 e5719 => ?_)
                  refine st_jald c226_93 hT5694 (tf hT5694 rfl rfl) ay_97 (by omega) (fun w5720 => ?_)
                  refine st_lconst c226_94 ?_
                  refine st_lcmp c226_95 (fun w5721 e5722 e5723 => ?_)
                  refine st_if_lt c226_96 (by omega) (fun k5724 => ?_) (fun k5725 => ?_)
                  refine st_iinc (L' := [some (.ref 64), some (vI p1), some (vI ((fI h 64 62) - p1)), some (vI z4949), some (vI z5410), some (vI (z5692 + 1)), none, none]) c226_167 rfl rfl rfl ?_
                  refine st_goto c226_170 ?_
                  exact ih5699 (z5692 + 1) h5693 (by omega) (by omega) hT5694 hF5695 hL5696
                  refine st_aload c226_99 rfl ?_
                  refine st_iload c226_100 rfl ?_
                  refine st_iload c226_101 rfl ?_
                  refine st_iadd c226_103 ?_
                  refine st_iload c226_104 rfl ?_
                  refine st_callt (as := [vI (p1 + z5692), vI z4949]) c226_105 cm_223 hT5694 (tf hT5694 rfl rfl) fd_8_0 rfl rfl rfl rfl (by omega) (K223 hT5694 (p1 + z5692) (by omega) z4949 (by omega) (d - 1) (by omega) _ (fun v h0 H => H)) (fun v1 h1 H => ?_)
                  rcases H with ⟨rfl, rfl⟩ | ⟨rfl, rfl⟩
                  refine st_if_ne c226_108 (by omega) (fun k5726 => False.elim (by omega)) (fun k5727 => ?_)
                  refine st_goto c226_111 ?_
                  refine st_iinc (L' := [some (.ref 64), some (vI p1), some (vI ((fI h 64 62) - p1)), some (vI z4949), some (vI z5410), some (vI (z5692 + 1)), none, none]) c226_167 rfl rfl rfl ?_
                  refine st_goto c226_170 ?_
                  exact ih5699 (z5692 + 1) h5693 (by omega) (by omega) hT5694 hF5695 hL5696
                  refine st_if_ne c226_108 (by omega) (fun k5728 => ?_) (fun k5729 => False.elim (by omega))
                  refine st_aload c226_114 rfl ?_
                  refine st_getX (u := 119) c226_115 hT5694 (tf hT5694 rfl rfl) fd_8_68 rfl ?_
                  refine st_iload c226_118 rfl ?_
                  refine st_iconst c226_120 ?_
                  refine st_iload c226_121 rfl ?_
                  refine st_ishl1 c226_123 (by omega) (fun e5730 e5731 => ?_)
                  refine st_iconst c226_124 ?_
                  refine st_ixorw c226_125 (fun w5732 e5733 e5734 => ?_)
                  refine st_iandl c226_126 (by omega) (fun w5735 e5736 e5737 => ?_)
                  refine st_jald c226_127 hT5694 (tf hT5694 rfl rfl) ay_97 (by omega) (fun w5738 => ?_)
                  refine st_aload c226_128 rfl ?_
                  refine st_getX (u := 120) c226_129 hT5694 (tf hT5694 rfl rfl) fd_8_69 rfl ?_
                  refine st_iconst c226_132 ?_
                  refine st_iload c226_134 rfl ?_
                  refine st_iload c226_135 rfl ?_
                  refine st_iadd c226_137 ?_
                  refine st_imul c226_138 ?_
                  refine st_iload c226_139 rfl ?_
                  refine st_iadd c226_140 ?_
                  refine st_jald c226_141 hT5694 (tf hT5694 rfl rfl) ay_98 (by omega) (fun w5739 => ?_)
                  refine st_ladd c226_142 (fun w5740 => ?_)
                  refine st_lstore (L' := [some (.ref 64), some (vI p1), some (vI ((fI h 64 62) - p1)), some (vI z4949), some (vI z5410), some (vI z5692), some (.long w5740), none]) c226_143 rfl rfl ?_
                  refine st_lload c226_145 rfl ?_
                  refine st_aload c226_147 rfl ?_
                  refine st_getX (u := 119) c226_148 hT5694 (tf hT5694 rfl rfl) fd_8_68 rfl ?_
                  refine st_iload c226_151 rfl ?_
                  refine st_jald c226_153 hT5694 (tf hT5694 rfl rfl) ay_97 (by omega) (fun w5741 => ?_)
                  refine st_lcmp c226_154 (fun w5742 e5743 e5744 => ?_)
                  refine st_if_le c226_155 (by omega) (fun k5745 => ?_) (fun k5746 => ?_)
                  refine st_iinc (L' := [some (.ref 64), some (vI p1), some (vI ((fI h 64 62) - p1)), some (vI z4949), some (vI z5410), some (vI (z5692 + 1)), some (.long w5740), none]) c226_167 rfl rfl rfl ?_
                  refine st_goto c226_170 ?_
                  refine MR_weak (A := [some (.ref 64), some (vI p1), some (vI ((fI h 64 62) - p1)), some (vI z4949), some (vI z5410), some (vI (z5692 + 1)), none, none]) (Lle_s (Lle_s (Lle_s (Lle_s (Lle_s (Lle_s (Lle_n (Lle_s (Lle_0))))))))) ?_
                  exact ih5699 (z5692 + 1) h5693 (by omega) (by omega) hT5694 hF5695 hL5696
                  refine st_aload c226_158 rfl ?_
                  refine st_getX (u := 119) c226_159 hT5694 (tf hT5694 rfl rfl) fd_8_68 rfl ?_
                  refine st_iload c226_162 rfl ?_
                  refine st_lload c226_164 rfl ?_
                  refine st_jast c226_166 hT5694 (tf hT5694 rfl rfl) ay_97 (by omega) hS hF5695 (fun h5747 hT5748 hF5749 hU5750 => ?_)
                  refine st_iinc (L' := [some (.ref 64), some (vI p1), some (vI ((fI h 64 62) - p1)), some (vI z4949), some (vI z5410), some (vI (z5692 + 1)), some (.long w5740), none]) c226_167 rfl rfl rfl ?_
                  refine st_goto c226_170 ?_
                  refine MR_weak (A := [some (.ref 64), some (vI p1), some (vI ((fI h 64 62) - p1)), some (vI z4949), some (vI z5410), some (vI (z5692 + 1)), none, none]) (Lle_s (Lle_s (Lle_s (Lle_s (Lle_s (Lle_s (Lle_n (Lle_s (Lle_0))))))))) ?_
                  exact ih5699 (z5692 + 1) h5747 (by omega) (by omega) hT5748 hF5749 (JUp_Fr hL5696 hU5750)
              exact lp5697 ((((6 : Int) - 0 : Int) + 1).toNat) 0 h5411 (by omega) (by omega) hT5412 hF5413 (Fr_rf _ _ _)
          exact lp5415 ((((((P2 ((fI h 64 62) - p1)) - 1) : Int) - 0 : Int) + 1).toNat) ((P2 ((fI h 64 62) - p1)) - 1) h4950 (by omega) (by omega) hT4951 hF4952 (Fr_rf _ _ _)
      exact lp4954 ((((90 : Int) - 0 : Int) + 1).toNat) 0 h134 (by omega) (by omega) hT135 hF136 (Fr_rf _ _ _)
      refine st_aload c226_16 rfl ?_
      refine st_getX (u := 119) c226_17 hT135 (tf hT135 rfl rfl) fd_8_68 rfl ?_
      refine st_iload c226_20 rfl ?_
      refine st_iload c226_21 rfl ?_
      refine st_if_ne c226_22 (by omega) (fun k5751 => ?_) (fun k5752 => ?_)
      refine st_lconst c226_29 ?_
      refine st_jast c226_32 hT135 (tf hT135 rfl rfl) ay_97 (by omega) hS hF136 (fun h5753 hT5754 hF5755 hU5756 => ?_)
      refine st_iinc (L' := [some (.ref 64), some (vI p1), some (vI ((fI h 64 62) - p1)), some (vI (z133 + 1)), none, none, none, none]) c226_33 rfl rfl rfl ?_
      refine st_goto c226_36 ?_
      exact ih140 (z133 + 1) h5753 (by omega) (by omega) hT5754 hF5755 (JUp_Fr hL137 hU5756)
      refine st_lconst c226_25 ?_
      refine st_goto c226_26 ?_
      refine st_jast c226_32 hT135 (tf hT135 rfl rfl) ay_97 (by omega) hS hF136 (fun h5757 hT5758 hF5759 hU5760 => ?_)
      refine st_iinc (L' := [some (.ref 64), some (vI p1), some (vI ((fI h 64 62) - p1)), some (vI (z133 + 1)), none, none, none, none]) c226_33 rfl rfl rfl ?_
      refine st_goto c226_36 ?_
      exact ih140 (z133 + 1) h5757 (by omega) (by omega) hT5758 hF5759 (JUp_Fr hL137 hU5760)
  exact lp138 ((((64 : Int) - 0 : Int) + 1).toNat) 0 h (by omega) (by omega) hT hF (Fr_rf _ _ _)
set_option maxHeartbeats 0 in
theorem K228 {Ln : Nat} {xs : Nat → Int32} {τ : List Nat} {h : List mE} {E : EP} (hT : TH E τ h) (d : Nat) (hd : 0 ≤ d) (Q : Option Value → List mE → Prop) (hQ : ∀ v h', (∃ z : Int, v = some (vI z) ∧ ((-2147483648) ≤ z ∧ z ≤ 2147483647) ∧ h = h') → Q v h') : MR (mex Ln xs) d 228 0 [some (.ref 64)] [] h Q := by
  refine st_aload c228_0 rfl ?_
  refine st_getI c228_1 hT (tf hT rfl rfl) fd_8_64 (fun e1 e2 => ?_)
  refine st_if_eq c228_4 (by omega) (fun k3 => ?_) (fun k4 => ?_)
  refine st_iconst c228_14 ?_
  refine st_ireturn c228_15 ?_
  exact hQ _ _ ⟨(-1), rfl, by omega, rfl⟩
  refine st_aload c228_7 rfl ?_
  refine st_getI c228_8 hT (tf hT rfl rfl) fd_8_65 (fun e5 e6 => ?_)
  refine st_goto c228_11 ?_
  refine st_ireturn c228_15 ?_
  exact hQ _ _ ⟨fI h 64 65, rfl, by omega, rfl⟩
set_option maxHeartbeats 0 in
theorem K229 {Ln : Nat} {xs : Nat → Int32} {τ : List Nat} {h : List mE} {E : EP} (hT : TH E τ h) (p1 : Int) (hp1 : 0 ≤ p1 ∧ p1 ≤ 89) (d : Nat) (hd : 0 ≤ d) (Q : Option Value → List mE → Prop) (hQ : ∀ v h', ((v = some (vI 0) ∧ h = h') ∨ (v = some (vI 1) ∧ (0 ≤ aI h 86 p1) ∧ h = h')) → Q v h') : MR (mex Ln xs) d 229 0 [some (.ref 64), some (vI p1)] [] h Q := by
  refine st_aload c229_0 rfl ?_
  refine st_getX (u := 86) c229_1 hT (tf hT rfl rfl) fd_8_26 rfl ?_
  refine st_iload c229_4 rfl ?_
  refine st_iald c229_5 hT (tf hT rfl rfl) ay_64 (by omega) (fun e1 e2 => ?_)
  refine st_if_lt c229_6 (by omega) (fun k3 => ?_) (fun k4 => ?_)
  refine st_iconst c229_28 ?_
  refine st_zreturn c229_29 (by omega) ?_
  exact hQ _ _ (Or.inl ⟨rfl, rfl⟩)
  refine st_aload c229_9 rfl ?_
  refine st_getX (u := 109) c229_10 hT (tf hT rfl rfl) fd_8_55 rfl ?_
  refine st_aload c229_13 rfl ?_
  refine st_getX (u := 86) c229_14 hT (tf hT rfl rfl) fd_8_26 rfl ?_
  refine st_iload c229_17 rfl ?_
  refine st_iald c229_18 hT (tf hT rfl rfl) ay_64 (by omega) (fun e5 e6 => ?_)
  refine st_iald c229_19 hT (tf hT rfl rfl) ay_87 (by omega) (fun e7 e8 => ?_)
  refine st_iconst c229_20 ?_
  refine st_icmp_ne c229_21 (by omega) (by omega) (fun k9 => ?_) (fun k10 => ?_)
  refine st_iconst c229_28 ?_
  refine st_zreturn c229_29 (by omega) ?_
  exact hQ _ _ (Or.inl ⟨rfl, rfl⟩)
  refine st_iconst c229_24 ?_
  refine st_goto c229_25 ?_
  refine st_zreturn c229_29 (by omega) ?_
  exact hQ _ _ (Or.inr ⟨rfl, by omega, rfl⟩)
def W230 : List (Nat × Nat) := [(8, 70), (99, 0)]
set_option maxHeartbeats 0 in
theorem K230 {Ln : Nat} {xs : Nat → Int32} {τ : List Nat} {h : List mE} {E : EP} (hT : TH E τ h) (hS : Stb E W230) (p1 : Int) (hp1 : (-2147483648) ≤ p1 ∧ p1 ≤ 2147483647) (d : Nat) (hd : 2 ≤ d) (Q : Option Value → List mE → Prop) (hQ : ∀ v h', (∃ z : Int, v = some (vI z) ∧ ((-3) ≤ z ∧ z ≤ 5) ∧ TH E τ h' ∧ Fr τ W230 h h') → Q v h') : MR (mex Ln xs) d 230 0 [some (.ref 64), some (vI p1), none] [] h Q := by
  have hF := Fr_rf τ W230 h
  refine st_aload c230_0 rfl ?_
  refine st_iload c230_1 rfl ?_
  have e1 := fI_bd (q := 64) hT (tf hT rfl rfl) fd_8_15
  refine st_callt (as := [vI p1]) c230_2 cm_191 hT (tf hT rfl rfl) fd_8_0 rfl rfl rfl rfl (by omega) (K191 hT p1 (by omega) (d - 1) (by omega) _ (fun v h0 H => H)) (fun v1 h1 H => ?_)
  rcases H with ⟨rfl, pf2, rfl⟩ | ⟨rfl, pf3, pf4, rfl⟩
  refine st_if_ne c230_5 (by omega) (fun k5 => False.elim (by omega)) (fun k6 => ?_)
  refine st_iconst c230_8 ?_
  refine st_ireturn c230_9 ?_
  exact hQ _ _ ⟨(-1), rfl, by omega, hT, hF⟩
  refine st_if_ne c230_5 (by omega) (fun k7 => ?_) (fun k8 => False.elim (by omega))
  refine st_aload c230_10 rfl ?_
  refine st_iload c230_11 rfl ?_
  refine st_callt (as := [vI p1]) c230_12 cm_229 hT (tf hT rfl rfl) fd_8_0 rfl rfl rfl rfl (by omega) (K229 hT p1 (by omega) (d - 1) (by omega) _ (fun v h0 H => H)) (fun v1 h1 H => ?_)
  rcases H with ⟨rfl, rfl⟩ | ⟨rfl, pf9, rfl⟩
  refine st_if_ne c230_15 (by omega) (fun k10 => False.elim (by omega)) (fun k11 => ?_)
  refine st_iconst c230_18 ?_
  refine st_ireturn c230_20 ?_
  exact hQ _ _ ⟨(-2), rfl, by omega, hT, hF⟩
  refine st_if_ne c230_15 (by omega) (fun k12 => ?_) (fun k13 => False.elim (by omega))
  refine st_iconst c230_21 ?_
  refine st_istore (L' := [some (.ref 64), some (vI p1), some (vI 0)]) c230_22 rfl rfl ?_
  have lp100 : ∀ (n101 : Nat) (z99 : Int), (5 : Int) - z99 < (n101 : Int) → 0 ≤ z99 ∧ z99 ≤ 5 → MR (mex Ln xs) d 230 23 [some (.ref 64), some (vI p1), some (vI z99)] [] h Q := by
    intro n101
    induction n101 with
    | zero =>
      intro z99 hm103 b104
      exfalso; omega
    | succ n101 ih102 =>
      intro z99 hm103 b104
      refine st_iload c230_23 rfl ?_
      refine st_aload c230_24 rfl ?_
      refine st_getI c230_25 hT (tf hT rfl rfl) fd_8_70 (fun e105 e106 => ?_)
      refine st_icmp_ge c230_28 (by omega) (by omega) (fun k107 => ?_) (fun k108 => ?_)
      refine st_aload c230_70 rfl ?_
      refine st_getI c230_71 hT (tf hT rfl rfl) fd_8_70 (fun e109 e110 => ?_)
      refine st_iconst c230_74 ?_
      refine st_icmp_ne c230_75 (by omega) (by omega) (fun k111 => ?_) (fun k112 => ?_)
      refine st_aload c230_81 rfl ?_
      refine st_getX (u := 121) c230_82 hT (tf hT rfl rfl) fd_8_71 rfl ?_
      refine st_aload c230_85 rfl ?_
      refine st_getI c230_86 hT (tf hT rfl rfl) fd_8_70 (fun e113 e114 => ?_)
      refine st_iload c230_89 rfl ?_
      refine st_iast c230_90 hT (tf hT rfl rfl) ay_99 (by omega) (by omega) (by omega) (Ext_rf _) hS hF (by decide +kernel) (fun h115 hT116 hF117 hU118 => ?_)
      refine st_aload c230_91 rfl ?_
      refine st_dup c230_92 rfl ?_
      refine st_getI c230_93 hT116 (tf hT116 rfl rfl) fd_8_70 (fun e119 e120 => ?_)
      have q121 : fI h115 64 70 = fI h 64 70 := AUp_fI hU118
      refine st_iconst c230_96 ?_
      refine st_iadd c230_97 ?_
      refine st_putI c230_98 hT116 (tf hT116 rfl rfl) fd_8_70 (by omega) (by omega) (Ext_rf _) hS hF117 (by decide +kernel) (fun h122 hT123 hF124 hU125 => ?_)
      refine st_aload c230_101 rfl ?_
      refine st_getI c230_102 hT123 (tf hT123 rfl rfl) fd_8_70 (fun e126 e127 => ?_)
      have q128 : fI h122 64 70 = (fI h115 64 70) + 1 := FUp_fI hU125 (by omega) (by omega)
      refine st_ireturn c230_105 ?_
      exact hQ _ _ ⟨fI h122 64 70, rfl, by omega, hT123, hF124⟩
      refine st_iconst c230_78 ?_
      refine st_ireturn c230_80 ?_
      exact hQ _ _ ⟨(-3), rfl, by omega, hT, hF⟩
      refine st_aload c230_31 rfl ?_
      refine st_getX (u := 121) c230_32 hT (tf hT rfl rfl) fd_8_71 rfl ?_
      refine st_iload c230_35 rfl ?_
      refine st_iald c230_36 hT (tf hT rfl rfl) ay_99 (by omega) (fun e129 e130 => ?_)
      refine st_iload c230_37 rfl ?_
      refine st_icmp_eq c230_38 (by omega) (by omega) (fun k131 => ?_) (fun k132 => ?_)
      refine st_iconst c230_61 ?_
      refine st_ireturn c230_63 ?_
      exact hQ _ _ ⟨(-2), rfl, by omega, hT, hF⟩
      refine st_aload c230_41 rfl ?_
      refine st_getX (u := 79) c230_42 hT (tf hT rfl rfl) fd_8_19 rfl ?_
      refine st_aload c230_45 rfl ?_
      refine st_getX (u := 121) c230_46 hT (tf hT rfl rfl) fd_8_71 rfl ?_
      refine st_iload c230_49 rfl ?_
      refine st_iald c230_50 hT (tf hT rfl rfl) ay_99 (by omega) (fun e133 e134 => ?_)
      refine st_iald c230_51 hT (tf hT rfl rfl) ay_57 (by omega) (fun e135 e136 => ?_)
      refine st_aload c230_52 rfl ?_
      refine st_getX (u := 79) c230_53 hT (tf hT rfl rfl) fd_8_19 rfl ?_
      refine st_iload c230_56 rfl ?_
      refine st_iald c230_57 hT (tf hT rfl rfl) ay_57 (by omega) (fun e137 e138 => ?_)
      refine st_icmp_eq c230_58 (by omega) (by omega) (fun k139 => ?_) (fun k140 => ?_)
      refine st_iinc (L' := [some (.ref 64), some (vI p1), some (vI (z99 + 1))]) c230_64 rfl rfl rfl ?_
      refine st_goto c230_67 ?_
      exact ih102 (z99 + 1) (by omega) (by omega)
      refine st_iconst c230_61 ?_
      refine st_ireturn c230_63 ?_
      exact hQ _ _ ⟨(-2), rfl, by omega, hT, hF⟩
  exact lp100 ((((5 : Int) - 0 : Int) + 1).toNat) 0 (by omega) (by omega)
set_option maxHeartbeats 0 in
theorem K232 {Ln : Nat} {xs : Nat → Int32} {τ : List Nat} {h : List mE} {E : EP} (hT : TH E τ h) (p1 : Int) (hp1 : 0 ≤ p1 ∧ p1 ≤ 4) (d : Nat) (hd : 0 ≤ d) (Q : Option Value → List mE → Prop) (hQ : ∀ v h', ((v = some (vI 0) ∧ h = h') ∨ (v = some (vI 1) ∧ h = h')) → Q v h') : MR (mex Ln xs) d 232 0 [some (.ref 64), some (vI p1), none] [] h Q := by
  refine st_iconst c232_0 ?_
  refine st_istore (L' := [some (.ref 64), some (vI p1), some (vI 0)]) c232_1 rfl rfl ?_
  have lp38 : ∀ (n39 : Nat) (z37 : Int), (4 : Int) - z37 < (n39 : Int) → 0 ≤ z37 ∧ z37 ≤ 4 → MR (mex Ln xs) d 232 2 [some (.ref 64), some (vI p1), some (vI z37)] [] h Q := by
    intro n39
    induction n39 with
    | zero =>
      intro z37 hm41 b42
      exfalso; omega
    | succ n39 ih40 =>
      intro z37 hm41 b42
      refine st_iload c232_2 rfl ?_
      refine st_iload c232_3 rfl ?_
      refine st_icmp_ge c232_4 (by omega) (by omega) (fun k43 => ?_) (fun k44 => ?_)
      refine st_iconst c232_30 ?_
      refine st_zreturn c232_31 (by omega) ?_
      exact hQ _ _ (Or.inl ⟨rfl, rfl⟩)
      refine st_aload c232_7 rfl ?_
      refine st_getX (u := 122) c232_8 hT (tf hT rfl rfl) fd_8_72 rfl ?_
      refine st_iload c232_11 rfl ?_
      refine st_iald c232_12 hT (tf hT rfl rfl) ay_100 (by omega) (fun e45 e46 => ?_)
      refine st_aload c232_13 rfl ?_
      refine st_getX (u := 122) c232_14 hT (tf hT rfl rfl) fd_8_72 rfl ?_
      refine st_iload c232_17 rfl ?_
      refine st_iald c232_18 hT (tf hT rfl rfl) ay_100 (by omega) (fun e47 e48 => ?_)
      refine st_icmp_ne c232_19 (by omega) (by omega) (fun k49 => ?_) (fun k50 => ?_)
      refine st_iinc (L' := [some (.ref 64), some (vI p1), some (vI (z37 + 1))]) c232_24 rfl rfl rfl ?_
      refine st_goto c232_27 ?_
      exact ih40 (z37 + 1) (by omega) (by omega)
      refine st_iconst c232_22 ?_
      refine st_zreturn c232_23 (by omega) ?_
      exact hQ _ _ (Or.inr ⟨rfl, rfl⟩)
  exact lp38 ((((4 : Int) - 0 : Int) + 1).toNat) 0 (by omega) (by omega)
set_option maxHeartbeats 0 in
theorem K234 {Ln : Nat} {xs : Nat → Int32} {τ : List Nat} {h : List mE} {E : EP} (hT : TH E τ h) (p1 : Int) (hp1 : (-2147483648) ≤ p1 ∧ p1 ≤ 2147483647) (d : Nat) (hd : 1 ≤ d) (Q : Option Value → List mE → Prop) (hQ : ∀ v h', (∃ z : Int, v = some (vI z) ∧ ((-2147483648) ≤ z ∧ z ≤ 2147483647) ∧ h = h') → Q v h') : MR (mex Ln xs) d 234 0 [some (.ref 64), some (vI p1)] [] h Q := by
  refine st_iload c234_0 rfl ?_
  refine st_iconst c234_1 ?_
  refine st_aload c234_2 rfl ?_
  refine st_getI c234_3 hT (tf hT rfl rfl) fd_8_74 (fun e1 e2 => ?_)
  refine st_iconst c234_6 ?_
  refine st_isub c234_7 ?_
  refine st_calls (as := [vI p1, vI 0, vI ((fI h 64 74) - 1)]) c234_8 cm_180 rfl rfl rfl rfl (by omega) (K180 hT p1 (by omega) 0 (by omega) ((fI h 64 74) - 1) (by omega) (d - 1) (by omega) _ (fun v h0 H => H)) (fun v1 h1 H => ?_)
  rcases H with ⟨rfl, pf3, rfl⟩ | ⟨rfl, pf4, pf5, rfl⟩
  refine st_if_eq c234_11 (by omega) (fun k6 => ?_) (fun k7 => False.elim (by omega))
  refine st_iconst c234_23 ?_
  refine st_ireturn c234_24 ?_
  exact hQ _ _ ⟨(-1), rfl, by omega, rfl⟩
  refine st_if_eq c234_11 (by omega) (fun k8 => False.elim (by omega)) (fun k9 => ?_)
  refine st_aload c234_14 rfl ?_
  refine st_getX (u := 123) c234_15 hT (tf hT rfl rfl) fd_8_75 rfl ?_
  refine st_iload c234_18 rfl ?_
  refine st_iald c234_19 hT (tf hT rfl rfl) ay_101 (by omega) (fun e10 e11 => ?_)
  refine st_goto c234_20 ?_
  refine st_ireturn c234_24 ?_
  exact hQ _ _ ⟨aI h 123 p1, rfl, by omega, rfl⟩
set_option maxHeartbeats 0 in
theorem K236 {Ln : Nat} {xs : Nat → Int32} {τ : List Nat} {h : List mE} {E : EP} (hT : TH E τ h) (p1 : Int) (hp1 : 0 ≤ p1 ∧ p1 ≤ 99) (d : Nat) (hd : 0 ≤ d) (Q : Option Value → List mE → Prop) (hQ : ∀ v h', ((v = some (vI 0) ∧ h = h') ∨ (v = some (vI 1) ∧ (aI h 109 p1 = 2 ∨ aI h 109 p1 = 3) ∧ h = h')) → Q v h') : MR (mex Ln xs) d 236 0 [some (.ref 64), some (vI p1)] [] h Q := by
  refine st_aload c236_0 rfl ?_
  refine st_getX (u := 109) c236_1 hT (tf hT rfl rfl) fd_8_55 rfl ?_
  refine st_iload c236_4 rfl ?_
  refine st_iald c236_5 hT (tf hT rfl rfl) ay_87 (by omega) (fun e1 e2 => ?_)
  refine st_iconst c236_6 ?_
  refine st_icmp_eq c236_7 (by omega) (by omega) (fun k3 => ?_) (fun k4 => ?_)
  refine st_iconst c236_33 ?_
  refine st_goto c236_34 ?_
  refine st_zreturn c236_38 (by omega) ?_
  exact hQ _ _ (Or.inr ⟨rfl, by omega, rfl⟩)
  refine st_aload c236_10 rfl ?_
  refine st_getX (u := 109) c236_11 hT (tf hT rfl rfl) fd_8_55 rfl ?_
  refine st_iload c236_14 rfl ?_
  refine st_iald c236_15 hT (tf hT rfl rfl) ay_87 (by omega) (fun e5 e6 => ?_)
  refine st_iconst c236_16 ?_
  refine st_icmp_ne c236_17 (by omega) (by omega) (fun k7 => ?_) (fun k8 => ?_)
  refine st_iconst c236_37 ?_
  refine st_zreturn c236_38 (by omega) ?_
  exact hQ _ _ (Or.inl ⟨rfl, rfl⟩)
  refine st_aload c236_20 rfl ?_
  refine st_getI c236_21 hT (tf hT rfl rfl) fd_8_1 (fun e9 e10 => ?_)
  refine st_aload c236_24 rfl ?_
  refine st_getX (u := 111) c236_25 hT (tf hT rfl rfl) fd_8_57 rfl ?_
  refine st_iload c236_28 rfl ?_
  refine st_iald c236_29 hT (tf hT rfl rfl) ay_89 (by omega) (fun e11 e12 => ?_)
  refine st_icmp_lt c236_30 (by omega) (by omega) (fun k13 => ?_) (fun k14 => ?_)
  refine st_iconst c236_37 ?_
  refine st_zreturn c236_38 (by omega) ?_
  exact hQ _ _ (Or.inl ⟨rfl, rfl⟩)
  refine st_iconst c236_33 ?_
  refine st_goto c236_34 ?_
  refine st_zreturn c236_38 (by omega) ?_
  exact hQ _ _ (Or.inr ⟨rfl, by omega, rfl⟩)
set_option maxHeartbeats 0 in
theorem K239 {Ln : Nat} {xs : Nat → Int32} {τ : List Nat} {h : List mE} {E : EP} (hT : TH E τ h) (p1 : Int) (hp1 : (-2147483648) ≤ p1 ∧ p1 ≤ 2147483647) (p2 : Int) (hp2 : (-2147483648) ≤ p2 ∧ p2 ≤ 2147483647) (d : Nat) (hd : 2 ≤ d) (Q : Option Value → List mE → Prop) (hQ : ∀ v h', (∃ z : Int, v = some (vI z) ∧ ((-2147483648) ≤ z ∧ z ≤ 2147483647) ∧ h = h') → Q v h') : MR (mex Ln xs) d 239 0 [some (.ref 64), some (vI p1), some (vI p2)] [] h Q := by
  refine st_aload c239_0 rfl ?_
  refine st_iload c239_1 rfl ?_
  have e1 := fI_bd (q := 64) hT (tf hT rfl rfl) fd_8_48
  refine st_callt (as := [vI p1]) c239_2 cm_216 hT (tf hT rfl rfl) fd_8_0 rfl rfl rfl rfl (by omega) (K216 hT p1 (by omega) (d - 1) (by omega) _ (fun v h0 H => H)) (fun v1 h1 H => ?_)
  rcases H with ⟨rfl, pf2, rfl⟩ | ⟨rfl, pf3, pf4, rfl⟩
  refine st_if_ne c239_5 (by omega) (fun k5 => False.elim (by omega)) (fun k6 => ?_)
  refine st_iconst c239_8 ?_
  refine st_ireturn c239_11 ?_
  exact hQ _ _ ⟨(-2000000000), rfl, by omega, rfl⟩
  refine st_if_ne c239_5 (by omega) (fun k7 => ?_) (fun k8 => False.elim (by omega))
  refine st_iload c239_12 rfl ?_
  rcases (by omega : (p2 < 0 ∨ 9 < p2) ∨ p2 = 0 ∨ p2 = 1 ∨ p2 = 2 ∨ p2 = 3 ∨ p2 = 4 ∨ p2 = 5 ∨ p2 = 6 ∨ p2 = 7 ∨ p2 = 8 ∨ p2 = 9) with k9 | k9 | k9 | k9 | k9 | k9 | k9 | k9 | k9 | k9 | k9
  · refine st_swd c239_13 (by omega) k9 ?_
    rw [show mjmp 13 125 = 138 from by decide]
    refine st_iconst c239_138 ?_
    refine st_ireturn c239_141 ?_
    exact hQ _ _ ⟨(-2000000000), rfl, by omega, rfl⟩
  · refine st_sw (k := 0) (tg := 68) (by decide +kernel) k9 (by decide) ?_
    refine st_aload c239_68 rfl ?_
    refine st_getX (u := 103) c239_69 hT (tf hT rfl rfl) fd_8_49 rfl ?_
    refine st_iload c239_72 rfl ?_
    refine st_iald c239_73 hT (tf hT rfl rfl) ay_81 (by omega) (fun e10 e11 => ?_)
    refine st_ireturn c239_74 ?_
    exact hQ _ _ ⟨aI h 103 p1, rfl, by omega, rfl⟩
  · refine st_sw (k := 1) (tg := 75) (by decide +kernel) k9 (by decide) ?_
    refine st_aload c239_75 rfl ?_
    refine st_getX (u := 104) c239_76 hT (tf hT rfl rfl) fd_8_50 rfl ?_
    refine st_iload c239_79 rfl ?_
    refine st_iald c239_80 hT (tf hT rfl rfl) ay_82 (by omega) (fun e12 e13 => ?_)
    refine st_ireturn c239_81 ?_
    exact hQ _ _ ⟨aI h 104 p1, rfl, by omega, rfl⟩
  · refine st_sw (k := 2) (tg := 82) (by decide +kernel) k9 (by decide) ?_
    refine st_aload c239_82 rfl ?_
    refine st_getX (u := 105) c239_83 hT (tf hT rfl rfl) fd_8_51 rfl ?_
    refine st_iload c239_86 rfl ?_
    refine st_iald c239_87 hT (tf hT rfl rfl) ay_83 (by omega) (fun e14 e15 => ?_)
    refine st_ireturn c239_88 ?_
    exact hQ _ _ ⟨aI h 105 p1, rfl, by omega, rfl⟩
  · refine st_sw (k := 3) (tg := 89) (by decide +kernel) k9 (by decide) ?_
    refine st_aload c239_89 rfl ?_
    refine st_getX (u := 106) c239_90 hT (tf hT rfl rfl) fd_8_52 rfl ?_
    refine st_iload c239_93 rfl ?_
    refine st_iald c239_94 hT (tf hT rfl rfl) ay_84 (by omega) (fun e16 e17 => ?_)
    refine st_ireturn c239_95 ?_
    exact hQ _ _ ⟨aI h 106 p1, rfl, by omega, rfl⟩
  · refine st_sw (k := 4) (tg := 96) (by decide +kernel) k9 (by decide) ?_
    refine st_aload c239_96 rfl ?_
    refine st_getX (u := 107) c239_97 hT (tf hT rfl rfl) fd_8_53 rfl ?_
    refine st_iload c239_100 rfl ?_
    refine st_iald c239_101 hT (tf hT rfl rfl) ay_85 (by omega) (fun e18 e19 => ?_)
    refine st_ireturn c239_102 ?_
    exact hQ _ _ ⟨aI h 107 p1, rfl, by omega, rfl⟩
  · refine st_sw (k := 5) (tg := 103) (by decide +kernel) k9 (by decide) ?_
    refine st_aload c239_103 rfl ?_
    refine st_getX (u := 109) c239_104 hT (tf hT rfl rfl) fd_8_55 rfl ?_
    refine st_iload c239_107 rfl ?_
    refine st_iald c239_108 hT (tf hT rfl rfl) ay_87 (by omega) (fun e20 e21 => ?_)
    refine st_ireturn c239_109 ?_
    exact hQ _ _ ⟨aI h 109 p1, rfl, by omega, rfl⟩
  · refine st_sw (k := 6) (tg := 110) (by decide +kernel) k9 (by decide) ?_
    refine st_aload c239_110 rfl ?_
    refine st_getX (u := 110) c239_111 hT (tf hT rfl rfl) fd_8_56 rfl ?_
    refine st_iload c239_114 rfl ?_
    refine st_iald c239_115 hT (tf hT rfl rfl) ay_88 (by omega) (fun e22 e23 => ?_)
    refine st_ireturn c239_116 ?_
    exact hQ _ _ ⟨aI h 110 p1, rfl, by omega, rfl⟩
  · refine st_sw (k := 7) (tg := 117) (by decide +kernel) k9 (by decide) ?_
    refine st_aload c239_117 rfl ?_
    refine st_getX (u := 111) c239_118 hT (tf hT rfl rfl) fd_8_57 rfl ?_
    refine st_iload c239_121 rfl ?_
    refine st_iald c239_122 hT (tf hT rfl rfl) ay_89 (by omega) (fun e24 e25 => ?_)
    refine st_ireturn c239_123 ?_
    exact hQ _ _ ⟨aI h 111 p1, rfl, by omega, rfl⟩
  · refine st_sw (k := 8) (tg := 124) (by decide +kernel) k9 (by decide) ?_
    refine st_aload c239_124 rfl ?_
    refine st_getX (u := 112) c239_125 hT (tf hT rfl rfl) fd_8_58 rfl ?_
    refine st_iload c239_128 rfl ?_
    refine st_iald c239_129 hT (tf hT rfl rfl) ay_90 (by omega) (fun e26 e27 => ?_)
    refine st_ireturn c239_130 ?_
    exact hQ _ _ ⟨aI h 112 p1, rfl, by omega, rfl⟩
  · refine st_sw (k := 9) (tg := 131) (by decide +kernel) k9 (by decide) ?_
    refine st_aload c239_131 rfl ?_
    refine st_getX (u := 108) c239_132 hT (tf hT rfl rfl) fd_8_54 rfl ?_
    refine st_iload c239_135 rfl ?_
    refine st_iald c239_136 hT (tf hT rfl rfl) ay_86 (by omega) (fun e28 e29 => ?_)
    refine st_ireturn c239_137 ?_
    exact hQ _ _ ⟨aI h 108 p1, rfl, by omega, rfl⟩
set_option maxHeartbeats 0 in
theorem K240 {Ln : Nat} {xs : Nat → Int32} {τ : List Nat} {h : List mE} {E : EP} (hT : TH E τ h) (p1 : Int) (hp1 : 0 ≤ p1 ∧ p1 ≤ 99) (d : Nat) (hd : 0 ≤ d) (Q : Option Value → List mE → Prop) (hQ : ∀ v h', (∃ z : Int, v = some (vI z) ∧ ((-1) ≤ z ∧ z ≤ 23999) ∧ h = h') → Q v h') : MR (mex Ln xs) d 240 0 [some (.ref 64), some (vI p1)] [] h Q := by
  refine st_aload c240_0 rfl ?_
  refine st_getX (u := 109) c240_1 hT (tf hT rfl rfl) fd_8_55 rfl ?_
  refine st_iload c240_4 rfl ?_
  refine st_iald c240_5 hT (tf hT rfl rfl) ay_87 (by omega) (fun e1 e2 => ?_)
  refine st_iconst c240_6 ?_
  refine st_icmp_ne c240_7 (by omega) (by omega) (fun k3 => ?_) (fun k4 => ?_)
  refine st_aload c240_19 rfl ?_
  refine st_getI c240_20 hT (tf hT rfl rfl) fd_8_1 (fun e5 e6 => ?_)
  refine st_ireturn c240_23 ?_
  exact hQ _ _ ⟨fI h 64 1, rfl, by omega, rfl⟩
  refine st_aload c240_10 rfl ?_
  refine st_getX (u := 112) c240_11 hT (tf hT rfl rfl) fd_8_58 rfl ?_
  refine st_iload c240_14 rfl ?_
  refine st_iald c240_15 hT (tf hT rfl rfl) ay_90 (by omega) (fun e7 e8 => ?_)
  refine st_goto c240_16 ?_
  refine st_ireturn c240_23 ?_
  exact hQ _ _ ⟨aI h 112 p1, rfl, by omega, rfl⟩
set_option maxHeartbeats 0 in
theorem K241 {Ln : Nat} {xs : Nat → Int32} {τ : List Nat} {h : List mE} {E : EP} (hT : TH E τ h) (p1 : Int) (hp1 : 0 ≤ p1 ∧ p1 ≤ 99) (d : Nat) (hd : 1 ≤ d) (Q : Option Value → List mE → Prop) (hQ : ∀ v h', (∃ z : Int, v = some (vI z) ∧ ((-89478484) ≤ z ∧ z ≤ 1000) ∧ h = h') → Q v h') : MR (mex Ln xs) d 241 0 [some (.ref 64), some (vI p1)] [] h Q := by
  refine st_aload c241_0 rfl ?_
  refine st_iload c241_1 rfl ?_
  refine st_callt (as := [vI p1]) c241_2 cm_240 hT (tf hT rfl rfl) fd_8_0 rfl rfl rfl rfl (by omega) (K240 hT p1 (by omega) (d - 1) (by omega) _ (fun v h0 H => H)) (fun v1 h1 H => ?_)
  obtain ⟨z1, rfl, b2, rfl⟩ := H
  refine st_aload c241_5 rfl ?_
  refine st_getX (u := 111) c241_6 hT (tf hT rfl rfl) fd_8_57 rfl ?_
  refine st_iload c241_9 rfl ?_
  refine st_iald c241_10 hT (tf hT rfl rfl) ay_89 (by omega) (fun e3 e4 => ?_)
  refine st_isub c241_11 ?_
  refine st_iconst c241_12 ?_
  refine st_iadd c241_14 ?_
  refine st_iconst c241_15 ?_
  refine st_idivc c241_17 (by omega) (by omega) (fun w5 e6 e7 => ?_)
  refine st_ireturn c241_18 ?_
  exact hQ _ _ ⟨w5, rfl, by omega, rfl⟩
def W242 : List (Nat × Nat) := [(91, 0)]
set_option maxHeartbeats 0 in
theorem K242 {Ln : Nat} {xs : Nat → Int32} {τ : List Nat} {h : List mE} {E : EP} (hT : TH E τ h) (hS : Stb E W242) (p1 : Int) (hp1 : (-2147483648) ≤ p1 ∧ p1 ≤ 2147483647) (p2 : Int) (hp2 : (-2147483648) ≤ p2 ∧ p2 ≤ 2147483647) (p3 : Int) (hp3 : (-2147483648) ≤ p3 ∧ p3 ≤ 2147483647) (d : Nat) (hd : 2 ≤ d) (Q : Option Value → List mE → Prop) (hQ : ∀ v h', (∃ z : Int, v = some (vI z) ∧ ((-2) ≤ z ∧ z ≤ 1) ∧ TH E τ h' ∧ Fr τ W242 h h') → Q v h') : MR (mex Ln xs) d 242 0 [some (.ref 64), some (vI p1), some (vI p2), some (vI p3)] [] h Q := by
  have hF := Fr_rf τ W242 h
  refine st_aload c242_0 rfl ?_
  refine st_iload c242_1 rfl ?_
  have e1 := fI_bd (q := 64) hT (tf hT rfl rfl) fd_8_48
  refine st_callt (as := [vI p1]) c242_2 cm_216 hT (tf hT rfl rfl) fd_8_0 rfl rfl rfl rfl (by omega) (K216 hT p1 (by omega) (d - 1) (by omega) _ (fun v h0 H => H)) (fun v1 h1 H => ?_)
  rcases H with ⟨rfl, pf2, rfl⟩ | ⟨rfl, pf3, pf4, rfl⟩
  refine st_if_eq c242_5 (by omega) (fun k5 => ?_) (fun k6 => False.elim (by omega))
  refine st_iconst c242_27 ?_
  refine st_ireturn c242_28 ?_
  exact hQ _ _ ⟨(-1), rfl, by omega, hT, hF⟩
  refine st_if_eq c242_5 (by omega) (fun k7 => False.elim (by omega)) (fun k8 => ?_)
  refine st_iload c242_8 rfl ?_
  refine st_iconst c242_9 ?_
  refine st_iconst c242_10 ?_
  refine st_calls (as := [vI p2, vI 0, vI 59]) c242_12 cm_180 rfl rfl rfl rfl (by omega) (K180 hT p2 (by omega) 0 (by omega) 59 (by omega) (d - 1) (by omega) _ (fun v h0 H => H)) (fun v1 h1 H => ?_)
  rcases H with ⟨rfl, pf9, rfl⟩ | ⟨rfl, pf10, pf11, rfl⟩
  refine st_if_eq c242_15 (by omega) (fun k12 => ?_) (fun k13 => False.elim (by omega))
  refine st_iconst c242_27 ?_
  refine st_ireturn c242_28 ?_
  exact hQ _ _ ⟨(-1), rfl, by omega, hT, hF⟩
  refine st_if_eq c242_15 (by omega) (fun k14 => False.elim (by omega)) (fun k15 => ?_)
  refine st_iload c242_18 rfl ?_
  refine st_iconst c242_19 ?_
  refine st_iconst c242_20 ?_
  refine st_calls (as := [vI p3, vI 0, vI 1]) c242_21 cm_180 rfl rfl rfl rfl (by omega) (K180 hT p3 (by omega) 0 (by omega) 1 (by omega) (d - 1) (by omega) _ (fun v h0 H => H)) (fun v1 h1 H => ?_)
  rcases H with ⟨rfl, pf16, rfl⟩ | ⟨rfl, pf17, pf18, rfl⟩
  refine st_if_ne c242_24 (by omega) (fun k19 => False.elim (by omega)) (fun k20 => ?_)
  refine st_iconst c242_27 ?_
  refine st_ireturn c242_28 ?_
  exact hQ _ _ ⟨(-1), rfl, by omega, hT, hF⟩
  refine st_if_ne c242_24 (by omega) (fun k21 => ?_) (fun k22 => False.elim (by omega))
  refine st_aload c242_29 rfl ?_
  refine st_iload c242_30 rfl ?_
  refine st_callt (as := [vI p1]) c242_31 cm_236 hT (tf hT rfl rfl) fd_8_0 rfl rfl rfl rfl (by omega) (K236 hT p1 (by omega) (d - 1) (by omega) _ (fun v h0 H => H)) (fun v1 h1 H => ?_)
  rcases H with ⟨rfl, rfl⟩ | ⟨rfl, pf23, rfl⟩
  refine st_if_ne c242_34 (by omega) (fun k24 => False.elim (by omega)) (fun k25 => ?_)
  refine st_iconst c242_37 ?_
  refine st_ireturn c242_39 ?_
  exact hQ _ _ ⟨(-2), rfl, by omega, hT, hF⟩
  refine st_if_ne c242_34 (by omega) (fun k26 => ?_) (fun k27 => False.elim (by omega))
  refine st_aload c242_40 rfl ?_
  refine st_getX (u := 113) c242_41 hT (tf hT rfl rfl) fd_8_59 rfl ?_
  refine st_iconst c242_44 ?_
  refine st_iload c242_46 rfl ?_
  refine st_imul c242_47 ?_
  refine st_iload c242_48 rfl ?_
  refine st_iadd c242_49 ?_
  refine st_iload c242_50 rfl ?_
  refine st_iconst c242_51 ?_
  refine st_iadd c242_52 ?_
  refine st_iast c242_53 hT (tf hT rfl rfl) ay_91 (by omega) (by omega) (by omega) (Ext_rf _) hS hF (by decide +kernel) (fun h28 hT29 hF30 hU31 => ?_)
  refine st_iconst c242_54 ?_
  refine st_ireturn c242_55 ?_
  exact hQ _ _ ⟨1, rfl, by omega, hT29, hF30⟩
set_option maxHeartbeats 0 in
theorem K243 {Ln : Nat} {xs : Nat → Int32} {τ : List Nat} {h : List mE} {E : EP} (hT : TH E τ h) (p1 : Int) (hp1 : 0 ≤ p1 ∧ p1 ≤ 99) (p2 : Int) (hp2 : 0 ≤ p2 ∧ p2 ≤ 2147483647) (d : Nat) (hd : 1 ≤ d) (Q : Option Value → List mE → Prop) (hQ : ∀ v h', (∃ z : Int, v = some (vI z) ∧ (0 ≤ z ∧ z ≤ 3) ∧ h = h') → Q v h') : MR (mex Ln xs) d 243 0 [some (.ref 64), some (vI p1), some (vI p2), none, none, none, none, none, none, none] [] h Q := by
  refine st_aload c243_0 rfl ?_
  refine st_getX (u := 110) c243_1 hT (tf hT rfl rfl) fd_8_56 rfl ?_
  refine st_iload c243_4 rfl ?_
  refine st_iald c243_5 hT (tf hT rfl rfl) ay_88 (by omega) (fun e1 e2 => ?_)
  refine st_istore (L' := [some (.ref 64), some (vI p1), some (vI p2), some (vI (aI h 110 p1)), none, none, none, none, none, none]) c243_6 rfl rfl ?_
  refine st_aload c243_7 rfl ?_
  refine st_getX (u := 111) c243_8 hT (tf hT rfl rfl) fd_8_57 rfl ?_
  refine st_iload c243_11 rfl ?_
  refine st_iald c243_12 hT (tf hT rfl rfl) ay_89 (by omega) (fun e3 e4 => ?_)
  refine st_iconst c243_13 ?_
  refine st_iload c243_15 rfl ?_
  refine st_imul c243_16 ?_
  refine MR_wrap (fun w5 e6 e7 e8 => ?_)
  refine st_iadd c243_17 ?_
  refine MR_wrap (fun w9 e10 e11 e12 => ?_)
  refine st_istore (L' := [some (.ref 64), some (vI p1), some (vI p2), some (vI (aI h 110 p1)), some (vI w9), none, none, none, none, none]) c243_18 rfl rfl ?_
  refine st_iload c243_20 rfl ?_
  refine st_iconst c243_22 ?_
  refine st_iadd c243_24 ?_
  refine MR_wrap (fun w13 e14 e15 e16 => ?_)
  refine st_aload c243_25 rfl ?_
  refine st_iload c243_26 rfl ?_
  refine st_callt (as := [vI p1]) c243_27 cm_240 hT (tf hT rfl rfl) fd_8_0 rfl rfl rfl rfl (by omega) (K240 hT p1 (by omega) (d - 1) (by omega) _ (fun v h0 H => H)) (fun v1 h1 H => ?_)
  obtain ⟨z17, rfl, b18, rfl⟩ := H
  refine st_icmp_ge c243_30 (by omega) (by omega) (fun k19 => ?_) (fun k20 => ?_)
  refine st_aload c243_41 rfl ?_
  refine st_iload c243_42 rfl ?_
  refine st_callt (as := [vI p1]) c243_43 cm_240 hT (tf hT rfl rfl) fd_8_0 rfl rfl rfl rfl (by omega) (K240 hT p1 (by omega) (d - 1) (by omega) _ (fun v h0 H => H)) (fun v1 h1 H => ?_)
  obtain ⟨z21, rfl, b22, rfl⟩ := H
  refine st_istore (L' := [some (.ref 64), some (vI p1), some (vI p2), some (vI (aI h 110 p1)), some (vI w9), some (vI z21), none, none, none, none]) c243_46 rfl rfl ?_
  refine st_aload c243_48 rfl ?_
  refine st_iload c243_49 rfl ?_
  refine st_iload c243_50 rfl ?_
  refine st_callt (as := [vI (aI h 110 p1), vI w9]) c243_52 cm_197 hT (tf hT rfl rfl) fd_8_0 rfl rfl rfl rfl (by omega) (K197 hT (aI h 110 p1) (by omega) w9 (by omega) (d - 1) (by omega) _ (fun v h0 H => H)) (fun v1 h1 H => ?_)
  obtain ⟨z23, rfl, b24, rfl⟩ := H
  refine st_istore (L' := [some (.ref 64), some (vI p1), some (vI p2), some (vI (aI h 110 p1)), some (vI w9), some (vI z21), some (vI z23), none, none, none]) c243_55 rfl rfl ?_
  refine st_aload c243_57 rfl ?_
  refine st_iload c243_58 rfl ?_
  refine st_iload c243_59 rfl ?_
  refine st_callt (as := [vI (aI h 110 p1), vI z21]) c243_61 cm_196 hT (tf hT rfl rfl) fd_8_0 rfl rfl rfl rfl (by omega) (K196 hT (aI h 110 p1) (by omega) z21 (by omega) (d - 1) (by omega) _ (fun v h0 H => H)) (fun v1 h1 H => ?_)
  obtain ⟨z25, rfl, b26, rfl⟩ := H
  refine st_istore (L' := [some (.ref 64), some (vI p1), some (vI p2), some (vI (aI h 110 p1)), some (vI w9), some (vI z21), some (vI z23), some (vI z25), none, none]) c243_64 rfl rfl ?_
  refine st_iload c243_66 rfl ?_
  refine st_if_lt c243_68 (by omega) (fun k27 => ?_) (fun k28 => ?_)
  refine st_aload c243_114 rfl ?_
  refine st_iload c243_115 rfl ?_
  refine st_iload c243_116 rfl ?_
  refine st_callt (as := [vI (aI h 110 p1), vI w9]) c243_118 cm_196 hT (tf hT rfl rfl) fd_8_0 rfl rfl rfl rfl (by omega) (K196 hT (aI h 110 p1) (by omega) w9 (by omega) (d - 1) (by omega) _ (fun v h0 H => H)) (fun v1 h1 H => ?_)
  obtain ⟨z29, rfl, b30, rfl⟩ := H
  refine st_istore (L' := [some (.ref 64), some (vI p1), some (vI p2), some (vI (aI h 110 p1)), some (vI w9), some (vI z21), some (vI z23), some (vI z25), some (vI z29), none]) c243_121 rfl rfl ?_
  refine st_aload c243_123 rfl ?_
  refine st_iload c243_124 rfl ?_
  refine st_iload c243_125 rfl ?_
  refine st_callt (as := [vI (aI h 110 p1), vI z21]) c243_127 cm_197 hT (tf hT rfl rfl) fd_8_0 rfl rfl rfl rfl (by omega) (K197 hT (aI h 110 p1) (by omega) z21 (by omega) (d - 1) (by omega) _ (fun v h0 H => H)) (fun v1 h1 H => ?_)
  obtain ⟨z31, rfl, b32, rfl⟩ := H
  refine st_istore (L' := [some (.ref 64), some (vI p1), some (vI p2), some (vI (aI h 110 p1)), some (vI w9), some (vI z21), some (vI z23), some (vI z25), some (vI z29), some (vI z31)]) c243_130 rfl rfl ?_
  refine st_iload c243_132 rfl ?_
  refine st_if_lt c243_134 (by omega) (fun k33 => ?_) (fun k34 => ?_)
  refine st_iload c243_161 rfl ?_
  refine st_iconst c243_162 ?_
  refine st_icmp_ge c243_164 (by omega) (by omega) (fun k35 => ?_) (fun k36 => ?_)
  refine st_iconst c243_186 ?_
  refine st_ireturn c243_187 ?_
  exact hQ _ _ ⟨2, rfl, by omega, rfl⟩
  refine st_aload c243_167 rfl ?_
  refine st_getX (u := 113) c243_168 hT (tf hT rfl rfl) fd_8_59 rfl ?_
  refine st_iconst c243_171 ?_
  refine st_iload c243_173 rfl ?_
  refine st_imul c243_174 ?_
  refine st_iload c243_175 rfl ?_
  refine st_iadd c243_176 ?_
  refine st_iald c243_177 hT (tf hT rfl rfl) ay_91 (by omega) (fun e37 e38 => ?_)
  refine st_iconst c243_178 ?_
  refine st_icmp_ne c243_179 (by omega) (by omega) (fun k39 => ?_) (fun k40 => ?_)
  refine st_iconst c243_186 ?_
  refine st_ireturn c243_187 ?_
  exact hQ _ _ ⟨2, rfl, by omega, rfl⟩
  refine st_iconst c243_182 ?_
  refine st_goto c243_183 ?_
  refine st_ireturn c243_187 ?_
  exact hQ _ _ ⟨3, rfl, by omega, rfl⟩
  refine st_iload c243_137 rfl ?_
  refine st_if_lt c243_139 (by omega) (fun k41 => ?_) (fun k42 => ?_)
  refine st_iload c243_161 rfl ?_
  refine st_iconst c243_162 ?_
  refine st_icmp_ge c243_164 (by omega) (by omega) (fun k43 => ?_) (fun k44 => ?_)
  refine st_iconst c243_186 ?_
  refine st_ireturn c243_187 ?_
  exact hQ _ _ ⟨2, rfl, by omega, rfl⟩
  refine st_aload c243_167 rfl ?_
  refine st_getX (u := 113) c243_168 hT (tf hT rfl rfl) fd_8_59 rfl ?_
  refine st_iconst c243_171 ?_
  refine st_iload c243_173 rfl ?_
  refine st_imul c243_174 ?_
  refine st_iload c243_175 rfl ?_
  refine st_iadd c243_176 ?_
  refine st_iald c243_177 hT (tf hT rfl rfl) ay_91 (by omega) (fun e45 e46 => ?_)
  refine st_iconst c243_178 ?_
  refine st_icmp_ne c243_179 (by omega) (by omega) (fun k47 => ?_) (fun k48 => ?_)
  refine st_iconst c243_186 ?_
  refine st_ireturn c243_187 ?_
  exact hQ _ _ ⟨2, rfl, by omega, rfl⟩
  refine st_iconst c243_182 ?_
  refine st_goto c243_183 ?_
  refine st_ireturn c243_187 ?_
  exact hQ _ _ ⟨3, rfl, by omega, rfl⟩
  refine st_aload c243_142 rfl ?_
  refine st_getX (u := 94) c243_143 hT (tf hT rfl rfl) fd_8_36 rfl ?_
  refine st_iload c243_146 rfl ?_
  refine st_iald c243_148 hT (tf hT rfl rfl) ay_72 (by omega) (fun e49 e50 => ?_)
  refine st_aload c243_149 rfl ?_
  refine st_getX (u := 94) c243_150 hT (tf hT rfl rfl) fd_8_36 rfl ?_
  refine st_iload c243_153 rfl ?_
  refine st_iald c243_155 hT (tf hT rfl rfl) ay_72 (by omega) (fun e51 e52 => ?_)
  refine st_icmp_ne c243_156 (by omega) (by omega) (fun k53 => ?_) (fun k54 => ?_)
  refine st_iload c243_161 rfl ?_
  refine st_iconst c243_162 ?_
  refine st_icmp_ge c243_164 (by omega) (by omega) (fun k55 => ?_) (fun k56 => ?_)
  refine st_iconst c243_186 ?_
  refine st_ireturn c243_187 ?_
  exact hQ _ _ ⟨2, rfl, by omega, rfl⟩
  refine st_aload c243_167 rfl ?_
  refine st_getX (u := 113) c243_168 hT (tf hT rfl rfl) fd_8_59 rfl ?_
  refine st_iconst c243_171 ?_
  refine st_iload c243_173 rfl ?_
  refine st_imul c243_174 ?_
  refine st_iload c243_175 rfl ?_
  refine st_iadd c243_176 ?_
  refine st_iald c243_177 hT (tf hT rfl rfl) ay_91 (by omega) (fun e57 e58 => ?_)
  refine st_iconst c243_178 ?_
  refine st_icmp_ne c243_179 (by omega) (by omega) (fun k59 => ?_) (fun k60 => ?_)
  refine st_iconst c243_186 ?_
  refine st_ireturn c243_187 ?_
  exact hQ _ _ ⟨2, rfl, by omega, rfl⟩
  refine st_iconst c243_182 ?_
  refine st_goto c243_183 ?_
  refine st_ireturn c243_187 ?_
  exact hQ _ _ ⟨3, rfl, by omega, rfl⟩
  refine st_iconst c243_159 ?_
  refine st_ireturn c243_160 ?_
  exact hQ _ _ ⟨0, rfl, by omega, rfl⟩
  refine st_iload c243_71 rfl ?_
  refine st_if_lt c243_73 (by omega) (fun k61 => ?_) (fun k62 => ?_)
  refine st_aload c243_114 rfl ?_
  refine st_iload c243_115 rfl ?_
  refine st_iload c243_116 rfl ?_
  refine st_callt (as := [vI (aI h 110 p1), vI w9]) c243_118 cm_196 hT (tf hT rfl rfl) fd_8_0 rfl rfl rfl rfl (by omega) (K196 hT (aI h 110 p1) (by omega) w9 (by omega) (d - 1) (by omega) _ (fun v h0 H => H)) (fun v1 h1 H => ?_)
  obtain ⟨z63, rfl, b64, rfl⟩ := H
  refine st_istore (L' := [some (.ref 64), some (vI p1), some (vI p2), some (vI (aI h 110 p1)), some (vI w9), some (vI z21), some (vI z23), some (vI z25), some (vI z63), none]) c243_121 rfl rfl ?_
  refine st_aload c243_123 rfl ?_
  refine st_iload c243_124 rfl ?_
  refine st_iload c243_125 rfl ?_
  refine st_callt (as := [vI (aI h 110 p1), vI z21]) c243_127 cm_197 hT (tf hT rfl rfl) fd_8_0 rfl rfl rfl rfl (by omega) (K197 hT (aI h 110 p1) (by omega) z21 (by omega) (d - 1) (by omega) _ (fun v h0 H => H)) (fun v1 h1 H => ?_)
  obtain ⟨z65, rfl, b66, rfl⟩ := H
  refine st_istore (L' := [some (.ref 64), some (vI p1), some (vI p2), some (vI (aI h 110 p1)), some (vI w9), some (vI z21), some (vI z23), some (vI z25), some (vI z63), some (vI z65)]) c243_130 rfl rfl ?_
  refine st_iload c243_132 rfl ?_
  refine st_if_lt c243_134 (by omega) (fun k67 => ?_) (fun k68 => ?_)
  refine st_iload c243_161 rfl ?_
  refine st_iconst c243_162 ?_
  refine st_icmp_ge c243_164 (by omega) (by omega) (fun k69 => ?_) (fun k70 => ?_)
  refine st_iconst c243_186 ?_
  refine st_ireturn c243_187 ?_
  exact hQ _ _ ⟨2, rfl, by omega, rfl⟩
  refine st_aload c243_167 rfl ?_
  refine st_getX (u := 113) c243_168 hT (tf hT rfl rfl) fd_8_59 rfl ?_
  refine st_iconst c243_171 ?_
  refine st_iload c243_173 rfl ?_
  refine st_imul c243_174 ?_
  refine st_iload c243_175 rfl ?_
  refine st_iadd c243_176 ?_
  refine st_iald c243_177 hT (tf hT rfl rfl) ay_91 (by omega) (fun e71 e72 => ?_)
  refine st_iconst c243_178 ?_
  refine st_icmp_ne c243_179 (by omega) (by omega) (fun k73 => ?_) (fun k74 => ?_)
  refine st_iconst c243_186 ?_
  refine st_ireturn c243_187 ?_
  exact hQ _ _ ⟨2, rfl, by omega, rfl⟩
  refine st_iconst c243_182 ?_
  refine st_goto c243_183 ?_
  refine st_ireturn c243_187 ?_
  exact hQ _ _ ⟨3, rfl, by omega, rfl⟩
  refine st_iload c243_137 rfl ?_
  refine st_if_lt c243_139 (by omega) (fun k75 => ?_) (fun k76 => ?_)
  refine st_iload c243_161 rfl ?_
  refine st_iconst c243_162 ?_
  refine st_icmp_ge c243_164 (by omega) (by omega) (fun k77 => ?_) (fun k78 => ?_)
  refine st_iconst c243_186 ?_
  refine st_ireturn c243_187 ?_
  exact hQ _ _ ⟨2, rfl, by omega, rfl⟩
  refine st_aload c243_167 rfl ?_
  refine st_getX (u := 113) c243_168 hT (tf hT rfl rfl) fd_8_59 rfl ?_
  refine st_iconst c243_171 ?_
  refine st_iload c243_173 rfl ?_
  refine st_imul c243_174 ?_
  refine st_iload c243_175 rfl ?_
  refine st_iadd c243_176 ?_
  refine st_iald c243_177 hT (tf hT rfl rfl) ay_91 (by omega) (fun e79 e80 => ?_)
  refine st_iconst c243_178 ?_
  refine st_icmp_ne c243_179 (by omega) (by omega) (fun k81 => ?_) (fun k82 => ?_)
  refine st_iconst c243_186 ?_
  refine st_ireturn c243_187 ?_
  exact hQ _ _ ⟨2, rfl, by omega, rfl⟩
  refine st_iconst c243_182 ?_
  refine st_goto c243_183 ?_
  refine st_ireturn c243_187 ?_
  exact hQ _ _ ⟨3, rfl, by omega, rfl⟩
  refine st_aload c243_142 rfl ?_
  refine st_getX (u := 94) c243_143 hT (tf hT rfl rfl) fd_8_36 rfl ?_
  refine st_iload c243_146 rfl ?_
  refine st_iald c243_148 hT (tf hT rfl rfl) ay_72 (by omega) (fun e83 e84 => ?_)
  refine st_aload c243_149 rfl ?_
  refine st_getX (u := 94) c243_150 hT (tf hT rfl rfl) fd_8_36 rfl ?_
  refine st_iload c243_153 rfl ?_
  refine st_iald c243_155 hT (tf hT rfl rfl) ay_72 (by omega) (fun e85 e86 => ?_)
  refine st_icmp_ne c243_156 (by omega) (by omega) (fun k87 => ?_) (fun k88 => ?_)
  refine st_iload c243_161 rfl ?_
  refine st_iconst c243_162 ?_
  refine st_icmp_ge c243_164 (by omega) (by omega) (fun k89 => ?_) (fun k90 => ?_)
  refine st_iconst c243_186 ?_
  refine st_ireturn c243_187 ?_
  exact hQ _ _ ⟨2, rfl, by omega, rfl⟩
  refine st_aload c243_167 rfl ?_
  refine st_getX (u := 113) c243_168 hT (tf hT rfl rfl) fd_8_59 rfl ?_
  refine st_iconst c243_171 ?_
  refine st_iload c243_173 rfl ?_
  refine st_imul c243_174 ?_
  refine st_iload c243_175 rfl ?_
  refine st_iadd c243_176 ?_
  refine st_iald c243_177 hT (tf hT rfl rfl) ay_91 (by omega) (fun e91 e92 => ?_)
  refine st_iconst c243_178 ?_
  refine st_icmp_ne c243_179 (by omega) (by omega) (fun k93 => ?_) (fun k94 => ?_)
  refine st_iconst c243_186 ?_
  refine st_ireturn c243_187 ?_
  exact hQ _ _ ⟨2, rfl, by omega, rfl⟩
  refine st_iconst c243_182 ?_
  refine st_goto c243_183 ?_
  refine st_ireturn c243_187 ?_
  exact hQ _ _ ⟨3, rfl, by omega, rfl⟩
  refine st_iconst c243_159 ?_
  refine st_ireturn c243_160 ?_
  exact hQ _ _ ⟨0, rfl, by omega, rfl⟩
  refine st_iload c243_76 rfl ?_
  refine st_iload c243_78 rfl ?_
  refine st_icmp_ge c243_80 (by omega) (by omega) (fun k95 => ?_) (fun k96 => ?_)
  refine st_aload c243_114 rfl ?_
  refine st_iload c243_115 rfl ?_
  refine st_iload c243_116 rfl ?_
  refine st_callt (as := [vI (aI h 110 p1), vI w9]) c243_118 cm_196 hT (tf hT rfl rfl) fd_8_0 rfl rfl rfl rfl (by omega) (K196 hT (aI h 110 p1) (by omega) w9 (by omega) (d - 1) (by omega) _ (fun v h0 H => H)) (fun v1 h1 H => ?_)
  obtain ⟨z97, rfl, b98, rfl⟩ := H
  refine st_istore (L' := [some (.ref 64), some (vI p1), some (vI p2), some (vI (aI h 110 p1)), some (vI w9), some (vI z21), some (vI z23), some (vI z25), some (vI z97), none]) c243_121 rfl rfl ?_
  refine st_aload c243_123 rfl ?_
  refine st_iload c243_124 rfl ?_
  refine st_iload c243_125 rfl ?_
  refine st_callt (as := [vI (aI h 110 p1), vI z21]) c243_127 cm_197 hT (tf hT rfl rfl) fd_8_0 rfl rfl rfl rfl (by omega) (K197 hT (aI h 110 p1) (by omega) z21 (by omega) (d - 1) (by omega) _ (fun v h0 H => H)) (fun v1 h1 H => ?_)
  obtain ⟨z99, rfl, b100, rfl⟩ := H
  refine st_istore (L' := [some (.ref 64), some (vI p1), some (vI p2), some (vI (aI h 110 p1)), some (vI w9), some (vI z21), some (vI z23), some (vI z25), some (vI z97), some (vI z99)]) c243_130 rfl rfl ?_
  refine st_iload c243_132 rfl ?_
  refine st_if_lt c243_134 (by omega) (fun k101 => ?_) (fun k102 => ?_)
  refine st_iload c243_161 rfl ?_
  refine st_iconst c243_162 ?_
  refine st_icmp_ge c243_164 (by omega) (by omega) (fun k103 => ?_) (fun k104 => ?_)
  refine st_iconst c243_186 ?_
  refine st_ireturn c243_187 ?_
  exact hQ _ _ ⟨2, rfl, by omega, rfl⟩
  refine st_aload c243_167 rfl ?_
  refine st_getX (u := 113) c243_168 hT (tf hT rfl rfl) fd_8_59 rfl ?_
  refine st_iconst c243_171 ?_
  refine st_iload c243_173 rfl ?_
  refine st_imul c243_174 ?_
  refine st_iload c243_175 rfl ?_
  refine st_iadd c243_176 ?_
  refine st_iald c243_177 hT (tf hT rfl rfl) ay_91 (by omega) (fun e105 e106 => ?_)
  refine st_iconst c243_178 ?_
  refine st_icmp_ne c243_179 (by omega) (by omega) (fun k107 => ?_) (fun k108 => ?_)
  refine st_iconst c243_186 ?_
  refine st_ireturn c243_187 ?_
  exact hQ _ _ ⟨2, rfl, by omega, rfl⟩
  refine st_iconst c243_182 ?_
  refine st_goto c243_183 ?_
  refine st_ireturn c243_187 ?_
  exact hQ _ _ ⟨3, rfl, by omega, rfl⟩
  refine st_iload c243_137 rfl ?_
  refine st_if_lt c243_139 (by omega) (fun k109 => ?_) (fun k110 => ?_)
  refine st_iload c243_161 rfl ?_
  refine st_iconst c243_162 ?_
  refine st_icmp_ge c243_164 (by omega) (by omega) (fun k111 => ?_) (fun k112 => ?_)
  refine st_iconst c243_186 ?_
  refine st_ireturn c243_187 ?_
  exact hQ _ _ ⟨2, rfl, by omega, rfl⟩
  refine st_aload c243_167 rfl ?_
  refine st_getX (u := 113) c243_168 hT (tf hT rfl rfl) fd_8_59 rfl ?_
  refine st_iconst c243_171 ?_
  refine st_iload c243_173 rfl ?_
  refine st_imul c243_174 ?_
  refine st_iload c243_175 rfl ?_
  refine st_iadd c243_176 ?_
  refine st_iald c243_177 hT (tf hT rfl rfl) ay_91 (by omega) (fun e113 e114 => ?_)
  refine st_iconst c243_178 ?_
  refine st_icmp_ne c243_179 (by omega) (by omega) (fun k115 => ?_) (fun k116 => ?_)
  refine st_iconst c243_186 ?_
  refine st_ireturn c243_187 ?_
  exact hQ _ _ ⟨2, rfl, by omega, rfl⟩
  refine st_iconst c243_182 ?_
  refine st_goto c243_183 ?_
  refine st_ireturn c243_187 ?_
  exact hQ _ _ ⟨3, rfl, by omega, rfl⟩
  refine st_aload c243_142 rfl ?_
  refine st_getX (u := 94) c243_143 hT (tf hT rfl rfl) fd_8_36 rfl ?_
  refine st_iload c243_146 rfl ?_
  refine st_iald c243_148 hT (tf hT rfl rfl) ay_72 (by omega) (fun e117 e118 => ?_)
  refine st_aload c243_149 rfl ?_
  refine st_getX (u := 94) c243_150 hT (tf hT rfl rfl) fd_8_36 rfl ?_
  refine st_iload c243_153 rfl ?_
  refine st_iald c243_155 hT (tf hT rfl rfl) ay_72 (by omega) (fun e119 e120 => ?_)
  refine st_icmp_ne c243_156 (by omega) (by omega) (fun k121 => ?_) (fun k122 => ?_)
  refine st_iload c243_161 rfl ?_
  refine st_iconst c243_162 ?_
  refine st_icmp_ge c243_164 (by omega) (by omega) (fun k123 => ?_) (fun k124 => ?_)
  refine st_iconst c243_186 ?_
  refine st_ireturn c243_187 ?_
  exact hQ _ _ ⟨2, rfl, by omega, rfl⟩
  refine st_aload c243_167 rfl ?_
  refine st_getX (u := 113) c243_168 hT (tf hT rfl rfl) fd_8_59 rfl ?_
  refine st_iconst c243_171 ?_
  refine st_iload c243_173 rfl ?_
  refine st_imul c243_174 ?_
  refine st_iload c243_175 rfl ?_
  refine st_iadd c243_176 ?_
  refine st_iald c243_177 hT (tf hT rfl rfl) ay_91 (by omega) (fun e125 e126 => ?_)
  refine st_iconst c243_178 ?_
  refine st_icmp_ne c243_179 (by omega) (by omega) (fun k127 => ?_) (fun k128 => ?_)
  refine st_iconst c243_186 ?_
  refine st_ireturn c243_187 ?_
  exact hQ _ _ ⟨2, rfl, by omega, rfl⟩
  refine st_iconst c243_182 ?_
  refine st_goto c243_183 ?_
  refine st_ireturn c243_187 ?_
  exact hQ _ _ ⟨3, rfl, by omega, rfl⟩
  refine st_iconst c243_159 ?_
  refine st_ireturn c243_160 ?_
  exact hQ _ _ ⟨0, rfl, by omega, rfl⟩
  refine st_aload c243_83 rfl ?_
  refine st_getX (u := 93) c243_84 hT (tf hT rfl rfl) fd_8_35 rfl ?_
  refine st_iload c243_87 rfl ?_
  refine st_iald c243_89 hT (tf hT rfl rfl) ay_71 (by omega) (fun e129 e130 => ?_)
  refine st_iload c243_90 rfl ?_
  refine st_icmp_lt c243_92 (by omega) (by omega) (fun k131 => ?_) (fun k132 => ?_)
  refine st_aload c243_114 rfl ?_
  refine st_iload c243_115 rfl ?_
  refine st_iload c243_116 rfl ?_
  refine st_callt (as := [vI (aI h 110 p1), vI w9]) c243_118 cm_196 hT (tf hT rfl rfl) fd_8_0 rfl rfl rfl rfl (by omega) (K196 hT (aI h 110 p1) (by omega) w9 (by omega) (d - 1) (by omega) _ (fun v h0 H => H)) (fun v1 h1 H => ?_)
  obtain ⟨z133, rfl, b134, rfl⟩ := H
  refine st_istore (L' := [some (.ref 64), some (vI p1), some (vI p2), some (vI (aI h 110 p1)), some (vI w9), some (vI z21), some (vI z23), some (vI z25), some (vI z133), none]) c243_121 rfl rfl ?_
  refine st_aload c243_123 rfl ?_
  refine st_iload c243_124 rfl ?_
  refine st_iload c243_125 rfl ?_
  refine st_callt (as := [vI (aI h 110 p1), vI z21]) c243_127 cm_197 hT (tf hT rfl rfl) fd_8_0 rfl rfl rfl rfl (by omega) (K197 hT (aI h 110 p1) (by omega) z21 (by omega) (d - 1) (by omega) _ (fun v h0 H => H)) (fun v1 h1 H => ?_)
  obtain ⟨z135, rfl, b136, rfl⟩ := H
  refine st_istore (L' := [some (.ref 64), some (vI p1), some (vI p2), some (vI (aI h 110 p1)), some (vI w9), some (vI z21), some (vI z23), some (vI z25), some (vI z133), some (vI z135)]) c243_130 rfl rfl ?_
  refine st_iload c243_132 rfl ?_
  refine st_if_lt c243_134 (by omega) (fun k137 => ?_) (fun k138 => ?_)
  refine st_iload c243_161 rfl ?_
  refine st_iconst c243_162 ?_
  refine st_icmp_ge c243_164 (by omega) (by omega) (fun k139 => ?_) (fun k140 => ?_)
  refine st_iconst c243_186 ?_
  refine st_ireturn c243_187 ?_
  exact hQ _ _ ⟨2, rfl, by omega, rfl⟩
  refine st_aload c243_167 rfl ?_
  refine st_getX (u := 113) c243_168 hT (tf hT rfl rfl) fd_8_59 rfl ?_
  refine st_iconst c243_171 ?_
  refine st_iload c243_173 rfl ?_
  refine st_imul c243_174 ?_
  refine st_iload c243_175 rfl ?_
  refine st_iadd c243_176 ?_
  refine st_iald c243_177 hT (tf hT rfl rfl) ay_91 (by omega) (fun e141 e142 => ?_)
  refine st_iconst c243_178 ?_
  refine st_icmp_ne c243_179 (by omega) (by omega) (fun k143 => ?_) (fun k144 => ?_)
  refine st_iconst c243_186 ?_
  refine st_ireturn c243_187 ?_
  exact hQ _ _ ⟨2, rfl, by omega, rfl⟩
  refine st_iconst c243_182 ?_
  refine st_goto c243_183 ?_
  refine st_ireturn c243_187 ?_
  exact hQ _ _ ⟨3, rfl, by omega, rfl⟩
  refine st_iload c243_137 rfl ?_
  refine st_if_lt c243_139 (by omega) (fun k145 => ?_) (fun k146 => ?_)
  refine st_iload c243_161 rfl ?_
  refine st_iconst c243_162 ?_
  refine st_icmp_ge c243_164 (by omega) (by omega) (fun k147 => ?_) (fun k148 => ?_)
  refine st_iconst c243_186 ?_
  refine st_ireturn c243_187 ?_
  exact hQ _ _ ⟨2, rfl, by omega, rfl⟩
  refine st_aload c243_167 rfl ?_
  refine st_getX (u := 113) c243_168 hT (tf hT rfl rfl) fd_8_59 rfl ?_
  refine st_iconst c243_171 ?_
  refine st_iload c243_173 rfl ?_
  refine st_imul c243_174 ?_
  refine st_iload c243_175 rfl ?_
  refine st_iadd c243_176 ?_
  refine st_iald c243_177 hT (tf hT rfl rfl) ay_91 (by omega) (fun e149 e150 => ?_)
  refine st_iconst c243_178 ?_
  refine st_icmp_ne c243_179 (by omega) (by omega) (fun k151 => ?_) (fun k152 => ?_)
  refine st_iconst c243_186 ?_
  refine st_ireturn c243_187 ?_
  exact hQ _ _ ⟨2, rfl, by omega, rfl⟩
  refine st_iconst c243_182 ?_
  refine st_goto c243_183 ?_
  refine st_ireturn c243_187 ?_
  exact hQ _ _ ⟨3, rfl, by omega, rfl⟩
  refine st_aload c243_142 rfl ?_
  refine st_getX (u := 94) c243_143 hT (tf hT rfl rfl) fd_8_36 rfl ?_
  refine st_iload c243_146 rfl ?_
  refine st_iald c243_148 hT (tf hT rfl rfl) ay_72 (by omega) (fun e153 e154 => ?_)
  refine st_aload c243_149 rfl ?_
  refine st_getX (u := 94) c243_150 hT (tf hT rfl rfl) fd_8_36 rfl ?_
  refine st_iload c243_153 rfl ?_
  refine st_iald c243_155 hT (tf hT rfl rfl) ay_72 (by omega) (fun e155 e156 => ?_)
  refine st_icmp_ne c243_156 (by omega) (by omega) (fun k157 => ?_) (fun k158 => ?_)
  refine st_iload c243_161 rfl ?_
  refine st_iconst c243_162 ?_
  refine st_icmp_ge c243_164 (by omega) (by omega) (fun k159 => ?_) (fun k160 => ?_)
  refine st_iconst c243_186 ?_
  refine st_ireturn c243_187 ?_
  exact hQ _ _ ⟨2, rfl, by omega, rfl⟩
  refine st_aload c243_167 rfl ?_
  refine st_getX (u := 113) c243_168 hT (tf hT rfl rfl) fd_8_59 rfl ?_
  refine st_iconst c243_171 ?_
  refine st_iload c243_173 rfl ?_
  refine st_imul c243_174 ?_
  refine st_iload c243_175 rfl ?_
  refine st_iadd c243_176 ?_
  refine st_iald c243_177 hT (tf hT rfl rfl) ay_91 (by omega) (fun e161 e162 => ?_)
  refine st_iconst c243_178 ?_
  refine st_icmp_ne c243_179 (by omega) (by omega) (fun k163 => ?_) (fun k164 => ?_)
  refine st_iconst c243_186 ?_
  refine st_ireturn c243_187 ?_
  exact hQ _ _ ⟨2, rfl, by omega, rfl⟩
  refine st_iconst c243_182 ?_
  refine st_goto c243_183 ?_
  refine st_ireturn c243_187 ?_
  exact hQ _ _ ⟨3, rfl, by omega, rfl⟩
  refine st_iconst c243_159 ?_
  refine st_ireturn c243_160 ?_
  exact hQ _ _ ⟨0, rfl, by omega, rfl⟩
  refine st_aload c243_95 rfl ?_
  refine st_getX (u := 94) c243_96 hT (tf hT rfl rfl) fd_8_36 rfl ?_
  refine st_iload c243_99 rfl ?_
  refine st_iald c243_101 hT (tf hT rfl rfl) ay_72 (by omega) (fun e165 e166 => ?_)
  refine st_aload c243_102 rfl ?_
  refine st_getX (u := 94) c243_103 hT (tf hT rfl rfl) fd_8_36 rfl ?_
  refine st_iload c243_106 rfl ?_
  refine st_iald c243_108 hT (tf hT rfl rfl) ay_72 (by omega) (fun e167 e168 => ?_)
  refine st_icmp_eq c243_109 (by omega) (by omega) (fun k169 => ?_) (fun k170 => ?_)
  refine st_aload c243_114 rfl ?_
  refine st_iload c243_115 rfl ?_
  refine st_iload c243_116 rfl ?_
  refine st_callt (as := [vI (aI h 110 p1), vI w9]) c243_118 cm_196 hT (tf hT rfl rfl) fd_8_0 rfl rfl rfl rfl (by omega) (K196 hT (aI h 110 p1) (by omega) w9 (by omega) (d - 1) (by omega) _ (fun v h0 H => H)) (fun v1 h1 H => ?_)
  obtain ⟨z171, rfl, b172, rfl⟩ := H
  refine st_istore (L' := [some (.ref 64), some (vI p1), some (vI p2), some (vI (aI h 110 p1)), some (vI w9), some (vI z21), some (vI z23), some (vI z25), some (vI z171), none]) c243_121 rfl rfl ?_
  refine st_aload c243_123 rfl ?_
  refine st_iload c243_124 rfl ?_
  refine st_iload c243_125 rfl ?_
  refine st_callt (as := [vI (aI h 110 p1), vI z21]) c243_127 cm_197 hT (tf hT rfl rfl) fd_8_0 rfl rfl rfl rfl (by omega) (K197 hT (aI h 110 p1) (by omega) z21 (by omega) (d - 1) (by omega) _ (fun v h0 H => H)) (fun v1 h1 H => ?_)
  obtain ⟨z173, rfl, b174, rfl⟩ := H
  refine st_istore (L' := [some (.ref 64), some (vI p1), some (vI p2), some (vI (aI h 110 p1)), some (vI w9), some (vI z21), some (vI z23), some (vI z25), some (vI z171), some (vI z173)]) c243_130 rfl rfl ?_
  refine st_iload c243_132 rfl ?_
  refine st_if_lt c243_134 (by omega) (fun k175 => ?_) (fun k176 => ?_)
  refine st_iload c243_161 rfl ?_
  refine st_iconst c243_162 ?_
  refine st_icmp_ge c243_164 (by omega) (by omega) (fun k177 => ?_) (fun k178 => ?_)
  refine st_iconst c243_186 ?_
  refine st_ireturn c243_187 ?_
  exact hQ _ _ ⟨2, rfl, by omega, rfl⟩
  refine st_aload c243_167 rfl ?_
  refine st_getX (u := 113) c243_168 hT (tf hT rfl rfl) fd_8_59 rfl ?_
  refine st_iconst c243_171 ?_
  refine st_iload c243_173 rfl ?_
  refine st_imul c243_174 ?_
  refine st_iload c243_175 rfl ?_
  refine st_iadd c243_176 ?_
  refine st_iald c243_177 hT (tf hT rfl rfl) ay_91 (by omega) (fun e179 e180 => ?_)
  refine st_iconst c243_178 ?_
  refine st_icmp_ne c243_179 (by omega) (by omega) (fun k181 => ?_) (fun k182 => ?_)
  refine st_iconst c243_186 ?_
  refine st_ireturn c243_187 ?_
  exact hQ _ _ ⟨2, rfl, by omega, rfl⟩
  refine st_iconst c243_182 ?_
  refine st_goto c243_183 ?_
  refine st_ireturn c243_187 ?_
  exact hQ _ _ ⟨3, rfl, by omega, rfl⟩
  refine st_iload c243_137 rfl ?_
  refine st_if_lt c243_139 (by omega) (fun k183 => ?_) (fun k184 => ?_)
  refine st_iload c243_161 rfl ?_
  refine st_iconst c243_162 ?_
  refine st_icmp_ge c243_164 (by omega) (by omega) (fun k185 => ?_) (fun k186 => ?_)
  refine st_iconst c243_186 ?_
  refine st_ireturn c243_187 ?_
  exact hQ _ _ ⟨2, rfl, by omega, rfl⟩
  refine st_aload c243_167 rfl ?_
  refine st_getX (u := 113) c243_168 hT (tf hT rfl rfl) fd_8_59 rfl ?_
  refine st_iconst c243_171 ?_
  refine st_iload c243_173 rfl ?_
  refine st_imul c243_174 ?_
  refine st_iload c243_175 rfl ?_
  refine st_iadd c243_176 ?_
  refine st_iald c243_177 hT (tf hT rfl rfl) ay_91 (by omega) (fun e187 e188 => ?_)
  refine st_iconst c243_178 ?_
  refine st_icmp_ne c243_179 (by omega) (by omega) (fun k189 => ?_) (fun k190 => ?_)
  refine st_iconst c243_186 ?_
  refine st_ireturn c243_187 ?_
  exact hQ _ _ ⟨2, rfl, by omega, rfl⟩
  refine st_iconst c243_182 ?_
  refine st_goto c243_183 ?_
  refine st_ireturn c243_187 ?_
  exact hQ _ _ ⟨3, rfl, by omega, rfl⟩
  refine st_aload c243_142 rfl ?_
  refine st_getX (u := 94) c243_143 hT (tf hT rfl rfl) fd_8_36 rfl ?_
  refine st_iload c243_146 rfl ?_
  refine st_iald c243_148 hT (tf hT rfl rfl) ay_72 (by omega) (fun e191 e192 => ?_)
  refine st_aload c243_149 rfl ?_
  refine st_getX (u := 94) c243_150 hT (tf hT rfl rfl) fd_8_36 rfl ?_
  refine st_iload c243_153 rfl ?_
  refine st_iald c243_155 hT (tf hT rfl rfl) ay_72 (by omega) (fun e193 e194 => ?_)
  refine st_icmp_ne c243_156 (by omega) (by omega) (fun k195 => ?_) (fun k196 => ?_)
  refine st_iload c243_161 rfl ?_
  refine st_iconst c243_162 ?_
  refine st_icmp_ge c243_164 (by omega) (by omega) (fun k197 => ?_) (fun k198 => ?_)
  refine st_iconst c243_186 ?_
  refine st_ireturn c243_187 ?_
  exact hQ _ _ ⟨2, rfl, by omega, rfl⟩
  refine st_aload c243_167 rfl ?_
  refine st_getX (u := 113) c243_168 hT (tf hT rfl rfl) fd_8_59 rfl ?_
  refine st_iconst c243_171 ?_
  refine st_iload c243_173 rfl ?_
  refine st_imul c243_174 ?_
  refine st_iload c243_175 rfl ?_
  refine st_iadd c243_176 ?_
  refine st_iald c243_177 hT (tf hT rfl rfl) ay_91 (by omega) (fun e199 e200 => ?_)
  refine st_iconst c243_178 ?_
  refine st_icmp_ne c243_179 (by omega) (by omega) (fun k201 => ?_) (fun k202 => ?_)
  refine st_iconst c243_186 ?_
  refine st_ireturn c243_187 ?_
  exact hQ _ _ ⟨2, rfl, by omega, rfl⟩
  refine st_iconst c243_182 ?_
  refine st_goto c243_183 ?_
  refine st_ireturn c243_187 ?_
  exact hQ _ _ ⟨3, rfl, by omega, rfl⟩
  refine st_iconst c243_159 ?_
  refine st_ireturn c243_160 ?_
  exact hQ _ _ ⟨0, rfl, by omega, rfl⟩
  refine st_iconst c243_112 ?_
  refine st_ireturn c243_113 ?_
  exact hQ _ _ ⟨1, rfl, by omega, rfl⟩
  refine st_iload c243_33 rfl ?_
  refine st_iconst c243_35 ?_
  refine st_iadd c243_37 ?_
  refine MR_wrap (fun w203 e204 e205 e206 => ?_)
  refine st_goto c243_38 ?_
  refine st_istore (L' := [some (.ref 64), some (vI p1), some (vI p2), some (vI (aI h 110 p1)), some (vI w9), some (vI w203), none, none, none, none]) c243_46 rfl rfl ?_
  refine st_aload c243_48 rfl ?_
  refine st_iload c243_49 rfl ?_
  refine st_iload c243_50 rfl ?_
  refine st_callt (as := [vI (aI h 110 p1), vI w9]) c243_52 cm_197 hT (tf hT rfl rfl) fd_8_0 rfl rfl rfl rfl (by omega) (K197 hT (aI h 110 p1) (by omega) w9 (by omega) (d - 1) (by omega) _ (fun v h0 H => H)) (fun v1 h1 H => ?_)
  obtain ⟨z207, rfl, b208, rfl⟩ := H
  refine st_istore (L' := [some (.ref 64), some (vI p1), some (vI p2), some (vI (aI h 110 p1)), some (vI w9), some (vI w203), some (vI z207), none, none, none]) c243_55 rfl rfl ?_
  refine st_aload c243_57 rfl ?_
  refine st_iload c243_58 rfl ?_
  refine st_iload c243_59 rfl ?_
  refine st_callt (as := [vI (aI h 110 p1), vI w203]) c243_61 cm_196 hT (tf hT rfl rfl) fd_8_0 rfl rfl rfl rfl (by omega) (K196 hT (aI h 110 p1) (by omega) w203 (by omega) (d - 1) (by omega) _ (fun v h0 H => H)) (fun v1 h1 H => ?_)
  obtain ⟨z209, rfl, b210, rfl⟩ := H
  refine st_istore (L' := [some (.ref 64), some (vI p1), some (vI p2), some (vI (aI h 110 p1)), some (vI w9), some (vI w203), some (vI z207), some (vI z209), none, none]) c243_64 rfl rfl ?_
  refine st_iload c243_66 rfl ?_
  refine st_if_lt c243_68 (by omega) (fun k211 => ?_) (fun k212 => ?_)
  refine st_aload c243_114 rfl ?_
  refine st_iload c243_115 rfl ?_
  refine st_iload c243_116 rfl ?_
  refine st_callt (as := [vI (aI h 110 p1), vI w9]) c243_118 cm_196 hT (tf hT rfl rfl) fd_8_0 rfl rfl rfl rfl (by omega) (K196 hT (aI h 110 p1) (by omega) w9 (by omega) (d - 1) (by omega) _ (fun v h0 H => H)) (fun v1 h1 H => ?_)
  obtain ⟨z213, rfl, b214, rfl⟩ := H
  refine st_istore (L' := [some (.ref 64), some (vI p1), some (vI p2), some (vI (aI h 110 p1)), some (vI w9), some (vI w203), some (vI z207), some (vI z209), some (vI z213), none]) c243_121 rfl rfl ?_
  refine st_aload c243_123 rfl ?_
  refine st_iload c243_124 rfl ?_
  refine st_iload c243_125 rfl ?_
  refine st_callt (as := [vI (aI h 110 p1), vI w203]) c243_127 cm_197 hT (tf hT rfl rfl) fd_8_0 rfl rfl rfl rfl (by omega) (K197 hT (aI h 110 p1) (by omega) w203 (by omega) (d - 1) (by omega) _ (fun v h0 H => H)) (fun v1 h1 H => ?_)
  obtain ⟨z215, rfl, b216, rfl⟩ := H
  refine st_istore (L' := [some (.ref 64), some (vI p1), some (vI p2), some (vI (aI h 110 p1)), some (vI w9), some (vI w203), some (vI z207), some (vI z209), some (vI z213), some (vI z215)]) c243_130 rfl rfl ?_
  refine st_iload c243_132 rfl ?_
  refine st_if_lt c243_134 (by omega) (fun k217 => ?_) (fun k218 => ?_)
  refine st_iload c243_161 rfl ?_
  refine st_iconst c243_162 ?_
  refine st_icmp_ge c243_164 (by omega) (by omega) (fun k219 => ?_) (fun k220 => ?_)
  refine st_iconst c243_186 ?_
  refine st_ireturn c243_187 ?_
  exact hQ _ _ ⟨2, rfl, by omega, rfl⟩
  refine st_aload c243_167 rfl ?_
  refine st_getX (u := 113) c243_168 hT (tf hT rfl rfl) fd_8_59 rfl ?_
  refine st_iconst c243_171 ?_
  refine st_iload c243_173 rfl ?_
  refine st_imul c243_174 ?_
  refine st_iload c243_175 rfl ?_
  refine st_iadd c243_176 ?_
  refine st_iald c243_177 hT (tf hT rfl rfl) ay_91 (by omega) (fun e221 e222 => ?_)
  refine st_iconst c243_178 ?_
  refine st_icmp_ne c243_179 (by omega) (by omega) (fun k223 => ?_) (fun k224 => ?_)
  refine st_iconst c243_186 ?_
  refine st_ireturn c243_187 ?_
  exact hQ _ _ ⟨2, rfl, by omega, rfl⟩
  refine st_iconst c243_182 ?_
  refine st_goto c243_183 ?_
  refine st_ireturn c243_187 ?_
  exact hQ _ _ ⟨3, rfl, by omega, rfl⟩
  refine st_iload c243_137 rfl ?_
  refine st_if_lt c243_139 (by omega) (fun k225 => ?_) (fun k226 => ?_)
  refine st_iload c243_161 rfl ?_
  refine st_iconst c243_162 ?_
  refine st_icmp_ge c243_164 (by omega) (by omega) (fun k227 => ?_) (fun k228 => ?_)
  refine st_iconst c243_186 ?_
  refine st_ireturn c243_187 ?_
  exact hQ _ _ ⟨2, rfl, by omega, rfl⟩
  refine st_aload c243_167 rfl ?_
  refine st_getX (u := 113) c243_168 hT (tf hT rfl rfl) fd_8_59 rfl ?_
  refine st_iconst c243_171 ?_
  refine st_iload c243_173 rfl ?_
  refine st_imul c243_174 ?_
  refine st_iload c243_175 rfl ?_
  refine st_iadd c243_176 ?_
  refine st_iald c243_177 hT (tf hT rfl rfl) ay_91 (by omega) (fun e229 e230 => ?_)
  refine st_iconst c243_178 ?_
  refine st_icmp_ne c243_179 (by omega) (by omega) (fun k231 => ?_) (fun k232 => ?_)
  refine st_iconst c243_186 ?_
  refine st_ireturn c243_187 ?_
  exact hQ _ _ ⟨2, rfl, by omega, rfl⟩
  refine st_iconst c243_182 ?_
  refine st_goto c243_183 ?_
  refine st_ireturn c243_187 ?_
  exact hQ _ _ ⟨3, rfl, by omega, rfl⟩
  refine st_aload c243_142 rfl ?_
  refine st_getX (u := 94) c243_143 hT (tf hT rfl rfl) fd_8_36 rfl ?_
  refine st_iload c243_146 rfl ?_
  refine st_iald c243_148 hT (tf hT rfl rfl) ay_72 (by omega) (fun e233 e234 => ?_)
  refine st_aload c243_149 rfl ?_
  refine st_getX (u := 94) c243_150 hT (tf hT rfl rfl) fd_8_36 rfl ?_
  refine st_iload c243_153 rfl ?_
  refine st_iald c243_155 hT (tf hT rfl rfl) ay_72 (by omega) (fun e235 e236 => ?_)
  refine st_icmp_ne c243_156 (by omega) (by omega) (fun k237 => ?_) (fun k238 => ?_)
  refine st_iload c243_161 rfl ?_
  refine st_iconst c243_162 ?_
  refine st_icmp_ge c243_164 (by omega) (by omega) (fun k239 => ?_) (fun k240 => ?_)
  refine st_iconst c243_186 ?_
  refine st_ireturn c243_187 ?_
  exact hQ _ _ ⟨2, rfl, by omega, rfl⟩
  refine st_aload c243_167 rfl ?_
  refine st_getX (u := 113) c243_168 hT (tf hT rfl rfl) fd_8_59 rfl ?_
  refine st_iconst c243_171 ?_
  refine st_iload c243_173 rfl ?_
  refine st_imul c243_174 ?_
  refine st_iload c243_175 rfl ?_
  refine st_iadd c243_176 ?_
  refine st_iald c243_177 hT (tf hT rfl rfl) ay_91 (by omega) (fun e241 e242 => ?_)
  refine st_iconst c243_178 ?_
  refine st_icmp_ne c243_179 (by omega) (by omega) (fun k243 => ?_) (fun k244 => ?_)
  refine st_iconst c243_186 ?_
  refine st_ireturn c243_187 ?_
  exact hQ _ _ ⟨2, rfl, by omega, rfl⟩
  refine st_iconst c243_182 ?_
  refine st_goto c243_183 ?_
  refine st_ireturn c243_187 ?_
  exact hQ _ _ ⟨3, rfl, by omega, rfl⟩
  refine st_iconst c243_159 ?_
  refine st_ireturn c243_160 ?_
  exact hQ _ _ ⟨0, rfl, by omega, rfl⟩
  refine st_iload c243_71 rfl ?_
  refine st_if_lt c243_73 (by omega) (fun k245 => ?_) (fun k246 => ?_)
  refine st_aload c243_114 rfl ?_
  refine st_iload c243_115 rfl ?_
  refine st_iload c243_116 rfl ?_
  refine st_callt (as := [vI (aI h 110 p1), vI w9]) c243_118 cm_196 hT (tf hT rfl rfl) fd_8_0 rfl rfl rfl rfl (by omega) (K196 hT (aI h 110 p1) (by omega) w9 (by omega) (d - 1) (by omega) _ (fun v h0 H => H)) (fun v1 h1 H => ?_)
  obtain ⟨z247, rfl, b248, rfl⟩ := H
  refine st_istore (L' := [some (.ref 64), some (vI p1), some (vI p2), some (vI (aI h 110 p1)), some (vI w9), some (vI w203), some (vI z207), some (vI z209), some (vI z247), none]) c243_121 rfl rfl ?_
  refine st_aload c243_123 rfl ?_
  refine st_iload c243_124 rfl ?_
  refine st_iload c243_125 rfl ?_
  refine st_callt (as := [vI (aI h 110 p1), vI w203]) c243_127 cm_197 hT (tf hT rfl rfl) fd_8_0 rfl rfl rfl rfl (by omega) (K197 hT (aI h 110 p1) (by omega) w203 (by omega) (d - 1) (by omega) _ (fun v h0 H => H)) (fun v1 h1 H => ?_)
  obtain ⟨z249, rfl, b250, rfl⟩ := H
  refine st_istore (L' := [some (.ref 64), some (vI p1), some (vI p2), some (vI (aI h 110 p1)), some (vI w9), some (vI w203), some (vI z207), some (vI z209), some (vI z247), some (vI z249)]) c243_130 rfl rfl ?_
  refine st_iload c243_132 rfl ?_
  refine st_if_lt c243_134 (by omega) (fun k251 => ?_) (fun k252 => ?_)
  refine st_iload c243_161 rfl ?_
  refine st_iconst c243_162 ?_
  refine st_icmp_ge c243_164 (by omega) (by omega) (fun k253 => ?_) (fun k254 => ?_)
  refine st_iconst c243_186 ?_
  refine st_ireturn c243_187 ?_
  exact hQ _ _ ⟨2, rfl, by omega, rfl⟩
  refine st_aload c243_167 rfl ?_
  refine st_getX (u := 113) c243_168 hT (tf hT rfl rfl) fd_8_59 rfl ?_
  refine st_iconst c243_171 ?_
  refine st_iload c243_173 rfl ?_
  refine st_imul c243_174 ?_
  refine st_iload c243_175 rfl ?_
  refine st_iadd c243_176 ?_
  refine st_iald c243_177 hT (tf hT rfl rfl) ay_91 (by omega) (fun e255 e256 => ?_)
  refine st_iconst c243_178 ?_
  refine st_icmp_ne c243_179 (by omega) (by omega) (fun k257 => ?_) (fun k258 => ?_)
  refine st_iconst c243_186 ?_
  refine st_ireturn c243_187 ?_
  exact hQ _ _ ⟨2, rfl, by omega, rfl⟩
  refine st_iconst c243_182 ?_
  refine st_goto c243_183 ?_
  refine st_ireturn c243_187 ?_
  exact hQ _ _ ⟨3, rfl, by omega, rfl⟩
  refine st_iload c243_137 rfl ?_
  refine st_if_lt c243_139 (by omega) (fun k259 => ?_) (fun k260 => ?_)
  refine st_iload c243_161 rfl ?_
  refine st_iconst c243_162 ?_
  refine st_icmp_ge c243_164 (by omega) (by omega) (fun k261 => ?_) (fun k262 => ?_)
  refine st_iconst c243_186 ?_
  refine st_ireturn c243_187 ?_
  exact hQ _ _ ⟨2, rfl, by omega, rfl⟩
  refine st_aload c243_167 rfl ?_
  refine st_getX (u := 113) c243_168 hT (tf hT rfl rfl) fd_8_59 rfl ?_
  refine st_iconst c243_171 ?_
  refine st_iload c243_173 rfl ?_
  refine st_imul c243_174 ?_
  refine st_iload c243_175 rfl ?_
  refine st_iadd c243_176 ?_
  refine st_iald c243_177 hT (tf hT rfl rfl) ay_91 (by omega) (fun e263 e264 => ?_)
  refine st_iconst c243_178 ?_
  refine st_icmp_ne c243_179 (by omega) (by omega) (fun k265 => ?_) (fun k266 => ?_)
  refine st_iconst c243_186 ?_
  refine st_ireturn c243_187 ?_
  exact hQ _ _ ⟨2, rfl, by omega, rfl⟩
  refine st_iconst c243_182 ?_
  refine st_goto c243_183 ?_
  refine st_ireturn c243_187 ?_
  exact hQ _ _ ⟨3, rfl, by omega, rfl⟩
  refine st_aload c243_142 rfl ?_
  refine st_getX (u := 94) c243_143 hT (tf hT rfl rfl) fd_8_36 rfl ?_
  refine st_iload c243_146 rfl ?_
  refine st_iald c243_148 hT (tf hT rfl rfl) ay_72 (by omega) (fun e267 e268 => ?_)
  refine st_aload c243_149 rfl ?_
  refine st_getX (u := 94) c243_150 hT (tf hT rfl rfl) fd_8_36 rfl ?_
  refine st_iload c243_153 rfl ?_
  refine st_iald c243_155 hT (tf hT rfl rfl) ay_72 (by omega) (fun e269 e270 => ?_)
  refine st_icmp_ne c243_156 (by omega) (by omega) (fun k271 => ?_) (fun k272 => ?_)
  refine st_iload c243_161 rfl ?_
  refine st_iconst c243_162 ?_
  refine st_icmp_ge c243_164 (by omega) (by omega) (fun k273 => ?_) (fun k274 => ?_)
  refine st_iconst c243_186 ?_
  refine st_ireturn c243_187 ?_
  exact hQ _ _ ⟨2, rfl, by omega, rfl⟩
  refine st_aload c243_167 rfl ?_
  refine st_getX (u := 113) c243_168 hT (tf hT rfl rfl) fd_8_59 rfl ?_
  refine st_iconst c243_171 ?_
  refine st_iload c243_173 rfl ?_
  refine st_imul c243_174 ?_
  refine st_iload c243_175 rfl ?_
  refine st_iadd c243_176 ?_
  refine st_iald c243_177 hT (tf hT rfl rfl) ay_91 (by omega) (fun e275 e276 => ?_)
  refine st_iconst c243_178 ?_
  refine st_icmp_ne c243_179 (by omega) (by omega) (fun k277 => ?_) (fun k278 => ?_)
  refine st_iconst c243_186 ?_
  refine st_ireturn c243_187 ?_
  exact hQ _ _ ⟨2, rfl, by omega, rfl⟩
  refine st_iconst c243_182 ?_
  refine st_goto c243_183 ?_
  refine st_ireturn c243_187 ?_
  exact hQ _ _ ⟨3, rfl, by omega, rfl⟩
  refine st_iconst c243_159 ?_
  refine st_ireturn c243_160 ?_
  exact hQ _ _ ⟨0, rfl, by omega, rfl⟩
  refine st_iload c243_76 rfl ?_
  refine st_iload c243_78 rfl ?_
  refine st_icmp_ge c243_80 (by omega) (by omega) (fun k279 => ?_) (fun k280 => ?_)
  refine st_aload c243_114 rfl ?_
  refine st_iload c243_115 rfl ?_
  refine st_iload c243_116 rfl ?_
  refine st_callt (as := [vI (aI h 110 p1), vI w9]) c243_118 cm_196 hT (tf hT rfl rfl) fd_8_0 rfl rfl rfl rfl (by omega) (K196 hT (aI h 110 p1) (by omega) w9 (by omega) (d - 1) (by omega) _ (fun v h0 H => H)) (fun v1 h1 H => ?_)
  obtain ⟨z281, rfl, b282, rfl⟩ := H
  refine st_istore (L' := [some (.ref 64), some (vI p1), some (vI p2), some (vI (aI h 110 p1)), some (vI w9), some (vI w203), some (vI z207), some (vI z209), some (vI z281), none]) c243_121 rfl rfl ?_
  refine st_aload c243_123 rfl ?_
  refine st_iload c243_124 rfl ?_
  refine st_iload c243_125 rfl ?_
  refine st_callt (as := [vI (aI h 110 p1), vI w203]) c243_127 cm_197 hT (tf hT rfl rfl) fd_8_0 rfl rfl rfl rfl (by omega) (K197 hT (aI h 110 p1) (by omega) w203 (by omega) (d - 1) (by omega) _ (fun v h0 H => H)) (fun v1 h1 H => ?_)
  obtain ⟨z283, rfl, b284, rfl⟩ := H
  refine st_istore (L' := [some (.ref 64), some (vI p1), some (vI p2), some (vI (aI h 110 p1)), some (vI w9), some (vI w203), some (vI z207), some (vI z209), some (vI z281), some (vI z283)]) c243_130 rfl rfl ?_
  refine st_iload c243_132 rfl ?_
  refine st_if_lt c243_134 (by omega) (fun k285 => ?_) (fun k286 => ?_)
  refine st_iload c243_161 rfl ?_
  refine st_iconst c243_162 ?_
  refine st_icmp_ge c243_164 (by omega) (by omega) (fun k287 => ?_) (fun k288 => ?_)
  refine st_iconst c243_186 ?_
  refine st_ireturn c243_187 ?_
  exact hQ _ _ ⟨2, rfl, by omega, rfl⟩
  refine st_aload c243_167 rfl ?_
  refine st_getX (u := 113) c243_168 hT (tf hT rfl rfl) fd_8_59 rfl ?_
  refine st_iconst c243_171 ?_
  refine st_iload c243_173 rfl ?_
  refine st_imul c243_174 ?_
  refine st_iload c243_175 rfl ?_
  refine st_iadd c243_176 ?_
  refine st_iald c243_177 hT (tf hT rfl rfl) ay_91 (by omega) (fun e289 e290 => ?_)
  refine st_iconst c243_178 ?_
  refine st_icmp_ne c243_179 (by omega) (by omega) (fun k291 => ?_) (fun k292 => ?_)
  refine st_iconst c243_186 ?_
  refine st_ireturn c243_187 ?_
  exact hQ _ _ ⟨2, rfl, by omega, rfl⟩
  refine st_iconst c243_182 ?_
  refine st_goto c243_183 ?_
  refine st_ireturn c243_187 ?_
  exact hQ _ _ ⟨3, rfl, by omega, rfl⟩
  refine st_iload c243_137 rfl ?_
  refine st_if_lt c243_139 (by omega) (fun k293 => ?_) (fun k294 => ?_)
  refine st_iload c243_161 rfl ?_
  refine st_iconst c243_162 ?_
  refine st_icmp_ge c243_164 (by omega) (by omega) (fun k295 => ?_) (fun k296 => ?_)
  refine st_iconst c243_186 ?_
  refine st_ireturn c243_187 ?_
  exact hQ _ _ ⟨2, rfl, by omega, rfl⟩
  refine st_aload c243_167 rfl ?_
  refine st_getX (u := 113) c243_168 hT (tf hT rfl rfl) fd_8_59 rfl ?_
  refine st_iconst c243_171 ?_
  refine st_iload c243_173 rfl ?_
  refine st_imul c243_174 ?_
  refine st_iload c243_175 rfl ?_
  refine st_iadd c243_176 ?_
  refine st_iald c243_177 hT (tf hT rfl rfl) ay_91 (by omega) (fun e297 e298 => ?_)
  refine st_iconst c243_178 ?_
  refine st_icmp_ne c243_179 (by omega) (by omega) (fun k299 => ?_) (fun k300 => ?_)
  refine st_iconst c243_186 ?_
  refine st_ireturn c243_187 ?_
  exact hQ _ _ ⟨2, rfl, by omega, rfl⟩
  refine st_iconst c243_182 ?_
  refine st_goto c243_183 ?_
  refine st_ireturn c243_187 ?_
  exact hQ _ _ ⟨3, rfl, by omega, rfl⟩
  refine st_aload c243_142 rfl ?_
  refine st_getX (u := 94) c243_143 hT (tf hT rfl rfl) fd_8_36 rfl ?_
  refine st_iload c243_146 rfl ?_
  refine st_iald c243_148 hT (tf hT rfl rfl) ay_72 (by omega) (fun e301 e302 => ?_)
  refine st_aload c243_149 rfl ?_
  refine st_getX (u := 94) c243_150 hT (tf hT rfl rfl) fd_8_36 rfl ?_
  refine st_iload c243_153 rfl ?_
  refine st_iald c243_155 hT (tf hT rfl rfl) ay_72 (by omega) (fun e303 e304 => ?_)
  refine st_icmp_ne c243_156 (by omega) (by omega) (fun k305 => ?_) (fun k306 => ?_)
  refine st_iload c243_161 rfl ?_
  refine st_iconst c243_162 ?_
  refine st_icmp_ge c243_164 (by omega) (by omega) (fun k307 => ?_) (fun k308 => ?_)
  refine st_iconst c243_186 ?_
  refine st_ireturn c243_187 ?_
  exact hQ _ _ ⟨2, rfl, by omega, rfl⟩
  refine st_aload c243_167 rfl ?_
  refine st_getX (u := 113) c243_168 hT (tf hT rfl rfl) fd_8_59 rfl ?_
  refine st_iconst c243_171 ?_
  refine st_iload c243_173 rfl ?_
  refine st_imul c243_174 ?_
  refine st_iload c243_175 rfl ?_
  refine st_iadd c243_176 ?_
  refine st_iald c243_177 hT (tf hT rfl rfl) ay_91 (by omega) (fun e309 e310 => ?_)
  refine st_iconst c243_178 ?_
  refine st_icmp_ne c243_179 (by omega) (by omega) (fun k311 => ?_) (fun k312 => ?_)
  refine st_iconst c243_186 ?_
  refine st_ireturn c243_187 ?_
  exact hQ _ _ ⟨2, rfl, by omega, rfl⟩
  refine st_iconst c243_182 ?_
  refine st_goto c243_183 ?_
  refine st_ireturn c243_187 ?_
  exact hQ _ _ ⟨3, rfl, by omega, rfl⟩
  refine st_iconst c243_159 ?_
  refine st_ireturn c243_160 ?_
  exact hQ _ _ ⟨0, rfl, by omega, rfl⟩
  refine st_aload c243_83 rfl ?_
  refine st_getX (u := 93) c243_84 hT (tf hT rfl rfl) fd_8_35 rfl ?_
  refine st_iload c243_87 rfl ?_
  refine st_iald c243_89 hT (tf hT rfl rfl) ay_71 (by omega) (fun e313 e314 => ?_)
  refine st_iload c243_90 rfl ?_
  refine st_icmp_lt c243_92 (by omega) (by omega) (fun k315 => ?_) (fun k316 => ?_)
  refine st_aload c243_114 rfl ?_
  refine st_iload c243_115 rfl ?_
  refine st_iload c243_116 rfl ?_
  refine st_callt (as := [vI (aI h 110 p1), vI w9]) c243_118 cm_196 hT (tf hT rfl rfl) fd_8_0 rfl rfl rfl rfl (by omega) (K196 hT (aI h 110 p1) (by omega) w9 (by omega) (d - 1) (by omega) _ (fun v h0 H => H)) (fun v1 h1 H => ?_)
  obtain ⟨z317, rfl, b318, rfl⟩ := H
  refine st_istore (L' := [some (.ref 64), some (vI p1), some (vI p2), some (vI (aI h 110 p1)), some (vI w9), some (vI w203), some (vI z207), some (vI z209), some (vI z317), none]) c243_121 rfl rfl ?_
  refine st_aload c243_123 rfl ?_
  refine st_iload c243_124 rfl ?_
  refine st_iload c243_125 rfl ?_
  refine st_callt (as := [vI (aI h 110 p1), vI w203]) c243_127 cm_197 hT (tf hT rfl rfl) fd_8_0 rfl rfl rfl rfl (by omega) (K197 hT (aI h 110 p1) (by omega) w203 (by omega) (d - 1) (by omega) _ (fun v h0 H => H)) (fun v1 h1 H => ?_)
  obtain ⟨z319, rfl, b320, rfl⟩ := H
  refine st_istore (L' := [some (.ref 64), some (vI p1), some (vI p2), some (vI (aI h 110 p1)), some (vI w9), some (vI w203), some (vI z207), some (vI z209), some (vI z317), some (vI z319)]) c243_130 rfl rfl ?_
  refine st_iload c243_132 rfl ?_
  refine st_if_lt c243_134 (by omega) (fun k321 => ?_) (fun k322 => ?_)
  refine st_iload c243_161 rfl ?_
  refine st_iconst c243_162 ?_
  refine st_icmp_ge c243_164 (by omega) (by omega) (fun k323 => ?_) (fun k324 => ?_)
  refine st_iconst c243_186 ?_
  refine st_ireturn c243_187 ?_
  exact hQ _ _ ⟨2, rfl, by omega, rfl⟩
  refine st_aload c243_167 rfl ?_
  refine st_getX (u := 113) c243_168 hT (tf hT rfl rfl) fd_8_59 rfl ?_
  refine st_iconst c243_171 ?_
  refine st_iload c243_173 rfl ?_
  refine st_imul c243_174 ?_
  refine st_iload c243_175 rfl ?_
  refine st_iadd c243_176 ?_
  refine st_iald c243_177 hT (tf hT rfl rfl) ay_91 (by omega) (fun e325 e326 => ?_)
  refine st_iconst c243_178 ?_
  refine st_icmp_ne c243_179 (by omega) (by omega) (fun k327 => ?_) (fun k328 => ?_)
  refine st_iconst c243_186 ?_
  refine st_ireturn c243_187 ?_
  exact hQ _ _ ⟨2, rfl, by omega, rfl⟩
  refine st_iconst c243_182 ?_
  refine st_goto c243_183 ?_
  refine st_ireturn c243_187 ?_
  exact hQ _ _ ⟨3, rfl, by omega, rfl⟩
  refine st_iload c243_137 rfl ?_
  refine st_if_lt c243_139 (by omega) (fun k329 => ?_) (fun k330 => ?_)
  refine st_iload c243_161 rfl ?_
  refine st_iconst c243_162 ?_
  refine st_icmp_ge c243_164 (by omega) (by omega) (fun k331 => ?_) (fun k332 => ?_)
  refine st_iconst c243_186 ?_
  refine st_ireturn c243_187 ?_
  exact hQ _ _ ⟨2, rfl, by omega, rfl⟩
  refine st_aload c243_167 rfl ?_
  refine st_getX (u := 113) c243_168 hT (tf hT rfl rfl) fd_8_59 rfl ?_
  refine st_iconst c243_171 ?_
  refine st_iload c243_173 rfl ?_
  refine st_imul c243_174 ?_
  refine st_iload c243_175 rfl ?_
  refine st_iadd c243_176 ?_
  refine st_iald c243_177 hT (tf hT rfl rfl) ay_91 (by omega) (fun e333 e334 => ?_)
  refine st_iconst c243_178 ?_
  refine st_icmp_ne c243_179 (by omega) (by omega) (fun k335 => ?_) (fun k336 => ?_)
  refine st_iconst c243_186 ?_
  refine st_ireturn c243_187 ?_
  exact hQ _ _ ⟨2, rfl, by omega, rfl⟩
  refine st_iconst c243_182 ?_
  refine st_goto c243_183 ?_
  refine st_ireturn c243_187 ?_
  exact hQ _ _ ⟨3, rfl, by omega, rfl⟩
  refine st_aload c243_142 rfl ?_
  refine st_getX (u := 94) c243_143 hT (tf hT rfl rfl) fd_8_36 rfl ?_
  refine st_iload c243_146 rfl ?_
  refine st_iald c243_148 hT (tf hT rfl rfl) ay_72 (by omega) (fun e337 e338 => ?_)
  refine st_aload c243_149 rfl ?_
  refine st_getX (u := 94) c243_150 hT (tf hT rfl rfl) fd_8_36 rfl ?_
  refine st_iload c243_153 rfl ?_
  refine st_iald c243_155 hT (tf hT rfl rfl) ay_72 (by omega) (fun e339 e340 => ?_)
  refine st_icmp_ne c243_156 (by omega) (by omega) (fun k341 => ?_) (fun k342 => ?_)
  refine st_iload c243_161 rfl ?_
  refine st_iconst c243_162 ?_
  refine st_icmp_ge c243_164 (by omega) (by omega) (fun k343 => ?_) (fun k344 => ?_)
  refine st_iconst c243_186 ?_
  refine st_ireturn c243_187 ?_
  exact hQ _ _ ⟨2, rfl, by omega, rfl⟩
  refine st_aload c243_167 rfl ?_
  refine st_getX (u := 113) c243_168 hT (tf hT rfl rfl) fd_8_59 rfl ?_
  refine st_iconst c243_171 ?_
  refine st_iload c243_173 rfl ?_
  refine st_imul c243_174 ?_
  refine st_iload c243_175 rfl ?_
  refine st_iadd c243_176 ?_
  refine st_iald c243_177 hT (tf hT rfl rfl) ay_91 (by omega) (fun e345 e346 => ?_)
  refine st_iconst c243_178 ?_
  refine st_icmp_ne c243_179 (by omega) (by omega) (fun k347 => ?_) (fun k348 => ?_)
  refine st_iconst c243_186 ?_
  refine st_ireturn c243_187 ?_
  exact hQ _ _ ⟨2, rfl, by omega, rfl⟩
  refine st_iconst c243_182 ?_
  refine st_goto c243_183 ?_
  refine st_ireturn c243_187 ?_
  exact hQ _ _ ⟨3, rfl, by omega, rfl⟩
  refine st_iconst c243_159 ?_
  refine st_ireturn c243_160 ?_
  exact hQ _ _ ⟨0, rfl, by omega, rfl⟩
  refine st_aload c243_95 rfl ?_
  refine st_getX (u := 94) c243_96 hT (tf hT rfl rfl) fd_8_36 rfl ?_
  refine st_iload c243_99 rfl ?_
  refine st_iald c243_101 hT (tf hT rfl rfl) ay_72 (by omega) (fun e349 e350 => ?_)
  refine st_aload c243_102 rfl ?_
  refine st_getX (u := 94) c243_103 hT (tf hT rfl rfl) fd_8_36 rfl ?_
  refine st_iload c243_106 rfl ?_
  refine st_iald c243_108 hT (tf hT rfl rfl) ay_72 (by omega) (fun e351 e352 => ?_)
  refine st_icmp_eq c243_109 (by omega) (by omega) (fun k353 => ?_) (fun k354 => ?_)
  refine st_aload c243_114 rfl ?_
  refine st_iload c243_115 rfl ?_
  refine st_iload c243_116 rfl ?_
  refine st_callt (as := [vI (aI h 110 p1), vI w9]) c243_118 cm_196 hT (tf hT rfl rfl) fd_8_0 rfl rfl rfl rfl (by omega) (K196 hT (aI h 110 p1) (by omega) w9 (by omega) (d - 1) (by omega) _ (fun v h0 H => H)) (fun v1 h1 H => ?_)
  obtain ⟨z355, rfl, b356, rfl⟩ := H
  refine st_istore (L' := [some (.ref 64), some (vI p1), some (vI p2), some (vI (aI h 110 p1)), some (vI w9), some (vI w203), some (vI z207), some (vI z209), some (vI z355), none]) c243_121 rfl rfl ?_
  refine st_aload c243_123 rfl ?_
  refine st_iload c243_124 rfl ?_
  refine st_iload c243_125 rfl ?_
  refine st_callt (as := [vI (aI h 110 p1), vI w203]) c243_127 cm_197 hT (tf hT rfl rfl) fd_8_0 rfl rfl rfl rfl (by omega) (K197 hT (aI h 110 p1) (by omega) w203 (by omega) (d - 1) (by omega) _ (fun v h0 H => H)) (fun v1 h1 H => ?_)
  obtain ⟨z357, rfl, b358, rfl⟩ := H
  refine st_istore (L' := [some (.ref 64), some (vI p1), some (vI p2), some (vI (aI h 110 p1)), some (vI w9), some (vI w203), some (vI z207), some (vI z209), some (vI z355), some (vI z357)]) c243_130 rfl rfl ?_
  refine st_iload c243_132 rfl ?_
  refine st_if_lt c243_134 (by omega) (fun k359 => ?_) (fun k360 => ?_)
  refine st_iload c243_161 rfl ?_
  refine st_iconst c243_162 ?_
  refine st_icmp_ge c243_164 (by omega) (by omega) (fun k361 => ?_) (fun k362 => ?_)
  refine st_iconst c243_186 ?_
  refine st_ireturn c243_187 ?_
  exact hQ _ _ ⟨2, rfl, by omega, rfl⟩
  refine st_aload c243_167 rfl ?_
  refine st_getX (u := 113) c243_168 hT (tf hT rfl rfl) fd_8_59 rfl ?_
  refine st_iconst c243_171 ?_
  refine st_iload c243_173 rfl ?_
  refine st_imul c243_174 ?_
  refine st_iload c243_175 rfl ?_
  refine st_iadd c243_176 ?_
  refine st_iald c243_177 hT (tf hT rfl rfl) ay_91 (by omega) (fun e363 e364 => ?_)
  refine st_iconst c243_178 ?_
  refine st_icmp_ne c243_179 (by omega) (by omega) (fun k365 => ?_) (fun k366 => ?_)
  refine st_iconst c243_186 ?_
  refine st_ireturn c243_187 ?_
  exact hQ _ _ ⟨2, rfl, by omega, rfl⟩
  refine st_iconst c243_182 ?_
  refine st_goto c243_183 ?_
  refine st_ireturn c243_187 ?_
  exact hQ _ _ ⟨3, rfl, by omega, rfl⟩
  refine st_iload c243_137 rfl ?_
  refine st_if_lt c243_139 (by omega) (fun k367 => ?_) (fun k368 => ?_)
  refine st_iload c243_161 rfl ?_
  refine st_iconst c243_162 ?_
  refine st_icmp_ge c243_164 (by omega) (by omega) (fun k369 => ?_) (fun k370 => ?_)
  refine st_iconst c243_186 ?_
  refine st_ireturn c243_187 ?_
  exact hQ _ _ ⟨2, rfl, by omega, rfl⟩
  refine st_aload c243_167 rfl ?_
  refine st_getX (u := 113) c243_168 hT (tf hT rfl rfl) fd_8_59 rfl ?_
  refine st_iconst c243_171 ?_
  refine st_iload c243_173 rfl ?_
  refine st_imul c243_174 ?_
  refine st_iload c243_175 rfl ?_
  refine st_iadd c243_176 ?_
  refine st_iald c243_177 hT (tf hT rfl rfl) ay_91 (by omega) (fun e371 e372 => ?_)
  refine st_iconst c243_178 ?_
  refine st_icmp_ne c243_179 (by omega) (by omega) (fun k373 => ?_) (fun k374 => ?_)
  refine st_iconst c243_186 ?_
  refine st_ireturn c243_187 ?_
  exact hQ _ _ ⟨2, rfl, by omega, rfl⟩
  refine st_iconst c243_182 ?_
  refine st_goto c243_183 ?_
  refine st_ireturn c243_187 ?_
  exact hQ _ _ ⟨3, rfl, by omega, rfl⟩
  refine st_aload c243_142 rfl ?_
  refine st_getX (u := 94) c243_143 hT (tf hT rfl rfl) fd_8_36 rfl ?_
  refine st_iload c243_146 rfl ?_
  refine st_iald c243_148 hT (tf hT rfl rfl) ay_72 (by omega) (fun e375 e376 => ?_)
  refine st_aload c243_149 rfl ?_
  refine st_getX (u := 94) c243_150 hT (tf hT rfl rfl) fd_8_36 rfl ?_
  refine st_iload c243_153 rfl ?_
  refine st_iald c243_155 hT (tf hT rfl rfl) ay_72 (by omega) (fun e377 e378 => ?_)
  refine st_icmp_ne c243_156 (by omega) (by omega) (fun k379 => ?_) (fun k380 => ?_)
  refine st_iload c243_161 rfl ?_
  refine st_iconst c243_162 ?_
  refine st_icmp_ge c243_164 (by omega) (by omega) (fun k381 => ?_) (fun k382 => ?_)
  refine st_iconst c243_186 ?_
  refine st_ireturn c243_187 ?_
  exact hQ _ _ ⟨2, rfl, by omega, rfl⟩
  refine st_aload c243_167 rfl ?_
  refine st_getX (u := 113) c243_168 hT (tf hT rfl rfl) fd_8_59 rfl ?_
  refine st_iconst c243_171 ?_
  refine st_iload c243_173 rfl ?_
  refine st_imul c243_174 ?_
  refine st_iload c243_175 rfl ?_
  refine st_iadd c243_176 ?_
  refine st_iald c243_177 hT (tf hT rfl rfl) ay_91 (by omega) (fun e383 e384 => ?_)
  refine st_iconst c243_178 ?_
  refine st_icmp_ne c243_179 (by omega) (by omega) (fun k385 => ?_) (fun k386 => ?_)
  refine st_iconst c243_186 ?_
  refine st_ireturn c243_187 ?_
  exact hQ _ _ ⟨2, rfl, by omega, rfl⟩
  refine st_iconst c243_182 ?_
  refine st_goto c243_183 ?_
  refine st_ireturn c243_187 ?_
  exact hQ _ _ ⟨3, rfl, by omega, rfl⟩
  refine st_iconst c243_159 ?_
  refine st_ireturn c243_160 ?_
  exact hQ _ _ ⟨0, rfl, by omega, rfl⟩
  refine st_iconst c243_112 ?_
  refine st_ireturn c243_113 ?_
  exact hQ _ _ ⟨1, rfl, by omega, rfl⟩
set_option maxHeartbeats 0 in
theorem K244 {Ln : Nat} {xs : Nat → Int32} {τ : List Nat} {h : List mE} {E : EP} (hT : TH E τ h) (p1 : Int) (hp1 : 0 ≤ p1 ∧ p1 ≤ 99) (p2 : Int) (hp2 : (-2147483648) ≤ p2 ∧ p2 ≤ 2147483647) (d : Nat) (hd : 2 ≤ d) (Q : Option Value → List mE → Prop) (hQ : ∀ v h', (∃ z : Int, v = some (vI z) ∧ ((-2147483648) ≤ z ∧ z ≤ 2147483647) ∧ h = h') → Q v h') : MR (mex Ln xs) d 244 0 [some (.ref 64), some (vI p1), some (vI p2), none, none, none] [] h Q := by
  refine st_iconst c244_0 ?_
  refine st_istore (L' := [some (.ref 64), some (vI p1), some (vI p2), some (vI 0), none, none]) c244_1 rfl rfl ?_
  refine st_iconst c244_2 ?_
  refine st_istore (L' := [some (.ref 64), some (vI p1), some (vI p2), some (vI 0), some (vI 0), none]) c244_3 rfl rfl ?_
  have lp211 : ∀ (n212 : Nat) (z209 : Int) (z210 : Int), (1000 : Int) - z210 < (n212 : Int) → (-2147483648) ≤ z209 ∧ z209 ≤ 2147483647 → 0 ≤ z210 ∧ z210 ≤ 1000 → MR (mex Ln xs) d 244 5 [some (.ref 64), some (vI p1), some (vI p2), some (vI z209), some (vI z210), none] [] h Q := by
    intro n212
    induction n212 with
    | zero =>
      intro z209 z210 hm214 b215 b216
      exfalso; omega
    | succ n212 ih213 =>
      intro z209 z210 hm214 b215 b216
      refine st_iload c244_5 rfl ?_
      refine st_aload c244_7 rfl ?_
      refine st_iload c244_8 rfl ?_
      refine st_callt (as := [vI p1]) c244_9 cm_241 hT (tf hT rfl rfl) fd_8_0 rfl rfl rfl rfl (by omega) (K241 hT p1 (by omega) (d - 1) (by omega) _ (fun v h0 H => H)) (fun v1 h1 H => ?_)
      obtain ⟨z217, rfl, b218, rfl⟩ := H
      refine st_icmp_ge c244_12 (by omega) (by omega) (fun k219 => ?_) (fun k220 => ?_)
      refine st_iload c244_86 rfl ?_
      refine st_ireturn c244_87 ?_
      exact hQ _ _ ⟨z209, rfl, by omega, rfl⟩
      refine st_aload c244_15 rfl ?_
      refine st_iload c244_16 rfl ?_
      refine st_iload c244_17 rfl ?_
      refine st_callt (as := [vI p1, vI z210]) c244_19 cm_243 hT (tf hT rfl rfl) fd_8_0 rfl rfl rfl rfl (by omega) (K243 hT p1 (by omega) z210 (by omega) (d - 1) (by omega) _ (fun v h0 H => H)) (fun v1 h1 H => ?_)
      obtain ⟨z221, rfl, b222, rfl⟩ := H
      refine st_istore (L' := [some (.ref 64), some (vI p1), some (vI p2), some (vI z209), some (vI z210), some (vI z221)]) c244_22 rfl rfl ?_
      refine st_iload c244_24 rfl ?_
      refine st_iload c244_25 rfl ?_
      refine st_if_ne c244_26 (by omega) (fun k223 => ?_) (fun k224 => ?_)
      refine st_iload c244_43 rfl ?_
      refine st_iconst c244_44 ?_
      refine st_icmp_ne c244_45 (by omega) (by omega) (fun k225 => ?_) (fun k226 => ?_)
      refine st_iload c244_61 rfl ?_
      refine st_iconst c244_63 ?_
      refine st_icmp_eq c244_64 (by omega) (by omega) (fun k227 => ?_) (fun k228 => ?_)
      refine st_iconst c244_73 ?_
      refine st_goto c244_74 ?_
      refine st_iadd c244_78 ?_
      refine MR_wrap (fun w229 e230 e231 e232 => ?_)
      refine st_istore (L' := [some (.ref 64), some (vI p1), some (vI p2), some (vI w229), some (vI z210), some (vI z221)]) c244_79 rfl rfl ?_
      refine st_iinc (L' := [some (.ref 64), some (vI p1), some (vI p2), some (vI w229), some (vI (z210 + 1)), some (vI z221)]) c244_80 rfl rfl rfl ?_
      refine st_goto c244_83 ?_
      refine MR_weak (A := [some (.ref 64), some (vI p1), some (vI p2), some (vI w229), some (vI (z210 + 1)), none]) (Lle_s (Lle_s (Lle_s (Lle_s (Lle_s (Lle_n (Lle_0))))))) ?_
      exact ih213 w229 (z210 + 1) (by omega) (by omega) (by omega)
      refine st_iload c244_67 rfl ?_
      refine st_iconst c244_69 ?_
      refine st_icmp_ne c244_70 (by omega) (by omega) (fun k233 => ?_) (fun k234 => ?_)
      refine st_iconst c244_77 ?_
      refine st_iadd c244_78 ?_
      refine st_istore (L' := [some (.ref 64), some (vI p1), some (vI p2), some (vI (z209 + 0)), some (vI z210), some (vI z221)]) c244_79 rfl rfl ?_
      refine st_iinc (L' := [some (.ref 64), some (vI p1), some (vI p2), some (vI (z209 + 0)), some (vI (z210 + 1)), some (vI z221)]) c244_80 rfl rfl rfl ?_
      refine st_goto c244_83 ?_
      refine MR_weak (A := [some (.ref 64), some (vI p1), some (vI p2), some (vI (z209 + 0)), some (vI (z210 + 1)), none]) (Lle_s (Lle_s (Lle_s (Lle_s (Lle_s (Lle_n (Lle_0))))))) ?_
      exact ih213 (z209 + 0) (z210 + 1) (by omega) (by omega) (by omega)
      refine st_iconst c244_73 ?_
      refine st_goto c244_74 ?_
      refine st_iadd c244_78 ?_
      refine MR_wrap (fun w235 e236 e237 e238 => ?_)
      refine st_istore (L' := [some (.ref 64), some (vI p1), some (vI p2), some (vI w235), some (vI z210), some (vI z221)]) c244_79 rfl rfl ?_
      refine st_iinc (L' := [some (.ref 64), some (vI p1), some (vI p2), some (vI w235), some (vI (z210 + 1)), some (vI z221)]) c244_80 rfl rfl rfl ?_
      refine st_goto c244_83 ?_
      refine MR_weak (A := [some (.ref 64), some (vI p1), some (vI p2), some (vI w235), some (vI (z210 + 1)), none]) (Lle_s (Lle_s (Lle_s (Lle_s (Lle_s (Lle_n (Lle_0))))))) ?_
      exact ih213 w235 (z210 + 1) (by omega) (by omega) (by omega)
      refine st_iload c244_48 rfl ?_
      refine st_if_eq c244_50 (by omega) (fun k239 => ?_) (fun k240 => ?_)
      refine st_iconst c244_57 ?_
      refine st_goto c244_58 ?_
      refine st_iadd c244_78 ?_
      refine st_istore (L' := [some (.ref 64), some (vI p1), some (vI p2), some (vI (z209 + 0)), some (vI z210), some (vI z221)]) c244_79 rfl rfl ?_
      refine st_iinc (L' := [some (.ref 64), some (vI p1), some (vI p2), some (vI (z209 + 0)), some (vI (z210 + 1)), some (vI z221)]) c244_80 rfl rfl rfl ?_
      refine st_goto c244_83 ?_
      refine MR_weak (A := [some (.ref 64), some (vI p1), some (vI p2), some (vI (z209 + 0)), some (vI (z210 + 1)), none]) (Lle_s (Lle_s (Lle_s (Lle_s (Lle_s (Lle_n (Lle_0))))))) ?_
      exact ih213 (z209 + 0) (z210 + 1) (by omega) (by omega) (by omega)
      refine st_iconst c244_53 ?_
      refine st_goto c244_54 ?_
      refine st_iadd c244_78 ?_
      refine MR_wrap (fun w241 e242 e243 e244 => ?_)
      refine st_istore (L' := [some (.ref 64), some (vI p1), some (vI p2), some (vI w241), some (vI z210), some (vI z221)]) c244_79 rfl rfl ?_
      refine st_iinc (L' := [some (.ref 64), some (vI p1), some (vI p2), some (vI w241), some (vI (z210 + 1)), some (vI z221)]) c244_80 rfl rfl rfl ?_
      refine st_goto c244_83 ?_
      refine MR_weak (A := [some (.ref 64), some (vI p1), some (vI p2), some (vI w241), some (vI (z210 + 1)), none]) (Lle_s (Lle_s (Lle_s (Lle_s (Lle_s (Lle_n (Lle_0))))))) ?_
      exact ih213 w241 (z210 + 1) (by omega) (by omega) (by omega)
      refine st_iload c244_29 rfl ?_
      refine st_iconst c244_31 ?_
      refine st_icmp_ne c244_32 (by omega) (by omega) (fun k245 => ?_) (fun k246 => ?_)
      refine st_iconst c244_39 ?_
      refine st_goto c244_40 ?_
      refine st_iadd c244_78 ?_
      refine st_istore (L' := [some (.ref 64), some (vI p1), some (vI p2), some (vI (z209 + 0)), some (vI z210), some (vI z221)]) c244_79 rfl rfl ?_
      refine st_iinc (L' := [some (.ref 64), some (vI p1), some (vI p2), some (vI (z209 + 0)), some (vI (z210 + 1)), some (vI z221)]) c244_80 rfl rfl rfl ?_
      refine st_goto c244_83 ?_
      refine MR_weak (A := [some (.ref 64), some (vI p1), some (vI p2), some (vI (z209 + 0)), some (vI (z210 + 1)), none]) (Lle_s (Lle_s (Lle_s (Lle_s (Lle_s (Lle_n (Lle_0))))))) ?_
      exact ih213 (z209 + 0) (z210 + 1) (by omega) (by omega) (by omega)
      refine st_iconst c244_35 ?_
      refine st_goto c244_36 ?_
      refine st_iadd c244_78 ?_
      refine MR_wrap (fun w247 e248 e249 e250 => ?_)
      refine st_istore (L' := [some (.ref 64), some (vI p1), some (vI p2), some (vI w247), some (vI z210), some (vI z221)]) c244_79 rfl rfl ?_
      refine st_iinc (L' := [some (.ref 64), some (vI p1), some (vI p2), some (vI w247), some (vI (z210 + 1)), some (vI z221)]) c244_80 rfl rfl rfl ?_
      refine st_goto c244_83 ?_
      refine MR_weak (A := [some (.ref 64), some (vI p1), some (vI p2), some (vI w247), some (vI (z210 + 1)), none]) (Lle_s (Lle_s (Lle_s (Lle_s (Lle_s (Lle_n (Lle_0))))))) ?_
      exact ih213 w247 (z210 + 1) (by omega) (by omega) (by omega)
  exact lp211 ((((1000 : Int) - 0 : Int) + 1).toNat) 0 0 (by omega) (by omega) (by omega)
set_option maxHeartbeats 0 in
theorem K245 {Ln : Nat} {xs : Nat → Int32} {τ : List Nat} {h : List mE} {E : EP} (hT : TH E τ h) (p1 : Int) (hp1 : (-2147483648) ≤ p1 ∧ p1 ≤ 2147483647) (p2 : Int) (hp2 : (-2147483648) ≤ p2 ∧ p2 ≤ 2147483647) (d : Nat) (hd : 3 ≤ d) (Q : Option Value → List mE → Prop) (hQ : ∀ v h', (∃ z : Int, v = some (vI z) ∧ ((-2147483648) ≤ z ∧ z ≤ 2147483647) ∧ h = h') → Q v h') : MR (mex Ln xs) d 245 0 [some (.ref 64), some (vI p1), some (vI p2)] [] h Q := by
  refine st_aload c245_0 rfl ?_
  refine st_iload c245_1 rfl ?_
  have e1 := fI_bd (q := 64) hT (tf hT rfl rfl) fd_8_48
  refine st_callt (as := [vI p1]) c245_2 cm_216 hT (tf hT rfl rfl) fd_8_0 rfl rfl rfl rfl (by omega) (K216 hT p1 (by omega) (d - 1) (by omega) _ (fun v h0 H => H)) (fun v1 h1 H => ?_)
  rcases H with ⟨rfl, pf2, rfl⟩ | ⟨rfl, pf3, pf4, rfl⟩
  refine st_if_eq c245_5 (by omega) (fun k5 => ?_) (fun k6 => False.elim (by omega))
  refine st_iconst c245_25 ?_
  refine st_ireturn c245_28 ?_
  exact hQ _ _ ⟨(-2000000000), rfl, by omega, rfl⟩
  refine st_if_eq c245_5 (by omega) (fun k7 => False.elim (by omega)) (fun k8 => ?_)
  refine st_iload c245_8 rfl ?_
  refine st_iconst c245_9 ?_
  refine st_iconst c245_10 ?_
  refine st_calls (as := [vI p2, vI 0, vI 3]) c245_11 cm_180 rfl rfl rfl rfl (by omega) (K180 hT p2 (by omega) 0 (by omega) 3 (by omega) (d - 1) (by omega) _ (fun v h0 H => H)) (fun v1 h1 H => ?_)
  rcases H with ⟨rfl, pf9, rfl⟩ | ⟨rfl, pf10, pf11, rfl⟩
  refine st_if_eq c245_14 (by omega) (fun k12 => ?_) (fun k13 => False.elim (by omega))
  refine st_iconst c245_25 ?_
  refine st_ireturn c245_28 ?_
  exact hQ _ _ ⟨(-2000000000), rfl, by omega, rfl⟩
  refine st_if_eq c245_14 (by omega) (fun k14 => False.elim (by omega)) (fun k15 => ?_)
  refine st_aload c245_17 rfl ?_
  refine st_iload c245_18 rfl ?_
  refine st_callt (as := [vI p1]) c245_19 cm_236 hT (tf hT rfl rfl) fd_8_0 rfl rfl rfl rfl (by omega) (K236 hT p1 (by omega) (d - 1) (by omega) _ (fun v h0 H => H)) (fun v1 h1 H => ?_)
  rcases H with ⟨rfl, rfl⟩ | ⟨rfl, pf16, rfl⟩
  refine st_if_ne c245_22 (by omega) (fun k17 => False.elim (by omega)) (fun k18 => ?_)
  refine st_iconst c245_25 ?_
  refine st_ireturn c245_28 ?_
  exact hQ _ _ ⟨(-2000000000), rfl, by omega, rfl⟩
  refine st_if_ne c245_22 (by omega) (fun k19 => ?_) (fun k20 => False.elim (by omega))
  refine st_iload c245_29 rfl ?_
  refine st_if_ne c245_30 (by omega) (fun k21 => ?_) (fun k22 => ?_)
  refine st_aload c245_41 rfl ?_
  refine st_iload c245_42 rfl ?_
  refine st_iload c245_43 rfl ?_
  refine st_iconst c245_44 ?_
  refine st_isub c245_45 ?_
  refine st_callt (as := [vI p1, vI (p2 - 1)]) c245_46 cm_244 hT (tf hT rfl rfl) fd_8_0 rfl rfl rfl rfl (by omega) (K244 hT p1 (by omega) (p2 - 1) (by omega) (d - 1) (by omega) _ (fun v h0 H => H)) (fun v1 h1 H => ?_)
  obtain ⟨z23, rfl, b24, rfl⟩ := H
  refine st_ireturn c245_49 ?_
  exact hQ _ _ ⟨z23, rfl, by omega, rfl⟩
  refine st_aload c245_33 rfl ?_
  refine st_iload c245_34 rfl ?_
  refine st_callt (as := [vI p1]) c245_35 cm_241 hT (tf hT rfl rfl) fd_8_0 rfl rfl rfl rfl (by omega) (K241 hT p1 (by omega) (d - 1) (by omega) _ (fun v h0 H => H)) (fun v1 h1 H => ?_)
  obtain ⟨z25, rfl, b26, rfl⟩ := H
  refine st_goto c245_38 ?_
  refine st_ireturn c245_49 ?_
  exact hQ _ _ ⟨z25, rfl, by omega, rfl⟩
set_option maxHeartbeats 0 in
theorem K246 {Ln : Nat} {xs : Nat → Int32} {τ : List Nat} {h : List mE} {E : EP} (hT : TH E τ h) (p1 : Int) (hp1 : (-2147483648) ≤ p1 ∧ p1 ≤ 2147483647) (p2 : Int) (hp2 : (-2147483648) ≤ p2 ∧ p2 ≤ 2147483647) (d : Nat) (hd : 2 ≤ d) (Q : Option Value → List mE → Prop) (hQ : ∀ v h', (∃ z : Int, v = some (vI z) ∧ ((-1) ≤ z ∧ z ≤ 3) ∧ h = h') → Q v h') : MR (mex Ln xs) d 246 0 [some (.ref 64), some (vI p1), some (vI p2)] [] h Q := by
  refine st_aload c246_0 rfl ?_
  refine st_iload c246_1 rfl ?_
  have e1 := fI_bd (q := 64) hT (tf hT rfl rfl) fd_8_48
  refine st_callt (as := [vI p1]) c246_2 cm_216 hT (tf hT rfl rfl) fd_8_0 rfl rfl rfl rfl (by omega) (K216 hT p1 (by omega) (d - 1) (by omega) _ (fun v h0 H => H)) (fun v1 h1 H => ?_)
  rcases H with ⟨rfl, pf2, rfl⟩ | ⟨rfl, pf3, pf4, rfl⟩
  refine st_if_eq c246_5 (by omega) (fun k5 => ?_) (fun k6 => False.elim (by omega))
  refine st_iconst c246_40 ?_
  refine st_ireturn c246_41 ?_
  exact hQ _ _ ⟨(-1), rfl, by omega, rfl⟩
  refine st_if_eq c246_5 (by omega) (fun k7 => False.elim (by omega)) (fun k8 => ?_)
  refine st_aload c246_8 rfl ?_
  refine st_iload c246_9 rfl ?_
  refine st_callt (as := [vI p1]) c246_10 cm_236 hT (tf hT rfl rfl) fd_8_0 rfl rfl rfl rfl (by omega) (K236 hT p1 (by omega) (d - 1) (by omega) _ (fun v h0 H => H)) (fun v1 h1 H => ?_)
  rcases H with ⟨rfl, rfl⟩ | ⟨rfl, pf9, rfl⟩
  refine st_if_eq c246_13 (by omega) (fun k10 => ?_) (fun k11 => False.elim (by omega))
  refine st_iconst c246_40 ?_
  refine st_ireturn c246_41 ?_
  exact hQ _ _ ⟨(-1), rfl, by omega, rfl⟩
  refine st_if_eq c246_13 (by omega) (fun k12 => False.elim (by omega)) (fun k13 => ?_)
  refine st_iload c246_16 rfl ?_
  refine st_iconst c246_17 ?_
  refine st_aload c246_18 rfl ?_
  refine st_iload c246_19 rfl ?_
  refine st_callt (as := [vI p1]) c246_20 cm_241 hT (tf hT rfl rfl) fd_8_0 rfl rfl rfl rfl (by omega) (K241 hT p1 (by omega) (d - 1) (by omega) _ (fun v h0 H => H)) (fun v1 h1 H => ?_)
  obtain ⟨z14, rfl, b15, rfl⟩ := H
  refine st_iconst c246_23 ?_
  refine st_isub c246_24 ?_
  refine st_calls (as := [vI p2, vI 0, vI (z14 - 1)]) c246_25 cm_180 rfl rfl rfl rfl (by omega) (K180 hT p2 (by omega) 0 (by omega) (z14 - 1) (by omega) (d - 1) (by omega) _ (fun v h0 H => H)) (fun v1 h1 H => ?_)
  rcases H with ⟨rfl, pf16, rfl⟩ | ⟨rfl, pf17, pf18, rfl⟩
  refine st_if_eq c246_28 (by omega) (fun k19 => ?_) (fun k20 => False.elim (by omega))
  refine st_iconst c246_40 ?_
  refine st_ireturn c246_41 ?_
  exact hQ _ _ ⟨(-1), rfl, by omega, rfl⟩
  refine st_if_eq c246_28 (by omega) (fun k21 => False.elim (by omega)) (fun k22 => ?_)
  refine st_aload c246_31 rfl ?_
  refine st_iload c246_32 rfl ?_
  refine st_iload c246_33 rfl ?_
  refine st_callt (as := [vI p1, vI p2]) c246_34 cm_243 hT (tf hT rfl rfl) fd_8_0 rfl rfl rfl rfl (by omega) (K243 hT p1 (by omega) p2 (by omega) (d - 1) (by omega) _ (fun v h0 H => H)) (fun v1 h1 H => ?_)
  obtain ⟨z23, rfl, b24, rfl⟩ := H
  refine st_goto c246_37 ?_
  refine st_ireturn c246_41 ?_
  exact hQ _ _ ⟨z23, rfl, by omega, rfl⟩
