set_option maxHeartbeats 0 in
theorem K180 {Ln : Nat} {xs : Nat → Int32} {τ : List Nat} {h : List mE} {E : EP} (hT : TH E τ h) (p0 : Int) (hp0 : (-2147483648) ≤ p0 ∧ p0 ≤ 2147483647) (p1 : Int) (hp1 : (-2147483648) ≤ p1 ∧ p1 ≤ 2147483647) (p2 : Int) (hp2 : (-2147483648) ≤ p2 ∧ p2 ≤ 2147483647) (d : Nat) (hd : 0 ≤ d) (Q : Option Value → List mE → Prop) (hQ : ∀ v h', ((v = some (vI 0) ∧ (p0 < p1 ∨ p2 < p0) ∧ h = h') ∨ (v = some (vI 1) ∧ (p1≤p0) ∧ (p0≤p2) ∧ h = h')) → Q v h') : MR (mex Ln xs) d 180 0 [some (vI p0), some (vI p1), some (vI p2)] [] h Q := by
  refine st_iload c180_0 rfl ?_
  refine st_iload c180_1 rfl ?_
  refine st_icmp_lt c180_2 (by omega) (by omega) (fun k1 => ?_) (fun k2 => ?_)
  refine st_iconst c180_14 ?_
  refine st_zreturn c180_15 (by omega) ?_
  exact hQ _ _ (Or.inl ⟨rfl, by omega, rfl⟩)
  refine st_iload c180_5 rfl ?_
  refine st_iload c180_6 rfl ?_
  refine st_icmp_gt c180_7 (by omega) (by omega) (fun k3 => ?_) (fun k4 => ?_)
  refine st_iconst c180_14 ?_
  refine st_zreturn c180_15 (by omega) ?_
  exact hQ _ _ (Or.inl ⟨rfl, by omega, rfl⟩)
  refine st_iconst c180_10 ?_
  refine st_goto c180_11 ?_
  refine st_zreturn c180_15 (by omega) ?_
  exact hQ _ _ (Or.inr ⟨rfl, by omega, by omega, rfl⟩)
set_option maxHeartbeats 0 in
theorem K181 {Ln : Nat} {xs : Nat → Int32} {τ : List Nat} {h : List mE} {E : EP} (hT : TH E τ h) (p0 : Int) (hp0 : (-2147483648) ≤ p0 ∧ p0 ≤ 2147483647) (d : Nat) (hd : 1 ≤ d) (Q : Option Value → List mE → Prop) (hQ : ∀ v h', ((v = some (vI 0) ∧ (p0 < 0 ∨ 999 < p0) ∧ h = h') ∨ (v = some (vI 1) ∧ (0≤p0) ∧ (p0≤999) ∧ h = h')) → Q v h') : MR (mex Ln xs) d 181 0 [some (vI p0)] [] h Q := by
  refine st_iload c181_0 rfl ?_
  refine st_iconst c181_1 ?_
  refine st_iconst c181_2 ?_
  refine st_calls (as := [vI p0, vI 0, vI 999]) c181_5 cm_180 rfl rfl rfl rfl (by omega) (K180 hT p0 (by omega) 0 (by omega) 999 (by omega) (d - 1) (by omega) _ (fun v h0 H => H)) (fun v1 h1 H => ?_)
  rcases H with ⟨rfl, pf1, rfl⟩ | ⟨rfl, pf2, pf3, rfl⟩
  refine st_zreturn c181_8 (by omega) ?_
  exact hQ _ _ (Or.inl ⟨rfl, by omega, rfl⟩)
  refine st_zreturn c181_8 (by omega) ?_
  exact hQ _ _ (Or.inr ⟨rfl, by omega, by omega, rfl⟩)
set_option maxHeartbeats 0 in
theorem K182 {Ln : Nat} {xs : Nat → Int32} {τ : List Nat} {h : List mE} {E : EP} (hT : TH E τ h) (d : Nat) (hd : 0 ≤ d) (Q : Option Value → List mE → Prop) (hQ : ∀ v h', (∃ z : Int, v = some (vI z) ∧ (0 ≤ z ∧ z ≤ 999) ∧ h = h') → Q v h') : MR (mex Ln xs) d 182 0 [some (.ref 64)] [] h Q := by
  refine st_aload c182_0 rfl ?_
  refine st_getI c182_1 hT (tf hT rfl rfl) fd_8_1 (fun e1 e2 => ?_)
  refine st_iconst c182_4 ?_
  refine st_idivp c182_6 (by omega) (by omega) ?_
  refine st_ireturn c182_7 ?_
  exact hQ _ _ ⟨(fI h 64 1) / 24, rfl, by omega, rfl⟩
set_option maxHeartbeats 0 in
theorem K183 {Ln : Nat} {xs : Nat → Int32} {τ : List Nat} {h : List mE} {E : EP} (hT : TH E τ h) (p1 : Int) (hp1 : (-2147483648) ≤ p1 ∧ p1 ≤ 2147483647) (d : Nat) (hd : 1 ≤ d) (Q : Option Value → List mE → Prop) (hQ : ∀ v h', ((v = some (vI 0) ∧ (p1 < 0 ∨ fI h 64 2 ≤ p1) ∧ h = h') ∨ (v = some (vI 1) ∧ (0≤p1) ∧ (p1<fI h 64 2) ∧ h = h')) → Q v h') : MR (mex Ln xs) d 183 0 [some (.ref 64), some (vI p1)] [] h Q := by
  refine st_iload c183_0 rfl ?_
  refine st_iconst c183_1 ?_
  refine st_aload c183_2 rfl ?_
  refine st_getI c183_3 hT (tf hT rfl rfl) fd_8_2 (fun e1 e2 => ?_)
  refine st_iconst c183_6 ?_
  refine st_isub c183_7 ?_
  refine st_calls (as := [vI p1, vI 0, vI ((fI h 64 2) - 1)]) c183_8 cm_180 rfl rfl rfl rfl (by omega) (K180 hT p1 (by omega) 0 (by omega) ((fI h 64 2) - 1) (by omega) (d - 1) (by omega) _ (fun v h0 H => H)) (fun v1 h1 H => ?_)
  rcases H with ⟨rfl, pf3, rfl⟩ | ⟨rfl, pf4, pf5, rfl⟩
  refine st_zreturn c183_11 (by omega) ?_
  exact hQ _ _ (Or.inl ⟨rfl, by omega, rfl⟩)
  refine st_zreturn c183_11 (by omega) ?_
  exact hQ _ _ (Or.inr ⟨rfl, by omega, by omega, rfl⟩)
set_option maxHeartbeats 0 in
theorem K184 {Ln : Nat} {xs : Nat → Int32} {τ : List Nat} {h : List mE} {E : EP} (hT : TH E τ h) (p1 : Int) (hp1 : 0 ≤ p1 ∧ p1 ≤ 11) (p2 : Int) (hp2 : 0 ≤ p2 ∧ p2 ≤ 11) (d : Nat) (hd : 0 ≤ d) (Q : Option Value → List mE → Prop) (hQ : ∀ v h', (∃ z : Int, v = some (vI z) ∧ (0 ≤ z ∧ z ≤ 1000000) ∧ (z = aI h 67 (12 * p1 + p2)) ∧ h = h') → Q v h') : MR (mex Ln xs) d 184 0 [some (.ref 64), some (vI p1), some (vI p2)] [] h Q := by
  refine st_aload c184_0 rfl ?_
  refine st_getX (u := 67) c184_1 hT (tf hT rfl rfl) fd_8_5 rfl ?_
  refine st_iconst c184_4 ?_
  refine st_iload c184_6 rfl ?_
  refine st_imul c184_7 ?_
  refine st_iload c184_8 rfl ?_
  refine st_iadd c184_9 ?_
  refine st_iald c184_10 hT (tf hT rfl rfl) ay_45 (by omega) (fun e1 e2 => ?_)
  refine st_ireturn c184_11 ?_
  exact hQ _ _ ⟨aI h 67 ((12 * p1) + p2), rfl, by omega, by omega, rfl⟩
def W185 : List (Nat × Nat) := [(45, 0)]
set_option maxHeartbeats 0 in
theorem K185 {Ln : Nat} {xs : Nat → Int32} {τ : List Nat} {h : List mE} {E : EP} (hT : TH E τ h) (hS : Stb E W185) (d : Nat) (hd : 1 ≤ d) (Q : Option Value → List mE → Prop) (hQ : ∀ v h', (v = none ∧ (Sp (fI h 64 2) (wf h) (rf h')) ∧ TH E τ h' ∧ Fr τ W185 h h') → Q v h') : MR (mex Ln xs) d 185 0 [some (.ref 64), none, none, none, none] [] h Q := by
  have hF := Fr_rf τ W185 h
  have nb := n_le2 hT
  refine st_iconst c185_0 ?_
  refine st_istore (L' := [some (.ref 64), some (vI 0), none, none, none]) c185_1 rfl rfl ?_
  have lp686 : ∀ (n687 : Nat) (z681 : Int) (h682 : List mE), (12 : Int) - z681 < (n687 : Int) → 0 ≤ z681 ∧ z681 ≤ 12 → IN h h682 z681 0 → TH E τ h682 → Fr τ W185 h h682 → Fr τ [(45, 0)] h h682 → MR (mex Ln xs) d 185 2 [some (.ref 64), some (vI z681), none, none, none] [] h682 Q := by
    intro n687
    induction n687 with
    | zero =>
      intro z681 h682 hm689 b690 x691 hT683 hF684 hL685
      exfalso; omega
    | succ n687 ih688 =>
      intro z681 h682 hm689 b690 x691 hT683 hF684 hL685
      refine st_iload c185_2 rfl ?_
      refine st_aload c185_3 rfl ?_
      refine st_getI c185_4 hT683 (tf hT683 rfl rfl) fd_8_2 (fun e692 e693 => ?_)
      have q694 : fI h682 64 2 = fI h 64 2 := Fr_fI hL685 (tf hT rfl rfl) (by decide +kernel)
      refine st_icmp_ge c185_7 (by omega) (by omega) (fun k695 => ?_) (fun k696 => ?_)
      refine st_iconst c185_82 ?_
      refine st_istore (L' := [some (.ref 64), some (vI 0), none, none, none]) c185_83 rfl rfl ?_
      have lp3538 : ∀ (n3539 : Nat) (z3533 : Int) (h3534 : List mE), (12 : Int) - z3533 < (n3539 : Int) → 0 ≤ z3533 ∧ z3533 ≤ 12 → FW (fI h 64 2) (wf h) z3533 (rf h3534) → TH E τ h3534 → Fr τ W185 h h3534 → Fr τ [(45, 0)] h682 h3534 → MR (mex Ln xs) d 185 84 [some (.ref 64), some (vI z3533), none, none, none] [] h3534 Q := by
        intro n3539
        induction n3539 with
        | zero =>
          intro z3533 h3534 hm3541 b3542 x3543 hT3535 hF3536 hL3537
          exfalso; omega
        | succ n3539 ih3540 =>
          intro z3533 h3534 hm3541 b3542 x3543 hT3535 hF3536 hL3537
          refine st_iload c185_84 rfl ?_
          refine st_aload c185_85 rfl ?_
          refine st_getI c185_86 hT3535 (tf hT3535 rfl rfl) fd_8_2 (fun e3544 e3545 => ?_)
          have q3546 : fI h3534 64 2 = fI h682 64 2 := Fr_fI hL3537 (tf hT683 rfl rfl) (by decide +kernel)
          refine st_icmp_ge c185_89 (by omega) (by omega) (fun k3547 => ?_) (fun k3548 => ?_)
          refine st_return c185_169 ?_
          exact hQ _ _ ⟨rfl, FW_end x3543 (by omega), hT3535, hF3536⟩
          refine st_iconst c185_92 ?_
          refine st_istore (L' := [some (.ref 64), some (vI z3533), some (vI 0), none, none]) c185_93 rfl rfl ?_
          have lp4110 : ∀ (n4111 : Nat) (z4105 : Int) (h4106 : List mE), (12 : Int) - z4105 < (n4111 : Int) → 0 ≤ z4105 ∧ z4105 ≤ 12 → FS (fI h 64 2) (wf h) z3533 z4105 0 (rf h4106) → TH E τ h4106 → Fr τ W185 h h4106 → Fr τ [(45, 0)] h3534 h4106 → MR (mex Ln xs) d 185 94 [some (.ref 64), some (vI z3533), some (vI z4105), none, none] [] h4106 Q := by
            intro n4111
            induction n4111 with
            | zero =>
              intro z4105 h4106 hm4113 b4114 x4115 hT4107 hF4108 hL4109
              exfalso; omega
            | succ n4111 ih4112 =>
              intro z4105 h4106 hm4113 b4114 x4115 hT4107 hF4108 hL4109
              refine st_iload c185_94 rfl ?_
              refine st_aload c185_95 rfl ?_
              refine st_getI c185_96 hT4107 (tf hT4107 rfl rfl) fd_8_2 (fun e4116 e4117 => ?_)
              have q4118 : fI h4106 64 2 = fI h3534 64 2 := Fr_fI hL4109 (tf hT3535 rfl rfl) (by decide +kernel)
              refine st_icmp_ge c185_99 (by omega) (by omega) (fun k4119 => ?_) (fun k4120 => ?_)
              refine st_iinc (L' := [some (.ref 64), some (vI (z3533 + 1)), some (vI z4105), none, none]) c185_163 rfl rfl rfl ?_
              refine st_goto c185_166 ?_
              refine MR_weak (A := [some (.ref 64), some (vI (z3533 + 1)), none, none, none]) (Lle_s (Lle_s (Lle_n (Lle_s (Lle_s (Lle_0)))))) ?_
              exact ih3540 (z3533 + 1) h4106 (by omega) (by omega) (FS_end x4115 (by omega) (by omega) (by omega)) hT4107 hF4108 (Fr_cp hL3537 hL4109 (by decide +kernel))
              refine st_iconst c185_102 ?_
              refine st_istore (L' := [some (.ref 64), some (vI z3533), some (vI z4105), some (vI 0), none]) c185_103 rfl rfl ?_
              have lp4226 : ∀ (n4227 : Nat) (z4221 : Int) (h4222 : List mE), (12 : Int) - z4221 < (n4227 : Int) → 0 ≤ z4221 ∧ z4221 ≤ 12 → FS (fI h 64 2) (wf h) z3533 z4105 z4221 (rf h4222) → TH E τ h4222 → Fr τ W185 h h4222 → Fr τ [(45, 0)] h4106 h4222 → MR (mex Ln xs) d 185 104 [some (.ref 64), some (vI z3533), some (vI z4105), some (vI z4221), none] [] h4222 Q := by
                intro n4227
                induction n4227 with
                | zero =>
                  intro z4221 h4222 hm4229 b4230 x4231 hT4223 hF4224 hL4225
                  exfalso; omega
                | succ n4227 ih4228 =>
                  intro z4221 h4222 hm4229 b4230 x4231 hT4223 hF4224 hL4225
                  refine st_iload c185_104 rfl ?_
                  refine st_aload c185_105 rfl ?_
                  refine st_getI c185_106 hT4223 (tf hT4223 rfl rfl) fd_8_2 (fun e4232 e4233 => ?_)
                  have q4234 : fI h4222 64 2 = fI h4106 64 2 := Fr_fI hL4225 (tf hT4107 rfl rfl) (by decide +kernel)
                  refine st_icmp_ge c185_109 (by omega) (by omega) (fun k4235 => ?_) (fun k4236 => ?_)
                  refine st_iinc (L' := [some (.ref 64), some (vI z3533), some (vI (z4105 + 1)), some (vI z4221), none]) c185_157 rfl rfl rfl ?_
                  refine st_goto c185_160 ?_
                  refine MR_weak (A := [some (.ref 64), some (vI z3533), some (vI (z4105 + 1)), none, none]) (Lle_s (Lle_s (Lle_s (Lle_n (Lle_s (Lle_0)))))) ?_
                  exact ih4112 (z4105 + 1) h4222 (by omega) (by omega) (FS_row x4231 (by omega)) hT4223 hF4224 (Fr_cp hL4109 hL4225 (by decide +kernel))
                  refine st_aload c185_112 rfl ?_
                  refine st_iload c185_113 rfl ?_
                  refine st_iload c185_114 rfl ?_
                  refine st_callt (as := [vI z4105, vI z3533]) c185_115 cm_184 hT4223 (tf hT4223 rfl rfl) fd_8_0 rfl rfl rfl rfl (by omega) (K184 hT4223 z4105 (by omega) z3533 (by omega) (d - 1) (by omega) _ (fun v h0 H => H)) (fun v1 h1 H => ?_)
                  obtain ⟨z4238, rfl, b4239, pf4237, rfl⟩ := H
                  refine st_aload c185_118 rfl ?_
                  refine st_iload c185_119 rfl ?_
                  refine st_iload c185_120 rfl ?_
                  refine st_callt (as := [vI z3533, vI z4221]) c185_121 cm_184 hT4223 (tf hT4223 rfl rfl) fd_8_0 rfl rfl rfl rfl (by omega) (K184 hT4223 z3533 (by omega) z4221 (by omega) (d - 1) (by omega) _ (fun v h0 H => H)) (fun v1 h1 H => ?_)
                  obtain ⟨z4241, rfl, b4242, pf4240, rfl⟩ := H
                  refine st_iadd c185_124 ?_
                  refine st_istore (L' := [some (.ref 64), some (vI z3533), some (vI z4105), some (vI z4221), some (vI (z4238 + z4241))]) c185_125 rfl rfl ?_
                  refine st_iload c185_127 rfl ?_
                  refine st_aload c185_129 rfl ?_
                  refine st_iload c185_130 rfl ?_
                  refine st_iload c185_131 rfl ?_
                  refine st_callt (as := [vI z4105, vI z4221]) c185_132 cm_184 hT4223 (tf hT4223 rfl rfl) fd_8_0 rfl rfl rfl rfl (by omega) (K184 hT4223 z4105 (by omega) z4221 (by omega) (d - 1) (by omega) _ (fun v h0 H => H)) (fun v1 h1 H => ?_)
                  obtain ⟨z4244, rfl, b4245, pf4243, rfl⟩ := H
                  refine st_icmp_ge c185_135 (by omega) (by omega) (fun k4246 => ?_) (fun k4247 => ?_)
                  refine st_iinc (L' := [some (.ref 64), some (vI z3533), some (vI z4105), some (vI (z4221 + 1)), some (vI (z4238 + z4241))]) c185_151 rfl rfl rfl ?_
                  refine st_goto c185_154 ?_
                  refine MR_weak (A := [some (.ref 64), some (vI z3533), some (vI z4105), some (vI (z4221 + 1)), none]) (Lle_s (Lle_s (Lle_s (Lle_s (Lle_n (Lle_0)))))) ?_
                  exact ih4228 (z4221 + 1) h4222 (by omega) (by omega) (FS_N x4231 (by omega) (by omega) (by omega) (by omega) (by omega) (by omega) (by omega)) hT4223 hF4224 hL4225
                  refine st_aload c185_138 rfl ?_
                  refine st_getX (u := 67) c185_139 hT4223 (tf hT4223 rfl rfl) fd_8_5 rfl ?_
                  refine st_iconst c185_142 ?_
                  refine st_iload c185_144 rfl ?_
                  refine st_imul c185_145 ?_
                  refine st_iload c185_146 rfl ?_
                  refine st_iadd c185_147 ?_
                  refine st_iload c185_148 rfl ?_
                  refine st_iast c185_150 hT4223 (tf hT4223 rfl rfl) ay_45 (by omega) (by omega) (by omega) (Ext_rf _) hS hF4224 (by decide +kernel) (fun h4248 hT4249 hF4250 hU4251 => ?_)
                  refine st_iinc (L' := [some (.ref 64), some (vI z3533), some (vI z4105), some (vI (z4221 + 1)), some (vI (z4238 + z4241))]) c185_151 rfl rfl rfl ?_
                  refine st_goto c185_154 ?_
                  refine MR_weak (A := [some (.ref 64), some (vI z3533), some (vI z4105), some (vI (z4221 + 1)), none]) (Lle_s (Lle_s (Lle_s (Lle_s (Lle_n (Lle_0)))))) ?_
                  exact ih4228 (z4221 + 1) h4248 (by omega) (by omega) (FS_A x4231 (by omega) (by omega) (by omega) (by omega) (by omega) (by omega) (by omega) hU4251 (by omega) (by omega) (by omega) (by omega)) hT4249 hF4250 (AUp_Fr hL4225 hU4251 (fun u hu => by rw [ty_1 hu (tf hT4249 rfl rfl)]; decide))
              exact lp4226 ((((12 : Int) - 0 : Int) + 1).toNat) 0 h4106 (by omega) (by omega) x4115 hT4107 hF4108 (Fr_rf _ _ _)
          exact lp4110 ((((12 : Int) - 0 : Int) + 1).toNat) 0 h3534 (by omega) (by omega) (FS_0 x3543) hT3535 hF3536 (Fr_rf _ _ _)
      exact lp3538 ((((12 : Int) - 0 : Int) + 1).toNat) 0 h682 (by omega) (by omega) (FW_of_IN hT x691 (by omega)) hT683 hF684 (Fr_rf _ _ _)
      refine st_iconst c185_10 ?_
      refine st_istore (L' := [some (.ref 64), some (vI z681), some (vI 0), none, none]) c185_11 rfl rfl ?_
      have lp4385 : ∀ (n4386 : Nat) (z4380 : Int) (h4381 : List mE), (12 : Int) - z4380 < (n4386 : Int) → 0 ≤ z4380 ∧ z4380 ≤ 12 → IN h h4381 z681 z4380 → TH E τ h4381 → Fr τ W185 h h4381 → Fr τ [(45, 0)] h682 h4381 → MR (mex Ln xs) d 185 12 [some (.ref 64), some (vI z681), some (vI z4380), none, none] [] h4381 Q := by
        intro n4386
        induction n4386 with
        | zero =>
          intro z4380 h4381 hm4388 b4389 x4390 hT4382 hF4383 hL4384
          exfalso; omega
        | succ n4386 ih4387 =>
          intro z4380 h4381 hm4388 b4389 x4390 hT4382 hF4383 hL4384
          refine st_iload c185_12 rfl ?_
          refine st_aload c185_13 rfl ?_
          refine st_getI c185_14 hT4382 (tf hT4382 rfl rfl) fd_8_2 (fun e4391 e4392 => ?_)
          have q4393 : fI h4381 64 2 = fI h682 64 2 := Fr_fI hL4384 (tf hT683 rfl rfl) (by decide +kernel)
          refine st_icmp_ge c185_17 (by omega) (by omega) (fun k4394 => ?_) (fun k4395 => ?_)
          refine st_iinc (L' := [some (.ref 64), some (vI (z681 + 1)), some (vI z4380), none, none]) c185_76 rfl rfl rfl ?_
          refine st_goto c185_79 ?_
          refine MR_weak (A := [some (.ref 64), some (vI (z681 + 1)), none, none, none]) (Lle_s (Lle_s (Lle_n (Lle_s (Lle_s (Lle_0)))))) ?_
          exact ih688 (z681 + 1) h4381 (by omega) (by omega) (IN_row x4390 (by omega)) hT4382 hF4383 (Fr_cp hL685 hL4384 (by decide +kernel))
          refine st_aload c185_20 rfl ?_
          refine st_getX (u := 67) c185_21 hT4382 (tf hT4382 rfl rfl) fd_8_5 rfl ?_
          refine st_iconst c185_24 ?_
          refine st_iload c185_26 rfl ?_
          refine st_imul c185_27 ?_
          refine st_iload c185_28 rfl ?_
          refine st_iadd c185_29 ?_
          refine st_iload c185_30 rfl ?_
          refine st_iload c185_31 rfl ?_
          refine st_icmp_ne c185_32 (by omega) (by omega) (fun k4396 => ?_) (fun k4397 => ?_)
          refine st_aload c185_39 rfl ?_
          refine st_getX (u := 66) c185_40 hT4382 (tf hT4382 rfl rfl) fd_8_4 rfl ?_
          refine st_iconst c185_43 ?_
          refine st_iload c185_45 rfl ?_
          refine st_imul c185_46 ?_
          refine st_iload c185_47 rfl ?_
          refine st_iadd c185_48 ?_
          refine st_iald c185_49 hT4382 (tf hT4382 rfl rfl) ay_44 (by omega) (fun e4398 e4399 => ?_)
          have q4400 : aI h4381 66 ((12 * z681) + z4380) = aI h 66 ((12 * z681) + z4380) := (Fr_aI hL4384 (tf hT683 rfl rfl) (by decide +kernel) ((12 * z681) + z4380)).trans (Fr_aI hL685 (tf hT rfl rfl) (by decide +kernel) ((12 * z681) + z4380))
          refine st_if_ne c185_50 (by omega) (fun k4401 => ?_) (fun k4402 => ?_)
          refine st_aload c185_58 rfl ?_
          refine st_getX (u := 66) c185_59 hT4382 (tf hT4382 rfl rfl) fd_8_4 rfl ?_
          refine st_iconst c185_62 ?_
          refine st_iload c185_64 rfl ?_
          refine st_imul c185_65 ?_
          refine st_iload c185_66 rfl ?_
          refine st_iadd c185_67 ?_
          refine st_iald c185_68 hT4382 (tf hT4382 rfl rfl) ay_44 (by omega) (fun e4403 e4404 => ?_)
          have q4405 : aI h4381 66 ((12 * z681) + z4380) = aI h 66 ((12 * z681) + z4380) := (Fr_aI hL4384 (tf hT683 rfl rfl) (by decide +kernel) ((12 * z681) + z4380)).trans (Fr_aI hL685 (tf hT rfl rfl) (by decide +kernel) ((12 * z681) + z4380))
          refine st_iast c185_69 hT4382 (tf hT4382 rfl rfl) ay_45 (by omega) (by omega) (by omega) (Ext_rf _) hS hF4383 (by decide +kernel) (fun h4406 hT4407 hF4408 hU4409 => ?_)
          refine st_iinc (L' := [some (.ref 64), some (vI z681), some (vI (z4380 + 1)), none, none]) c185_70 rfl rfl rfl ?_
          refine st_goto c185_73 ?_
          exact ih4387 (z4380 + 1) h4406 (by omega) (by omega) (IN_step x4390 (by omega) (by omega) (by omega) (by omega) (by omega) hU4409 (by omega) (by unfold Ini wf; (repeat' split) <;> omega) (by omega)) hT4407 hF4408 (AUp_Fr hL4384 hU4409 (fun u hu => by rw [ty_1 hu (tf hT4407 rfl rfl)]; decide))
          refine st_iconst c185_53 ?_
          refine st_goto c185_55 ?_
          refine st_iast c185_69 hT4382 (tf hT4382 rfl rfl) ay_45 (by omega) (by omega) (by omega) (Ext_rf _) hS hF4383 (by decide +kernel) (fun h4410 hT4411 hF4412 hU4413 => ?_)
          refine st_iinc (L' := [some (.ref 64), some (vI z681), some (vI (z4380 + 1)), none, none]) c185_70 rfl rfl rfl ?_
          refine st_goto c185_73 ?_
          exact ih4387 (z4380 + 1) h4410 (by omega) (by omega) (IN_step x4390 (by omega) (by omega) (by omega) (by omega) (by omega) hU4413 (by omega) (by unfold Ini wf; (repeat' split) <;> omega) (by omega)) hT4411 hF4412 (AUp_Fr hL4384 hU4413 (fun u hu => by rw [ty_1 hu (tf hT4411 rfl rfl)]; decide))
          refine st_iconst c185_35 ?_
          refine st_goto c185_36 ?_
          refine st_iast c185_69 hT4382 (tf hT4382 rfl rfl) ay_45 (by omega) (by omega) (by omega) (Ext_rf _) hS hF4383 (by decide +kernel) (fun h4414 hT4415 hF4416 hU4417 => ?_)
          refine st_iinc (L' := [some (.ref 64), some (vI z681), some (vI (z4380 + 1)), none, none]) c185_70 rfl rfl rfl ?_
          refine st_goto c185_73 ?_
          exact ih4387 (z4380 + 1) h4414 (by omega) (by omega) (IN_step x4390 (by omega) (by omega) (by omega) (by omega) (by omega) hU4417 (by omega) (by unfold Ini wf; (repeat' split) <;> omega) (by omega)) hT4415 hF4416 (AUp_Fr hL4384 hU4417 (fun u hu => by rw [ty_1 hu (tf hT4415 rfl rfl)]; decide))
      exact lp4385 ((((12 : Int) - 0 : Int) + 1).toNat) 0 h682 (by omega) (by omega) x691 hT683 hF684 (Fr_rf _ _ _)
  exact lp686 ((((12 : Int) - 0 : Int) + 1).toNat) 0 h (by omega) (by omega) IN_0 hT hF (Fr_rf _ _ _)
def W186 : List (Nat × Nat) := [(8, 2), (43, 0), (45, 0)]
set_option maxHeartbeats 0 in
theorem K186 {Ln : Nat} {xs : Nat → Int32} {τ : List Nat} {h : List mE} {E : EP} (hT : TH E τ h) (hS : Stb E W186) (p1 : Int) (hp1 : (-2147483648) ≤ p1 ∧ p1 ≤ 2147483647) (d : Nat) (hd : 2 ≤ d) (Q : Option Value → List mE → Prop) (hQ : ∀ v h', (∃ z : Int, v = some (vI z) ∧ ((-3) ≤ z ∧ z ≤ 11) ∧ ((0 ≤ p1 ∧ p1 ≤ 1 ∧ fI h 64 2 ≤ 11 ∧ z = fI h 64 2 ∧ fI h' 64 2 = fI h 64 2 + 1) ∨ (0 ≤ p1 ∧ p1 ≤ 1 ∧ 12 ≤ fI h 64 2 ∧ z = -3 ∧ fI h' 64 2 = fI h 64 2) ∨ ((p1 < 0 ∨ 1 < p1) ∧ z = -1 ∧ fI h' 64 2 = fI h 64 2)) ∧ (PTown 65 64 2 h h' p1) ∧ (PTnR h h') ∧ TH E τ h' ∧ Fr τ W186 h h') → Q v h') : MR (mex Ln xs) d 186 0 [some (.ref 64), some (vI p1)] [] h Q := by
  have hF := Fr_rf τ W186 h
  refine st_iload c186_0 rfl ?_
  refine st_iconst c186_1 ?_
  refine st_iconst c186_2 ?_
  refine st_calls (as := [vI p1, vI 0, vI 1]) c186_3 cm_180 rfl rfl rfl rfl (by omega) (K180 hT p1 (by omega) 0 (by omega) 1 (by omega) (d - 1) (by omega) _ (fun v h0 H => H)) (fun v1 h1 H => ?_)
  rcases H with ⟨rfl, pf1, rfl⟩ | ⟨rfl, pf2, pf3, rfl⟩
  refine st_if_ne c186_6 (by omega) (fun k4 => False.elim (by omega)) (fun k5 => ?_)
  refine st_iconst c186_9 ?_
  refine st_ireturn c186_10 ?_
  have e6 := fI_bd (q := 64) hT (tf hT rfl rfl) fd_8_2
  exact hQ _ _ ⟨(-1), rfl, by omega, by omega, Or.inl ⟨by omega, (fun _ => rfl)⟩, Or.inl ⟨by omega, (fun _ => rfl)⟩, hT, hF⟩
  refine st_if_ne c186_6 (by omega) (fun k9 => ?_) (fun k10 => False.elim (by omega))
  refine st_aload c186_11 rfl ?_
  refine st_getI c186_12 hT (tf hT rfl rfl) fd_8_2 (fun e11 e12 => ?_)
  refine st_iconst c186_15 ?_
  refine st_icmp_ne c186_17 (by omega) (by omega) (fun k13 => ?_) (fun k14 => ?_)
  refine st_aload c186_23 rfl ?_
  refine st_getX (u := 65) c186_24 hT (tf hT rfl rfl) fd_8_3 rfl ?_
  refine st_aload c186_27 rfl ?_
  refine st_getI c186_28 hT (tf hT rfl rfl) fd_8_2 (fun e15 e16 => ?_)
  refine st_iload c186_31 rfl ?_
  refine st_iconst c186_32 ?_
  refine st_icmp_ne c186_33 (by omega) (by omega) (fun k17 => ?_) (fun k18 => ?_)
  refine st_iconst c186_40 ?_
  refine st_zast c186_41 hT (tf hT rfl rfl) ay_43 (by omega) (by omega) (Ext_rf _) hS hF (by decide +kernel) (fun h19 hT20 hF21 hU22 => ?_)
  refine st_aload c186_42 rfl ?_
  refine st_dup c186_43 rfl ?_
  refine st_getI c186_44 hT20 (tf hT20 rfl rfl) fd_8_2 (fun e23 e24 => ?_)
  have q25 : fI h19 64 2 = fI h 64 2 := AUp_fI hU22
  refine st_iconst c186_47 ?_
  refine st_iadd c186_48 ?_
  refine st_putI c186_49 hT20 (tf hT20 rfl rfl) fd_8_2 (by omega) (by omega) (Ext_rf _) hS hF21 (by decide +kernel) (fun h26 hT27 hF28 hU29 => ?_)
  refine st_aload c186_52 rfl ?_
  have e30 := fI_bd (q := 64) hT27 (tf hT27 rfl rfl) fd_8_2
  have q31 : fI h26 64 2 = (fI h19 64 2) + 1 := FUp_fI hU29 (by omega) (by omega)
  refine st_callt (as := []) c186_53 cm_185 hT27 (tf hT27 rfl rfl) fd_8_0 rfl rfl rfl rfl (by omega) (K185 hT27 (Stb_mono hS (by decide +kernel)) (d - 1) (by omega) _ (fun v h0 H => H)) (fun v1 h32 H => ?_)
  obtain ⟨rfl, pf35, hT33, hF34⟩ := H
  have hF36 := Fr_cp hF28 hF34 (by decide +kernel : Wsub W185 W186 = true)
  refine st_aload c186_56 rfl ?_
  refine st_getI c186_57 hT33 (tf hT33 rfl rfl) fd_8_2 (fun e37 e38 => ?_)
  have q39 : fI h32 64 2 = fI h26 64 2 := Fr_fI hF34 (tf hT27 rfl rfl) (by decide +kernel)
  refine st_iconst c186_60 ?_
  refine st_isub c186_61 ?_
  refine st_ireturn c186_62 ?_
  have st40 : Set1 65 h h32 (fI h 64 2) p1 := fun i a => by
    rw [(Fr_aI hF34 (tf hT27 rfl rfl) (by decide +kernel) i : aI h32 65 i = aI h26 65 i)]
    rw [(FUp_aI hU29 i : aI h26 65 i = aI h19 65 i)]
    rw [AUp_aI (j := i) hU22 (by omega) (by omega) (by omega) a]
    all_goals exact if_cg (by omega) (by omega)
  exact hQ _ _ ⟨(fI h32 64 2) - 1, rfl, by omega, by omega, Or.inr (Or.inr ⟨by omega, by omega, by omega, st40⟩), Or.inr (Sp_mv hT27 hF34 (by decide +kernel) pf35), hT33, hF36⟩
  refine st_iconst c186_36 ?_
  refine st_goto c186_37 ?_
  refine st_zast c186_41 hT (tf hT rfl rfl) ay_43 (by omega) (by omega) (Ext_rf _) hS hF (by decide +kernel) (fun h41 hT42 hF43 hU44 => ?_)
  refine st_aload c186_42 rfl ?_
  refine st_dup c186_43 rfl ?_
  refine st_getI c186_44 hT42 (tf hT42 rfl rfl) fd_8_2 (fun e45 e46 => ?_)
  have q47 : fI h41 64 2 = fI h 64 2 := AUp_fI hU44
  refine st_iconst c186_47 ?_
  refine st_iadd c186_48 ?_
  refine st_putI c186_49 hT42 (tf hT42 rfl rfl) fd_8_2 (by omega) (by omega) (Ext_rf _) hS hF43 (by decide +kernel) (fun h48 hT49 hF50 hU51 => ?_)
  refine st_aload c186_52 rfl ?_
  have e52 := fI_bd (q := 64) hT49 (tf hT49 rfl rfl) fd_8_2
  have q53 : fI h48 64 2 = (fI h41 64 2) + 1 := FUp_fI hU51 (by omega) (by omega)
  refine st_callt (as := []) c186_53 cm_185 hT49 (tf hT49 rfl rfl) fd_8_0 rfl rfl rfl rfl (by omega) (K185 hT49 (Stb_mono hS (by decide +kernel)) (d - 1) (by omega) _ (fun v h0 H => H)) (fun v1 h54 H => ?_)
  obtain ⟨rfl, pf57, hT55, hF56⟩ := H
  have hF58 := Fr_cp hF50 hF56 (by decide +kernel : Wsub W185 W186 = true)
  refine st_aload c186_56 rfl ?_
  refine st_getI c186_57 hT55 (tf hT55 rfl rfl) fd_8_2 (fun e59 e60 => ?_)
  have q61 : fI h54 64 2 = fI h48 64 2 := Fr_fI hF56 (tf hT49 rfl rfl) (by decide +kernel)
  refine st_iconst c186_60 ?_
  refine st_isub c186_61 ?_
  refine st_ireturn c186_62 ?_
  have st62 : Set1 65 h h54 (fI h 64 2) p1 := fun i a => by
    rw [(Fr_aI hF56 (tf hT49 rfl rfl) (by decide +kernel) i : aI h54 65 i = aI h48 65 i)]
    rw [(FUp_aI hU51 i : aI h48 65 i = aI h41 65 i)]
    rw [AUp_aI (j := i) hU44 (by omega) (by omega) (by omega) a]
    all_goals exact if_cg (by omega) (by omega)
  exact hQ _ _ ⟨(fI h54 64 2) - 1, rfl, by omega, by omega, Or.inr (Or.inr ⟨by omega, by omega, by omega, st62⟩), Or.inr (Sp_mv hT49 hF56 (by decide +kernel) pf57), hT55, hF58⟩
  refine st_iconst c186_20 ?_
  refine st_ireturn c186_22 ?_
  exact hQ _ _ ⟨(-3), rfl, by omega, by omega, Or.inr (Or.inl ⟨by omega, by omega, by omega, (fun _ => rfl)⟩), Or.inl ⟨by omega, (fun _ => rfl)⟩, hT, hF⟩
def W187 : List (Nat × Nat) := [(44, 0), (45, 0)]
set_option maxHeartbeats 0 in
theorem K187 {Ln : Nat} {xs : Nat → Int32} {τ : List Nat} {h : List mE} {E : EP} (hT : TH E τ h) (hS : Stb E W187) (p1 : Int) (hp1 : (-2147483648) ≤ p1 ∧ p1 ≤ 2147483647) (p2 : Int) (hp2 : (-2147483648) ≤ p2 ∧ p2 ≤ 2147483647) (p3 : Int) (hp3 : (-2147483648) ≤ p3 ∧ p3 ≤ 2147483647) (d : Nat) (hd : 2 ≤ d) (Q : Option Value → List mE → Prop) (hQ : ∀ v h', (∃ z : Int, v = some (vI z) ∧ ((-1) ≤ z ∧ z ≤ 300) ∧ (PRdR h h' p1 p2 p3 z) ∧ TH E τ h' ∧ Fr τ W187 h h') → Q v h') : MR (mex Ln xs) d 187 0 [some (.ref 64), some (vI p1), some (vI p2), some (vI p3), none, none] [] h Q := by
  have hF := Fr_rf τ W187 h
  refine st_aload c187_0 rfl ?_
  refine st_iload c187_1 rfl ?_
  have e1 := fI_bd (q := 64) hT (tf hT rfl rfl) fd_8_2
  refine st_callt (as := [vI p1]) c187_2 cm_183 hT (tf hT rfl rfl) fd_8_0 rfl rfl rfl rfl (by omega) (K183 hT p1 (by omega) (d - 1) (by omega) _ (fun v h0 H => H)) (fun v1 h1 H => ?_)
  rcases H with ⟨rfl, pf2, rfl⟩ | ⟨rfl, pf3, pf4, rfl⟩
  refine st_if_eq c187_5 (by omega) (fun k5 => ?_) (fun k6 => False.elim (by omega))
  refine st_iconst c187_32 ?_
  refine st_ireturn c187_33 ?_
  exact hQ _ _ ⟨(-1), rfl, by omega, Or.inl ⟨by omega, by omega, (fun _ => rfl), (fun _ => rfl)⟩, hT, hF⟩
  refine st_if_eq c187_5 (by omega) (fun k9 => False.elim (by omega)) (fun k10 => ?_)
  refine st_aload c187_8 rfl ?_
  refine st_iload c187_9 rfl ?_
  refine st_callt (as := [vI p2]) c187_10 cm_183 hT (tf hT rfl rfl) fd_8_0 rfl rfl rfl rfl (by omega) (K183 hT p2 (by omega) (d - 1) (by omega) _ (fun v h0 H => H)) (fun v1 h1 H => ?_)
  rcases H with ⟨rfl, pf11, rfl⟩ | ⟨rfl, pf12, pf13, rfl⟩
  refine st_if_eq c187_13 (by omega) (fun k14 => ?_) (fun k15 => False.elim (by omega))
  refine st_iconst c187_32 ?_
  refine st_ireturn c187_33 ?_
  exact hQ _ _ ⟨(-1), rfl, by omega, Or.inl ⟨by omega, by omega, (fun _ => rfl), (fun _ => rfl)⟩, hT, hF⟩
  refine st_if_eq c187_13 (by omega) (fun k18 => False.elim (by omega)) (fun k19 => ?_)
  refine st_iload c187_16 rfl ?_
  refine st_iload c187_17 rfl ?_
  refine st_icmp_eq c187_18 (by omega) (by omega) (fun k20 => ?_) (fun k21 => ?_)
  refine st_iconst c187_32 ?_
  refine st_ireturn c187_33 ?_
  exact hQ _ _ ⟨(-1), rfl, by omega, Or.inl ⟨by omega, by omega, (fun _ => rfl), (fun _ => rfl)⟩, hT, hF⟩
  refine st_iload c187_21 rfl ?_
  refine st_iconst c187_22 ?_
  refine st_iconst c187_23 ?_
  refine st_calls (as := [vI p3, vI 1, vI 300]) c187_26 cm_180 rfl rfl rfl rfl (by omega) (K180 hT p3 (by omega) 1 (by omega) 300 (by omega) (d - 1) (by omega) _ (fun v h0 H => H)) (fun v1 h1 H => ?_)
  rcases H with ⟨rfl, pf24, rfl⟩ | ⟨rfl, pf25, pf26, rfl⟩
  refine st_if_ne c187_29 (by omega) (fun k27 => False.elim (by omega)) (fun k28 => ?_)
  refine st_iconst c187_32 ?_
  refine st_ireturn c187_33 ?_
  exact hQ _ _ ⟨(-1), rfl, by omega, Or.inl ⟨by omega, by omega, (fun _ => rfl), (fun _ => rfl)⟩, hT, hF⟩
  refine st_if_ne c187_29 (by omega) (fun k31 => ?_) (fun k32 => False.elim (by omega))
  refine st_aload c187_34 rfl ?_
  refine st_getX (u := 66) c187_35 hT (tf hT rfl rfl) fd_8_4 rfl ?_
  refine st_iconst c187_38 ?_
  refine st_iload c187_40 rfl ?_
  refine st_imul c187_41 ?_
  refine st_iload c187_42 rfl ?_
  refine st_iadd c187_43 ?_
  refine st_iald c187_44 hT (tf hT rfl rfl) ay_44 (by omega) (fun e33 e34 => ?_)
  refine st_istore (L' := [some (.ref 64), some (vI p1), some (vI p2), some (vI p3), some (vI (aI h 66 ((12 * p1) + p2))), none]) c187_45 rfl rfl ?_
  refine st_iload c187_47 rfl ?_
  refine st_if_eq c187_49 (by omega) (fun k35 => ?_) (fun k36 => ?_)
  refine st_iload c187_58 rfl ?_
  refine st_goto c187_59 ?_
  refine st_istore (L' := [some (.ref 64), some (vI p1), some (vI p2), some (vI p3), some (vI (aI h 66 ((12 * p1) + p2))), some (vI p3)]) c187_64 rfl rfl ?_
  refine st_aload c187_66 rfl ?_
  refine st_getX (u := 66) c187_67 hT (tf hT rfl rfl) fd_8_4 rfl ?_
  refine st_iconst c187_70 ?_
  refine st_iload c187_72 rfl ?_
  refine st_imul c187_73 ?_
  refine st_iload c187_74 rfl ?_
  refine st_iadd c187_75 ?_
  refine st_iload c187_76 rfl ?_
  refine st_iast c187_78 hT (tf hT rfl rfl) ay_44 (by omega) (by omega) (by omega) (Ext_rf _) hS hF (by decide +kernel) (fun h37 hT38 hF39 hU40 => ?_)
  refine st_aload c187_79 rfl ?_
  refine st_getX (u := 66) c187_80 hT38 (tf hT38 rfl rfl) fd_8_4 rfl ?_
  refine st_iconst c187_83 ?_
  refine st_iload c187_85 rfl ?_
  refine st_imul c187_86 ?_
  refine st_iload c187_87 rfl ?_
  refine st_iadd c187_88 ?_
  refine st_iload c187_89 rfl ?_
  refine st_iast c187_91 hT38 (tf hT38 rfl rfl) ay_44 (by omega) (by omega) (by omega) (Ext_rf _) hS hF39 (by decide +kernel) (fun h41 hT42 hF43 hU44 => ?_)
  refine st_aload c187_92 rfl ?_
  have e45 := fI_bd (q := 64) hT42 (tf hT42 rfl rfl) fd_8_2
  have q46 : fI h41 64 2 = fI h 64 2 := (AUp_fI hU44).trans (AUp_fI hU40)
  refine st_callt (as := []) c187_93 cm_185 hT42 (tf hT42 rfl rfl) fd_8_0 rfl rfl rfl rfl (by omega) (K185 hT42 (Stb_mono hS (by decide +kernel)) (d - 1) (by omega) _ (fun v h0 H => H)) (fun v1 h47 H => ?_)
  obtain ⟨rfl, pf50, hT48, hF49⟩ := H
  have hF51 := Fr_cp hF43 hF49 (by decide +kernel : Wsub W185 W187 = true)
  refine st_iload c187_96 rfl ?_
  refine st_ireturn c187_98 ?_
  have st52 : ∀ i : Int, 0 ≤ i → aI h47 66 i = if i = 12 * p2 + p1 then p3 else if i = 12 * p1 + p2 then p3 else aI h 66 i := fun i a => by
    rw [(Fr_aI hF49 (tf hT42 rfl rfl) (by decide +kernel) i : aI h47 66 i = aI h41 66 i)]
    rw [AUp_aI (j := i) hU44 (by omega) (by omega) (by omega) a]
    rw [AUp_aI (j := i) hU40 (by omega) (by omega) (by omega) a]
    repeat' split
    all_goals omega
  exact hQ _ _ ⟨p3, rfl, by omega, Or.inr ⟨by omega, by omega, by omega, by omega, by omega, by omega, by omega, by omega, st52, (Sp_mv hT42 hF49 (by decide +kernel) pf50)⟩, hT48, hF51⟩
  refine st_iload c187_52 rfl ?_
  refine st_iload c187_53 rfl ?_
  refine st_icmp_ge c187_55 (by omega) (by omega) (fun k53 => ?_) (fun k54 => ?_)
  refine st_iload c187_62 rfl ?_
  refine st_istore (L' := [some (.ref 64), some (vI p1), some (vI p2), some (vI p3), some (vI (aI h 66 ((12 * p1) + p2))), some (vI (aI h 66 ((12 * p1) + p2)))]) c187_64 rfl rfl ?_
  refine st_aload c187_66 rfl ?_
  refine st_getX (u := 66) c187_67 hT (tf hT rfl rfl) fd_8_4 rfl ?_
  refine st_iconst c187_70 ?_
  refine st_iload c187_72 rfl ?_
  refine st_imul c187_73 ?_
  refine st_iload c187_74 rfl ?_
  refine st_iadd c187_75 ?_
  refine st_iload c187_76 rfl ?_
  refine st_iast c187_78 hT (tf hT rfl rfl) ay_44 (by omega) (by omega) (by omega) (Ext_rf _) hS hF (by decide +kernel) (fun h55 hT56 hF57 hU58 => ?_)
  refine st_aload c187_79 rfl ?_
  refine st_getX (u := 66) c187_80 hT56 (tf hT56 rfl rfl) fd_8_4 rfl ?_
  refine st_iconst c187_83 ?_
  refine st_iload c187_85 rfl ?_
  refine st_imul c187_86 ?_
  refine st_iload c187_87 rfl ?_
  refine st_iadd c187_88 ?_
  refine st_iload c187_89 rfl ?_
  refine st_iast c187_91 hT56 (tf hT56 rfl rfl) ay_44 (by omega) (by omega) (by omega) (Ext_rf _) hS hF57 (by decide +kernel) (fun h59 hT60 hF61 hU62 => ?_)
  refine st_aload c187_92 rfl ?_
  have e63 := fI_bd (q := 64) hT60 (tf hT60 rfl rfl) fd_8_2
  have q64 : fI h59 64 2 = fI h 64 2 := (AUp_fI hU62).trans (AUp_fI hU58)
  refine st_callt (as := []) c187_93 cm_185 hT60 (tf hT60 rfl rfl) fd_8_0 rfl rfl rfl rfl (by omega) (K185 hT60 (Stb_mono hS (by decide +kernel)) (d - 1) (by omega) _ (fun v h0 H => H)) (fun v1 h65 H => ?_)
  obtain ⟨rfl, pf68, hT66, hF67⟩ := H
  have hF69 := Fr_cp hF61 hF67 (by decide +kernel : Wsub W185 W187 = true)
  refine st_iload c187_96 rfl ?_
  refine st_ireturn c187_98 ?_
  have st70 : ∀ i : Int, 0 ≤ i → aI h65 66 i = if i = 12 * p2 + p1 then (aI h 66 ((12 * p1) + p2)) else if i = 12 * p1 + p2 then (aI h 66 ((12 * p1) + p2)) else aI h 66 i := fun i a => by
    rw [(Fr_aI hF67 (tf hT60 rfl rfl) (by decide +kernel) i : aI h65 66 i = aI h59 66 i)]
    rw [AUp_aI (j := i) hU62 (by omega) (by omega) (by omega) a]
    rw [AUp_aI (j := i) hU58 (by omega) (by omega) (by omega) a]
    repeat' split
    all_goals omega
  exact hQ _ _ ⟨aI h 66 ((12 * p1) + p2), rfl, by omega, Or.inr ⟨by omega, by omega, by omega, by omega, by omega, by omega, by omega, by omega, st70, (Sp_mv hT60 hF67 (by decide +kernel) pf68)⟩, hT66, hF69⟩
  refine st_iload c187_58 rfl ?_
  refine st_goto c187_59 ?_
  refine st_istore (L' := [some (.ref 64), some (vI p1), some (vI p2), some (vI p3), some (vI (aI h 66 ((12 * p1) + p2))), some (vI p3)]) c187_64 rfl rfl ?_
  refine st_aload c187_66 rfl ?_
  refine st_getX (u := 66) c187_67 hT (tf hT rfl rfl) fd_8_4 rfl ?_
  refine st_iconst c187_70 ?_
  refine st_iload c187_72 rfl ?_
  refine st_imul c187_73 ?_
  refine st_iload c187_74 rfl ?_
  refine st_iadd c187_75 ?_
  refine st_iload c187_76 rfl ?_
  refine st_iast c187_78 hT (tf hT rfl rfl) ay_44 (by omega) (by omega) (by omega) (Ext_rf _) hS hF (by decide +kernel) (fun h71 hT72 hF73 hU74 => ?_)
  refine st_aload c187_79 rfl ?_
  refine st_getX (u := 66) c187_80 hT72 (tf hT72 rfl rfl) fd_8_4 rfl ?_
  refine st_iconst c187_83 ?_
  refine st_iload c187_85 rfl ?_
  refine st_imul c187_86 ?_
  refine st_iload c187_87 rfl ?_
  refine st_iadd c187_88 ?_
  refine st_iload c187_89 rfl ?_
  refine st_iast c187_91 hT72 (tf hT72 rfl rfl) ay_44 (by omega) (by omega) (by omega) (Ext_rf _) hS hF73 (by decide +kernel) (fun h75 hT76 hF77 hU78 => ?_)
  refine st_aload c187_92 rfl ?_
  have e79 := fI_bd (q := 64) hT76 (tf hT76 rfl rfl) fd_8_2
  have q80 : fI h75 64 2 = fI h 64 2 := (AUp_fI hU78).trans (AUp_fI hU74)
  refine st_callt (as := []) c187_93 cm_185 hT76 (tf hT76 rfl rfl) fd_8_0 rfl rfl rfl rfl (by omega) (K185 hT76 (Stb_mono hS (by decide +kernel)) (d - 1) (by omega) _ (fun v h0 H => H)) (fun v1 h81 H => ?_)
  obtain ⟨rfl, pf84, hT82, hF83⟩ := H
  have hF85 := Fr_cp hF77 hF83 (by decide +kernel : Wsub W185 W187 = true)
  refine st_iload c187_96 rfl ?_
  refine st_ireturn c187_98 ?_
  have st86 : ∀ i : Int, 0 ≤ i → aI h81 66 i = if i = 12 * p2 + p1 then p3 else if i = 12 * p1 + p2 then p3 else aI h 66 i := fun i a => by
    rw [(Fr_aI hF83 (tf hT76 rfl rfl) (by decide +kernel) i : aI h81 66 i = aI h75 66 i)]
    rw [AUp_aI (j := i) hU78 (by omega) (by omega) (by omega) a]
    rw [AUp_aI (j := i) hU74 (by omega) (by omega) (by omega) a]
    repeat' split
    all_goals omega
  exact hQ _ _ ⟨p3, rfl, by omega, Or.inr ⟨by omega, by omega, by omega, by omega, by omega, by omega, by omega, by omega, st86, (Sp_mv hT76 hF83 (by decide +kernel) pf84)⟩, hT82, hF85⟩
set_option maxHeartbeats 0 in
theorem K188 {Ln : Nat} {xs : Nat → Int32} {τ : List Nat} {h : List mE} {E : EP} (hT : TH E τ h) (p1 : Int) (hp1 : (-2147483648) ≤ p1 ∧ p1 ≤ 2147483647) (p2 : Int) (hp2 : (-2147483648) ≤ p2 ∧ p2 ≤ 2147483647) (d : Nat) (hd : 2 ≤ d) (Q : Option Value → List mE → Prop) (hQ : ∀ v h', (∃ z : Int, v = some (vI z) ∧ ((-2) ≤ z ∧ z ≤ 1000000) ∧ (PFarR h p1 p2 z) ∧ h = h') → Q v h') : MR (mex Ln xs) d 188 0 [some (.ref 64), some (vI p1), some (vI p2)] [] h Q := by
  refine st_aload c188_0 rfl ?_
  refine st_iload c188_1 rfl ?_
  have e1 := fI_bd (q := 64) hT (tf hT rfl rfl) fd_8_2
  refine st_callt (as := [vI p1]) c188_2 cm_183 hT (tf hT rfl rfl) fd_8_0 rfl rfl rfl rfl (by omega) (K183 hT p1 (by omega) (d - 1) (by omega) _ (fun v h0 H => H)) (fun v1 h1 H => ?_)
  rcases H with ⟨rfl, pf2, rfl⟩ | ⟨rfl, pf3, pf4, rfl⟩
  refine st_if_eq c188_5 (by omega) (fun k5 => ?_) (fun k6 => False.elim (by omega))
  refine st_iconst c188_16 ?_
  refine st_goto c188_17 ?_
  refine st_ireturn c188_42 ?_
  exact hQ _ _ ⟨(-1), rfl, by omega, Or.inl ⟨by omega, by omega⟩, rfl⟩
  refine st_if_eq c188_5 (by omega) (fun k7 => False.elim (by omega)) (fun k8 => ?_)
  refine st_aload c188_8 rfl ?_
  refine st_iload c188_9 rfl ?_
  refine st_callt (as := [vI p2]) c188_10 cm_183 hT (tf hT rfl rfl) fd_8_0 rfl rfl rfl rfl (by omega) (K183 hT p2 (by omega) (d - 1) (by omega) _ (fun v h0 H => H)) (fun v1 h1 H => ?_)
  rcases H with ⟨rfl, pf9, rfl⟩ | ⟨rfl, pf10, pf11, rfl⟩
  refine st_if_ne c188_13 (by omega) (fun k12 => False.elim (by omega)) (fun k13 => ?_)
  refine st_iconst c188_16 ?_
  refine st_goto c188_17 ?_
  refine st_ireturn c188_42 ?_
  exact hQ _ _ ⟨(-1), rfl, by omega, Or.inl ⟨by omega, by omega⟩, rfl⟩
  refine st_if_ne c188_13 (by omega) (fun k14 => ?_) (fun k15 => False.elim (by omega))
  refine st_aload c188_20 rfl ?_
  refine st_iload c188_21 rfl ?_
  refine st_iload c188_22 rfl ?_
  refine st_callt (as := [vI p1, vI p2]) c188_23 cm_184 hT (tf hT rfl rfl) fd_8_0 rfl rfl rfl rfl (by omega) (K184 hT p1 (by omega) p2 (by omega) (d - 1) (by omega) _ (fun v h0 H => H)) (fun v1 h1 H => ?_)
  obtain ⟨z17, rfl, b18, pf16, rfl⟩ := H
  refine st_iconst c188_26 ?_
  refine st_icmp_lt c188_28 (by omega) (by omega) (fun k19 => ?_) (fun k20 => ?_)
  refine st_aload c188_36 rfl ?_
  refine st_iload c188_37 rfl ?_
  refine st_iload c188_38 rfl ?_
  refine st_callt (as := [vI p1, vI p2]) c188_39 cm_184 hT (tf hT rfl rfl) fd_8_0 rfl rfl rfl rfl (by omega) (K184 hT p1 (by omega) p2 (by omega) (d - 1) (by omega) _ (fun v h0 H => H)) (fun v1 h1 H => ?_)
  obtain ⟨z22, rfl, b23, pf21, rfl⟩ := H
  refine st_ireturn c188_42 ?_
  exact hQ _ _ ⟨z22, rfl, by omega, Or.inr ⟨by omega, by omega, by omega, by omega, by omega⟩, rfl⟩
  refine st_iconst c188_31 ?_
  refine st_goto c188_33 ?_
  refine st_ireturn c188_42 ?_
  exact hQ _ _ ⟨(-2), rfl, by omega, Or.inr ⟨by omega, by omega, by omega, by omega, by omega⟩, rfl⟩
def W189 : List (Nat × Nat) := [(46, 0)]
set_option maxHeartbeats 0 in
theorem K189 {Ln : Nat} {xs : Nat → Int32} {τ : List Nat} {h : List mE} {E : EP} (hT : TH E τ h) (hS : Stb E W189) (p1 : Int) (hp1 : (-2147483648) ≤ p1 ∧ p1 ≤ 2147483647) (p2 : Int) (hp2 : (-2147483648) ≤ p2 ∧ p2 ≤ 2147483647) (d : Nat) (hd : 2 ≤ d) (Q : Option Value → List mE → Prop) (hQ : ∀ v h', (∃ z : Int, v = some (vI z) ∧ ((-1) ≤ z ∧ z ≤ 1) ∧ (PRain 68 h h' p1 p2 z) ∧ TH E τ h' ∧ Fr τ W189 h h') → Q v h') : MR (mex Ln xs) d 189 0 [some (.ref 64), some (vI p1), some (vI p2), none] [] h Q := by
  have hF := Fr_rf τ W189 h
  refine st_iload c189_0 rfl ?_
  refine st_calls (as := [vI p1]) c189_1 cm_181 rfl rfl rfl rfl (by omega) (K181 hT p1 (by omega) (d - 1) (by omega) _ (fun v h0 H => H)) (fun v1 h1 H => ?_)
  rcases H with ⟨rfl, pf1, rfl⟩ | ⟨rfl, pf2, pf3, rfl⟩
  refine st_if_eq c189_4 (by omega) (fun k4 => ?_) (fun k5 => False.elim (by omega))
  refine st_iconst c189_16 ?_
  refine st_ireturn c189_17 ?_
  exact hQ _ _ ⟨(-1), rfl, by omega, Or.inl ⟨by omega, by omega, (fun _ => rfl)⟩, hT, hF⟩
  refine st_if_eq c189_4 (by omega) (fun k7 => False.elim (by omega)) (fun k8 => ?_)
  refine st_iload c189_7 rfl ?_
  refine st_iconst c189_8 ?_
  refine st_iconst c189_9 ?_
  refine st_calls (as := [vI p2, vI 0, vI 1]) c189_10 cm_180 rfl rfl rfl rfl (by omega) (K180 hT p2 (by omega) 0 (by omega) 1 (by omega) (d - 1) (by omega) _ (fun v h0 H => H)) (fun v1 h1 H => ?_)
  rcases H with ⟨rfl, pf9, rfl⟩ | ⟨rfl, pf10, pf11, rfl⟩
  refine st_if_ne c189_13 (by omega) (fun k12 => False.elim (by omega)) (fun k13 => ?_)
  refine st_iconst c189_16 ?_
  refine st_ireturn c189_17 ?_
  exact hQ _ _ ⟨(-1), rfl, by omega, Or.inl ⟨by omega, by omega, (fun _ => rfl)⟩, hT, hF⟩
  refine st_if_ne c189_13 (by omega) (fun k15 => ?_) (fun k16 => False.elim (by omega))
  refine st_aload c189_18 rfl ?_
  refine st_getX (u := 68) c189_19 hT (tf hT rfl rfl) fd_8_6 rfl ?_
  refine st_iload c189_22 rfl ?_
  refine st_bald c189_23 hT (tf hT rfl rfl) ay_46 (Or.inl rfl) (by omega) (fun e17 e18 => ?_)
  refine st_if_eq c189_24 (by omega) (fun k19 => ?_) (fun k20 => ?_)
  refine st_iconst c189_31 ?_
  refine st_istore (L' := [some (.ref 64), some (vI p1), some (vI p2), some (vI 0)]) c189_32 rfl rfl ?_
  refine st_aload c189_33 rfl ?_
  refine st_getX (u := 68) c189_34 hT (tf hT rfl rfl) fd_8_6 rfl ?_
  refine st_iload c189_37 rfl ?_
  refine st_iload c189_38 rfl ?_
  refine st_iconst c189_39 ?_
  refine st_icmp_ne c189_40 (by omega) (by omega) (fun k21 => ?_) (fun k22 => ?_)
  refine st_iconst c189_47 ?_
  refine st_zast c189_48 hT (tf hT rfl rfl) ay_46 (by omega) (by omega) (Ext_rf _) hS hF (by decide +kernel) (fun h23 hT24 hF25 hU26 => ?_)
  refine st_iload c189_49 rfl ?_
  refine st_ireturn c189_50 ?_
  have st27 : Set1 68 h h23 p1 p2 := fun i a => by
    rw [AUp_aI (j := i) hU26 (by omega) (by omega) (by omega) a]
    all_goals exact if_cg (by omega) (by omega)
  exact hQ _ _ ⟨0, rfl, by omega, Or.inr ⟨by omega, by omega, by omega, by omega, by omega, st27⟩, hT24, hF25⟩
  refine st_iconst c189_43 ?_
  refine st_goto c189_44 ?_
  refine st_zast c189_48 hT (tf hT rfl rfl) ay_46 (by omega) (by omega) (Ext_rf _) hS hF (by decide +kernel) (fun h28 hT29 hF30 hU31 => ?_)
  refine st_iload c189_49 rfl ?_
  refine st_ireturn c189_50 ?_
  have st32 : Set1 68 h h28 p1 p2 := fun i a => by
    rw [AUp_aI (j := i) hU31 (by omega) (by omega) (by omega) a]
    all_goals exact if_cg (by omega) (by omega)
  exact hQ _ _ ⟨0, rfl, by omega, Or.inr ⟨by omega, by omega, by omega, by omega, by omega, st32⟩, hT29, hF30⟩
  refine st_iconst c189_27 ?_
  refine st_goto c189_28 ?_
  refine st_istore (L' := [some (.ref 64), some (vI p1), some (vI p2), some (vI 1)]) c189_32 rfl rfl ?_
  refine st_aload c189_33 rfl ?_
  refine st_getX (u := 68) c189_34 hT (tf hT rfl rfl) fd_8_6 rfl ?_
  refine st_iload c189_37 rfl ?_
  refine st_iload c189_38 rfl ?_
  refine st_iconst c189_39 ?_
  refine st_icmp_ne c189_40 (by omega) (by omega) (fun k33 => ?_) (fun k34 => ?_)
  refine st_iconst c189_47 ?_
  refine st_zast c189_48 hT (tf hT rfl rfl) ay_46 (by omega) (by omega) (Ext_rf _) hS hF (by decide +kernel) (fun h35 hT36 hF37 hU38 => ?_)
  refine st_iload c189_49 rfl ?_
  refine st_ireturn c189_50 ?_
  have st39 : Set1 68 h h35 p1 p2 := fun i a => by
    rw [AUp_aI (j := i) hU38 (by omega) (by omega) (by omega) a]
    all_goals exact if_cg (by omega) (by omega)
  exact hQ _ _ ⟨1, rfl, by omega, Or.inr ⟨by omega, by omega, by omega, by omega, by omega, st39⟩, hT36, hF37⟩
  refine st_iconst c189_43 ?_
  refine st_goto c189_44 ?_
  refine st_zast c189_48 hT (tf hT rfl rfl) ay_46 (by omega) (by omega) (Ext_rf _) hS hF (by decide +kernel) (fun h40 hT41 hF42 hU43 => ?_)
  refine st_iload c189_49 rfl ?_
  refine st_ireturn c189_50 ?_
  have st44 : Set1 68 h h40 p1 p2 := fun i a => by
    rw [AUp_aI (j := i) hU43 (by omega) (by omega) (by omega) a]
    all_goals exact if_cg (by omega) (by omega)
  exact hQ _ _ ⟨1, rfl, by omega, Or.inr ⟨by omega, by omega, by omega, by omega, by omega, st44⟩, hT41, hF42⟩
set_option maxHeartbeats 0 in
theorem K190 {Ln : Nat} {xs : Nat → Int32} {τ : List Nat} {h : List mE} {E : EP} (hT : TH E τ h) (p1 : Int) (hp1 : (-2147483648) ≤ p1 ∧ p1 ≤ 2147483647) (d : Nat) (hd : 1 ≤ d) (Q : Option Value → List mE → Prop) (hQ : ∀ v h', ((v = some (vI 0) ∧ (p1 < 0 ∨ fI h 64 7 ≤ p1) ∧ h = h') ∨ (v = some (vI 1) ∧ (0≤p1) ∧ (p1<fI h 64 7) ∧ h = h')) → Q v h') : MR (mex Ln xs) d 190 0 [some (.ref 64), some (vI p1)] [] h Q := by
  refine st_iload c190_0 rfl ?_
  refine st_iconst c190_1 ?_
  refine st_aload c190_2 rfl ?_
  refine st_getI c190_3 hT (tf hT rfl rfl) fd_8_7 (fun e1 e2 => ?_)
  refine st_iconst c190_6 ?_
  refine st_isub c190_7 ?_
  refine st_calls (as := [vI p1, vI 0, vI ((fI h 64 7) - 1)]) c190_8 cm_180 rfl rfl rfl rfl (by omega) (K180 hT p1 (by omega) 0 (by omega) ((fI h 64 7) - 1) (by omega) (d - 1) (by omega) _ (fun v h0 H => H)) (fun v1 h1 H => ?_)
  rcases H with ⟨rfl, pf3, rfl⟩ | ⟨rfl, pf4, pf5, rfl⟩
  refine st_zreturn c190_11 (by omega) ?_
  exact hQ _ _ (Or.inl ⟨rfl, by omega, rfl⟩)
  refine st_zreturn c190_11 (by omega) ?_
  exact hQ _ _ (Or.inr ⟨rfl, by omega, by omega, rfl⟩)
set_option maxHeartbeats 0 in
theorem K191 {Ln : Nat} {xs : Nat → Int32} {τ : List Nat} {h : List mE} {E : EP} (hT : TH E τ h) (p1 : Int) (hp1 : (-2147483648) ≤ p1 ∧ p1 ≤ 2147483647) (d : Nat) (hd : 1 ≤ d) (Q : Option Value → List mE → Prop) (hQ : ∀ v h', ((v = some (vI 0) ∧ (p1 < 0 ∨ fI h 64 15 ≤ p1) ∧ h = h') ∨ (v = some (vI 1) ∧ (0≤p1) ∧ (p1<fI h 64 15) ∧ h = h')) → Q v h') : MR (mex Ln xs) d 191 0 [some (.ref 64), some (vI p1)] [] h Q := by
  refine st_iload c191_0 rfl ?_
  refine st_iconst c191_1 ?_
  refine st_aload c191_2 rfl ?_
  refine st_getI c191_3 hT (tf hT rfl rfl) fd_8_15 (fun e1 e2 => ?_)
  refine st_iconst c191_6 ?_
  refine st_isub c191_7 ?_
  refine st_calls (as := [vI p1, vI 0, vI ((fI h 64 15) - 1)]) c191_8 cm_180 rfl rfl rfl rfl (by omega) (K180 hT p1 (by omega) 0 (by omega) ((fI h 64 15) - 1) (by omega) (d - 1) (by omega) _ (fun v h0 H => H)) (fun v1 h1 H => ?_)
  rcases H with ⟨rfl, pf3, rfl⟩ | ⟨rfl, pf4, pf5, rfl⟩
  refine st_zreturn c191_11 (by omega) ?_
  exact hQ _ _ (Or.inl ⟨rfl, by omega, rfl⟩)
  refine st_zreturn c191_11 (by omega) ?_
  exact hQ _ _ (Or.inr ⟨rfl, by omega, by omega, rfl⟩)
def W192 : List (Nat × Nat) := [(8, 7), (47, 0), (48, 0), (49, 0), (50, 0), (51, 0)]
set_option maxHeartbeats 0 in
theorem K192 {Ln : Nat} {xs : Nat → Int32} {τ : List Nat} {h : List mE} {E : EP} (hT : TH E τ h) (hS : Stb E W192) (p1 : Int) (hp1 : (-2147483648) ≤ p1 ∧ p1 ≤ 2147483647) (p2 : Int) (hp2 : (-2147483648) ≤ p2 ∧ p2 ≤ 2147483647) (p3 : Int) (hp3 : (-2147483648) ≤ p3 ∧ p3 ≤ 2147483647) (p4 : Int) (hp4 : (-2147483648) ≤ p4 ∧ p4 ≤ 2147483647) (d : Nat) (hd : 1 ≤ d) (Q : Option Value → List mE → Prop) (hQ : ∀ v h', (∃ z : Int, v = some (vI z) ∧ ((-3) ≤ z ∧ z ≤ 14) ∧ ((1000 ≤ p1 ∧ p1 ≤ 99999 ∧ 1 ≤ p2 ∧ p2 ≤ 9999 ∧ 0 ≤ p3 ∧ p3 ≤ 997 ∧ p3 % 10 ≤ 7 ∧ 0 ≤ p4 ∧ p4 ≤ 99999 ∧ fI h 64 7 ≤ 14 ∧ z = fI h 64 7 ∧ fI h' 64 7 = fI h 64 7 + 1) ∨ (1000 ≤ p1 ∧ p1 ≤ 99999 ∧ 1 ≤ p2 ∧ p2 ≤ 9999 ∧ 0 ≤ p3 ∧ p3 ≤ 997 ∧ p3 % 10 ≤ 7 ∧ 0 ≤ p4 ∧ p4 ≤ 99999 ∧ 15 ≤ fI h 64 7 ∧ z = -3 ∧ fI h' 64 7 = fI h 64 7) ∨ ((p1 < 1000 ∨ 99999 < p1 ∨ p2 < 1 ∨ 9999 < p2 ∨ p3 < 0 ∨ 997 < p3 ∨ 7 < p3 % 10 ∨ p4 < 0 ∨ 99999 < p4) ∧ z = -1 ∧ fI h' 64 7 = fI h 64 7)) ∧ TH E τ h' ∧ Fr τ W192 h h') → Q v h') : MR (mex Ln xs) d 192 0 [some (.ref 64), some (vI p1), some (vI p2), some (vI p3), some (vI p4)] [] h Q := by
  have hF := Fr_rf τ W192 h
  refine st_iload c192_0 rfl ?_
  refine st_iconst c192_1 ?_
  refine st_iconst c192_4 ?_
  refine st_calls (as := [vI p1, vI 1000, vI 99999]) c192_6 cm_180 rfl rfl rfl rfl (by omega) (K180 hT p1 (by omega) 1000 (by omega) 99999 (by omega) (d - 1) (by omega) _ (fun v h0 H => H)) (fun v1 h1 H => ?_)
  rcases H with ⟨rfl, pf1, rfl⟩ | ⟨rfl, pf2, pf3, rfl⟩
  refine st_if_eq c192_9 (by omega) (fun k4 => ?_) (fun k5 => False.elim (by omega))
  refine st_iconst c192_54 ?_
  refine st_ireturn c192_55 ?_
  have e6 := fI_bd (q := 64) hT (tf hT rfl rfl) fd_8_7
  exact hQ _ _ ⟨(-1), rfl, by omega, by omega, hT, hF⟩
  refine st_if_eq c192_9 (by omega) (fun k7 => False.elim (by omega)) (fun k8 => ?_)
  refine st_iload c192_12 rfl ?_
  refine st_iconst c192_13 ?_
  refine st_iconst c192_14 ?_
  refine st_calls (as := [vI p2, vI 1, vI 9999]) c192_17 cm_180 rfl rfl rfl rfl (by omega) (K180 hT p2 (by omega) 1 (by omega) 9999 (by omega) (d - 1) (by omega) _ (fun v h0 H => H)) (fun v1 h1 H => ?_)
  rcases H with ⟨rfl, pf9, rfl⟩ | ⟨rfl, pf10, pf11, rfl⟩
  refine st_if_eq c192_20 (by omega) (fun k12 => ?_) (fun k13 => False.elim (by omega))
  refine st_iconst c192_54 ?_
  refine st_ireturn c192_55 ?_
  have e14 := fI_bd (q := 64) hT (tf hT rfl rfl) fd_8_7
  exact hQ _ _ ⟨(-1), rfl, by omega, by omega, hT, hF⟩
  refine st_if_eq c192_20 (by omega) (fun k15 => False.elim (by omega)) (fun k16 => ?_)
  refine st_iload c192_23 rfl ?_
  refine st_iconst c192_24 ?_
  refine st_iconst c192_25 ?_
  refine st_calls (as := [vI p3, vI 0, vI 997]) c192_28 cm_180 rfl rfl rfl rfl (by omega) (K180 hT p3 (by omega) 0 (by omega) 997 (by omega) (d - 1) (by omega) _ (fun v h0 H => H)) (fun v1 h1 H => ?_)
  rcases H with ⟨rfl, pf17, rfl⟩ | ⟨rfl, pf18, pf19, rfl⟩
  refine st_if_eq c192_31 (by omega) (fun k20 => ?_) (fun k21 => False.elim (by omega))
  refine st_iconst c192_54 ?_
  refine st_ireturn c192_55 ?_
  have e22 := fI_bd (q := 64) hT (tf hT rfl rfl) fd_8_7
  exact hQ _ _ ⟨(-1), rfl, by omega, by omega, hT, hF⟩
  refine st_if_eq c192_31 (by omega) (fun k23 => False.elim (by omega)) (fun k24 => ?_)
  refine st_iload c192_34 rfl ?_
  refine st_iconst c192_35 ?_
  refine st_iremp c192_37 (by omega) (by omega) ?_
  refine st_iconst c192_38 ?_
  refine st_icmp_gt c192_40 (by omega) (by omega) (fun k25 => ?_) (fun k26 => ?_)
  refine st_iconst c192_54 ?_
  refine st_ireturn c192_55 ?_
  have e27 := fI_bd (q := 64) hT (tf hT rfl rfl) fd_8_7
  exact hQ _ _ ⟨(-1), rfl, by omega, by omega, hT, hF⟩
  refine st_iload c192_43 rfl ?_
  refine st_iconst c192_45 ?_
  refine st_iconst c192_46 ?_
  refine st_calls (as := [vI p4, vI 0, vI 99999]) c192_48 cm_180 rfl rfl rfl rfl (by omega) (K180 hT p4 (by omega) 0 (by omega) 99999 (by omega) (d - 1) (by omega) _ (fun v h0 H => H)) (fun v1 h1 H => ?_)
  rcases H with ⟨rfl, pf28, rfl⟩ | ⟨rfl, pf29, pf30, rfl⟩
  refine st_if_ne c192_51 (by omega) (fun k31 => False.elim (by omega)) (fun k32 => ?_)
  refine st_iconst c192_54 ?_
  refine st_ireturn c192_55 ?_
  have e33 := fI_bd (q := 64) hT (tf hT rfl rfl) fd_8_7
  exact hQ _ _ ⟨(-1), rfl, by omega, by omega, hT, hF⟩
  refine st_if_ne c192_51 (by omega) (fun k34 => ?_) (fun k35 => False.elim (by omega))
  refine st_aload c192_56 rfl ?_
  refine st_getI c192_57 hT (tf hT rfl rfl) fd_8_7 (fun e36 e37 => ?_)
  refine st_iconst c192_60 ?_
  refine st_icmp_ne c192_62 (by omega) (by omega) (fun k38 => ?_) (fun k39 => ?_)
  refine st_aload c192_68 rfl ?_
  refine st_getX (u := 69) c192_69 hT (tf hT rfl rfl) fd_8_8 rfl ?_
  refine st_aload c192_72 rfl ?_
  refine st_getI c192_73 hT (tf hT rfl rfl) fd_8_7 (fun e40 e41 => ?_)
  refine st_iload c192_76 rfl ?_
  refine st_iconst c192_77 ?_
  refine st_idivp c192_80 (by omega) (by omega) ?_
  refine st_iast c192_81 hT (tf hT rfl rfl) ay_47 (by omega) (by omega) (by omega) (Ext_rf _) hS hF (by decide +kernel) (fun h42 hT43 hF44 hU45 => ?_)
  refine st_aload c192_82 rfl ?_
  refine st_getX (u := 70) c192_83 hT43 (tf hT43 rfl rfl) fd_8_9 rfl ?_
  refine st_aload c192_86 rfl ?_
  refine st_getI c192_87 hT43 (tf hT43 rfl rfl) fd_8_7 (fun e46 e47 => ?_)
  have q48 : fI h42 64 7 = fI h 64 7 := AUp_fI hU45
  refine st_iload c192_90 rfl ?_
  refine st_iconst c192_91 ?_
  refine st_iremp c192_94 (by omega) (by omega) ?_
  refine st_iast c192_95 hT43 (tf hT43 rfl rfl) ay_48 (by omega) (by omega) (by omega) (Ext_rf _) hS hF44 (by decide +kernel) (fun h49 hT50 hF51 hU52 => ?_)
  refine st_aload c192_96 rfl ?_
  refine st_getX (u := 71) c192_97 hT50 (tf hT50 rfl rfl) fd_8_10 rfl ?_
  refine st_aload c192_100 rfl ?_
  refine st_getI c192_101 hT50 (tf hT50 rfl rfl) fd_8_7 (fun e53 e54 => ?_)
  have q55 : fI h49 64 7 = fI h42 64 7 := AUp_fI hU52
  refine st_iload c192_104 rfl ?_
  refine st_iast c192_105 hT50 (tf hT50 rfl rfl) ay_49 (by omega) (by omega) (by omega) (Ext_rf _) hS hF51 (by decide +kernel) (fun h56 hT57 hF58 hU59 => ?_)
  refine st_aload c192_106 rfl ?_
  refine st_getX (u := 72) c192_107 hT57 (tf hT57 rfl rfl) fd_8_11 rfl ?_
  refine st_aload c192_110 rfl ?_
  refine st_getI c192_111 hT57 (tf hT57 rfl rfl) fd_8_7 (fun e60 e61 => ?_)
  have q62 : fI h56 64 7 = fI h49 64 7 := AUp_fI hU59
  refine st_iload c192_114 rfl ?_
  refine st_iconst c192_115 ?_
  refine st_iremp c192_117 (by omega) (by omega) ?_
  refine st_iast c192_118 hT57 (tf hT57 rfl rfl) ay_50 (by omega) (by omega) (by omega) (Ext_rf _) hS hF58 (by decide +kernel) (fun h63 hT64 hF65 hU66 => ?_)
  refine st_aload c192_119 rfl ?_
  refine st_getX (u := 73) c192_120 hT64 (tf hT64 rfl rfl) fd_8_12 rfl ?_
  refine st_aload c192_123 rfl ?_
  refine st_getI c192_124 hT64 (tf hT64 rfl rfl) fd_8_7 (fun e67 e68 => ?_)
  have q69 : fI h63 64 7 = fI h56 64 7 := AUp_fI hU66
  refine st_iload c192_127 rfl ?_
  refine st_iast c192_129 hT64 (tf hT64 rfl rfl) ay_51 (by omega) (by omega) (by omega) (Ext_rf _) hS hF65 (by decide +kernel) (fun h70 hT71 hF72 hU73 => ?_)
  refine st_aload c192_130 rfl ?_
  refine st_dup c192_131 rfl ?_
  refine st_getI c192_132 hT71 (tf hT71 rfl rfl) fd_8_7 (fun e74 e75 => ?_)
  have q76 : fI h70 64 7 = fI h63 64 7 := AUp_fI hU73
  refine st_iconst c192_135 ?_
  refine st_iadd c192_136 ?_
  refine st_putI c192_137 hT71 (tf hT71 rfl rfl) fd_8_7 (by omega) (by omega) (Ext_rf _) hS hF72 (by decide +kernel) (fun h77 hT78 hF79 hU80 => ?_)
  refine st_aload c192_140 rfl ?_
  refine st_getI c192_141 hT78 (tf hT78 rfl rfl) fd_8_7 (fun e81 e82 => ?_)
  have q83 : fI h77 64 7 = (fI h70 64 7) + 1 := FUp_fI hU80 (by omega) (by omega)
  refine st_iconst c192_144 ?_
  refine st_isub c192_145 ?_
  refine st_ireturn c192_146 ?_
  exact hQ _ _ ⟨(fI h77 64 7) - 1, rfl, by omega, by omega, hT78, hF79⟩
  refine st_iconst c192_65 ?_
  refine st_ireturn c192_67 ?_
  exact hQ _ _ ⟨(-3), rfl, by omega, by omega, hT, hF⟩
def W193 : List (Nat × Nat) := [(52, 0)]
set_option maxHeartbeats 0 in
theorem K193 {Ln : Nat} {xs : Nat → Int32} {τ : List Nat} {h : List mE} {E : EP} (hT : TH E τ h) (hS : Stb E W193) (p1 : Int) (hp1 : (-2147483648) ≤ p1 ∧ p1 ≤ 2147483647) (p2 : Int) (hp2 : (-2147483648) ≤ p2 ∧ p2 ≤ 2147483647) (p3 : Int) (hp3 : (-2147483648) ≤ p3 ∧ p3 ≤ 2147483647) (d : Nat) (hd : 2 ≤ d) (Q : Option Value → List mE → Prop) (hQ : ∀ v h', (∃ z : Int, v = some (vI z) ∧ ((-1) ≤ z ∧ z ≤ 1) ∧ (PGoR h h' p1 p2 p3 z) ∧ TH E τ h' ∧ Fr τ W193 h h') → Q v h') : MR (mex Ln xs) d 193 0 [some (.ref 64), some (vI p1), some (vI p2), some (vI p3), none] [] h Q := by
  have hF := Fr_rf τ W193 h
  refine st_aload c193_0 rfl ?_
  refine st_iload c193_1 rfl ?_
  have e1 := fI_bd (q := 64) hT (tf hT rfl rfl) fd_8_7
  refine st_callt (as := [vI p1]) c193_2 cm_190 hT (tf hT rfl rfl) fd_8_0 rfl rfl rfl rfl (by omega) (K190 hT p1 (by omega) (d - 1) (by omega) _ (fun v h0 H => H)) (fun v1 h1 H => ?_)
  rcases H with ⟨rfl, pf2, rfl⟩ | ⟨rfl, pf3, pf4, rfl⟩
  refine st_if_eq c193_5 (by omega) (fun k5 => ?_) (fun k6 => False.elim (by omega))
  refine st_iconst c193_30 ?_
  refine st_ireturn c193_31 ?_
  exact hQ _ _ ⟨(-1), rfl, by omega, Or.inl ⟨by omega, by omega, (fun _ => rfl)⟩, hT, hF⟩
  refine st_if_eq c193_5 (by omega) (fun k8 => False.elim (by omega)) (fun k9 => ?_)
  refine st_aload c193_8 rfl ?_
  refine st_iload c193_9 rfl ?_
  refine st_callt (as := [vI p2]) c193_10 cm_190 hT (tf hT rfl rfl) fd_8_0 rfl rfl rfl rfl (by omega) (K190 hT p2 (by omega) (d - 1) (by omega) _ (fun v h0 H => H)) (fun v1 h1 H => ?_)
  rcases H with ⟨rfl, pf10, rfl⟩ | ⟨rfl, pf11, pf12, rfl⟩
  refine st_if_eq c193_13 (by omega) (fun k13 => ?_) (fun k14 => False.elim (by omega))
  refine st_iconst c193_30 ?_
  refine st_ireturn c193_31 ?_
  exact hQ _ _ ⟨(-1), rfl, by omega, Or.inl ⟨by omega, by omega, (fun _ => rfl)⟩, hT, hF⟩
  refine st_if_eq c193_13 (by omega) (fun k16 => False.elim (by omega)) (fun k17 => ?_)
  refine st_iload c193_16 rfl ?_
  refine st_iload c193_17 rfl ?_
  refine st_icmp_eq c193_18 (by omega) (by omega) (fun k18 => ?_) (fun k19 => ?_)
  refine st_iconst c193_30 ?_
  refine st_ireturn c193_31 ?_
  exact hQ _ _ ⟨(-1), rfl, by omega, Or.inl ⟨by omega, by omega, (fun _ => rfl)⟩, hT, hF⟩
  refine st_iload c193_21 rfl ?_
  refine st_iconst c193_22 ?_
  refine st_iconst c193_23 ?_
  refine st_calls (as := [vI p3, vI 0, vI 1]) c193_24 cm_180 rfl rfl rfl rfl (by omega) (K180 hT p3 (by omega) 0 (by omega) 1 (by omega) (d - 1) (by omega) _ (fun v h0 H => H)) (fun v1 h1 H => ?_)
  rcases H with ⟨rfl, pf21, rfl⟩ | ⟨rfl, pf22, pf23, rfl⟩
  refine st_if_ne c193_27 (by omega) (fun k24 => False.elim (by omega)) (fun k25 => ?_)
  refine st_iconst c193_30 ?_
  refine st_ireturn c193_31 ?_
  exact hQ _ _ ⟨(-1), rfl, by omega, Or.inl ⟨by omega, by omega, (fun _ => rfl)⟩, hT, hF⟩
  refine st_if_ne c193_27 (by omega) (fun k27 => ?_) (fun k28 => False.elim (by omega))
  refine st_aload c193_32 rfl ?_
  refine st_getX (u := 74) c193_33 hT (tf hT rfl rfl) fd_8_13 rfl ?_
  refine st_iconst c193_36 ?_
  refine st_iload c193_38 rfl ?_
  refine st_imul c193_39 ?_
  refine st_iload c193_40 rfl ?_
  refine st_iadd c193_41 ?_
  refine st_bald c193_42 hT (tf hT rfl rfl) ay_52 (Or.inl rfl) (by omega) (fun e29 e30 => ?_)
  refine st_if_eq c193_43 (by omega) (fun k31 => ?_) (fun k32 => ?_)
  refine st_iconst c193_50 ?_
  refine st_istore (L' := [some (.ref 64), some (vI p1), some (vI p2), some (vI p3), some (vI 0)]) c193_51 rfl rfl ?_
  refine st_aload c193_53 rfl ?_
  refine st_getX (u := 74) c193_54 hT (tf hT rfl rfl) fd_8_13 rfl ?_
  refine st_iconst c193_57 ?_
  refine st_iload c193_59 rfl ?_
  refine st_imul c193_60 ?_
  refine st_iload c193_61 rfl ?_
  refine st_iadd c193_62 ?_
  refine st_iload c193_63 rfl ?_
  refine st_iconst c193_64 ?_
  refine st_icmp_ne c193_65 (by omega) (by omega) (fun k33 => ?_) (fun k34 => ?_)
  refine st_iconst c193_72 ?_
  refine st_zast c193_73 hT (tf hT rfl rfl) ay_52 (by omega) (by omega) (Ext_rf _) hS hF (by decide +kernel) (fun h35 hT36 hF37 hU38 => ?_)
  refine st_iload c193_74 rfl ?_
  refine st_ireturn c193_76 ?_
  have st39 : Set1 74 h h35 (15 * p1 + p2) p3 := fun i a => by
    rw [AUp_aI (j := i) hU38 (by omega) (by omega) (by omega) a]
    all_goals exact if_cg (by omega) (by omega)
  exact hQ _ _ ⟨0, rfl, by omega, Or.inr ⟨by omega, by omega, by omega, by omega, by omega, by omega, by omega, by omega, st39⟩, hT36, hF37⟩
  refine st_iconst c193_68 ?_
  refine st_goto c193_69 ?_
  refine st_zast c193_73 hT (tf hT rfl rfl) ay_52 (by omega) (by omega) (Ext_rf _) hS hF (by decide +kernel) (fun h40 hT41 hF42 hU43 => ?_)
  refine st_iload c193_74 rfl ?_
  refine st_ireturn c193_76 ?_
  have st44 : Set1 74 h h40 (15 * p1 + p2) p3 := fun i a => by
    rw [AUp_aI (j := i) hU43 (by omega) (by omega) (by omega) a]
    all_goals exact if_cg (by omega) (by omega)
  exact hQ _ _ ⟨0, rfl, by omega, Or.inr ⟨by omega, by omega, by omega, by omega, by omega, by omega, by omega, by omega, st44⟩, hT41, hF42⟩
  refine st_iconst c193_46 ?_
  refine st_goto c193_47 ?_
  refine st_istore (L' := [some (.ref 64), some (vI p1), some (vI p2), some (vI p3), some (vI 1)]) c193_51 rfl rfl ?_
  refine st_aload c193_53 rfl ?_
  refine st_getX (u := 74) c193_54 hT (tf hT rfl rfl) fd_8_13 rfl ?_
  refine st_iconst c193_57 ?_
  refine st_iload c193_59 rfl ?_
  refine st_imul c193_60 ?_
  refine st_iload c193_61 rfl ?_
  refine st_iadd c193_62 ?_
  refine st_iload c193_63 rfl ?_
  refine st_iconst c193_64 ?_
  refine st_icmp_ne c193_65 (by omega) (by omega) (fun k45 => ?_) (fun k46 => ?_)
  refine st_iconst c193_72 ?_
  refine st_zast c193_73 hT (tf hT rfl rfl) ay_52 (by omega) (by omega) (Ext_rf _) hS hF (by decide +kernel) (fun h47 hT48 hF49 hU50 => ?_)
  refine st_iload c193_74 rfl ?_
  refine st_ireturn c193_76 ?_
  have st51 : Set1 74 h h47 (15 * p1 + p2) p3 := fun i a => by
    rw [AUp_aI (j := i) hU50 (by omega) (by omega) (by omega) a]
    all_goals exact if_cg (by omega) (by omega)
  exact hQ _ _ ⟨1, rfl, by omega, Or.inr ⟨by omega, by omega, by omega, by omega, by omega, by omega, by omega, by omega, st51⟩, hT48, hF49⟩
  refine st_iconst c193_68 ?_
  refine st_goto c193_69 ?_
  refine st_zast c193_73 hT (tf hT rfl rfl) ay_52 (by omega) (by omega) (Ext_rf _) hS hF (by decide +kernel) (fun h52 hT53 hF54 hU55 => ?_)
  refine st_iload c193_74 rfl ?_
  refine st_ireturn c193_76 ?_
  have st56 : Set1 74 h h52 (15 * p1 + p2) p3 := fun i a => by
    rw [AUp_aI (j := i) hU55 (by omega) (by omega) (by omega) a]
    all_goals exact if_cg (by omega) (by omega)
  exact hQ _ _ ⟨1, rfl, by omega, Or.inr ⟨by omega, by omega, by omega, by omega, by omega, by omega, by omega, by omega, st56⟩, hT53, hF54⟩
def W194 : List (Nat × Nat) := [(53, 0)]
set_option maxHeartbeats 0 in
theorem K194 {Ln : Nat} {xs : Nat → Int32} {τ : List Nat} {h : List mE} {E : EP} (hT : TH E τ h) (hS : Stb E W194) (p1 : Int) (hp1 : (-2147483648) ≤ p1 ∧ p1 ≤ 2147483647) (p2 : Int) (hp2 : (-2147483648) ≤ p2 ∧ p2 ≤ 2147483647) (p3 : Int) (hp3 : (-2147483648) ≤ p3 ∧ p3 ≤ 2147483647) (d : Nat) (hd : 2 ≤ d) (Q : Option Value → List mE → Prop) (hQ : ∀ v h', (∃ z : Int, v = some (vI z) ∧ ((-2147483648) ≤ z ∧ z ≤ 2147483647) ∧ (PCoR h h' p1 p2 p3 z) ∧ TH E τ h' ∧ Fr τ W194 h h') → Q v h') : MR (mex Ln xs) d 194 0 [some (.ref 64), some (vI p1), some (vI p2), some (vI p3), none] [] h Q := by
  have hF := Fr_rf τ W194 h
  refine st_aload c194_0 rfl ?_
  refine st_iload c194_1 rfl ?_
  have e1 := fI_bd (q := 64) hT (tf hT rfl rfl) fd_8_7
  refine st_callt (as := [vI p1]) c194_2 cm_190 hT (tf hT rfl rfl) fd_8_0 rfl rfl rfl rfl (by omega) (K190 hT p1 (by omega) (d - 1) (by omega) _ (fun v h0 H => H)) (fun v1 h1 H => ?_)
  rcases H with ⟨rfl, pf2, rfl⟩ | ⟨rfl, pf3, pf4, rfl⟩
  refine st_if_eq c194_5 (by omega) (fun k5 => ?_) (fun k6 => False.elim (by omega))
  refine st_iconst c194_29 ?_
  refine st_ireturn c194_30 ?_
  exact hQ _ _ ⟨(-1), rfl, by omega, Or.inl ⟨by omega, by omega, (fun _ => rfl)⟩, hT, hF⟩
  refine st_if_eq c194_5 (by omega) (fun k8 => False.elim (by omega)) (fun k9 => ?_)
  refine st_iload c194_8 rfl ?_
  refine st_iconst c194_9 ?_
  refine st_iconst c194_10 ?_
  refine st_calls (as := [vI p2, vI 0, vI 15]) c194_12 cm_180 rfl rfl rfl rfl (by omega) (K180 hT p2 (by omega) 0 (by omega) 15 (by omega) (d - 1) (by omega) _ (fun v h0 H => H)) (fun v1 h1 H => ?_)
  rcases H with ⟨rfl, pf10, rfl⟩ | ⟨rfl, pf11, pf12, rfl⟩
  refine st_if_eq c194_15 (by omega) (fun k13 => ?_) (fun k14 => False.elim (by omega))
  refine st_iconst c194_29 ?_
  refine st_ireturn c194_30 ?_
  exact hQ _ _ ⟨(-1), rfl, by omega, Or.inl ⟨by omega, by omega, (fun _ => rfl)⟩, hT, hF⟩
  refine st_if_eq c194_15 (by omega) (fun k16 => False.elim (by omega)) (fun k17 => ?_)
  refine st_iload c194_18 rfl ?_
  refine st_iconst c194_19 ?_
  refine st_iconst c194_20 ?_
  refine st_calls (as := [vI p3, vI 0, vI 9999]) c194_23 cm_180 rfl rfl rfl rfl (by omega) (K180 hT p3 (by omega) 0 (by omega) 9999 (by omega) (d - 1) (by omega) _ (fun v h0 H => H)) (fun v1 h1 H => ?_)
  rcases H with ⟨rfl, pf18, rfl⟩ | ⟨rfl, pf19, pf20, rfl⟩
  refine st_if_ne c194_26 (by omega) (fun k21 => False.elim (by omega)) (fun k22 => ?_)
  refine st_iconst c194_29 ?_
  refine st_ireturn c194_30 ?_
  exact hQ _ _ ⟨(-1), rfl, by omega, Or.inl ⟨by omega, by omega, (fun _ => rfl)⟩, hT, hF⟩
  refine st_if_ne c194_26 (by omega) (fun k24 => ?_) (fun k25 => False.elim (by omega))
  refine st_aload c194_31 rfl ?_
  refine st_getX (u := 75) c194_32 hT (tf hT rfl rfl) fd_8_14 rfl ?_
  refine st_iconst c194_35 ?_
  refine st_iload c194_37 rfl ?_
  refine st_imul c194_38 ?_
  refine st_iload c194_39 rfl ?_
  refine st_iadd c194_40 ?_
  refine st_iald c194_41 hT (tf hT rfl rfl) ay_53 (by omega) (fun e26 e27 => ?_)
  refine st_istore (L' := [some (.ref 64), some (vI p1), some (vI p2), some (vI p3), some (vI (aI h 75 ((16 * p1) + p2)))]) c194_42 rfl rfl ?_
  refine st_aload c194_44 rfl ?_
  refine st_getX (u := 75) c194_45 hT (tf hT rfl rfl) fd_8_14 rfl ?_
  refine st_iconst c194_48 ?_
  refine st_iload c194_50 rfl ?_
  refine st_imul c194_51 ?_
  refine st_iload c194_52 rfl ?_
  refine st_iadd c194_53 ?_
  refine st_iload c194_54 rfl ?_
  refine st_iast c194_55 hT (tf hT rfl rfl) ay_53 (by omega) (by omega) (by omega) (Ext_rf _) hS hF (by decide +kernel) (fun h28 hT29 hF30 hU31 => ?_)
  refine st_iload c194_56 rfl ?_
  refine st_ireturn c194_58 ?_
  have st32 : Set1 75 h h28 (16 * p1 + p2) p3 := fun i a => by
    rw [AUp_aI (j := i) hU31 (by omega) (by omega) (by omega) a]
    all_goals exact if_cg (by omega) (by omega)
  exact hQ _ _ ⟨aI h 75 ((16 * p1) + p2), rfl, by omega, Or.inr ⟨by omega, by omega, by omega, by omega, by omega, by omega, by omega, st32⟩, hT29, hF30⟩
