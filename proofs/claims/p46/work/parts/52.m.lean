set_option maxHeartbeats 0 in
theorem K113 {Ln : Nat} {xs : Nat → Int32} {τ : List Nat} {h : List mE} {E : EP} (hT : TH E τ h) (q0 : Nat) (hq0 : ty τ q0 13) (p1 : Int) (hp1 : (-2147483648) ≤ p1 ∧ p1 ≤ 2147483647) (p2 : Int) (hp2 : (-2147483648) ≤ p2 ∧ p2 ≤ 2147483647) (p3 : Int) (hp3 : (-2147483648) ≤ p3 ∧ p3 ≤ 2147483647) (d : Nat) (hd : 0 ≤ d) (Q : Option Value → List mE → Prop) (hQ : ∀ v h', ((v = some (vI 0) ∧ h = h') ∨ (v = some (vI 1) ∧ h = h')) → Q v h') : MR (mex Ln xs) d 113 0 [some (.ref q0), some (vI p1), some (vI p2), some (vI p3)] [] h Q := by
  refine st_aload c113_0 rfl ?_
  refine st_getI c113_1 hT hq0 fd_13_0 (fun e1 e2 => ?_)
  refine st_iload c113_4 rfl ?_
  refine st_icmp_ne c113_5 (by omega) (by omega) (fun k3 => ?_) (fun k4 => ?_)
  refine st_iconst c113_28 ?_
  refine st_zreturn c113_29 (by omega) ?_
  exact hQ _ _ (Or.inl ⟨rfl, rfl⟩)
  refine st_aload c113_8 rfl ?_
  refine st_getI c113_9 hT hq0 fd_13_2 (fun e5 e6 => ?_)
  refine st_iload c113_12 rfl ?_
  refine st_icmp_gt c113_13 (by omega) (by omega) (fun k7 => ?_) (fun k8 => ?_)
  refine st_iconst c113_28 ?_
  refine st_zreturn c113_29 (by omega) ?_
  exact hQ _ _ (Or.inl ⟨rfl, rfl⟩)
  refine st_aload c113_16 rfl ?_
  refine st_getI c113_17 hT hq0 fd_13_1 (fun e9 e10 => ?_)
  refine st_iload c113_20 rfl ?_
  refine st_icmp_gt c113_21 (by omega) (by omega) (fun k11 => ?_) (fun k12 => ?_)
  refine st_iconst c113_28 ?_
  refine st_zreturn c113_29 (by omega) ?_
  exact hQ _ _ (Or.inl ⟨rfl, rfl⟩)
  refine st_iconst c113_24 ?_
  refine st_goto c113_25 ?_
  refine st_zreturn c113_29 (by omega) ?_
  exact hQ _ _ (Or.inr ⟨rfl, rfl⟩)
set_option maxHeartbeats 0 in
theorem K116 {Ln : Nat} {xs : Nat → Int32} {τ : List Nat} {h : List mE} {E : EP} (hT : TH E τ h) (p0 : Int) (hp0 : (-2147483648) ≤ p0 ∧ p0 ≤ 2147483647) (p1 : Int) (hp1 : (-2147483648) ≤ p1 ∧ p1 ≤ 2147483647) (p2 : Int) (hp2 : (-2147483648) ≤ p2 ∧ p2 ≤ 2147483647) (d : Nat) (hd : 0 ≤ d) (Q : Option Value → List mE → Prop) (hQ : ∀ v h', (∃ z : Int, v = some (vI z) ∧ ((-2147483648) ≤ z ∧ z ≤ 2147483647) ∧ h = h') → Q v h') : MR (mex Ln xs) d 116 0 [some (vI p0), some (vI p1), some (vI p2)] [] h Q := by
  refine st_iload c116_0 rfl ?_
  rcases (by omega : (p0 ≠ 17 ∧ p0 ≠ 18 ∧ p0 ≠ 1042 ∧ p0 ≠ 1043 ∧ p0 ≠ 1045 ∧ p0 ≠ 1047) ∨ p0 = 17 ∨ p0 = 18 ∨ p0 = 1042 ∨ p0 = 1043 ∨ p0 = 1045 ∨ p0 = 1047) with k1 | k1 | k1 | k1 | k1 | k1 | k1
  · refine st_lsd c116_1 (by omega) (by simp [Op.lookupswitch.offset]; omega) ?_
    rw [show mjmp 1 95 = 96 from by decide]
    refine st_iconst c116_96 ?_
    refine st_ireturn c116_97 ?_
    exact hQ _ _ ⟨0, rfl, by omega, rfl⟩
  · refine st_sw (k := 17) (tg := 84) (by decide +kernel) k1 (by decide) ?_
    refine st_iload c116_84 rfl ?_
    refine st_iload c116_85 rfl ?_
    refine st_min c116_86 (by omega) (by omega) rfl (fun z2 e3 e4 e5 => ?_)
    refine st_ireturn c116_89 ?_
    exact hQ _ _ ⟨z2, rfl, by omega, rfl⟩
  · refine st_sw (k := 18) (tg := 90) (by decide +kernel) k1 (by decide) ?_
    refine st_iload c116_90 rfl ?_
    refine st_iload c116_91 rfl ?_
    refine st_max c116_92 (by omega) (by omega) rfl (fun z6 e7 e8 e9 => ?_)
    refine st_ireturn c116_95 ?_
    exact hQ _ _ ⟨z6, rfl, by omega, rfl⟩
  · refine st_sw (k := 1042) (tg := 68) (by decide +kernel) k1 (by decide) ?_
    refine st_iload c116_68 rfl ?_
    refine st_iload c116_69 rfl ?_
    refine st_imul c116_70 ?_
    refine MR_wrap (fun w10 e11 e12 e13 => ?_)
    clear e13
    refine st_ireturn c116_71 ?_
    exact hQ _ _ ⟨w10, rfl, by omega, rfl⟩
  · refine st_sw (k := 1043) (tg := 60) (by decide +kernel) k1 (by decide) ?_
    refine st_iload c116_60 rfl ?_
    refine st_iload c116_61 rfl ?_
    refine st_iadd c116_62 ?_
    refine MR_wrap (fun w14 e15 e16 e17 => ?_)
    refine st_ireturn c116_63 ?_
    exact hQ _ _ ⟨w14, rfl, by omega, rfl⟩
  · refine st_sw (k := 1045) (tg := 64) (by decide +kernel) k1 (by decide) ?_
    refine st_iload c116_64 rfl ?_
    refine st_iload c116_65 rfl ?_
    refine st_isub c116_66 ?_
    refine MR_wrap (fun w18 e19 e20 e21 => ?_)
    refine st_ireturn c116_67 ?_
    exact hQ _ _ ⟨w18, rfl, by omega, rfl⟩
  · refine st_sw (k := 1047) (tg := 72) (by decide +kernel) k1 (by decide) ?_
    refine st_iload c116_72 rfl ?_
    refine st_if_ne c116_73 (by omega) (fun k22 => ?_) (fun k23 => ?_)
    refine st_iload c116_80 rfl ?_
    refine st_iload c116_81 rfl ?_
    refine st_idivw c116_82 (by omega) (by omega) (fun w24 e25 e26 => ?_)
    refine st_ireturn c116_83 ?_
    exact hQ _ _ ⟨w24, rfl, by omega, rfl⟩
    refine st_iconst c116_76 ?_
    refine st_goto c116_77 ?_
    refine st_ireturn c116_83 ?_
    exact hQ _ _ ⟨0, rfl, by omega, rfl⟩
def W115 : List (Nat × Nat) := [(42, 0)]
set_option maxHeartbeats 0 in
theorem K115 {Ln : Nat} {xs : Nat → Int32} {τ : List Nat} {h : List mE} {E : EP} (hT : TH E τ h) (hS : Stb E W115) (q0 : Nat) (hq0 : ty τ q0 13) (p1 : Int) (hp1 : (-2147483648) ≤ p1 ∧ p1 ≤ 2147483647) (p2 : Int) (hp2 : (-2147483648) ≤ p2 ∧ p2 ≤ 2147483647) (d : Nat) (hd : 1 ≤ d) (Q : Option Value → List mE → Prop) (hQ : ∀ v h', (∃ z : Int, v = some (vI z) ∧ ((-2147483648) ≤ z ∧ z ≤ 2147483647) ∧ TH E τ h' ∧ Fr τ W115 h h') → Q v h') : MR (mex Ln xs) d 115 0 [some (.ref q0), some (vI p1), some (vI p2), some (.ref 62), some (.ref 63), none, none, none] [] h Q := by
  have hF := Fr_rf τ W115 h
  refine st_iconst c115_0 ?_
  refine st_istore (L' := [some (.ref q0), some (vI p1), some (vI p2), some (.ref 62), some (.ref 63), some (vI 0), none, none]) c115_1 rfl rfl ?_
  refine st_iload c115_3 rfl ?_
  refine st_istore (L' := [some (.ref q0), some (vI p1), some (vI p2), some (.ref 62), some (.ref 63), some (vI 0), some (vI p1), none]) c115_4 rfl rfl ?_
  have lp274 : ∀ (n275 : Nat) (z268 : Int) (z269 : Int) (h270 : List mE), (2147483647 : Int) - z269 < (n275 : Int) → 0 ≤ z268 ∧ z268 ≤ 64 → (-2147483648) ≤ z269 ∧ z269 ≤ 2147483647 → TH E τ h270 → Fr τ W115 h h270 → Fr τ [(42, 0)] h h270 → MR (mex Ln xs) d 115 6 [some (.ref q0), none, some (vI p2), some (.ref 62), some (.ref 63), some (vI z268), some (vI z269), none] [] h270 Q := by
    intro n275
    induction n275 with
    | zero =>
      intro z268 z269 h270 hm277 b278 b279 hT271 hF272 hL273
      exfalso; omega
    | succ n275 ih276 =>
      intro z268 z269 h270 hm277 b278 b279 hT271 hF272 hL273
      refine st_iload c115_6 rfl ?_
      refine st_if_lt c115_8 (by omega) (fun k280 => ?_) (fun k281 => ?_)
      refine st_iload c115_129 rfl ?_
      refine st_if_le c115_131 (by omega) (fun k282 => ?_) (fun k283 => ?_)
      refine st_iconst c115_144 ?_
      refine st_ireturn c115_145 ?_
      exact hQ _ _ ⟨0, rfl, by omega, hT271, hF272⟩
      refine st_aload c115_134 rfl ?_
      refine st_iload c115_136 rfl ?_
      refine st_iconst c115_138 ?_
      refine st_isub c115_139 ?_
      refine st_iald c115_140 hT271 (tf hT271 rfl rfl) ay_42 (by omega) (fun e284 e285 => ?_)
      refine st_goto c115_141 ?_
      refine st_ireturn c115_145 ?_
      exact hQ _ _ ⟨aI h270 63 (z268 - 1), rfl, by omega, hT271, hF272⟩
      refine st_iload c115_11 rfl ?_
      refine st_iload c115_13 rfl ?_
      refine st_icmp_ge c115_14 (by omega) (by omega) (fun k286 => ?_) (fun k287 => ?_)
      refine st_iload c115_129 rfl ?_
      refine st_if_le c115_131 (by omega) (fun k288 => ?_) (fun k289 => ?_)
      refine st_iconst c115_144 ?_
      refine st_ireturn c115_145 ?_
      exact hQ _ _ ⟨0, rfl, by omega, hT271, hF272⟩
      refine st_aload c115_134 rfl ?_
      refine st_iload c115_136 rfl ?_
      refine st_iconst c115_138 ?_
      refine st_isub c115_139 ?_
      refine st_iald c115_140 hT271 (tf hT271 rfl rfl) ay_42 (by omega) (fun e290 e291 => ?_)
      refine st_goto c115_141 ?_
      refine st_ireturn c115_145 ?_
      exact hQ _ _ ⟨aI h270 63 (z268 - 1), rfl, by omega, hT271, hF272⟩
      refine st_iload c115_17 rfl ?_
      refine st_aload c115_19 rfl ?_
      refine st_getR c115_20 hT271 hq0 fd_13_3 (u := 121) rfl (fun r292 e293 t294 => ?_)
      refine st_alenI c115_23 hT271 t294 ay_121 rfl (fun e295 e296 => ?_)
      refine st_icmp_ge c115_24 (by omega) (by omega) (fun k297 => ?_) (fun k298 => ?_)
      refine st_iload c115_129 rfl ?_
      refine st_if_le c115_131 (by omega) (fun k299 => ?_) (fun k300 => ?_)
      refine st_iconst c115_144 ?_
      refine st_ireturn c115_145 ?_
      exact hQ _ _ ⟨0, rfl, by omega, hT271, hF272⟩
      refine st_aload c115_134 rfl ?_
      refine st_iload c115_136 rfl ?_
      refine st_iconst c115_138 ?_
      refine st_isub c115_139 ?_
      refine st_iald c115_140 hT271 (tf hT271 rfl rfl) ay_42 (by omega) (fun e301 e302 => ?_)
      refine st_goto c115_141 ?_
      refine st_ireturn c115_145 ?_
      exact hQ _ _ ⟨aI h270 63 (z268 - 1), rfl, by omega, hT271, hF272⟩
      refine st_aload c115_27 rfl ?_
      refine st_getNr c115_28 hT271 hq0 fd_13_3 e293 ?_
      refine st_iload c115_31 rfl ?_
      refine st_iald c115_33 hT271 t294 ay_121 (by omega) (fun e303 e304 => ?_)
      have q305 : aI h270 r292 z269 = aI h r292 z269 := Fr_aI hL273 t294 (by decide +kernel) z269
      refine st_istore (L' := [some (.ref q0), none, some (vI p2), some (.ref 62), some (.ref 63), some (vI z268), some (vI z269), some (vI (aI h270 r292 z269))]) c115_34 rfl rfl ?_
      refine st_iload c115_36 rfl ?_
      refine st_if_ge c115_38 (by omega) (fun k306 => ?_) (fun k307 => ?_)
      refine st_iload c115_50 rfl ?_
      refine st_aload c115_52 rfl ?_
      refine st_alenC (z := 64) c115_54 hT271 (tf hT271 rfl rfl) ay_42 rfl rfl rfl ?_
      refine st_icmp_lt c115_55 (by omega) (by omega) (fun k308 => ?_) (fun k309 => ?_)
      refine st_aload c115_60 rfl ?_
      refine st_iload c115_62 rfl ?_
      refine st_iload c115_64 rfl ?_
      refine st_if_lt c115_66 (by omega) (fun k310 => False.elim (by omega)) (fun k311 => ?_)
      refine st_iload c115_69 rfl ?_
      refine st_goto c115_71 ?_
      refine st_iast c115_80 hT271 (tf hT271 rfl rfl) ay_42 (by omega) (by omega) (by omega) (Ext_rf _) hS hF272 (by decide +kernel) (fun h312 hT313 hF314 hU315 => ?_)
      refine st_iinc (L' := [some (.ref q0), none, some (vI p2), some (.ref 62), some (.ref 63), some (vI (z268 + 1)), some (vI z269), some (vI (aI h270 r292 z269))]) c115_81 rfl rfl rfl ?_
      refine st_goto c115_84 ?_
      refine st_iinc (L' := [some (.ref q0), none, some (vI p2), some (.ref 62), some (.ref 63), some (vI (z268 + 1)), some (vI (z269 + 1)), some (vI (aI h270 r292 z269))]) c115_123 rfl rfl rfl ?_
      refine st_goto c115_126 ?_
      refine MR_weak (A := [some (.ref q0), none, some (vI p2), some (.ref 62), some (.ref 63), some (vI (z268 + 1)), some (vI (z269 + 1)), none]) (Lle_s (Lle_s (Lle_s (Lle_s (Lle_s (Lle_s (Lle_s (Lle_n (Lle_0))))))))) ?_
      exact ih276 (z268 + 1) (z269 + 1) h312 (by omega) (by omega) (by omega) hT313 hF314 (AUp_Fr hL273 hU315 (fun u hu => by rw [ty_1 hu (tf hT313 rfl rfl)]; decide))
      refine st_iconst c115_58 ?_
      refine st_ireturn c115_59 ?_
      exact hQ _ _ ⟨0, rfl, by omega, hT271, hF272⟩
      refine st_iconst c115_41 ?_
      refine st_iload c115_42 rfl ?_
      refine st_isub c115_44 ?_
      refine st_aload c115_45 rfl ?_
      refine st_alenC (z := 14) c115_46 hT271 (tf hT271 rfl rfl) ay_41 rfl rfl rfl ?_
      refine st_icmp_ge c115_47 (by omega) (by omega) (fun k316 => ?_) (fun k317 => ?_)
      refine st_iload c115_87 rfl ?_
      refine st_iconst c115_89 ?_
      refine st_icmp_ge c115_90 (by omega) (by omega) (fun k318 => ?_) (fun k319 => ?_)
      refine st_iinc (L' := [some (.ref q0), none, some (vI p2), some (.ref 62), some (.ref 63), some (vI (z268 + (-1))), some (vI z269), some (vI (aI h270 r292 z269))]) c115_95 rfl rfl rfl ?_
      refine st_aload c115_98 rfl ?_
      refine st_iload c115_100 rfl ?_
      refine st_iconst c115_102 ?_
      refine st_isub c115_103 ?_
      refine st_iload c115_104 rfl ?_
      refine st_ineg c115_106 ?_
      refine MR_wrap (fun w320 e321 e322 e323 => ?_)
      refine st_aload c115_107 rfl ?_
      refine st_iload c115_109 rfl ?_
      refine st_iconst c115_111 ?_
      refine st_isub c115_112 ?_
      refine st_iald c115_113 hT271 (tf hT271 rfl rfl) ay_42 (by omega) (fun e324 e325 => ?_)
      refine st_aload c115_114 rfl ?_
      refine st_iload c115_116 rfl ?_
      refine st_iald c115_118 hT271 (tf hT271 rfl rfl) ay_42 (by omega) (fun e326 e327 => ?_)
      refine st_calls (as := [vI w320, vI (aI h270 63 ((z268 + (-1)) - 1)), vI (aI h270 63 (z268 + (-1)))]) c115_119 cm_116 rfl rfl rfl rfl (by omega) (K116 hT271 w320 (by omega) (aI h270 63 ((z268 + (-1)) - 1)) (by omega) (aI h270 63 (z268 + (-1))) (by omega) (d - 1) (by omega) _ (fun v h0 H => H)) (fun v1 h1 H => ?_)
      obtain ⟨z328, rfl, b329, rfl⟩ := H
      refine st_iast c115_122 hT271 (tf hT271 rfl rfl) ay_42 (by omega) (by omega) (by omega) (Ext_rf _) hS hF272 (by decide +kernel) (fun h330 hT331 hF332 hU333 => ?_)
      refine st_iinc (L' := [some (.ref q0), none, some (vI p2), some (.ref 62), some (.ref 63), some (vI (z268 + (-1))), some (vI (z269 + 1)), some (vI (aI h270 r292 z269))]) c115_123 rfl rfl rfl ?_
      refine st_goto c115_126 ?_
      refine MR_weak (A := [some (.ref q0), none, some (vI p2), some (.ref 62), some (.ref 63), some (vI (z268 + (-1))), some (vI (z269 + 1)), none]) (Lle_s (Lle_s (Lle_s (Lle_s (Lle_s (Lle_s (Lle_s (Lle_n (Lle_0))))))))) ?_
      exact ih276 (z268 + (-1)) (z269 + 1) h330 (by omega) (by omega) (by omega) hT331 hF332 (AUp_Fr hL273 hU333 (fun u hu => by rw [ty_1 hu (tf hT331 rfl rfl)]; decide))
      refine st_iconst c115_93 ?_
      refine st_ireturn c115_94 ?_
      exact hQ _ _ ⟨0, rfl, by omega, hT271, hF272⟩
      refine st_iload c115_50 rfl ?_
      refine st_aload c115_52 rfl ?_
      refine st_alenC (z := 64) c115_54 hT271 (tf hT271 rfl rfl) ay_42 rfl rfl rfl ?_
      refine st_icmp_lt c115_55 (by omega) (by omega) (fun k334 => ?_) (fun k335 => ?_)
      refine st_aload c115_60 rfl ?_
      refine st_iload c115_62 rfl ?_
      refine st_iload c115_64 rfl ?_
      refine st_if_lt c115_66 (by omega) (fun k336 => ?_) (fun k337 => False.elim (by omega))
      refine st_aload c115_74 rfl ?_
      refine st_iconst c115_75 ?_
      refine st_iload c115_76 rfl ?_
      refine st_isub c115_78 ?_
      refine st_iald c115_79 hT271 (tf hT271 rfl rfl) ay_41 (by omega) (fun e338 e339 => ?_)
      have q340 : aI h270 62 ((-1) - (aI h270 r292 z269)) = aI h 62 ((-1) - (aI h270 r292 z269)) := Fr_aI hL273 (tf hT rfl rfl) (by decide +kernel) ((-1) - (aI h270 r292 z269))
      refine st_iast c115_80 hT271 (tf hT271 rfl rfl) ay_42 (by omega) (by omega) (by omega) (Ext_rf _) hS hF272 (by decide +kernel) (fun h341 hT342 hF343 hU344 => ?_)
      refine st_iinc (L' := [some (.ref q0), none, some (vI p2), some (.ref 62), some (.ref 63), some (vI (z268 + 1)), some (vI z269), some (vI (aI h270 r292 z269))]) c115_81 rfl rfl rfl ?_
      refine st_goto c115_84 ?_
      refine st_iinc (L' := [some (.ref q0), none, some (vI p2), some (.ref 62), some (.ref 63), some (vI (z268 + 1)), some (vI (z269 + 1)), some (vI (aI h270 r292 z269))]) c115_123 rfl rfl rfl ?_
      refine st_goto c115_126 ?_
      refine MR_weak (A := [some (.ref q0), none, some (vI p2), some (.ref 62), some (.ref 63), some (vI (z268 + 1)), some (vI (z269 + 1)), none]) (Lle_s (Lle_s (Lle_s (Lle_s (Lle_s (Lle_s (Lle_s (Lle_n (Lle_0))))))))) ?_
      exact ih276 (z268 + 1) (z269 + 1) h341 (by omega) (by omega) (by omega) hT342 hF343 (AUp_Fr hL273 hU344 (fun u hu => by rw [ty_1 hu (tf hT342 rfl rfl)]; decide))
      refine st_iconst c115_58 ?_
      refine st_ireturn c115_59 ?_
      exact hQ _ _ ⟨0, rfl, by omega, hT271, hF272⟩
  refine MR_weak (A := [some (.ref q0), none, some (vI p2), some (.ref 62), some (.ref 63), some (vI 0), some (vI p1), none]) (Lle_s (Lle_n (Lle_s (Lle_s (Lle_s (Lle_s (Lle_s (Lle_s (Lle_0))))))))) ?_
  exact lp274 ((((2147483647 : Int) - p1 : Int) + 1).toNat) 0 p1 h (by omega) (by omega) (by omega) hT hF (Fr_rf _ _ _)
def W114 : List (Nat × Nat) := [(42, 0)]
set_option maxHeartbeats 0 in
theorem K114 {Ln : Nat} {xs : Nat → Int32} {τ : List Nat} {h : List mE} {E : EP} (hT : TH E τ h) (hS : Stb E W114) (q0 : Nat) (hq0 : ty τ q0 13) (pre0 : I2 τ h) (d : Nat) (hd : 2 ≤ d) (Q : Option Value → List mE → Prop) (hQ : ∀ v h', (∃ z : Int, v = some (vI z) ∧ (0 ≤ z ∧ z ≤ 9999999) ∧ TH E τ h' ∧ Fr τ W114 h h') → Q v h') : MR (mex Ln xs) d 114 0 [some (.ref q0), some (.ref 62), some (.ref 63), none, none, none, none] [] h Q := by
  have hF := Fr_rf τ W114 h
  obtain ⟨rc, hrc, trc, P, hP0, hPs⟩ := pre0 q0 hq0
  refine st_aload c114_0 rfl ?_
  refine st_iconst c114_1 ?_
  refine st_iald c114_2 hT (tf hT rfl rfl) ay_41 (by omega) (fun e1 e2 => ?_)
  refine st_istore (L' := [some (.ref q0), some (.ref 62), some (.ref 63), some (vI (aI h 62 0)), none, none, none]) c114_3 rfl rfl ?_
  refine st_iconst c114_4 ?_
  refine st_istore (L' := [some (.ref q0), some (.ref 62), some (.ref 63), some (vI (aI h 62 0)), some (vI 0), none, none]) c114_5 rfl rfl ?_
  refine st_iconst c114_7 ?_
  refine st_istore (L' := [some (.ref q0), some (.ref 62), some (.ref 63), some (vI (aI h 62 0)), some (vI 0), some (vI 0), none]) c114_8 rfl rfl ?_
  have lp173 : ∀ (n174 : Nat) (z171 : Int) (z172 : Int), (800 : Int) - z172 < (n174 : Int) → 0 ≤ z171 ∧ z171 ≤ 800 → 0 ≤ z172 ∧ z172 ≤ 800 → P z171 → MR (mex Ln xs) d 114 10 [some (.ref q0), some (.ref 62), some (.ref 63), some (vI (aI h 62 0)), some (vI z171), some (vI z172), none] [] h Q := by
    intro n174
    induction n174 with
    | zero =>
      intro z171 z172 hm176 b177 b178 x179
      exfalso; omega
    | succ n174 ih175 =>
      intro z171 z172 hm176 b177 b178 x179
      refine st_iload c114_10 rfl ?_
      refine st_aload c114_12 rfl ?_
      refine st_getR c114_13 hT hq0 fd_13_3 (u := 121) rfl (fun r180 e181 t182 => ?_)
      have q183 : r180 = rc := Option.some.inj (e181.symm.trans hrc)
      refine st_alenI c114_16 hT t182 ay_121 rfl (fun e184 e185 => ?_)
      refine st_icmp_ge c114_17 (by omega) (by omega) (fun k186 => ?_) (fun k187 => ?_)
      refine st_iconst c114_99 ?_
      refine st_ireturn c114_100 ?_
      exact hQ _ _ ⟨0, rfl, by omega, hT, hF⟩
      refine st_iload c114_20 rfl ?_
      refine st_iconst c114_22 ?_
      refine st_iadd c114_23 ?_
      refine st_aload c114_24 rfl ?_
      refine st_getNr c114_25 hT hq0 fd_13_3 e181 ?_
      refine st_alenI c114_28 hT t182 ay_121 rfl (fun e188 e189 => ?_)
      refine st_icmp_ge c114_29 (by omega) (by omega) (fun k190 => ?_) (fun k191 => ?_)
      refine st_iconst c114_99 ?_
      refine st_ireturn c114_100 ?_
      exact hQ _ _ ⟨0, rfl, by omega, hT, hF⟩
      refine st_aload c114_32 rfl ?_
      refine st_getNr c114_33 hT hq0 fd_13_3 e181 ?_
      refine st_iload c114_36 rfl ?_
      refine st_iconst c114_38 ?_
      refine st_iadd c114_39 ?_
      refine st_iald c114_40 hT t182 ay_121 (by omega) (fun e192 e193 => ?_)
      refine st_istore (L' := [some (.ref q0), some (.ref 62), some (.ref 63), some (vI (aI h 62 0)), some (vI z171), some (vI z172), some (vI (aI h r180 (z171 + 2)))]) c114_41 rfl rfl ?_
      refine st_iload c114_43 rfl ?_
      refine st_aload c114_44 rfl ?_
      refine st_getNr c114_45 hT hq0 fd_13_3 e181 ?_
      refine st_iload c114_48 rfl ?_
      refine st_iald c114_50 hT t182 ay_121 (by omega) (fun e194 e195 => ?_)
      refine st_icmp_lt c114_51 (by omega) (by omega) (fun k196 => ?_) (fun k197 => ?_)
      refine st_iload c114_89 rfl ?_
      refine st_istore (L' := [some (.ref q0), some (.ref 62), some (.ref 63), some (vI (aI h 62 0)), some (vI (aI h r180 (z171 + 2))), some (vI z172), some (vI (aI h r180 (z171 + 2)))]) c114_91 rfl rfl ?_
      refine st_iinc (L' := [some (.ref q0), some (.ref 62), some (.ref 63), some (vI (aI h 62 0)), some (vI (aI h r180 (z171 + 2))), some (vI (z172 + 1)), some (vI (aI h r180 (z171 + 2)))]) c114_93 rfl rfl rfl ?_
      refine st_goto c114_96 ?_
      refine MR_weak (A := [some (.ref q0), some (.ref 62), some (.ref 63), some (vI (aI h 62 0)), some (vI (aI h r180 (z171 + 2))), some (vI (z172 + 1)), none]) (Lle_s (Lle_s (Lle_s (Lle_s (Lle_s (Lle_s (Lle_n (Lle_0)))))))) ?_
      have pa : P (aI h r180 (z171 + 2)) := by rw [q183]; exact (hPs _ x179).2.2 (by rw [← q183]; omega)
      have pb := hPs _ pa
      have pc := aN_hi hT trc ay_121
      exact ih175 (aI h r180 (z171 + 2)) (z172 + 1) (by omega) (by omega) (by omega) pa
      refine st_iload c114_54 rfl ?_
      refine st_aload c114_55 rfl ?_
      refine st_getNr c114_56 hT hq0 fd_13_3 e181 ?_
      refine st_iload c114_59 rfl ?_
      refine st_iconst c114_61 ?_
      refine st_iadd c114_62 ?_
      refine st_iald c114_63 hT t182 ay_121 (by omega) (fun e198 e199 => ?_)
      refine st_icmp_gt c114_64 (by omega) (by omega) (fun k200 => ?_) (fun k201 => ?_)
      refine st_iload c114_89 rfl ?_
      refine st_istore (L' := [some (.ref q0), some (.ref 62), some (.ref 63), some (vI (aI h 62 0)), some (vI (aI h r180 (z171 + 2))), some (vI z172), some (vI (aI h r180 (z171 + 2)))]) c114_91 rfl rfl ?_
      refine st_iinc (L' := [some (.ref q0), some (.ref 62), some (.ref 63), some (vI (aI h 62 0)), some (vI (aI h r180 (z171 + 2))), some (vI (z172 + 1)), some (vI (aI h r180 (z171 + 2)))]) c114_93 rfl rfl rfl ?_
      refine st_goto c114_96 ?_
      refine MR_weak (A := [some (.ref q0), some (.ref 62), some (.ref 63), some (vI (aI h 62 0)), some (vI (aI h r180 (z171 + 2))), some (vI (z172 + 1)), none]) (Lle_s (Lle_s (Lle_s (Lle_s (Lle_s (Lle_s (Lle_n (Lle_0)))))))) ?_
      have pa : P (aI h r180 (z171 + 2)) := by rw [q183]; exact (hPs _ x179).2.2 (by rw [← q183]; omega)
      have pb := hPs _ pa
      have pc := aN_hi hT trc ay_121
      exact ih175 (aI h r180 (z171 + 2)) (z172 + 1) (by omega) (by omega) (by omega) pa
      refine st_iconst c114_67 ?_
      refine st_iconst c114_68 ?_
      refine st_aload c114_70 rfl ?_
      refine st_iload c114_71 rfl ?_
      refine st_iconst c114_73 ?_
      refine st_iadd c114_74 ?_
      refine st_iload c114_75 rfl ?_
      refine st_aload c114_77 rfl ?_
      refine st_aload c114_78 rfl ?_
      refine st_callt (as := [vI (z171 + 3), vI (aI h r180 (z171 + 2)), .ref 62, .ref 63]) c114_79 cm_115 hT hq0 fd_13_0 rfl rfl rfl rfl (by omega) (K115 hT (Stb_mono hS (by decide +kernel)) q0 hq0 (z171 + 3) (by omega) (aI h r180 (z171 + 2)) (by omega) (d - 1) (by omega) _ (fun v h0 H => H)) (fun v1 h202 H => ?_)
      obtain ⟨z205, rfl, b206, hT203, hF204⟩ := H
      have hF207 := Fr_cp hF hF204 (by decide +kernel : Wsub W115 W114 = true)
      refine st_min c114_82 (by omega) (by omega) rfl (fun z208 e209 e210 e211 => ?_)
      refine st_max c114_85 (by omega) (by omega) rfl (fun z212 e213 e214 e215 => ?_)
      refine st_ireturn c114_88 ?_
      exact hQ _ _ ⟨z212, rfl, by omega, hT203, hF207⟩
  exact lp173 ((((800 : Int) - 0 : Int) + 1).toNat) 0 0 (by omega) (by omega) (by omega) hP0
set_option maxHeartbeats 0 in
theorem K1 {Ln : Nat} {xs : Nat → Int32} {τ : List Nat} {h : List mE} {E : EP} (hT : TH E τ h) (d : Nat) (hd : 0 ≤ d) (Q : Option Value → List mE → Prop) (hQ : ∀ v h', ((v = some (vI 0) ∧ (fI h 60 1≤15) ∧ h = h') ∨ (v = some (vI 1) ∧ (16 ≤ fI h 60 1) ∧ h = h')) → Q v h') : MR (mex Ln xs) d 1 0 [some (.ref 60)] [] h Q := by
  refine st_aload c1_0 rfl ?_
  refine st_getI c1_1 hT (tf hT rfl rfl) fd_7_1 (fun e1 e2 => ?_)
  refine st_iconst c1_4 ?_
  refine st_icmp_lt c1_6 (by omega) (by omega) (fun k3 => ?_) (fun k4 => ?_)
  refine st_iconst c1_13 ?_
  refine st_zreturn c1_14 (by omega) ?_
  exact hQ _ _ (Or.inl ⟨rfl, by omega, rfl⟩)
  refine st_iconst c1_9 ?_
  refine st_goto c1_10 ?_
  refine st_zreturn c1_14 (by omega) ?_
  exact hQ _ _ (Or.inr ⟨rfl, by omega, rfl⟩)
set_option maxHeartbeats 0 in
theorem K2 {Ln : Nat} {xs : Nat → Int32} {τ : List Nat} {h : List mE} {E : EP} (hT : TH E τ h) (p1 : Int) (hp1 : (-2147483648) ≤ p1 ∧ p1 ≤ 2147483647) (d : Nat) (hd : 0 ≤ d) (Q : Option Value → List mE → Prop) (hQ : ∀ v h', ((v = some (vI 0) ∧ h = h') ∨ (v = some (vI 1) ∧ (0≤p1) ∧ (p1<fI h 60 1) ∧ (p1≤15) ∧ h = h')) → Q v h') : MR (mex Ln xs) d 2 0 [some (.ref 60), some (vI p1)] [] h Q := by
  refine st_iload c2_0 rfl ?_
  refine st_if_lt c2_1 (by omega) (fun k1 => ?_) (fun k2 => ?_)
  refine st_iconst c2_22 ?_
  refine st_zreturn c2_23 (by omega) ?_
  exact hQ _ _ (Or.inl ⟨rfl, rfl⟩)
  refine st_iload c2_4 rfl ?_
  refine st_aload c2_5 rfl ?_
  refine st_getI c2_6 hT (tf hT rfl rfl) fd_7_1 (fun e3 e4 => ?_)
  refine st_icmp_ge c2_9 (by omega) (by omega) (fun k5 => ?_) (fun k6 => ?_)
  refine st_iconst c2_22 ?_
  refine st_zreturn c2_23 (by omega) ?_
  exact hQ _ _ (Or.inl ⟨rfl, rfl⟩)
  refine st_iload c2_12 rfl ?_
  refine st_iconst c2_13 ?_
  refine st_icmp_ge c2_15 (by omega) (by omega) (fun k7 => False.elim (by omega)) (fun k8 => ?_)
  refine st_iconst c2_18 ?_
  refine st_goto c2_19 ?_
  refine st_zreturn c2_23 (by omega) ?_
  exact hQ _ _ (Or.inr ⟨rfl, by omega, by omega, by omega, rfl⟩)
def W3 : List (Nat × Nat) := [(7, 1), (40, 0)]
set_option maxHeartbeats 0 in
theorem K3 {Ln : Nat} {xs : Nat → Int32} {τ : List Nat} {h : List mE} {E : EP} (hT : TH E τ h) (hS : Stb E W3) (q1 : Nat) (hq1 : ty τ q1 13) (d : Nat) (hd : 1 ≤ d) (Q : Option Value → List mE → Prop) (hQ : ∀ v h', (∃ z : Int, v = some (vI z) ∧ ((-3) ≤ z ∧ z ≤ 15) ∧ ((fI h 60 1 ≤ 15 ∧ z = fI h 60 1 ∧ fI h' 60 1 = fI h 60 1 + 1) ∨ (16 ≤ fI h 60 1 ∧ z = -3 ∧ fI h' 60 1 = fI h 60 1)) ∧ TH E τ h' ∧ Fr τ W3 h h') → Q v h') : MR (mex Ln xs) d 3 0 [some (.ref 60), some (.ref q1)] [] h Q := by
  have hF := Fr_rf τ W3 h
  refine st_aload c3_0 rfl ?_
  have e1 := fI_bd (q := 60) hT (tf hT rfl rfl) fd_7_1
  refine st_callt (as := []) c3_1 cm_1 hT (tf hT rfl rfl) fd_7_0 rfl rfl rfl rfl (by omega) (K1 hT (d - 1) (by omega) _ (fun v h0 H => H)) (fun v1 h1 H => ?_)
  rcases H with ⟨rfl, pf2, rfl⟩ | ⟨rfl, pf3, rfl⟩
  refine st_if_eq c3_4 (by omega) (fun k4 => ?_) (fun k5 => False.elim (by omega))
  refine st_aload c3_10 rfl ?_
  refine st_getX (u := 61) c3_11 hT (tf hT rfl rfl) fd_7_0 rfl ?_
  refine st_aload c3_14 rfl ?_
  refine st_getI c3_15 hT (tf hT rfl rfl) fd_7_1 (fun e6 e7 => ?_)
  refine st_aload c3_18 rfl ?_
  refine st_aast c3_19 hT (tf hT rfl rfl) ay_40 hq1 rfl fd_13_0 rfl (by omega) (Ext_rf _) hS hF (by decide +kernel) (fun h8 hT9 hF10 hU11 => ?_)
  refine st_aload c3_20 rfl ?_
  refine st_dup c3_21 rfl ?_
  refine st_getI c3_22 hT9 (tf hT9 rfl rfl) fd_7_1 (fun e12 e13 => ?_)
  have q14 : fI h8 60 1 = fI h 60 1 := OUp_fI hU11
  refine st_dup_x1 c3_25 rfl rfl ?_
  refine st_iconst c3_26 ?_
  refine st_iadd c3_27 ?_
  refine st_putI c3_28 hT9 (tf hT9 rfl rfl) fd_7_1 (by omega) (by omega) (Ext_rf _) hS hF10 (by decide +kernel) (fun h15 hT16 hF17 hU18 => ?_)
  refine st_ireturn c3_31 ?_
  have e19 := fI_bd (q := 60) hT16 (tf hT16 rfl rfl) fd_7_1
  have q20 : fI h15 60 1 = (fI h8 60 1) + 1 := FUp_fI hU18 (by omega) (by omega)
  exact hQ _ _ ⟨fI h8 60 1, rfl, by omega, by omega, hT16, hF17⟩
  refine st_if_eq c3_4 (by omega) (fun k21 => False.elim (by omega)) (fun k22 => ?_)
  refine st_iconst c3_7 ?_
  refine st_ireturn c3_9 ?_
  exact hQ _ _ ⟨(-3), rfl, by omega, by omega, hT, hF⟩
def W6 : List (Nat × Nat) := [(41, 0)]
set_option maxHeartbeats 0 in
theorem K6 {Ln : Nat} {xs : Nat → Int32} {τ : List Nat} {h : List mE} {E : EP} (hT : TH E τ h) (hS : Stb E W6) (p1 : Int) (hp1 : (-2147483648) ≤ p1 ∧ p1 ≤ 2147483647) (d : Nat) (hd : 0 ≤ d) (Q : Option Value → List mE → Prop) (hQ : ∀ v h', (v = none ∧ TH E τ h' ∧ Fr τ W6 h h') → Q v h') : MR (mex Ln xs) d 6 0 [some (.ref 60), some (vI p1)] [] h Q := by
  have hF := Fr_rf τ W6 h
  refine st_aload c6_0 rfl ?_
  refine st_getX (u := 62) c6_1 hT (tf hT rfl rfl) fd_7_2 rfl ?_
  refine st_iconst c6_4 ?_
  refine st_iload c6_5 rfl ?_
  refine st_iast c6_6 hT (tf hT rfl rfl) ay_41 (by omega) (by omega) (by omega) (Ext_rf _) hS hF (by decide +kernel) (fun h1 hT2 hF3 hU4 => ?_)
  refine st_return c6_7 ?_
  exact hQ _ _ ⟨rfl, hT2, hF3⟩
def W7 : List (Nat × Nat) := [(41, 0)]
set_option maxHeartbeats 0 in
theorem K7 {Ln : Nat} {xs : Nat → Int32} {τ : List Nat} {h : List mE} {E : EP} (hT : TH E τ h) (hS : Stb E W7) (q1 : Nat) (hq1 : ty τ q1 12) (p2 : Int) (hp2 : (-2147483648) ≤ p2 ∧ p2 ≤ 2147483647) (d : Nat) (hd : 0 ≤ d) (Q : Option Value → List mE → Prop) (hQ : ∀ v h', (v = none ∧ TH E τ h' ∧ Fr τ W7 h h') → Q v h') : MR (mex Ln xs) d 7 0 [some (.ref 60), some (.ref q1), some (vI p2)] [] h Q := by
  have hF := Fr_rf τ W7 h
  refine st_aload c7_0 rfl ?_
  refine st_getX (u := 62) c7_1 hT (tf hT rfl rfl) fd_7_2 rfl ?_
  refine st_iconst c7_4 ?_
  refine st_iload c7_5 rfl ?_
  refine st_iast c7_6 hT (tf hT rfl rfl) ay_41 (by omega) (by omega) (by omega) (Ext_rf _) hS hF (by decide +kernel) (fun h1 hT2 hF3 hU4 => ?_)
  refine st_aload c7_7 rfl ?_
  refine st_getX (u := 62) c7_8 hT2 (tf hT2 rfl rfl) fd_7_2 rfl ?_
  refine st_iconst c7_11 ?_
  refine st_iload c7_12 rfl ?_
  refine st_iast c7_13 hT2 (tf hT2 rfl rfl) ay_41 (by omega) (by omega) (by omega) (Ext_rf _) hS hF3 (by decide +kernel) (fun h5 hT6 hF7 hU8 => ?_)
  refine st_aload c7_14 rfl ?_
  refine st_getX (u := 62) c7_15 hT6 (tf hT6 rfl rfl) fd_7_2 rfl ?_
  refine st_iconst c7_18 ?_
  refine st_iload c7_19 rfl ?_
  refine st_iconst c7_20 ?_
  refine st_idivc c7_22 (by omega) (by omega) (fun w9 e10 e11 => ?_)
  refine st_iast c7_23 hT6 (tf hT6 rfl rfl) ay_41 (by omega) (by omega) (by omega) (Ext_rf _) hS hF7 (by decide +kernel) (fun h12 hT13 hF14 hU15 => ?_)
  refine st_aload c7_24 rfl ?_
  refine st_getX (u := 62) c7_25 hT13 (tf hT13 rfl rfl) fd_7_2 rfl ?_
  refine st_iconst c7_28 ?_
  refine st_iload c7_29 rfl ?_
  refine st_iconst c7_30 ?_
  refine st_iremw c7_32 (by omega) (by omega) (fun w16 e17 e18 => ?_)
  refine st_iast c7_33 hT13 (tf hT13 rfl rfl) ay_41 (by omega) (by omega) (by omega) (Ext_rf _) hS hF14 (by decide +kernel) (fun h19 hT20 hF21 hU22 => ?_)
  refine st_aload c7_34 rfl ?_
  refine st_getX (u := 62) c7_35 hT20 (tf hT20 rfl rfl) fd_7_2 rfl ?_
  refine st_iconst c7_38 ?_
  refine st_iconst c7_40 ?_
  refine st_aload c7_41 rfl ?_
  refine st_getX (u := 62) c7_42 hT20 (tf hT20 rfl rfl) fd_7_2 rfl ?_
  refine st_iconst c7_45 ?_
  refine st_iald c7_46 hT20 (tf hT20 rfl rfl) ay_41 (by omega) (fun e23 e24 => ?_)
  refine st_iload c7_47 rfl ?_
  refine st_aload c7_48 rfl ?_
  refine st_getI c7_49 hT20 hq1 fd_12_3 (fun e25 e26 => ?_)
  have q27 : fI h19 q1 3 = fI h q1 3 := (AUp_fI hU22).trans ((AUp_fI hU15).trans ((AUp_fI hU8).trans (AUp_fI hU4)))
  refine st_imul c7_52 ?_
  refine MR_wrap (fun w28 e29 e30 e31 => ?_)
  clear e31
  refine st_isub c7_53 ?_
  refine MR_wrap (fun w32 e33 e34 e35 => ?_)
  refine st_max c7_54 (by omega) (by omega) rfl (fun z36 e37 e38 e39 => ?_)
  refine st_iast c7_57 hT20 (tf hT20 rfl rfl) ay_41 (by omega) (by omega) (by omega) (Ext_rf _) hS hF21 (by decide +kernel) (fun h40 hT41 hF42 hU43 => ?_)
  refine st_return c7_58 ?_
  exact hQ _ _ ⟨rfl, hT41, hF42⟩
def W4 : List (Nat × Nat) := [(41, 0)]
set_option maxHeartbeats 0 in
theorem K4 {Ln : Nat} {xs : Nat → Int32} {τ : List Nat} {h : List mE} {E : EP} (hT : TH E τ h) (hS : Stb E W4) (q1 : Nat) (hq1 : ty τ q1 12) (p2 : Int) (hp2 : (-2147483648) ≤ p2 ∧ p2 ≤ 2147483647) (pre0 : I1 τ h) (d : Nat) (hd : 4 ≤ d) (Q : Option Value → List mE → Prop) (hQ : ∀ v h', (v = none ∧ TH E τ h' ∧ Fr τ W4 h h') → Q v h') : MR (mex Ln xs) d 4 0 [some (.ref 60), some (.ref q1), some (vI p2)] [] h Q := by
  have hF := Fr_rf τ W4 h
  refine st_aload c4_0 rfl ?_
  refine st_getX (u := 62) c4_1 hT (tf hT rfl rfl) fd_7_2 rfl ?_
  refine st_iconst c4_4 ?_
  refine st_aload c4_5 rfl ?_
  refine st_iload c4_6 rfl ?_
  refine st_callt (as := [vI p2]) c4_7 cm_77 hT hq1 fd_12_0 rfl rfl rfl rfl (by omega) (K77 hT q1 hq1 p2 (by omega) pre0 (d - 1) (by omega) _ (fun v h0 H => H)) (fun v1 h1 H => ?_)
  obtain ⟨z1, rfl, b2, rfl⟩ := H
  refine st_iast c4_10 hT (tf hT rfl rfl) ay_41 (by omega) (by omega) (by omega) (Ext_rf _) hS hF (by decide +kernel) (fun h3 hT4 hF5 hU6 => ?_)
  refine st_aload c4_11 rfl ?_
  refine st_aload c4_12 rfl ?_
  refine st_aload c4_13 rfl ?_
  refine st_iload c4_14 rfl ?_
  refine st_callt (as := [vI p2]) c4_15 cm_74 hT4 hq1 fd_12_0 rfl rfl rfl rfl (by omega) (K74 hT4 q1 hq1 p2 (by omega) (d - 1) (by omega) _ (fun v h0 H => H)) (fun v1 h1 H => ?_)
  obtain ⟨z7, rfl, b8, rfl⟩ := H
  refine st_callt (as := [.ref q1, vI z7]) c4_18 cm_7 hT4 (tf hT4 rfl rfl) fd_7_0 rfl rfl rfl rfl (by omega) (K7 hT4 (Stb_mono hS (by decide +kernel)) q1 hq1 z7 (by omega) (d - 1) (by omega) _ (fun v h0 H => H)) (fun v1 h9 H => ?_)
  obtain ⟨rfl, hT10, hF11⟩ := H
  have hF12 := Fr_cp hF5 hF11 (by decide +kernel : Wsub W7 W4 = true)
  refine st_aload c4_21 rfl ?_
  refine st_getX (u := 62) c4_22 hT10 (tf hT10 rfl rfl) fd_7_2 rfl ?_
  refine st_iconst c4_25 ?_
  refine st_aload c4_26 rfl ?_
  refine st_iconst c4_27 ?_
  refine st_iload c4_28 rfl ?_
  refine st_callt (as := [vI 3, vI p2]) c4_29 cm_76 hT10 hq1 fd_12_0 rfl rfl rfl rfl (by omega) (K76 hT10 q1 hq1 3 (by omega) p2 (by omega) (I1_fr pre0 hT hF12 (by decide +kernel)) (d - 1) (by omega) _ (fun v h0 H => H)) (fun v1 h1 H => ?_)
  obtain ⟨z13, rfl, b14, rfl⟩ := H
  refine st_iast c4_32 hT10 (tf hT10 rfl rfl) ay_41 (by omega) (by omega) (by omega) (Ext_rf _) hS hF12 (by decide +kernel) (fun h15 hT16 hF17 hU18 => ?_)
  refine st_aload c4_33 rfl ?_
  refine st_getX (u := 62) c4_34 hT16 (tf hT16 rfl rfl) fd_7_2 rfl ?_
  refine st_iconst c4_37 ?_
  refine st_aload c4_38 rfl ?_
  refine st_getR c4_39 hT16 hq1 fd_12_5 (u := 9) rfl (fun r19 e20 t21 => ?_)
  refine st_getI c4_42 hT16 t21 fd_9_3 (fun e22 e23 => ?_)
  have q24 : fI h15 r19 3 = fI h r19 3 := (AUp_fI hU18).trans ((Fr_fI hF11 t21 (by decide +kernel)).trans (AUp_fI hU6))
  refine st_iast c4_45 hT16 (tf hT16 rfl rfl) ay_41 (by omega) (by omega) (by omega) (Ext_rf _) hS hF17 (by decide +kernel) (fun h25 hT26 hF27 hU28 => ?_)
  refine st_aload c4_46 rfl ?_
  refine st_getX (u := 62) c4_47 hT26 (tf hT26 rfl rfl) fd_7_2 rfl ?_
  refine st_iconst c4_50 ?_
  refine st_aload c4_52 rfl ?_
  refine st_callt (as := []) c4_53 cm_82 hT26 hq1 fd_12_0 rfl rfl rfl rfl (by omega) (K82 hT26 q1 hq1 (d - 1) (by omega) _ (fun v h0 H => H)) (fun v1 h1 H => ?_)
  obtain ⟨z29, rfl, b30, rfl⟩ := H
  refine st_iast c4_56 hT26 (tf hT26 rfl rfl) ay_41 (by omega) (by omega) (by omega) (Ext_rf _) hS hF27 (by decide +kernel) (fun h31 hT32 hF33 hU34 => ?_)
  refine st_aload c4_57 rfl ?_
  refine st_getX (u := 62) c4_58 hT32 (tf hT32 rfl rfl) fd_7_2 rfl ?_
  refine st_iconst c4_61 ?_
  refine st_aload c4_63 rfl ?_
  refine st_callt (as := []) c4_64 cm_81 hT32 hq1 fd_12_0 rfl rfl rfl rfl (by omega) (K81 hT32 q1 hq1 (d - 1) (by omega) _ (fun v h0 H => H)) (fun v1 h1 H => ?_)
  obtain ⟨z35, rfl, b36, rfl⟩ := H
  refine st_iast c4_67 hT32 (tf hT32 rfl rfl) ay_41 (by omega) (by omega) (by omega) (Ext_rf _) hS hF33 (by decide +kernel) (fun h37 hT38 hF39 hU40 => ?_)
  refine st_aload c4_68 rfl ?_
  refine st_getX (u := 62) c4_69 hT38 (tf hT38 rfl rfl) fd_7_2 rfl ?_
  refine st_iconst c4_72 ?_
  refine st_aload c4_74 rfl ?_
  refine st_getN c4_75 hT38 hq1 fd_12_10 (u := 10) rfl (fun e42 => ?_) (fun r41 e43 t44 => ?_)
  refine st_ifnonnullN c4_78 ?_
  refine st_iconst c4_81 ?_
  refine st_goto c4_82 ?_
  refine st_iast c4_95 hT38 (tf hT38 rfl rfl) ay_41 (by omega) (by omega) (by omega) (Ext_rf _) hS hF39 (by decide +kernel) (fun h45 hT46 hF47 hU48 => ?_)
  refine st_aload c4_96 rfl ?_
  refine st_getX (u := 62) c4_97 hT46 (tf hT46 rfl rfl) fd_7_2 rfl ?_
  refine st_iconst c4_100 ?_
  refine st_aload c4_102 rfl ?_
  refine st_getNn c4_103 hT46 hq1 fd_12_10 ((AUp_fR hU48).trans (e42)) ?_
  refine st_ifnullN c4_106 ?_
  refine st_iconst c4_119 ?_
  refine st_goto c4_120 ?_
  refine st_iast c4_124 hT46 (tf hT46 rfl rfl) ay_41 (by omega) (by omega) (by omega) (Ext_rf _) hS hF47 (by decide +kernel) (fun h49 hT50 hF51 hU52 => ?_)
  refine st_aload c4_125 rfl ?_
  refine st_getX (u := 62) c4_126 hT50 (tf hT50 rfl rfl) fd_7_2 rfl ?_
  refine st_iconst c4_129 ?_
  refine st_aload c4_131 rfl ?_
  refine st_callt (as := []) c4_132 cm_69 hT50 hq1 fd_12_0 rfl rfl rfl rfl (by omega) (K69 hT50 q1 hq1 (d - 1) (by omega) _ (fun v h0 H => H)) (fun v1 h1 H => ?_)
  rcases H with ⟨rfl, rfl⟩ | ⟨rfl, rfl⟩
  refine st_if_eq c4_135 (by omega) (fun k53 => ?_) (fun k54 => False.elim (by omega))
  refine st_iconst c4_142 ?_
  refine st_iast c4_143 hT50 (tf hT50 rfl rfl) ay_41 (by omega) (by omega) (by omega) (Ext_rf _) hS hF51 (by decide +kernel) (fun h55 hT56 hF57 hU58 => ?_)
  refine st_return c4_144 ?_
  exact hQ _ _ ⟨rfl, hT56, hF57⟩
  refine st_if_eq c4_135 (by omega) (fun k59 => False.elim (by omega)) (fun k60 => ?_)
  refine st_iconst c4_138 ?_
  refine st_goto c4_139 ?_
  refine st_iast c4_143 hT50 (tf hT50 rfl rfl) ay_41 (by omega) (by omega) (by omega) (Ext_rf _) hS hF51 (by decide +kernel) (fun h61 hT62 hF63 hU64 => ?_)
  refine st_return c4_144 ?_
  exact hQ _ _ ⟨rfl, hT62, hF63⟩
  refine st_ifnonnullR c4_78 ?_
  refine st_aload c4_85 rfl ?_
  refine st_getNr c4_86 hT38 hq1 fd_12_10 e43 ?_
  refine st_getR c4_89 hT38 t44 fd_10_1 (u := 9) rfl (fun r65 e66 t67 => ?_)
  refine st_getI c4_92 hT38 t67 fd_9_5 (fun e68 e69 => ?_)
  have q70 : fI h37 r65 5 = fI h r65 5 := (AUp_fI hU40).trans ((AUp_fI hU34).trans ((AUp_fI hU28).trans ((AUp_fI hU18).trans ((Fr_fI hF11 t67 (by decide +kernel)).trans (AUp_fI hU6)))))
  refine st_iast c4_95 hT38 (tf hT38 rfl rfl) ay_41 (by omega) (by omega) (by omega) (Ext_rf _) hS hF39 (by decide +kernel) (fun h71 hT72 hF73 hU74 => ?_)
  refine st_aload c4_96 rfl ?_
  refine st_getX (u := 62) c4_97 hT72 (tf hT72 rfl rfl) fd_7_2 rfl ?_
  refine st_iconst c4_100 ?_
  refine st_aload c4_102 rfl ?_
  refine st_getNr c4_103 hT72 hq1 fd_12_10 ((AUp_fR hU74).trans (e43)) ?_
  refine st_ifnullR c4_106 ?_
  refine st_aload c4_109 rfl ?_
  refine st_getNr c4_110 hT72 hq1 fd_12_10 ((AUp_fR hU74).trans (e43)) ?_
  refine st_getI c4_113 hT72 t44 fd_10_15 (fun e75 e76 => ?_)
  have q77 : fI h71 r41 15 = fI h r41 15 := (AUp_fI hU74).trans ((AUp_fI hU40).trans ((AUp_fI hU34).trans ((AUp_fI hU28).trans ((AUp_fI hU18).trans ((Fr_fI hF11 t44 (by decide +kernel)).trans (AUp_fI hU6))))))
  refine st_if_ne c4_116 (by omega) (fun k78 => ?_) (fun k79 => ?_)
  refine st_iconst c4_123 ?_
  refine st_iast c4_124 hT72 (tf hT72 rfl rfl) ay_41 (by omega) (by omega) (by omega) (Ext_rf _) hS hF73 (by decide +kernel) (fun h80 hT81 hF82 hU83 => ?_)
  refine st_aload c4_125 rfl ?_
  refine st_getX (u := 62) c4_126 hT81 (tf hT81 rfl rfl) fd_7_2 rfl ?_
  refine st_iconst c4_129 ?_
  refine st_aload c4_131 rfl ?_
  refine st_callt (as := []) c4_132 cm_69 hT81 hq1 fd_12_0 rfl rfl rfl rfl (by omega) (K69 hT81 q1 hq1 (d - 1) (by omega) _ (fun v h0 H => H)) (fun v1 h1 H => ?_)
  rcases H with ⟨rfl, rfl⟩ | ⟨rfl, rfl⟩
  refine st_if_eq c4_135 (by omega) (fun k84 => ?_) (fun k85 => False.elim (by omega))
  refine st_iconst c4_142 ?_
  refine st_iast c4_143 hT81 (tf hT81 rfl rfl) ay_41 (by omega) (by omega) (by omega) (Ext_rf _) hS hF82 (by decide +kernel) (fun h86 hT87 hF88 hU89 => ?_)
  refine st_return c4_144 ?_
  exact hQ _ _ ⟨rfl, hT87, hF88⟩
  refine st_if_eq c4_135 (by omega) (fun k90 => False.elim (by omega)) (fun k91 => ?_)
  refine st_iconst c4_138 ?_
  refine st_goto c4_139 ?_
  refine st_iast c4_143 hT81 (tf hT81 rfl rfl) ay_41 (by omega) (by omega) (by omega) (Ext_rf _) hS hF82 (by decide +kernel) (fun h92 hT93 hF94 hU95 => ?_)
  refine st_return c4_144 ?_
  exact hQ _ _ ⟨rfl, hT93, hF94⟩
  refine st_iconst c4_119 ?_
  refine st_goto c4_120 ?_
  refine st_iast c4_124 hT72 (tf hT72 rfl rfl) ay_41 (by omega) (by omega) (by omega) (Ext_rf _) hS hF73 (by decide +kernel) (fun h96 hT97 hF98 hU99 => ?_)
  refine st_aload c4_125 rfl ?_
  refine st_getX (u := 62) c4_126 hT97 (tf hT97 rfl rfl) fd_7_2 rfl ?_
  refine st_iconst c4_129 ?_
  refine st_aload c4_131 rfl ?_
  refine st_callt (as := []) c4_132 cm_69 hT97 hq1 fd_12_0 rfl rfl rfl rfl (by omega) (K69 hT97 q1 hq1 (d - 1) (by omega) _ (fun v h0 H => H)) (fun v1 h1 H => ?_)
  rcases H with ⟨rfl, rfl⟩ | ⟨rfl, rfl⟩
  refine st_if_eq c4_135 (by omega) (fun k100 => ?_) (fun k101 => False.elim (by omega))
  refine st_iconst c4_142 ?_
  refine st_iast c4_143 hT97 (tf hT97 rfl rfl) ay_41 (by omega) (by omega) (by omega) (Ext_rf _) hS hF98 (by decide +kernel) (fun h102 hT103 hF104 hU105 => ?_)
  refine st_return c4_144 ?_
  exact hQ _ _ ⟨rfl, hT103, hF104⟩
  refine st_if_eq c4_135 (by omega) (fun k106 => False.elim (by omega)) (fun k107 => ?_)
  refine st_iconst c4_138 ?_
  refine st_goto c4_139 ?_
  refine st_iast c4_143 hT97 (tf hT97 rfl rfl) ay_41 (by omega) (by omega) (by omega) (Ext_rf _) hS hF98 (by decide +kernel) (fun h108 hT109 hF110 hU111 => ?_)
  refine st_return c4_144 ?_
  exact hQ _ _ ⟨rfl, hT109, hF110⟩
def W5 : List (Nat × Nat) := [(41, 0)]
set_option maxHeartbeats 0 in
theorem K5 {Ln : Nat} {xs : Nat → Int32} {τ : List Nat} {h : List mE} {E : EP} (hT : TH E τ h) (hS : Stb E W5) (q1 : Nat) (hq1 : ty τ q1 12) (p2 : Int) (hp2 : (-2147483648) ≤ p2 ∧ p2 ≤ 2147483647) (d : Nat) (hd : 1 ≤ d) (Q : Option Value → List mE → Prop) (hQ : ∀ v h', (v = none ∧ TH E τ h' ∧ Fr τ W5 h h') → Q v h') : MR (mex Ln xs) d 5 0 [some (.ref 60), some (.ref q1), some (vI p2), some (.ref 5), some (.ref 39), none, none, none] [] h Q := by
  have hF := Fr_rf τ W5 h
  refine st_aload c5_0 rfl ?_
  refine st_iload c5_1 rfl ?_
  refine st_callt (as := [vI p2]) c5_2 cm_73 hT hq1 fd_12_0 rfl rfl rfl rfl (by omega) (K73 hT q1 hq1 p2 (by omega) (d - 1) (by omega) _ (fun v h0 H => H)) (fun v1 h1 H => ?_)
  obtain ⟨z1, rfl, b2, rfl⟩ := H
  refine st_istore (L' := [some (.ref 60), some (.ref q1), some (vI p2), some (.ref 5), some (.ref 39), some (vI z1), none, none]) c5_5 rfl rfl ?_
  refine st_iconst c5_7 ?_
  refine st_istore (L' := [some (.ref 60), some (.ref q1), some (vI p2), some (.ref 5), some (.ref 39), some (vI z1), some (vI 0), none]) c5_8 rfl rfl ?_
  refine st_aload c5_10 rfl ?_
  refine st_getI c5_11 hT hq1 fd_12_11 (fun e3 e4 => ?_)
  refine st_iconst c5_14 ?_
  refine st_idivc c5_16 (by omega) (by omega) (fun w5 e6 e7 => ?_)
  refine st_istore (L' := [some (.ref 60), some (.ref q1), some (vI p2), some (.ref 5), some (.ref 39), some (vI z1), some (vI 0), some (vI w5)]) c5_17 rfl rfl ?_
  have lp122 : ∀ (n123 : Nat) (z120 : Int) (z121 : Int), (89478485 : Int) - z121 < (n123 : Int) → (-2147483648) ≤ z120 ∧ z120 ≤ 2147483647 → (-89478485) ≤ z121 ∧ z121 ≤ 89478485 → MR (mex Ln xs) d 5 19 [some (.ref 60), some (.ref q1), none, some (.ref 5), some (.ref 39), some (vI z1), some (vI z120), some (vI z121)] [] h Q := by
    intro n123
    induction n123 with
    | zero =>
      intro z120 z121 hm125 b126 b127
      exfalso; omega
    | succ n123 ih124 =>
      intro z120 z121 hm125 b126 b127
      refine st_iload c5_19 rfl ?_
      refine st_if_lt c5_21 (by omega) (fun k128 => ?_) (fun k129 => ?_)
      refine st_aload c5_66 rfl ?_
      refine st_getX (u := 62) c5_67 hT (tf hT rfl rfl) fd_7_2 rfl ?_
      refine st_iconst c5_70 ?_
      refine st_iload c5_72 rfl ?_
      refine st_iast c5_74 hT (tf hT rfl rfl) ay_41 (by omega) (by omega) (by omega) (Ext_rf _) hS hF (by decide +kernel) (fun h130 hT131 hF132 hU133 => ?_)
      refine st_aload c5_75 rfl ?_
      refine st_getX (u := 62) c5_76 hT131 (tf hT131 rfl rfl) fd_7_2 rfl ?_
      refine st_iconst c5_79 ?_
      refine st_aload c5_81 rfl ?_
      refine st_getN c5_82 hT131 hq1 fd_12_10 (u := 10) rfl (fun e135 => ?_) (fun r134 e136 t137 => ?_)
      refine st_ifnonnullN c5_85 ?_
      refine st_iconst c5_88 ?_
      refine st_goto c5_89 ?_
      refine st_iast c5_110 hT131 (tf hT131 rfl rfl) ay_41 (by omega) (by omega) (by omega) (Ext_rf _) hS hF132 (by decide +kernel) (fun h138 hT139 hF140 hU141 => ?_)
      refine st_return c5_111 ?_
      exact hQ _ _ ⟨rfl, hT139, hF140⟩
      refine st_ifnonnullR c5_85 ?_
      refine st_aload c5_92 rfl ?_
      refine st_aload c5_94 rfl ?_
      refine st_getNr c5_95 hT131 hq1 fd_12_10 e136 ?_
      refine st_getI c5_98 hT131 t137 fd_10_0 (fun e142 e143 => ?_)
      have q144 : fI h130 r134 0 = fI h r134 0 := AUp_fI hU133
      refine st_aload c5_101 rfl ?_
      refine st_getI c5_102 hT131 hq1 fd_12_11 (fun e145 e146 => ?_)
      have q147 : fI h130 q1 11 = fI h q1 11 := AUp_fI hU133
      refine st_iload c5_105 rfl ?_
      refine st_callt (as := [vI (fI h130 r134 0), vI (fI h130 q1 11), vI z1]) c5_107 cm_20 hT131 (tf hT131 rfl rfl) fd_3_0 rfl rfl rfl rfl (by omega) (K20 hT131 (fI h130 r134 0) (by omega) (fI h130 q1 11) (by omega) z1 (by omega) (d - 1) (by omega) _ (fun v h0 H => H)) (fun v1 h1 H => ?_)
      obtain ⟨z148, rfl, b149, rfl⟩ := H
      refine st_iast c5_110 hT131 (tf hT131 rfl rfl) ay_41 (by omega) (by omega) (by omega) (Ext_rf _) hS hF132 (by decide +kernel) (fun h150 hT151 hF152 hU153 => ?_)
      refine st_return c5_111 ?_
      exact hQ _ _ ⟨rfl, hT151, hF152⟩
      refine st_iload c5_24 rfl ?_
      refine st_aload c5_26 rfl ?_
      refine st_alenC (z := 1000) c5_27 hT (tf hT rfl rfl) ay_14 rfl rfl rfl ?_
      refine st_icmp_ge c5_28 (by omega) (by omega) (fun k154 => ?_) (fun k155 => ?_)
      refine st_aload c5_66 rfl ?_
      refine st_getX (u := 62) c5_67 hT (tf hT rfl rfl) fd_7_2 rfl ?_
      refine st_iconst c5_70 ?_
      refine st_iload c5_72 rfl ?_
      refine st_iast c5_74 hT (tf hT rfl rfl) ay_41 (by omega) (by omega) (by omega) (Ext_rf _) hS hF (by decide +kernel) (fun h156 hT157 hF158 hU159 => ?_)
      refine st_aload c5_75 rfl ?_
      refine st_getX (u := 62) c5_76 hT157 (tf hT157 rfl rfl) fd_7_2 rfl ?_
      refine st_iconst c5_79 ?_
      refine st_aload c5_81 rfl ?_
      refine st_getN c5_82 hT157 hq1 fd_12_10 (u := 10) rfl (fun e161 => ?_) (fun r160 e162 t163 => ?_)
      refine st_ifnonnullN c5_85 ?_
      refine st_iconst c5_88 ?_
      refine st_goto c5_89 ?_
      refine st_iast c5_110 hT157 (tf hT157 rfl rfl) ay_41 (by omega) (by omega) (by omega) (Ext_rf _) hS hF158 (by decide +kernel) (fun h164 hT165 hF166 hU167 => ?_)
      refine st_return c5_111 ?_
      exact hQ _ _ ⟨rfl, hT165, hF166⟩
      refine st_ifnonnullR c5_85 ?_
      refine st_aload c5_92 rfl ?_
      refine st_aload c5_94 rfl ?_
      refine st_getNr c5_95 hT157 hq1 fd_12_10 e162 ?_
      refine st_getI c5_98 hT157 t163 fd_10_0 (fun e168 e169 => ?_)
      have q170 : fI h156 r160 0 = fI h r160 0 := AUp_fI hU159
      refine st_aload c5_101 rfl ?_
      refine st_getI c5_102 hT157 hq1 fd_12_11 (fun e171 e172 => ?_)
      have q173 : fI h156 q1 11 = fI h q1 11 := AUp_fI hU159
      refine st_iload c5_105 rfl ?_
      refine st_callt (as := [vI (fI h156 r160 0), vI (fI h156 q1 11), vI z1]) c5_107 cm_20 hT157 (tf hT157 rfl rfl) fd_3_0 rfl rfl rfl rfl (by omega) (K20 hT157 (fI h156 r160 0) (by omega) (fI h156 q1 11) (by omega) z1 (by omega) (d - 1) (by omega) _ (fun v h0 H => H)) (fun v1 h1 H => ?_)
      obtain ⟨z174, rfl, b175, rfl⟩ := H
      refine st_iast c5_110 hT157 (tf hT157 rfl rfl) ay_41 (by omega) (by omega) (by omega) (Ext_rf _) hS hF158 (by decide +kernel) (fun h176 hT177 hF178 hU179 => ?_)
      refine st_return c5_111 ?_
      exact hQ _ _ ⟨rfl, hT177, hF178⟩
      refine st_iload c5_31 rfl ?_
      refine st_iconst c5_33 ?_
      refine st_imul c5_35 ?_
      refine st_iload c5_36 rfl ?_
      refine st_icmp_ge c5_38 (by omega) (by omega) (fun k180 => ?_) (fun k181 => ?_)
      refine st_aload c5_66 rfl ?_
      refine st_getX (u := 62) c5_67 hT (tf hT rfl rfl) fd_7_2 rfl ?_
      refine st_iconst c5_70 ?_
      refine st_iload c5_72 rfl ?_
      refine st_iast c5_74 hT (tf hT rfl rfl) ay_41 (by omega) (by omega) (by omega) (Ext_rf _) hS hF (by decide +kernel) (fun h182 hT183 hF184 hU185 => ?_)
      refine st_aload c5_75 rfl ?_
      refine st_getX (u := 62) c5_76 hT183 (tf hT183 rfl rfl) fd_7_2 rfl ?_
      refine st_iconst c5_79 ?_
      refine st_aload c5_81 rfl ?_
      refine st_getN c5_82 hT183 hq1 fd_12_10 (u := 10) rfl (fun e187 => ?_) (fun r186 e188 t189 => ?_)
      refine st_ifnonnullN c5_85 ?_
      refine st_iconst c5_88 ?_
      refine st_goto c5_89 ?_
      refine st_iast c5_110 hT183 (tf hT183 rfl rfl) ay_41 (by omega) (by omega) (by omega) (Ext_rf _) hS hF184 (by decide +kernel) (fun h190 hT191 hF192 hU193 => ?_)
      refine st_return c5_111 ?_
      exact hQ _ _ ⟨rfl, hT191, hF192⟩
      refine st_ifnonnullR c5_85 ?_
      refine st_aload c5_92 rfl ?_
      refine st_aload c5_94 rfl ?_
      refine st_getNr c5_95 hT183 hq1 fd_12_10 e188 ?_
      refine st_getI c5_98 hT183 t189 fd_10_0 (fun e194 e195 => ?_)
      have q196 : fI h182 r186 0 = fI h r186 0 := AUp_fI hU185
      refine st_aload c5_101 rfl ?_
      refine st_getI c5_102 hT183 hq1 fd_12_11 (fun e197 e198 => ?_)
      have q199 : fI h182 q1 11 = fI h q1 11 := AUp_fI hU185
      refine st_iload c5_105 rfl ?_
      refine st_callt (as := [vI (fI h182 r186 0), vI (fI h182 q1 11), vI z1]) c5_107 cm_20 hT183 (tf hT183 rfl rfl) fd_3_0 rfl rfl rfl rfl (by omega) (K20 hT183 (fI h182 r186 0) (by omega) (fI h182 q1 11) (by omega) z1 (by omega) (d - 1) (by omega) _ (fun v h0 H => H)) (fun v1 h1 H => ?_)
      obtain ⟨z200, rfl, b201, rfl⟩ := H
      refine st_iast c5_110 hT183 (tf hT183 rfl rfl) ay_41 (by omega) (by omega) (by omega) (Ext_rf _) hS hF184 (by decide +kernel) (fun h202 hT203 hF204 hU205 => ?_)
      refine st_return c5_111 ?_
      exact hQ _ _ ⟨rfl, hT203, hF204⟩
      refine st_aload c5_41 rfl ?_
      refine st_iload c5_42 rfl ?_
      refine st_bald c5_44 hT (tf hT rfl rfl) ay_14 (Or.inl rfl) (by omega) (fun e206 e207 => ?_)
      refine st_if_eq c5_45 (by omega) (fun k208 => ?_) (fun k209 => ?_)
      refine st_iinc (L' := [some (.ref 60), some (.ref q1), none, some (.ref 5), some (.ref 39), some (vI z1), some (vI z120), some (vI (z121 + 1))]) c5_60 rfl rfl rfl ?_
      refine st_goto c5_63 ?_
      exact ih124 z120 (z121 + 1) (by omega) (by omega) (by omega)
      refine st_iload c5_48 rfl ?_
      refine st_aload c5_50 rfl ?_
      refine st_getI c5_51 hT hq1 fd_12_11 (fun e210 e211 => ?_)
      refine st_icmp_le c5_54 (by omega) (by omega) (fun k212 => ?_) (fun k213 => ?_)
      refine st_iinc (L' := [some (.ref 60), some (.ref q1), none, some (.ref 5), some (.ref 39), some (vI z1), some (vI z120), some (vI (z121 + 1))]) c5_60 rfl rfl rfl ?_
      refine st_goto c5_63 ?_
      exact ih124 z120 (z121 + 1) (by omega) (by omega) (by omega)
      refine st_iinc (L' := [some (.ref 60), some (.ref q1), none, some (.ref 5), some (.ref 39), some (vI z1), some (vI (z120 + 1)), some (vI z121)]) c5_57 rfl rfl rfl ?_
      refine st_iinc (L' := [some (.ref 60), some (.ref q1), none, some (.ref 5), some (.ref 39), some (vI z1), some (vI (z120 + 1)), some (vI (z121 + 1))]) c5_60 rfl rfl rfl ?_
      refine st_goto c5_63 ?_
      have e215 : vI (z120 + 1) = vI (Int32.ofInt (z120 + 1)).toInt := by unfold vI; rw [Int32.ofInt_toInt]
      rw [e215]
      have b216 := to_lo (Int32.ofInt (z120 + 1))
      have b217 := to_hi (Int32.ofInt (z120 + 1))
      exact ih124 ((Int32.ofInt (z120 + 1)).toInt) (z121 + 1) (by omega) (by omega) (by omega)
  refine MR_weak (A := [some (.ref 60), some (.ref q1), none, some (.ref 5), some (.ref 39), some (vI z1), some (vI 0), some (vI w5)]) (Lle_s (Lle_s (Lle_n (Lle_s (Lle_s (Lle_s (Lle_s (Lle_s (Lle_0))))))))) ?_
  exact lp122 ((((89478485 : Int) - w5 : Int) + 1).toNat) 0 w5 (by omega) (by omega) (by omega)
def W8 : List (Nat × Nat) := [(42, 0)]
set_option maxHeartbeats 0 in
theorem K8 {Ln : Nat} {xs : Nat → Int32} {τ : List Nat} {h : List mE} {E : EP} (hT : TH E τ h) (hS : Stb E W8) (p1 : Int) (hp1 : (-2147483648) ≤ p1 ∧ p1 ≤ 2147483647) (pre0 : I2 τ h) (d : Nat) (hd : 3 ≤ d) (Q : Option Value → List mE → Prop) (hQ : ∀ v h', (∃ z : Int, v = some (vI z) ∧ (0 ≤ z ∧ z ≤ 9999999) ∧ TH E τ h' ∧ Fr τ W8 h h') → Q v h') : MR (mex Ln xs) d 8 0 [some (.ref 60), some (vI p1), none] [] h Q := by
  have hF := Fr_rf τ W8 h
  refine st_aload c8_0 rfl ?_
  refine st_iload c8_1 rfl ?_
  have e1 := fI_bd (q := 60) hT (tf hT rfl rfl) fd_7_1
  refine st_callt (as := [vI p1]) c8_2 cm_2 hT (tf hT rfl rfl) fd_7_0 rfl rfl rfl rfl (by omega) (K2 hT p1 (by omega) (d - 1) (by omega) _ (fun v h0 H => H)) (fun v1 h1 H => ?_)
  rcases H with ⟨rfl, rfl⟩ | ⟨rfl, pf2, pf3, pf4, rfl⟩
  refine st_if_eq c8_5 (by omega) (fun k5 => ?_) (fun k6 => False.elim (by omega))
  refine st_null c8_17 ?_
  refine st_astoreN (L' := [some (.ref 60), some (vI p1), some .null]) c8_18 rfl rfl ?_
  refine st_aloadN c8_19 rfl ?_
  refine st_ifnonnullN c8_20 ?_
  refine st_iconst c8_23 ?_
  refine st_goto c8_24 ?_
  refine st_ireturn c8_39 ?_
  exact hQ _ _ ⟨0, rfl, by omega, hT, hF⟩
  refine st_if_eq c8_5 (by omega) (fun k7 => False.elim (by omega)) (fun k8 => ?_)
  refine st_aload c8_8 rfl ?_
  refine st_getX (u := 61) c8_9 hT (tf hT rfl rfl) fd_7_0 rfl ?_
  refine st_iload c8_12 rfl ?_
  refine st_aald c8_13 hT (tf hT rfl rfl) ay_40 rfl (u := 13) rfl (by omega) (fun e10 => ?_) (fun r9 e11 t12 => ?_)
  refine st_goto c8_14 ?_
  refine st_astoreN (L' := [some (.ref 60), some (vI p1), some .null]) c8_18 rfl rfl ?_
  refine st_aloadN c8_19 rfl ?_
  refine st_ifnonnullN c8_20 ?_
  refine st_iconst c8_23 ?_
  refine st_goto c8_24 ?_
  refine st_ireturn c8_39 ?_
  exact hQ _ _ ⟨0, rfl, by omega, hT, hF⟩
  refine st_goto c8_14 ?_
  refine st_astore (L' := [some (.ref 60), some (vI p1), some (.ref r9)]) c8_18 rfl rfl ?_
  refine st_aload c8_19 rfl ?_
  refine st_ifnonnullR c8_20 ?_
  refine st_aload c8_27 rfl ?_
  refine st_aload c8_28 rfl ?_
  refine st_getX (u := 62) c8_29 hT (tf hT rfl rfl) fd_7_2 rfl ?_
  refine st_aload c8_32 rfl ?_
  refine st_getX (u := 63) c8_33 hT (tf hT rfl rfl) fd_7_3 rfl ?_
  refine st_callt (as := [.ref 62, .ref 63]) c8_36 cm_114 hT t12 fd_13_0 rfl rfl rfl rfl (by omega) (K114 hT (Stb_mono hS (by decide +kernel)) r9 t12 pre0 (d - 1) (by omega) _ (fun v h0 H => H)) (fun v1 h13 H => ?_)
  obtain ⟨z16, rfl, b17, hT14, hF15⟩ := H
  have hF18 := Fr_cp hF hF15 (by decide +kernel : Wsub W114 W8 = true)
  refine st_ireturn c8_39 ?_
  exact hQ _ _ ⟨z16, rfl, by omega, hT14, hF18⟩
def W9 : List (Nat × Nat) := [(42, 0)]
set_option maxHeartbeats 0 in
theorem K9 {Ln : Nat} {xs : Nat → Int32} {τ : List Nat} {h : List mE} {E : EP} (hT : TH E τ h) (hS : Stb E W9) (p1 : Int) (hp1 : (-2147483648) ≤ p1 ∧ p1 ≤ 2147483647) (p2 : Int) (hp2 : (-2147483648) ≤ p2 ∧ p2 ≤ 2147483647) (p3 : Int) (hp3 : (-2147483648) ≤ p3 ∧ p3 ≤ 2147483647) (pre0 : I2 τ h) (d : Nat) (hd : 4 ≤ d) (Q : Option Value → List mE → Prop) (hQ : ∀ v h', (∃ z : Int, v = some (vI z) ∧ ((-1) ≤ z ∧ z ≤ 15) ∧ TH E τ h' ∧ Fr τ W9 h h') → Q v h') : MR (mex Ln xs) d 9 0 [some (.ref 60), some (vI p1), some (vI p2), some (vI p3), none, none, none, none] [] h Q := by
  have hF := Fr_rf τ W9 h
  refine st_iconst c9_0 ?_
  refine st_istore (L' := [some (.ref 60), some (vI p1), some (vI p2), some (vI p3), some (vI 0), none, none, none]) c9_1 rfl rfl ?_
  refine st_iconst c9_3 ?_
  refine st_istore (L' := [some (.ref 60), some (vI p1), some (vI p2), some (vI p3), some (vI 0), some (vI (-1)), none, none]) c9_4 rfl rfl ?_
  refine st_aload c9_6 rfl ?_
  refine st_getI c9_7 hT (tf hT rfl rfl) fd_7_1 (fun e1 e2 => ?_)
  refine st_iconst c9_10 ?_
  refine st_isub c9_11 ?_
  refine st_istore (L' := [some (.ref 60), some (vI p1), some (vI p2), some (vI p3), some (vI 0), some (vI (-1)), some (vI ((fI h 60 1) - 1)), none]) c9_12 rfl rfl ?_
  have lp128 : ∀ (n129 : Nat) (z121 : Int) (z122 : Int) (z123 : Int) (h124 : List mE), (z123 : Int) - (-1) < (n129 : Int) → 0 ≤ z121 ∧ z121 ≤ 2 → (-1) ≤ z122 ∧ z122 ≤ 15 → (-1) ≤ z123 ∧ z123 ≤ 15 → TH E τ h124 → Fr τ W9 h h124 → Fr τ [(42, 0)] h h124 → MR (mex Ln xs) d 9 14 [some (.ref 60), some (vI p1), some (vI p2), some (vI p3), some (vI z121), some (vI z122), some (vI z123), none] [] h124 Q := by
    intro n129
    induction n129 with
    | zero =>
      intro z121 z122 z123 h124 hm131 b132 b133 b134 hT125 hF126 hL127
      exfalso; omega
    | succ n129 ih130 =>
      intro z121 z122 z123 h124 hm131 b132 b133 b134 hT125 hF126 hL127
      refine st_iload c9_14 rfl ?_
      refine st_if_lt c9_16 (by omega) (fun k135 => ?_) (fun k136 => ?_)
      refine st_iload c9_96 rfl ?_
      refine st_ireturn c9_98 ?_
      exact hQ _ _ ⟨z122, rfl, by omega, hT125, hF126⟩
      refine st_iload c9_19 rfl ?_
      refine st_iconst c9_21 ?_
      refine st_icmp_ge c9_22 (by omega) (by omega) (fun k137 => ?_) (fun k138 => ?_)
      refine st_iload c9_96 rfl ?_
      refine st_ireturn c9_98 ?_
      exact hQ _ _ ⟨z122, rfl, by omega, hT125, hF126⟩
      refine st_aload c9_25 rfl ?_
      refine st_iload c9_26 rfl ?_
      have e139 := fI_bd (q := 60) hT125 (tf hT125 rfl rfl) fd_7_1
      have q140 : fI h124 60 1 = fI h 60 1 := Fr_fI hL127 (tf hT rfl rfl) (by decide +kernel)
      refine st_callt (as := [vI z123]) c9_28 cm_2 hT125 (tf hT125 rfl rfl) fd_7_0 rfl rfl rfl rfl (by omega) (K2 hT125 z123 (by omega) (d - 1) (by omega) _ (fun v h0 H => H)) (fun v1 h1 H => ?_)
      rcases H with ⟨rfl, rfl⟩ | ⟨rfl, pf141, pf142, pf143, rfl⟩
      refine st_if_eq c9_31 (by omega) (fun k144 => ?_) (fun k145 => False.elim (by omega))
      refine st_null c9_44 ?_
      refine st_astoreN (L' := [some (.ref 60), some (vI p1), some (vI p2), some (vI p3), some (vI z121), some (vI z122), some (vI z123), some .null]) c9_45 rfl rfl ?_
      refine st_aloadN c9_47 rfl ?_
      refine st_ifnullN c9_49 ?_
      refine st_iinc (L' := [some (.ref 60), some (vI p1), some (vI p2), some (vI p3), some (vI z121), some (vI z122), some (vI (z123 + (-1))), some .null]) c9_90 rfl rfl rfl ?_
      refine st_goto c9_93 ?_
      refine MR_weak (A := [some (.ref 60), some (vI p1), some (vI p2), some (vI p3), some (vI z121), some (vI z122), some (vI (z123 + (-1))), none]) (Lle_s (Lle_s (Lle_s (Lle_s (Lle_s (Lle_s (Lle_s (Lle_n (Lle_0))))))))) ?_
      exact ih130 z121 z122 (z123 + (-1)) h124 (by omega) (by omega) (by omega) (by omega) hT125 hF126 hL127
      refine st_if_eq c9_31 (by omega) (fun k146 => False.elim (by omega)) (fun k147 => ?_)
      refine st_aload c9_34 rfl ?_
      refine st_getX (u := 61) c9_35 hT125 (tf hT125 rfl rfl) fd_7_0 rfl ?_
      refine st_iload c9_38 rfl ?_
      refine st_aald c9_40 hT125 (tf hT125 rfl rfl) ay_40 rfl (u := 13) rfl (by omega) (fun e149 => ?_) (fun r148 e150 t151 => ?_)
      refine st_goto c9_41 ?_
      refine st_astoreN (L' := [some (.ref 60), some (vI p1), some (vI p2), some (vI p3), some (vI z121), some (vI z122), some (vI z123), some .null]) c9_45 rfl rfl ?_
      refine st_aloadN c9_47 rfl ?_
      refine st_ifnullN c9_49 ?_
      refine st_iinc (L' := [some (.ref 60), some (vI p1), some (vI p2), some (vI p3), some (vI z121), some (vI z122), some (vI (z123 + (-1))), some .null]) c9_90 rfl rfl rfl ?_
      refine st_goto c9_93 ?_
      refine MR_weak (A := [some (.ref 60), some (vI p1), some (vI p2), some (vI p3), some (vI z121), some (vI z122), some (vI (z123 + (-1))), none]) (Lle_s (Lle_s (Lle_s (Lle_s (Lle_s (Lle_s (Lle_s (Lle_n (Lle_0))))))))) ?_
      exact ih130 z121 z122 (z123 + (-1)) h124 (by omega) (by omega) (by omega) (by omega) hT125 hF126 hL127
      refine st_goto c9_41 ?_
      refine st_astore (L' := [some (.ref 60), some (vI p1), some (vI p2), some (vI p3), some (vI z121), some (vI z122), some (vI z123), some (.ref r148)]) c9_45 rfl rfl ?_
      refine st_aload c9_47 rfl ?_
      refine st_ifnullR c9_49 ?_
      refine st_aload c9_52 rfl ?_
      refine st_iload c9_54 rfl ?_
      refine st_iload c9_55 rfl ?_
      refine st_iload c9_56 rfl ?_
      refine st_callt (as := [vI p1, vI p2, vI p3]) c9_57 cm_113 hT125 t151 fd_13_0 rfl rfl rfl rfl (by omega) (K113 hT125 r148 t151 p1 (by omega) p2 (by omega) p3 (by omega) (d - 1) (by omega) _ (fun v h0 H => H)) (fun v1 h1 H => ?_)
      rcases H with ⟨rfl, rfl⟩ | ⟨rfl, rfl⟩
      refine st_if_eq c9_60 (by omega) (fun k152 => ?_) (fun k153 => False.elim (by omega))
      refine st_iinc (L' := [some (.ref 60), some (vI p1), some (vI p2), some (vI p3), some (vI z121), some (vI z122), some (vI (z123 + (-1))), some (.ref r148)]) c9_90 rfl rfl rfl ?_
      refine st_goto c9_93 ?_
      refine MR_weak (A := [some (.ref 60), some (vI p1), some (vI p2), some (vI p3), some (vI z121), some (vI z122), some (vI (z123 + (-1))), none]) (Lle_s (Lle_s (Lle_s (Lle_s (Lle_s (Lle_s (Lle_s (Lle_n (Lle_0))))))))) ?_
      exact ih130 z121 z122 (z123 + (-1)) h124 (by omega) (by omega) (by omega) (by omega) hT125 hF126 hL127
      refine st_if_eq c9_60 (by omega) (fun k154 => False.elim (by omega)) (fun k155 => ?_)
      refine st_iinc (L' := [some (.ref 60), some (vI p1), some (vI p2), some (vI p3), some (vI (z121 + 1)), some (vI z122), some (vI z123), some (.ref r148)]) c9_63 rfl rfl rfl ?_
      refine st_iload c9_66 rfl ?_
      refine st_if_lt c9_68 (by omega) (fun k156 => ?_) (fun k157 => ?_)
      refine st_iload c9_86 rfl ?_
      refine st_istore (L' := [some (.ref 60), some (vI p1), some (vI p2), some (vI p3), some (vI (z121 + 1)), some (vI z123), some (vI z123), some (.ref r148)]) c9_88 rfl rfl ?_
      refine st_iinc (L' := [some (.ref 60), some (vI p1), some (vI p2), some (vI p3), some (vI (z121 + 1)), some (vI z123), some (vI (z123 + (-1))), some (.ref r148)]) c9_90 rfl rfl rfl ?_
      refine st_goto c9_93 ?_
      refine MR_weak (A := [some (.ref 60), some (vI p1), some (vI p2), some (vI p3), some (vI (z121 + 1)), some (vI z123), some (vI (z123 + (-1))), none]) (Lle_s (Lle_s (Lle_s (Lle_s (Lle_s (Lle_s (Lle_s (Lle_n (Lle_0))))))))) ?_
      exact ih130 (z121 + 1) z123 (z123 + (-1)) h124 (by omega) (by omega) (by omega) (by omega) hT125 hF126 hL127
      refine st_aload c9_71 rfl ?_
      refine st_iload c9_72 rfl ?_
      refine st_callt (as := [vI z123]) c9_74 cm_8 hT125 (tf hT125 rfl rfl) fd_7_0 rfl rfl rfl rfl (by omega) (K8 hT125 (Stb_mono hS (by decide +kernel)) z123 (by omega) (I2_fr pre0 hF126 (by decide +kernel)) (d - 1) (by omega) _ (fun v h0 H => H)) (fun v1 h158 H => ?_)
      obtain ⟨z161, rfl, b162, hT159, hF160⟩ := H
      have hF163 := Fr_cp hF126 hF160 (by decide +kernel : Wsub W8 W9 = true)
      refine st_aload c9_77 rfl ?_
      refine st_iload c9_78 rfl ?_
      refine st_callt (as := [vI z122]) c9_80 cm_8 hT159 (tf hT159 rfl rfl) fd_7_0 rfl rfl rfl rfl (by omega) (K8 hT159 (Stb_mono hS (by decide +kernel)) z122 (by omega) (I2_fr pre0 hF163 (by decide +kernel)) (d - 1) (by omega) _ (fun v h0 H => H)) (fun v1 h164 H => ?_)
      obtain ⟨z167, rfl, b168, hT165, hF166⟩ := H
      have hF169 := Fr_cp hF163 hF166 (by decide +kernel : Wsub W8 W9 = true)
      refine st_icmp_ge c9_83 (by omega) (by omega) (fun k170 => ?_) (fun k171 => ?_)
      refine st_iinc (L' := [some (.ref 60), some (vI p1), some (vI p2), some (vI p3), some (vI (z121 + 1)), some (vI z122), some (vI (z123 + (-1))), some (.ref r148)]) c9_90 rfl rfl rfl ?_
      refine st_goto c9_93 ?_
      refine MR_weak (A := [some (.ref 60), some (vI p1), some (vI p2), some (vI p3), some (vI (z121 + 1)), some (vI z122), some (vI (z123 + (-1))), none]) (Lle_s (Lle_s (Lle_s (Lle_s (Lle_s (Lle_s (Lle_s (Lle_n (Lle_0))))))))) ?_
      exact ih130 (z121 + 1) z122 (z123 + (-1)) h164 (by omega) (by omega) (by omega) (by omega) hT165 hF169 (Fr_cp (Fr_cp hL127 hF160 (by decide +kernel)) hF166 (by decide +kernel))
      refine st_iload c9_86 rfl ?_
      refine st_istore (L' := [some (.ref 60), some (vI p1), some (vI p2), some (vI p3), some (vI (z121 + 1)), some (vI z123), some (vI z123), some (.ref r148)]) c9_88 rfl rfl ?_
      refine st_iinc (L' := [some (.ref 60), some (vI p1), some (vI p2), some (vI p3), some (vI (z121 + 1)), some (vI z123), some (vI (z123 + (-1))), some (.ref r148)]) c9_90 rfl rfl rfl ?_
      refine st_goto c9_93 ?_
      refine MR_weak (A := [some (.ref 60), some (vI p1), some (vI p2), some (vI p3), some (vI (z121 + 1)), some (vI z123), some (vI (z123 + (-1))), none]) (Lle_s (Lle_s (Lle_s (Lle_s (Lle_s (Lle_s (Lle_s (Lle_n (Lle_0))))))))) ?_
      exact ih130 (z121 + 1) z123 (z123 + (-1)) h164 (by omega) (by omega) (by omega) (by omega) hT165 hF169 (Fr_cp (Fr_cp hL127 hF160 (by decide +kernel)) hF166 (by decide +kernel))
  exact lp128 ((((((fI h 60 1) - 1) : Int) - (-1) : Int) + 1).toNat) 0 (-1) ((fI h 60 1) - 1) h (by omega) (by omega) (by omega) (by omega) hT hF (Fr_rf _ _ _)
def W118 : List (Nat × Nat) := [(2, 3), (20, 0), (123, 0)]
set_option maxHeartbeats 0 in
theorem K118 {Ln : Nat} {xs : Nat → Int32} {τ : List Nat} {h : List mE} {E : EP} (hT : TH E τ h) (hS : Stb E W118) (p1 : Int) (hp1 : (-2147483648) ≤ p1 ∧ p1 ≤ 2147483647) (pre0 : ID h) (d : Nat) (hd : 1 ≤ d) (Q : Option Value → List mE → Prop) (hQ : ∀ v h', (∃ z : Int, v = some (vI z) ∧ ((-3) ≤ z ∧ z ≤ 11) ∧ ((0 ≤ p1 ∧ p1 ≤ 1 ∧ fI h 6 3 ≤ 11 ∧ z = fI h 6 3 ∧ fI h' 6 3 = fI h 6 3 + 1) ∨ (0 ≤ p1 ∧ p1 ≤ 1 ∧ 12 ≤ fI h 6 3 ∧ z = -3 ∧ fI h' 6 3 = fI h 6 3) ∨ ((p1 < 0 ∨ 1 < p1) ∧ z = -1 ∧ fI h' 6 3 = fI h 6 3)) ∧ (PTown 7 6 3 h h' p1) ∧ (PTnC h h') ∧ TH E τ h' ∧ Fr τ W118 h h') → Q v h') : MR (mex Ln xs) d 118 0 [some (.ref 4), some (vI p1)] [] h Q := by
  have hF := Fr_rf τ W118 h
  refine st_iload c118_0 rfl ?_
  refine st_calls (as := [vI p1]) c118_1 cm_167 rfl rfl rfl rfl (by omega) (K167 hT p1 (by omega) (d - 1) (by omega) _ (fun v h0 H => H)) (fun v1 h1 H => ?_)
  rcases H with ⟨rfl, pf1, rfl⟩ | ⟨rfl, pf2, pf3, rfl⟩
  refine st_if_eq c118_4 (by omega) (fun k4 => ?_) (fun k5 => False.elim (by omega))
  refine st_iconst c118_18 ?_
  refine st_ireturn c118_19 ?_
  have e6 := fI_bd (q := 6) hT (tf hT rfl rfl) fd_2_3
  exact hQ _ _ ⟨(-1), rfl, by omega, by omega, Or.inl ⟨by omega, fun _ => rfl⟩, Or.inl ⟨rfl, pre0.1, fun _ _ _ _ => rfl⟩, hT, hF⟩
  refine st_if_eq c118_4 (by omega) (fun k7 => False.elim (by omega)) (fun k8 => ?_)
  refine st_aload c118_7 rfl ?_
  refine st_getX (u := 6) c118_8 hT (tf hT rfl rfl) fd_1_3 rfl ?_
  refine st_iload c118_11 rfl ?_
  have e9 := fI_bd (q := 6) hT (tf hT rfl rfl) fd_2_3
  refine st_callt (as := [vI p1]) c118_12 cm_84 hT (tf hT rfl rfl) fd_2_0 rfl rfl rfl rfl (by omega) (K84 hT (Stb_mono hS (by decide +kernel)) p1 (by omega) pre0 (d - 1) (by omega) _ (fun v h0 H => H)) (fun v1 h10 H => ?_)
  obtain ⟨z16, rfl, b17, pf13, pf14, pf15, hT11, hF12⟩ := H
  have hF18 := Fr_cp hF hF12 (by decide +kernel : Wsub W84 W118 = true)
  have e19 := fI_bd (q := 6) hT11 (tf hT11 rfl rfl) fd_2_3
  refine st_goto c118_15 ?_
  refine st_ireturn c118_19 ?_
  exact hQ _ _ ⟨z16, rfl, by omega, by omega, PTown_of (by omega) pf14, pf15, hT11, hF18⟩
set_option maxHeartbeats 0 in
theorem K172 {Ln : Nat} {xs : Nat → Int32} {τ : List Nat} {h : List mE} {E : EP} (hT : TH E τ h) (p1 : Int) (hp1 : (-2147483648) ≤ p1 ∧ p1 ≤ 2147483647) (pre0 : I8 h) (d : Nat) (hd : 1 ≤ d) (Q : Option Value → List mE → Prop) (hQ : ∀ v h', ((v = some .null ∧ h = h') ∨ (∃ r : Nat, v = some (.ref r) ∧ ty τ r 12 ∧ h = h')) → Q v h') : MR (mex Ln xs) d 172 0 [some (.ref 4), some (vI p1), none] [] h Q := by
  refine st_aload c172_0 rfl ?_
  refine st_iload c172_1 rfl ?_
  have e1 := fI_bd (q := 4) hT (tf hT rfl rfl) fd_1_12
  refine st_callt (as := [vI p1]) c172_2 cm_170 hT (tf hT rfl rfl) fd_1_0 rfl rfl rfl rfl (by omega) (K170 hT p1 (by omega) pre0 (d - 1) (by omega) _ (fun v h0 H => H)) (fun v1 h1 H => ?_)
  rcases H with ⟨rfl, nf8, rfl⟩ | ⟨r6, rfl, t7, pf2, pf3, pf4, pf5, rfl⟩
  refine st_astoreN (L' := [some (.ref 4), some (vI p1), some .null]) c172_5 rfl rfl ?_
  refine st_aloadN c172_6 rfl ?_
  refine st_ifnullN c172_7 ?_
  refine st_null c172_25 ?_
  refine st_areturnN c172_26 ?_
  exact hQ _ _ (Or.inl ⟨rfl, rfl⟩)
  refine st_astore (L' := [some (.ref 4), some (vI p1), some (.ref r6)]) c172_5 rfl rfl ?_
  refine st_aload c172_6 rfl ?_
  refine st_ifnullR c172_7 ?_
  refine st_aload c172_10 rfl ?_
  refine st_aload c172_11 rfl ?_
  refine st_getI c172_12 hT (tf hT rfl rfl) fd_1_0 (fun e9 e10 => ?_)
  refine st_callt (as := [vI (fI h 4 0)]) c172_15 cm_68 hT t7 fd_12_0 rfl rfl rfl rfl (by omega) (K68 hT r6 t7 (fI h 4 0) (by omega) (d - 1) (by omega) _ (fun v h0 H => H)) (fun v1 h1 H => ?_)
  rcases H with ⟨rfl, rfl⟩ | ⟨rfl, rfl⟩
  refine st_if_eq c172_18 (by omega) (fun k11 => ?_) (fun k12 => False.elim (by omega))
  refine st_null c172_25 ?_
  refine st_areturnN c172_26 ?_
  exact hQ _ _ (Or.inl ⟨rfl, rfl⟩)
  refine st_if_eq c172_18 (by omega) (fun k13 => False.elim (by omega)) (fun k14 => ?_)
  refine st_aload c172_21 rfl ?_
  refine st_goto c172_22 ?_
  refine st_areturn c172_26 ?_
  exact hQ _ _ (Or.inr ⟨_, rfl, t7, rfl⟩)
def W173 : List (Nat × Nat) := [(41, 0)]
set_option maxHeartbeats 0 in
theorem K173 {Ln : Nat} {xs : Nat → Int32} {τ : List Nat} {h : List mE} {E : EP} (hT : TH E τ h) (hS : Stb E W173) (q1 : Nat) (hq1 : ty τ q1 12) (pre0 : I1 τ h) (d : Nat) (hd : 5 ≤ d) (Q : Option Value → List mE → Prop) (hQ : ∀ v h', (v = none ∧ TH E τ h' ∧ Fr τ W173 h h') → Q v h') : MR (mex Ln xs) d 173 0 [some (.ref 4), some (.ref q1)] [] h Q := by
  have hF := Fr_rf τ W173 h
  refine st_aload c173_0 rfl ?_
  refine st_getX (u := 60) c173_1 hT (tf hT rfl rfl) fd_1_17 rfl ?_
  refine st_aload c173_4 rfl ?_
  refine st_aload c173_5 rfl ?_
  refine st_getI c173_6 hT (tf hT rfl rfl) fd_1_0 (fun e1 e2 => ?_)
  refine st_callt (as := [.ref q1, vI (fI h 4 0)]) c173_9 cm_4 hT (tf hT rfl rfl) fd_7_0 rfl rfl rfl rfl (by omega) (K4 hT (Stb_mono hS (by decide +kernel)) q1 hq1 (fI h 4 0) (by omega) pre0 (d - 1) (by omega) _ (fun v h0 H => H)) (fun v1 h3 H => ?_)
  obtain ⟨rfl, hT4, hF5⟩ := H
  have hF6 := Fr_cp hF hF5 (by decide +kernel : Wsub W4 W173 = true)
  refine st_aload c173_12 rfl ?_
  refine st_getX (u := 60) c173_13 hT4 (tf hT4 rfl rfl) fd_1_17 rfl ?_
  refine st_aload c173_16 rfl ?_
  refine st_aload c173_17 rfl ?_
  refine st_getI c173_18 hT4 (tf hT4 rfl rfl) fd_1_0 (fun e7 e8 => ?_)
  have q9 : fI h3 4 0 = fI h 4 0 := Fr_fI hF5 (tf hT rfl rfl) (by decide +kernel)
  refine st_aload c173_21 rfl ?_
  refine st_getX (u := 5) c173_22 hT4 (tf hT4 rfl rfl) fd_1_2 rfl ?_
  refine st_aload c173_25 rfl ?_
  refine st_getX (u := 39) c173_26 hT4 (tf hT4 rfl rfl) fd_1_13 rfl ?_
  refine st_callt (as := [.ref q1, vI (fI h3 4 0), .ref 5, .ref 39]) c173_29 cm_5 hT4 (tf hT4 rfl rfl) fd_7_0 rfl rfl rfl rfl (by omega) (K5 hT4 (Stb_mono hS (by decide +kernel)) q1 hq1 (fI h3 4 0) (by omega) (d - 1) (by omega) _ (fun v h0 H => H)) (fun v1 h10 H => ?_)
  obtain ⟨rfl, hT11, hF12⟩ := H
  have hF13 := Fr_cp hF6 hF12 (by decide +kernel : Wsub W5 W173 = true)
  refine st_return c173_32 ?_
  exact hQ _ _ ⟨rfl, hT11, hF13⟩
def W174 : List (Nat × Nat) := [(41, 0), (42, 0)]
set_option maxHeartbeats 0 in
theorem K174 {Ln : Nat} {xs : Nat → Int32} {τ : List Nat} {h : List mE} {E : EP} (hT : TH E τ h) (hS : Stb E W174) (q1 : Nat) (hq1 : ty τ q1 12) (p2 : Int) (hp2 : (-2147483648) ≤ p2 ∧ p2 ≤ 2147483647) (pre0 : I2 τ h) (d : Nat) (hd : 5 ≤ d) (Q : Option Value → List mE → Prop) (hQ : ∀ v h', (∃ z : Int, v = some (vI z) ∧ (0 ≤ z ∧ z ≤ 9999999) ∧ TH E τ h' ∧ Fr τ W174 h h') → Q v h') : MR (mex Ln xs) d 174 0 [some (.ref 4), some (.ref q1), some (vI p2)] [] h Q := by
  have hF := Fr_rf τ W174 h
  refine st_aload c174_0 rfl ?_
  refine st_getX (u := 60) c174_1 hT (tf hT rfl rfl) fd_1_17 rfl ?_
  refine st_aload c174_4 rfl ?_
  refine st_iload c174_5 rfl ?_
  refine st_callt (as := [.ref q1, vI p2]) c174_6 cm_7 hT (tf hT rfl rfl) fd_7_0 rfl rfl rfl rfl (by omega) (K7 hT (Stb_mono hS (by decide +kernel)) q1 hq1 p2 (by omega) (d - 1) (by omega) _ (fun v h0 H => H)) (fun v1 h1 H => ?_)
  obtain ⟨rfl, hT2, hF3⟩ := H
  have hF4 := Fr_cp hF hF3 (by decide +kernel : Wsub W7 W174 = true)
  refine st_aload c174_9 rfl ?_
  refine st_getX (u := 60) c174_10 hT2 (tf hT2 rfl rfl) fd_1_17 rfl ?_
  refine st_aload c174_13 rfl ?_
  refine st_getX (u := 60) c174_14 hT2 (tf hT2 rfl rfl) fd_1_17 rfl ?_
  refine st_iconst c174_17 ?_
  refine st_aload c174_18 rfl ?_
  refine st_getI c174_19 hT2 (tf hT2 rfl rfl) fd_1_0 (fun e5 e6 => ?_)
  have q7 : fI h1 4 0 = fI h 4 0 := Fr_fI hF3 (tf hT rfl rfl) (by decide +kernel)
  refine st_iconst c174_22 ?_
  refine st_idivp c174_24 (by omega) (by omega) ?_
  refine st_aload c174_25 rfl ?_
  refine st_getI c174_26 hT2 hq1 fd_12_11 (fun e8 e9 => ?_)
  have q10 : fI h1 q1 11 = fI h q1 11 := Fr_fI hF3 hq1 (by decide +kernel)
  refine st_iconst c174_29 ?_
  refine st_idivc c174_31 (by omega) (by omega) (fun w11 e12 e13 => ?_)
  refine st_callt (as := [vI 0, vI ((fI h1 4 0) / 24), vI w11]) c174_32 cm_9 hT2 (tf hT2 rfl rfl) fd_7_0 rfl rfl rfl rfl (by omega) (K9 hT2 (Stb_mono hS (by decide +kernel)) 0 (by omega) ((fI h1 4 0) / 24) (by omega) w11 (by omega) (I2_fr pre0 hF4 (by decide +kernel)) (d - 1) (by omega) _ (fun v h0 H => H)) (fun v1 h14 H => ?_)
  obtain ⟨z17, rfl, b18, hT15, hF16⟩ := H
  have hF19 := Fr_cp hF4 hF16 (by decide +kernel : Wsub W9 W174 = true)
  refine st_callt (as := [vI z17]) c174_35 cm_8 hT15 (tf hT15 rfl rfl) fd_7_0 rfl rfl rfl rfl (by omega) (K8 hT15 (Stb_mono hS (by decide +kernel)) z17 (by omega) (I2_fr pre0 hF19 (by decide +kernel)) (d - 1) (by omega) _ (fun v h0 H => H)) (fun v1 h20 H => ?_)
  obtain ⟨z23, rfl, b24, hT21, hF22⟩ := H
  have hF25 := Fr_cp hF19 hF22 (by decide +kernel : Wsub W8 W174 = true)
  refine st_ireturn c174_38 ?_
  exact hQ _ _ ⟨z23, rfl, by omega, hT21, hF25⟩
set_option maxHeartbeats 0 in
theorem K175 {Ln : Nat} {xs : Nat → Int32} {τ : List Nat} {h : List mE} {E : EP} (hT : TH E τ h) (q1 : Nat) (hq1 : ty τ q1 9) (p2 : Int) (hp2 : (-2147483648) ≤ p2 ∧ p2 ≤ 2147483647) (pre0 : I8 h) (d : Nat) (hd : 1 ≤ d) (Q : Option Value → List mE → Prop) (hQ : ∀ v h', (∃ z : Int, v = some (vI z) ∧ ((-2147483648) ≤ z ∧ z ≤ 2147483647) ∧ h = h') → Q v h') : MR (mex Ln xs) d 175 0 [some (.ref 4), some (.ref q1), some (vI p2), none, none, none] [] h Q := by
  refine st_iconst c175_0 ?_
  refine st_istore (L' := [some (.ref 4), some (.ref q1), some (vI p2), some (vI 0), none, none]) c175_1 rfl rfl ?_
  refine st_iconst c175_2 ?_
  refine st_istore (L' := [some (.ref 4), some (.ref q1), some (vI p2), some (vI 0), some (vI 0), none]) c175_3 rfl rfl ?_
  have lp178 : ∀ (n179 : Nat) (z176 : Int) (z177 : Int), (90 : Int) - z177 < (n179 : Int) → (-2147483648) ≤ z176 ∧ z176 ≤ 2147483647 → 0 ≤ z177 ∧ z177 ≤ 90 → MR (mex Ln xs) d 175 5 [some (.ref 4), some (.ref q1), some (vI p2), some (vI z176), some (vI z177), none] [] h Q := by
    intro n179
    induction n179 with
    | zero =>
      intro z176 z177 hm181 b182 b183
      exfalso; omega
    | succ n179 ih180 =>
      intro z176 z177 hm181 b182 b183
      refine st_iload c175_5 rfl ?_
      refine st_iconst c175_7 ?_
      refine st_icmp_ge c175_9 (by omega) (by omega) (fun k184 => ?_) (fun k185 => ?_)
      refine st_iload c175_60 rfl ?_
      refine st_ireturn c175_61 ?_
      exact hQ _ _ ⟨z176, rfl, by omega, rfl⟩
      refine st_aload c175_12 rfl ?_
      refine st_iload c175_13 rfl ?_
      have e186 := fI_bd (q := 4) hT (tf hT rfl rfl) fd_1_7
      refine st_callt (as := [vI z177]) c175_15 cm_169 hT (tf hT rfl rfl) fd_1_0 rfl rfl rfl rfl (by omega) (K169 hT z177 (by omega) pre0 (d - 1) (by omega) _ (fun v h0 H => H)) (fun v1 h1 H => ?_)
      rcases H with ⟨rfl, nf193, rfl⟩ | ⟨r191, rfl, t192, pf187, pf188, pf189, pf190, rfl⟩
      refine st_astoreN (L' := [some (.ref 4), some (.ref q1), some (vI p2), some (vI z176), some (vI z177), some .null]) c175_18 rfl rfl ?_
      refine st_aloadN c175_20 rfl ?_
      refine st_ifnullN c175_22 ?_
      refine st_iinc (L' := [some (.ref 4), some (.ref q1), some (vI p2), some (vI z176), some (vI (z177 + 1)), some .null]) c175_54 rfl rfl rfl ?_
      refine st_goto c175_57 ?_
      refine MR_weak (A := [some (.ref 4), some (.ref q1), some (vI p2), some (vI z176), some (vI (z177 + 1)), none]) (Lle_s (Lle_s (Lle_s (Lle_s (Lle_s (Lle_n (Lle_0))))))) ?_
      exact ih180 z176 (z177 + 1) (by omega) (by omega) (by omega)
      refine st_astore (L' := [some (.ref 4), some (.ref q1), some (vI p2), some (vI z176), some (vI z177), some (.ref r191)]) c175_18 rfl rfl ?_
      refine st_aload c175_20 rfl ?_
      refine st_ifnullR c175_22 ?_
      refine st_aload c175_25 rfl ?_
      refine st_getR c175_27 hT t192 fd_10_1 (u := 9) rfl (fun r194 e195 t196 => ?_)
      refine st_aload c175_30 rfl ?_
      refine st_acmp_ne c175_31 (ty_q t196) (ty_q hq1) (fun k197 => ?_) (fun k198 => ?_)
      refine st_iinc (L' := [some (.ref 4), some (.ref q1), some (vI p2), some (vI z176), some (vI (z177 + 1)), some (.ref r191)]) c175_54 rfl rfl rfl ?_
      refine st_goto c175_57 ?_
      refine MR_weak (A := [some (.ref 4), some (.ref q1), some (vI p2), some (vI z176), some (vI (z177 + 1)), none]) (Lle_s (Lle_s (Lle_s (Lle_s (Lle_s (Lle_n (Lle_0))))))) ?_
      exact ih180 z176 (z177 + 1) (by omega) (by omega) (by omega)
      refine st_aload c175_34 rfl ?_
      refine st_getI c175_36 hT t192 fd_10_4 (fun e199 e200 => ?_)
      refine st_iload c175_39 rfl ?_
      refine st_icmp_ne c175_40 (by omega) (by omega) (fun k201 => ?_) (fun k202 => ?_)
      refine st_iinc (L' := [some (.ref 4), some (.ref q1), some (vI p2), some (vI z176), some (vI (z177 + 1)), some (.ref r191)]) c175_54 rfl rfl rfl ?_
      refine st_goto c175_57 ?_
      refine MR_weak (A := [some (.ref 4), some (.ref q1), some (vI p2), some (vI z176), some (vI (z177 + 1)), none]) (Lle_s (Lle_s (Lle_s (Lle_s (Lle_s (Lle_n (Lle_0))))))) ?_
      exact ih180 z176 (z177 + 1) (by omega) (by omega) (by omega)
      refine st_aload c175_43 rfl ?_
      refine st_callt (as := []) c175_45 cm_36 hT t192 fd_10_0 rfl rfl rfl rfl (by omega) (K36 hT r191 t192 (d - 1) (by omega) _ (fun v h0 H => H)) (fun v1 h1 H => ?_)
      rcases H with ⟨rfl, rfl⟩ | ⟨rfl, rfl⟩
      refine st_if_eq c175_48 (by omega) (fun k203 => ?_) (fun k204 => False.elim (by omega))
      refine st_iinc (L' := [some (.ref 4), some (.ref q1), some (vI p2), some (vI z176), some (vI (z177 + 1)), some (.ref r191)]) c175_54 rfl rfl rfl ?_
      refine st_goto c175_57 ?_
      refine MR_weak (A := [some (.ref 4), some (.ref q1), some (vI p2), some (vI z176), some (vI (z177 + 1)), none]) (Lle_s (Lle_s (Lle_s (Lle_s (Lle_s (Lle_n (Lle_0))))))) ?_
      exact ih180 z176 (z177 + 1) (by omega) (by omega) (by omega)
      refine st_if_eq c175_48 (by omega) (fun k205 => False.elim (by omega)) (fun k206 => ?_)
      refine st_iinc (L' := [some (.ref 4), some (.ref q1), some (vI p2), some (vI (z176 + 1)), some (vI z177), some (.ref r191)]) c175_51 rfl rfl rfl ?_
      refine st_iinc (L' := [some (.ref 4), some (.ref q1), some (vI p2), some (vI (z176 + 1)), some (vI (z177 + 1)), some (.ref r191)]) c175_54 rfl rfl rfl ?_
      refine st_goto c175_57 ?_
      have e208 : vI (z176 + 1) = vI (Int32.ofInt (z176 + 1)).toInt := by unfold vI; rw [Int32.ofInt_toInt]
      rw [e208]
      have b209 := to_lo (Int32.ofInt (z176 + 1))
      have b210 := to_hi (Int32.ofInt (z176 + 1))
      refine MR_weak (A := [some (.ref 4), some (.ref q1), some (vI p2), some (vI ((Int32.ofInt (z176 + 1)).toInt)), some (vI (z177 + 1)), none]) (Lle_s (Lle_s (Lle_s (Lle_s (Lle_s (Lle_n (Lle_0))))))) ?_
      exact ih180 ((Int32.ofInt (z176 + 1)).toInt) (z177 + 1) (by omega) (by omega) (by omega)
  exact lp178 ((((90 : Int) - 0 : Int) + 1).toNat) 0 0 (by omega) (by omega) (by omega)
set_option maxHeartbeats 0 in
theorem K176 {Ln : Nat} {xs : Nat → Int32} {τ : List Nat} {h : List mE} {E : EP} (hT : TH E τ h) (q1 : Nat) (hq1 : ty τ q1 9) (p2 : Int) (hp2 : (-2147483648) ≤ p2 ∧ p2 ≤ 2147483647) (pre0 : I8 h) (d : Nat) (hd : 1 ≤ d) (Q : Option Value → List mE → Prop) (hQ : ∀ v h', (∃ z : Int, v = some (vI z) ∧ ((-2147483648) ≤ z ∧ z ≤ 2147483647) ∧ h = h') → Q v h') : MR (mex Ln xs) d 176 0 [some (.ref 4), some (.ref q1), some (vI p2), none, none, none] [] h Q := by
  refine st_iconst c176_0 ?_
  refine st_istore (L' := [some (.ref 4), some (.ref q1), some (vI p2), some (vI 0), none, none]) c176_1 rfl rfl ?_
  refine st_iconst c176_2 ?_
  refine st_istore (L' := [some (.ref 4), some (.ref q1), some (vI p2), some (vI 0), some (vI 0), none]) c176_3 rfl rfl ?_
  have lp220 : ∀ (n221 : Nat) (z218 : Int) (z219 : Int), (100 : Int) - z219 < (n221 : Int) → (-2147483648) ≤ z218 ∧ z218 ≤ 2147483647 → 0 ≤ z219 ∧ z219 ≤ 100 → MR (mex Ln xs) d 176 5 [some (.ref 4), some (.ref q1), some (vI p2), some (vI z218), some (vI z219), none] [] h Q := by
    intro n221
    induction n221 with
    | zero =>
      intro z218 z219 hm223 b224 b225
      exfalso; omega
    | succ n221 ih222 =>
      intro z218 z219 hm223 b224 b225
      refine st_iload c176_5 rfl ?_
      refine st_iconst c176_7 ?_
      refine st_icmp_ge c176_9 (by omega) (by omega) (fun k226 => ?_) (fun k227 => ?_)
      refine st_iload c176_68 rfl ?_
      refine st_ireturn c176_69 ?_
      exact hQ _ _ ⟨z218, rfl, by omega, rfl⟩
      refine st_aload c176_12 rfl ?_
      refine st_iload c176_13 rfl ?_
      have e228 := fI_bd (q := 4) hT (tf hT rfl rfl) fd_1_12
      refine st_callt (as := [vI z219]) c176_15 cm_170 hT (tf hT rfl rfl) fd_1_0 rfl rfl rfl rfl (by omega) (K170 hT z219 (by omega) pre0 (d - 1) (by omega) _ (fun v h0 H => H)) (fun v1 h1 H => ?_)
      rcases H with ⟨rfl, nf235, rfl⟩ | ⟨r233, rfl, t234, pf229, pf230, pf231, pf232, rfl⟩
      refine st_astoreN (L' := [some (.ref 4), some (.ref q1), some (vI p2), some (vI z218), some (vI z219), some .null]) c176_18 rfl rfl ?_
      refine st_aloadN c176_20 rfl ?_
      refine st_ifnullN c176_22 ?_
      refine st_iinc (L' := [some (.ref 4), some (.ref q1), some (vI p2), some (vI z218), some (vI (z219 + 1)), some .null]) c176_62 rfl rfl rfl ?_
      refine st_goto c176_65 ?_
      refine MR_weak (A := [some (.ref 4), some (.ref q1), some (vI p2), some (vI z218), some (vI (z219 + 1)), none]) (Lle_s (Lle_s (Lle_s (Lle_s (Lle_s (Lle_n (Lle_0))))))) ?_
      exact ih222 z218 (z219 + 1) (by omega) (by omega) (by omega)
      refine st_astore (L' := [some (.ref 4), some (.ref q1), some (vI p2), some (vI z218), some (vI z219), some (.ref r233)]) c176_18 rfl rfl ?_
      refine st_aload c176_20 rfl ?_
      refine st_ifnullR c176_22 ?_
      refine st_aload c176_25 rfl ?_
      refine st_getR c176_27 hT t234 fd_12_5 (u := 9) rfl (fun r236 e237 t238 => ?_)
      refine st_aload c176_30 rfl ?_
      refine st_acmp_ne c176_31 (ty_q t238) (ty_q hq1) (fun k239 => ?_) (fun k240 => ?_)
      refine st_iinc (L' := [some (.ref 4), some (.ref q1), some (vI p2), some (vI z218), some (vI (z219 + 1)), some (.ref r233)]) c176_62 rfl rfl rfl ?_
      refine st_goto c176_65 ?_
      refine MR_weak (A := [some (.ref 4), some (.ref q1), some (vI p2), some (vI z218), some (vI (z219 + 1)), none]) (Lle_s (Lle_s (Lle_s (Lle_s (Lle_s (Lle_n (Lle_0))))))) ?_
      exact ih222 z218 (z219 + 1) (by omega) (by omega) (by omega)
      refine st_aload c176_34 rfl ?_
      refine st_getI c176_36 hT t234 fd_12_7 (fun e241 e242 => ?_)
      refine st_iload c176_39 rfl ?_
      refine st_icmp_ne c176_40 (by omega) (by omega) (fun k243 => ?_) (fun k244 => ?_)
      refine st_iinc (L' := [some (.ref 4), some (.ref q1), some (vI p2), some (vI z218), some (vI (z219 + 1)), some (.ref r233)]) c176_62 rfl rfl rfl ?_
      refine st_goto c176_65 ?_
      refine MR_weak (A := [some (.ref 4), some (.ref q1), some (vI p2), some (vI z218), some (vI (z219 + 1)), none]) (Lle_s (Lle_s (Lle_s (Lle_s (Lle_s (Lle_n (Lle_0))))))) ?_
      exact ih222 z218 (z219 + 1) (by omega) (by omega) (by omega)
      refine st_aload c176_43 rfl ?_
      refine st_getI c176_44 hT (tf hT rfl rfl) fd_1_0 (fun e245 e246 => ?_)
      refine st_aload c176_47 rfl ?_
      refine st_getI c176_49 hT t234 fd_12_4 (fun e247 e248 => ?_)
      refine st_isub c176_52 ?_
      refine MR_wrap (fun w249 e250 e251 e252 => ?_)
      refine st_iconst c176_53 ?_
      refine st_icmp_ge c176_56 (by omega) (by omega) (fun k253 => ?_) (fun k254 => ?_)
      refine st_iinc (L' := [some (.ref 4), some (.ref q1), some (vI p2), some (vI z218), some (vI (z219 + 1)), some (.ref r233)]) c176_62 rfl rfl rfl ?_
      refine st_goto c176_65 ?_
      refine MR_weak (A := [some (.ref 4), some (.ref q1), some (vI p2), some (vI z218), some (vI (z219 + 1)), none]) (Lle_s (Lle_s (Lle_s (Lle_s (Lle_s (Lle_n (Lle_0))))))) ?_
      exact ih222 z218 (z219 + 1) (by omega) (by omega) (by omega)
      refine st_iinc (L' := [some (.ref 4), some (.ref q1), some (vI p2), some (vI (z218 + 1)), some (vI z219), some (.ref r233)]) c176_59 rfl rfl rfl ?_
      refine st_iinc (L' := [some (.ref 4), some (.ref q1), some (vI p2), some (vI (z218 + 1)), some (vI (z219 + 1)), some (.ref r233)]) c176_62 rfl rfl rfl ?_
      refine st_goto c176_65 ?_
      have e256 : vI (z218 + 1) = vI (Int32.ofInt (z218 + 1)).toInt := by unfold vI; rw [Int32.ofInt_toInt]
      rw [e256]
      have b257 := to_lo (Int32.ofInt (z218 + 1))
      have b258 := to_hi (Int32.ofInt (z218 + 1))
      refine MR_weak (A := [some (.ref 4), some (.ref q1), some (vI p2), some (vI ((Int32.ofInt (z218 + 1)).toInt)), some (vI (z219 + 1)), none]) (Lle_s (Lle_s (Lle_s (Lle_s (Lle_s (Lle_n (Lle_0))))))) ?_
      exact ih222 ((Int32.ofInt (z218 + 1)).toInt) (z219 + 1) (by omega) (by omega) (by omega)
  exact lp220 ((((100 : Int) - 0 : Int) + 1).toNat) 0 0 (by omega) (by omega) (by omega)
set_option maxHeartbeats 0 in
theorem K177 {Ln : Nat} {xs : Nat → Int32} {τ : List Nat} {h : List mE} {E : EP} (hT : TH E τ h) (p1 : Int) (hp1 : (-2147483648) ≤ p1 ∧ p1 ≤ 2147483647) (pre0 : I8 h) (d : Nat) (hd : 1 ≤ d) (Q : Option Value → List mE → Prop) (hQ : ∀ v h', (∃ z : Int, v = some (vI z) ∧ ((-2147483648) ≤ z ∧ z ≤ 2147483647) ∧ h = h') → Q v h') : MR (mex Ln xs) d 177 0 [some (.ref 4), some (vI p1), none, none, none] [] h Q := by
  refine st_iconst c177_0 ?_
  refine st_istore (L' := [some (.ref 4), some (vI p1), some (vI 0), none, none]) c177_1 rfl rfl ?_
  refine st_iconst c177_2 ?_
  refine st_istore (L' := [some (.ref 4), some (vI p1), some (vI 0), some (vI 0), none]) c177_3 rfl rfl ?_
  have lp115 : ∀ (n116 : Nat) (z113 : Int) (z114 : Int), (90 : Int) - z114 < (n116 : Int) → (-2147483648) ≤ z113 ∧ z113 ≤ 2147483647 → 0 ≤ z114 ∧ z114 ≤ 90 → MR (mex Ln xs) d 177 4 [some (.ref 4), some (vI p1), some (vI z113), some (vI z114), none] [] h Q := by
    intro n116
    induction n116 with
    | zero =>
      intro z113 z114 hm118 b119 b120
      exfalso; omega
    | succ n116 ih117 =>
      intro z113 z114 hm118 b119 b120
      refine st_iload c177_4 rfl ?_
      refine st_iconst c177_5 ?_
      refine st_icmp_ge c177_7 (by omega) (by omega) (fun k121 => ?_) (fun k122 => ?_)
      refine st_iload c177_40 rfl ?_
      refine st_ireturn c177_41 ?_
      exact hQ _ _ ⟨z113, rfl, by omega, rfl⟩
      refine st_aload c177_10 rfl ?_
      refine st_iload c177_11 rfl ?_
      have e123 := fI_bd (q := 4) hT (tf hT rfl rfl) fd_1_7
      refine st_callt (as := [vI z114]) c177_12 cm_169 hT (tf hT rfl rfl) fd_1_0 rfl rfl rfl rfl (by omega) (K169 hT z114 (by omega) pre0 (d - 1) (by omega) _ (fun v h0 H => H)) (fun v1 h1 H => ?_)
      rcases H with ⟨rfl, nf130, rfl⟩ | ⟨r128, rfl, t129, pf124, pf125, pf126, pf127, rfl⟩
      refine st_astoreN (L' := [some (.ref 4), some (vI p1), some (vI z113), some (vI z114), some .null]) c177_15 rfl rfl ?_
      refine st_aloadN c177_17 rfl ?_
      refine st_ifnullN c177_19 ?_
      refine st_iinc (L' := [some (.ref 4), some (vI p1), some (vI z113), some (vI (z114 + 1)), some .null]) c177_34 rfl rfl rfl ?_
      refine st_goto c177_37 ?_
      refine MR_weak (A := [some (.ref 4), some (vI p1), some (vI z113), some (vI (z114 + 1)), none]) (Lle_s (Lle_s (Lle_s (Lle_s (Lle_n (Lle_0)))))) ?_
      exact ih117 z113 (z114 + 1) (by omega) (by omega) (by omega)
      refine st_astore (L' := [some (.ref 4), some (vI p1), some (vI z113), some (vI z114), some (.ref r128)]) c177_15 rfl rfl ?_
      refine st_aload c177_17 rfl ?_
      refine st_ifnullR c177_19 ?_
      refine st_aload c177_22 rfl ?_
      refine st_getI c177_24 hT t129 fd_10_3 (fun e131 e132 => ?_)
      refine st_iload c177_27 rfl ?_
      refine st_icmp_ne c177_28 (by omega) (by omega) (fun k133 => ?_) (fun k134 => ?_)
      refine st_iinc (L' := [some (.ref 4), some (vI p1), some (vI z113), some (vI (z114 + 1)), some (.ref r128)]) c177_34 rfl rfl rfl ?_
      refine st_goto c177_37 ?_
      refine MR_weak (A := [some (.ref 4), some (vI p1), some (vI z113), some (vI (z114 + 1)), none]) (Lle_s (Lle_s (Lle_s (Lle_s (Lle_n (Lle_0)))))) ?_
      exact ih117 z113 (z114 + 1) (by omega) (by omega) (by omega)
      refine st_iinc (L' := [some (.ref 4), some (vI p1), some (vI (z113 + 1)), some (vI z114), some (.ref r128)]) c177_31 rfl rfl rfl ?_
      refine st_iinc (L' := [some (.ref 4), some (vI p1), some (vI (z113 + 1)), some (vI (z114 + 1)), some (.ref r128)]) c177_34 rfl rfl rfl ?_
      refine st_goto c177_37 ?_
      have e136 : vI (z113 + 1) = vI (Int32.ofInt (z113 + 1)).toInt := by unfold vI; rw [Int32.ofInt_toInt]
      rw [e136]
      have b137 := to_lo (Int32.ofInt (z113 + 1))
      have b138 := to_hi (Int32.ofInt (z113 + 1))
      refine MR_weak (A := [some (.ref 4), some (vI p1), some (vI ((Int32.ofInt (z113 + 1)).toInt)), some (vI (z114 + 1)), none]) (Lle_s (Lle_s (Lle_s (Lle_s (Lle_n (Lle_0)))))) ?_
      exact ih117 ((Int32.ofInt (z113 + 1)).toInt) (z114 + 1) (by omega) (by omega) (by omega)
  exact lp115 ((((90 : Int) - 0 : Int) + 1).toNat) 0 0 (by omega) (by omega) (by omega)
set_option maxHeartbeats 0 in
theorem K178 {Ln : Nat} {xs : Nat → Int32} {τ : List Nat} {h : List mE} {E : EP} (hT : TH E τ h) (p1 : Int) (hp1 : (-2147483648) ≤ p1 ∧ p1 ≤ 2147483647) (pre0 : I8 h) (d : Nat) (hd : 1 ≤ d) (Q : Option Value → List mE → Prop) (hQ : ∀ v h', (∃ z : Int, v = some (vI z) ∧ ((-2147483648) ≤ z ∧ z ≤ 2147483647) ∧ h = h') → Q v h') : MR (mex Ln xs) d 178 0 [some (.ref 4), some (vI p1), none, none, none] [] h Q := by
  refine st_iconst c178_0 ?_
  refine st_istore (L' := [some (.ref 4), some (vI p1), some (vI 0), none, none]) c178_1 rfl rfl ?_
  refine st_iconst c178_2 ?_
  refine st_istore (L' := [some (.ref 4), some (vI p1), some (vI 0), some (vI 0), none]) c178_3 rfl rfl ?_
  have lp115 : ∀ (n116 : Nat) (z113 : Int) (z114 : Int), (100 : Int) - z114 < (n116 : Int) → (-2147483648) ≤ z113 ∧ z113 ≤ 2147483647 → 0 ≤ z114 ∧ z114 ≤ 100 → MR (mex Ln xs) d 178 4 [some (.ref 4), some (vI p1), some (vI z113), some (vI z114), none] [] h Q := by
    intro n116
    induction n116 with
    | zero =>
      intro z113 z114 hm118 b119 b120
      exfalso; omega
    | succ n116 ih117 =>
      intro z113 z114 hm118 b119 b120
      refine st_iload c178_4 rfl ?_
      refine st_iconst c178_5 ?_
      refine st_icmp_ge c178_7 (by omega) (by omega) (fun k121 => ?_) (fun k122 => ?_)
      refine st_iload c178_40 rfl ?_
      refine st_ireturn c178_41 ?_
      exact hQ _ _ ⟨z113, rfl, by omega, rfl⟩
      refine st_aload c178_10 rfl ?_
      refine st_iload c178_11 rfl ?_
      have e123 := fI_bd (q := 4) hT (tf hT rfl rfl) fd_1_12
      refine st_callt (as := [vI z114]) c178_12 cm_170 hT (tf hT rfl rfl) fd_1_0 rfl rfl rfl rfl (by omega) (K170 hT z114 (by omega) pre0 (d - 1) (by omega) _ (fun v h0 H => H)) (fun v1 h1 H => ?_)
      rcases H with ⟨rfl, nf130, rfl⟩ | ⟨r128, rfl, t129, pf124, pf125, pf126, pf127, rfl⟩
      refine st_astoreN (L' := [some (.ref 4), some (vI p1), some (vI z113), some (vI z114), some .null]) c178_15 rfl rfl ?_
      refine st_aloadN c178_17 rfl ?_
      refine st_ifnullN c178_19 ?_
      refine st_iinc (L' := [some (.ref 4), some (vI p1), some (vI z113), some (vI (z114 + 1)), some .null]) c178_34 rfl rfl rfl ?_
      refine st_goto c178_37 ?_
      refine MR_weak (A := [some (.ref 4), some (vI p1), some (vI z113), some (vI (z114 + 1)), none]) (Lle_s (Lle_s (Lle_s (Lle_s (Lle_n (Lle_0)))))) ?_
      exact ih117 z113 (z114 + 1) (by omega) (by omega) (by omega)
      refine st_astore (L' := [some (.ref 4), some (vI p1), some (vI z113), some (vI z114), some (.ref r128)]) c178_15 rfl rfl ?_
      refine st_aload c178_17 rfl ?_
      refine st_ifnullR c178_19 ?_
      refine st_aload c178_22 rfl ?_
      refine st_getI c178_24 hT t129 fd_12_9 (fun e131 e132 => ?_)
      refine st_iload c178_27 rfl ?_
      refine st_icmp_ne c178_28 (by omega) (by omega) (fun k133 => ?_) (fun k134 => ?_)
      refine st_iinc (L' := [some (.ref 4), some (vI p1), some (vI z113), some (vI (z114 + 1)), some (.ref r128)]) c178_34 rfl rfl rfl ?_
      refine st_goto c178_37 ?_
      refine MR_weak (A := [some (.ref 4), some (vI p1), some (vI z113), some (vI (z114 + 1)), none]) (Lle_s (Lle_s (Lle_s (Lle_s (Lle_n (Lle_0)))))) ?_
      exact ih117 z113 (z114 + 1) (by omega) (by omega) (by omega)
      refine st_iinc (L' := [some (.ref 4), some (vI p1), some (vI (z113 + 1)), some (vI z114), some (.ref r128)]) c178_31 rfl rfl rfl ?_
      refine st_iinc (L' := [some (.ref 4), some (vI p1), some (vI (z113 + 1)), some (vI (z114 + 1)), some (.ref r128)]) c178_34 rfl rfl rfl ?_
      refine st_goto c178_37 ?_
      have e136 : vI (z113 + 1) = vI (Int32.ofInt (z113 + 1)).toInt := by unfold vI; rw [Int32.ofInt_toInt]
      rw [e136]
      have b137 := to_lo (Int32.ofInt (z113 + 1))
      have b138 := to_hi (Int32.ofInt (z113 + 1))
      refine MR_weak (A := [some (.ref 4), some (vI p1), some (vI ((Int32.ofInt (z113 + 1)).toInt)), some (vI (z114 + 1)), none]) (Lle_s (Lle_s (Lle_s (Lle_s (Lle_n (Lle_0)))))) ?_
      exact ih117 ((Int32.ofInt (z113 + 1)).toInt) (z114 + 1) (by omega) (by omega) (by omega)
  exact lp115 ((((100 : Int) - 0 : Int) + 1).toNat) 0 0 (by omega) (by omega) (by omega)
def W119 : List (Nat × Nat) := [(122, 0), (123, 0)]
set_option maxHeartbeats 0 in
theorem K119 {Ln : Nat} {xs : Nat → Int32} {τ : List Nat} {h : List mE} {E : EP} (hT : TH E τ h) (hS : Stb E W119) (p1 : Int) (hp1 : (-2147483648) ≤ p1 ∧ p1 ≤ 2147483647) (p2 : Int) (hp2 : (-2147483648) ≤ p2 ∧ p2 ≤ 2147483647) (p3 : Int) (hp3 : (-2147483648) ≤ p3 ∧ p3 ≤ 2147483647) (pre0 : ID h) (d : Nat) (hd : 3 ≤ d) (Q : Option Value → List mE → Prop) (hQ : ∀ v h', (∃ z : Int, v = some (vI z) ∧ ((-1) ≤ z ∧ z ≤ 300) ∧ (PRdC τ h h' p1 p2 p3 z) ∧ TH E τ h' ∧ Fr τ W119 h h') → Q v h') : MR (mex Ln xs) d 119 0 [some (.ref 4), some (vI p1), some (vI p2), some (vI p3)] [] h Q := by
  have hF := Fr_rf τ W119 h
  refine st_aload c119_0 rfl ?_
  refine st_getX (u := 6) c119_1 hT (tf hT rfl rfl) fd_1_3 rfl ?_
  refine st_iload c119_4 rfl ?_
  have e1 := fI_bd (q := 6) hT (tf hT rfl rfl) fd_2_3
  refine st_callt (as := [vI p1]) c119_5 cm_85 hT (tf hT rfl rfl) fd_2_0 rfl rfl rfl rfl (by omega) (K85 hT p1 (by omega) (d - 1) (by omega) _ (fun v h0 H => H)) (fun v1 h1 H => ?_)
  rcases H with ⟨rfl, pf2, rfl⟩ | ⟨rfl, pf3, pf4, rfl⟩
  refine st_if_eq c119_8 (by omega) (fun k5 => ?_) (fun k6 => False.elim (by omega))
  refine st_iconst c119_38 ?_
  refine st_ireturn c119_39 ?_
  exact hQ _ _ ⟨(-1), rfl, by omega, Or.inl ⟨by omega, by omega, rfl⟩, hT, hF⟩
  refine st_if_eq c119_8 (by omega) (fun k7 => False.elim (by omega)) (fun k8 => ?_)
  refine st_aload c119_11 rfl ?_
  refine st_getX (u := 6) c119_12 hT (tf hT rfl rfl) fd_1_3 rfl ?_
  refine st_iload c119_15 rfl ?_
  refine st_callt (as := [vI p2]) c119_16 cm_85 hT (tf hT rfl rfl) fd_2_0 rfl rfl rfl rfl (by omega) (K85 hT p2 (by omega) (d - 1) (by omega) _ (fun v h0 H => H)) (fun v1 h1 H => ?_)
  rcases H with ⟨rfl, pf9, rfl⟩ | ⟨rfl, pf10, pf11, rfl⟩
  refine st_if_eq c119_19 (by omega) (fun k12 => ?_) (fun k13 => False.elim (by omega))
  refine st_iconst c119_38 ?_
  refine st_ireturn c119_39 ?_
  exact hQ _ _ ⟨(-1), rfl, by omega, Or.inl ⟨by omega, by omega, rfl⟩, hT, hF⟩
  refine st_if_eq c119_19 (by omega) (fun k14 => False.elim (by omega)) (fun k15 => ?_)
  refine st_iload c119_22 rfl ?_
  refine st_iload c119_23 rfl ?_
  refine st_icmp_eq c119_24 (by omega) (by omega) (fun k16 => ?_) (fun k17 => ?_)
  refine st_iconst c119_38 ?_
  refine st_ireturn c119_39 ?_
  exact hQ _ _ ⟨(-1), rfl, by omega, Or.inl ⟨by omega, by omega, rfl⟩, hT, hF⟩
  refine st_iload c119_27 rfl ?_
  refine st_iconst c119_28 ?_
  refine st_iconst c119_29 ?_
  refine st_calls (as := [vI p3, vI 1, vI 300]) c119_32 cm_166 rfl rfl rfl rfl (by omega) (K166 hT p3 (by omega) 1 (by omega) 300 (by omega) (d - 1) (by omega) _ (fun v h0 H => H)) (fun v1 h1 H => ?_)
  rcases H with ⟨rfl, pf18, rfl⟩ | ⟨rfl, pf19, pf20, rfl⟩
  refine st_if_ne c119_35 (by omega) (fun k21 => False.elim (by omega)) (fun k22 => ?_)
  refine st_iconst c119_38 ?_
  refine st_ireturn c119_39 ?_
  exact hQ _ _ ⟨(-1), rfl, by omega, Or.inl ⟨by omega, by omega, rfl⟩, hT, hF⟩
  refine st_if_ne c119_35 (by omega) (fun k23 => ?_) (fun k24 => False.elim (by omega))
  refine st_aload c119_40 rfl ?_
  refine st_getX (u := 6) c119_41 hT (tf hT rfl rfl) fd_1_3 rfl ?_
  refine st_iload c119_44 rfl ?_
  refine st_iload c119_45 rfl ?_
  refine st_iload c119_46 rfl ?_
  refine st_callt (as := [vI p1, vI p2, vI p3]) c119_47 cm_87 hT (tf hT rfl rfl) fd_2_0 rfl rfl rfl rfl (by omega) (K87 hT (Stb_mono hS (by decide +kernel)) p1 (by omega) p2 (by omega) p3 (by omega) pre0 (d - 1) (by omega) _ (fun v h0 H => H)) (fun v1 h25 H => ?_)
  obtain ⟨z29, rfl, b30, pf28, hT26, hF27⟩ := H
  have hF31 := Fr_cp hF hF27 (by decide +kernel : Wsub W87 W119 = true)
  refine st_ireturn c119_50 ?_
  exact hQ _ _ ⟨z29, rfl, by omega, Or.inr ⟨by omega, by omega, by omega, by omega, by omega, by omega, by omega, pf28⟩, hT26, hF31⟩
set_option maxHeartbeats 0 in
theorem K120 {Ln : Nat} {xs : Nat → Int32} {τ : List Nat} {h : List mE} {E : EP} (hT : TH E τ h) (p1 : Int) (hp1 : (-2147483648) ≤ p1 ∧ p1 ≤ 2147483647) (p2 : Int) (hp2 : (-2147483648) ≤ p2 ∧ p2 ≤ 2147483647) (d : Nat) (hd : 2 ≤ d) (Q : Option Value → List mE → Prop) (hQ : ∀ v h', (∃ z : Int, v = some (vI z) ∧ ((-2) ≤ z ∧ z ≤ 2147483647) ∧ (PFarC h p1 p2 z) ∧ h = h') → Q v h') : MR (mex Ln xs) d 120 0 [some (.ref 4), some (vI p1), some (vI p2), none] [] h Q := by
  refine st_aload c120_0 rfl ?_
  refine st_getX (u := 6) c120_1 hT (tf hT rfl rfl) fd_1_3 rfl ?_
  refine st_iload c120_4 rfl ?_
  have e1 := fI_bd (q := 6) hT (tf hT rfl rfl) fd_2_3
  refine st_callt (as := [vI p1]) c120_5 cm_85 hT (tf hT rfl rfl) fd_2_0 rfl rfl rfl rfl (by omega) (K85 hT p1 (by omega) (d - 1) (by omega) _ (fun v h0 H => H)) (fun v1 h1 H => ?_)
  rcases H with ⟨rfl, pf2, rfl⟩ | ⟨rfl, pf3, pf4, rfl⟩
  refine st_if_eq c120_8 (by omega) (fun k5 => ?_) (fun k6 => False.elim (by omega))
  refine st_iconst c120_22 ?_
  refine st_ireturn c120_23 ?_
  exact hQ _ _ ⟨(-1), rfl, by omega, Or.inl ⟨by omega, by omega⟩, rfl⟩
  refine st_if_eq c120_8 (by omega) (fun k7 => False.elim (by omega)) (fun k8 => ?_)
  refine st_aload c120_11 rfl ?_
  refine st_getX (u := 6) c120_12 hT (tf hT rfl rfl) fd_1_3 rfl ?_
  refine st_iload c120_15 rfl ?_
  refine st_callt (as := [vI p2]) c120_16 cm_85 hT (tf hT rfl rfl) fd_2_0 rfl rfl rfl rfl (by omega) (K85 hT p2 (by omega) (d - 1) (by omega) _ (fun v h0 H => H)) (fun v1 h1 H => ?_)
  rcases H with ⟨rfl, pf9, rfl⟩ | ⟨rfl, pf10, pf11, rfl⟩
  refine st_if_ne c120_19 (by omega) (fun k12 => False.elim (by omega)) (fun k13 => ?_)
  refine st_iconst c120_22 ?_
  refine st_ireturn c120_23 ?_
  exact hQ _ _ ⟨(-1), rfl, by omega, Or.inl ⟨by omega, by omega⟩, rfl⟩
  refine st_if_ne c120_19 (by omega) (fun k14 => ?_) (fun k15 => False.elim (by omega))
  refine st_aload c120_24 rfl ?_
  refine st_getX (u := 6) c120_25 hT (tf hT rfl rfl) fd_1_3 rfl ?_
  refine st_iload c120_28 rfl ?_
  refine st_iload c120_29 rfl ?_
  refine st_callt (as := [vI p1, vI p2]) c120_30 cm_89 hT (tf hT rfl rfl) fd_2_0 rfl rfl rfl rfl (by omega) (K89 hT p1 (by omega) p2 (by omega) (d - 1) (by omega) _ (fun v h0 H => H)) (fun v1 h1 H => ?_)
  obtain ⟨z17, rfl, b18, pf16, rfl⟩ := H
  refine st_istore (L' := [some (.ref 4), some (vI p1), some (vI p2), some (vI z17)]) c120_33 rfl rfl ?_
  refine st_iload c120_34 rfl ?_
  refine st_if_ge c120_35 (by omega) (fun k19 => ?_) (fun k20 => ?_)
  refine st_iload c120_43 rfl ?_
  refine st_ireturn c120_44 ?_
  exact hQ _ _ ⟨z17, rfl, by omega, Or.inr ⟨by omega, by omega, by omega, by omega, z17, pf16, by omega⟩, rfl⟩
  refine st_iconst c120_38 ?_
  refine st_goto c120_40 ?_
  refine st_ireturn c120_44 ?_
  exact hQ _ _ ⟨(-2), rfl, by omega, Or.inr ⟨by omega, by omega, by omega, by omega, z17, pf16, by omega⟩, rfl⟩
def W121 : List (Nat × Nat) := [(1, 0), (10, 3), (10, 5), (10, 6), (10, 7)]
set_option maxHeartbeats 0 in
theorem K121 {Ln : Nat} {xs : Nat → Int32} {τ : List Nat} {h : List mE} {E : EP} (hT : TH E τ h) (hS : Stb E W121) (p1 : Int) (hp1 : (-2147483648) ≤ p1 ∧ p1 ≤ 2147483647) (pre0 : I8 h) (d : Nat) (hd : 1 ≤ d) (Q : Option Value → List mE → Prop) (hQ : ∀ v h', (∃ z : Int, v = some (vI z) ∧ ((-1) ≤ z ∧ z ≤ 23999) ∧ ((1 ≤ p1 ∧ p1 ≤ 240 ∧ fI h 4 0 + p1 ≤ 23999 ∧ z = fI h 4 0 + p1 ∧ fI h' 4 0 = fI h 4 0 + p1) ∨ ((p1 < 1 ∨ 240 < p1 ∨ 23999 < fI h 4 0 + p1) ∧ z = -1 ∧ fI h' 4 0 = fI h 4 0)) ∧ TH E τ h' ∧ Fr τ W121 h h') → Q v h') : MR (mex Ln xs) d 121 0 [some (.ref 4), some (vI p1), none, none] [] h Q := by
  have hF := Fr_rf τ W121 h
  refine st_iload c121_0 rfl ?_
  refine st_iconst c121_1 ?_
  refine st_iconst c121_2 ?_
  refine st_calls (as := [vI p1, vI 1, vI 240]) c121_5 cm_166 rfl rfl rfl rfl (by omega) (K166 hT p1 (by omega) 1 (by omega) 240 (by omega) (d - 1) (by omega) _ (fun v h0 H => H)) (fun v1 h1 H => ?_)
  rcases H with ⟨rfl, pf1, rfl⟩ | ⟨rfl, pf2, pf3, rfl⟩
  refine st_if_eq c121_8 (by omega) (fun k4 => ?_) (fun k5 => False.elim (by omega))
  refine st_iconst c121_23 ?_
  refine st_ireturn c121_24 ?_
  have e6 := fI_bd (q := 4) hT (tf hT rfl rfl) fd_1_0
  exact hQ _ _ ⟨(-1), rfl, by omega, by omega, hT, hF⟩
  refine st_if_eq c121_8 (by omega) (fun k7 => False.elim (by omega)) (fun k8 => ?_)
  refine st_aload c121_11 rfl ?_
  refine st_getI c121_12 hT (tf hT rfl rfl) fd_1_0 (fun e9 e10 => ?_)
  refine st_iload c121_15 rfl ?_
  refine st_iadd c121_16 ?_
  refine st_iconst c121_17 ?_
  refine st_icmp_le c121_20 (by omega) (by omega) (fun k11 => ?_) (fun k12 => ?_)
  refine st_aload c121_25 rfl ?_
  refine st_dup c121_26 rfl ?_
  refine st_getI c121_27 hT (tf hT rfl rfl) fd_1_0 (fun e13 e14 => ?_)
  refine st_iload c121_30 rfl ?_
  refine st_iadd c121_31 ?_
  refine st_putI c121_32 hT (tf hT rfl rfl) fd_1_0 (by omega) (by omega) (Ext_rf _) hS hF (by decide +kernel) (fun h15 hT16 hF17 hU18 => ?_)
  refine st_iconst c121_35 ?_
  refine st_istore (L' := [some (.ref 4), some (vI p1), some (vI 0), none]) c121_36 rfl rfl ?_
  have lp139 : ∀ (n140 : Nat) (z134 : Int) (h135 : List mE), (90 : Int) - z134 < (n140 : Int) → 0 ≤ z134 ∧ z134 ≤ 90 → TH E τ h135 → Fr τ W121 h h135 → Fr τ [(10, 3), (10, 5), (10, 6), (10, 7)] h15 h135 → MR (mex Ln xs) d 121 37 [some (.ref 4), none, some (vI z134), none] [] h135 Q := by
    intro n140
    induction n140 with
    | zero =>
      intro z134 h135 hm142 b143 hT136 hF137 hL138
      exfalso; omega
    | succ n140 ih141 =>
      intro z134 h135 hm142 b143 hT136 hF137 hL138
      refine st_iload c121_37 rfl ?_
      refine st_iconst c121_38 ?_
      refine st_icmp_ge c121_40 (by omega) (by omega) (fun k144 => ?_) (fun k145 => ?_)
      refine st_aload c121_67 rfl ?_
      refine st_getI c121_68 hT136 (tf hT136 rfl rfl) fd_1_0 (fun e146 e147 => ?_)
      have q148 : fI h135 4 0 = (fI h 4 0) + p1 := (Fr_fI hL138 (tf hT16 rfl rfl) (by decide +kernel)).trans (FUp_fI hU18 (by omega) (by omega))
      refine st_ireturn c121_71 ?_
      exact hQ _ _ ⟨fI h135 4 0, rfl, by omega, by omega, hT136, hF137⟩
      refine st_aload c121_43 rfl ?_
      refine st_iload c121_44 rfl ?_
      have e149 := fI_bd (q := 4) hT136 (tf hT136 rfl rfl) fd_1_7
      have q150 : fI h135 4 7 = fI h 4 7 := (Fr_fI hL138 (tf hT16 rfl rfl) (by decide +kernel)).trans (FUp_fIne hU18 (fun z => absurd z.2 (by decide)))
      refine st_callt (as := [vI z134]) c121_45 cm_169 hT136 (tf hT136 rfl rfl) fd_1_0 rfl rfl rfl rfl (by omega) (K169 hT136 z134 (by omega) (I8_fr pre0 hT hF137 (by decide +kernel)) (d - 1) (by omega) _ (fun v h0 H => H)) (fun v1 h1 H => ?_)
      rcases H with ⟨rfl, nf157, rfl⟩ | ⟨r155, rfl, t156, pf151, pf152, pf153, pf154, rfl⟩
      refine st_astoreN (L' := [some (.ref 4), none, some (vI z134), some .null]) c121_48 rfl rfl ?_
      refine st_aloadN c121_49 rfl ?_
      refine st_ifnullN c121_50 ?_
      refine st_iinc (L' := [some (.ref 4), none, some (vI (z134 + 1)), some .null]) c121_61 rfl rfl rfl ?_
      refine st_goto c121_64 ?_
      refine MR_weak (A := [some (.ref 4), none, some (vI (z134 + 1)), none]) (Lle_s (Lle_s (Lle_s (Lle_n (Lle_0))))) ?_
      exact ih141 (z134 + 1) h135 (by omega) (by omega) hT136 hF137 hL138
      refine st_astore (L' := [some (.ref 4), none, some (vI z134), some (.ref r155)]) c121_48 rfl rfl ?_
      refine st_aload c121_49 rfl ?_
      refine st_ifnullR c121_50 ?_
      refine st_aload c121_53 rfl ?_
      refine st_aload c121_54 rfl ?_
      refine st_getI c121_55 hT136 (tf hT136 rfl rfl) fd_1_0 (fun e158 e159 => ?_)
      have q160 : fI h135 4 0 = (fI h 4 0) + p1 := (Fr_fI hL138 (tf hT16 rfl rfl) (by decide +kernel)).trans (FUp_fI hU18 (by omega) (by omega))
      refine st_callt (as := [vI (fI h135 4 0)]) c121_58 cm_43 hT136 t156 fd_10_0 rfl rfl rfl rfl (by omega) (K43 hT136 (Stb_mono hS (by decide +kernel)) r155 t156 (fI h135 4 0) (by omega) (d - 1) (by omega) _ (fun v h0 H => H)) (fun v1 h161 H => ?_)
      obtain ⟨rfl, hT162, hF163⟩ := H
      have hF164 := Fr_cp hF137 hF163 (by decide +kernel : Wsub W43 W121 = true)
      refine st_iinc (L' := [some (.ref 4), none, some (vI (z134 + 1)), some (.ref r155)]) c121_61 rfl rfl rfl ?_
      refine st_goto c121_64 ?_
      refine MR_weak (A := [some (.ref 4), none, some (vI (z134 + 1)), none]) (Lle_s (Lle_s (Lle_s (Lle_n (Lle_0))))) ?_
      exact ih141 (z134 + 1) h161 (by omega) (by omega) hT162 hF164 (Fr_cp hL138 hF163 (by decide +kernel))
  refine MR_weak (A := [some (.ref 4), none, some (vI 0), none]) (Lle_s (Lle_n (Lle_s (Lle_s (Lle_0))))) ?_
  exact lp139 ((((90 : Int) - 0 : Int) + 1).toNat) 0 h15 (by omega) (by omega) hT16 hF17 (Fr_rf _ _ _)
  refine st_iconst c121_23 ?_
  refine st_ireturn c121_24 ?_
  exact hQ _ _ ⟨(-1), rfl, by omega, by omega, hT, hF⟩
def W122 : List (Nat × Nat) := [(14, 0)]
set_option maxHeartbeats 0 in
theorem K122 {Ln : Nat} {xs : Nat → Int32} {τ : List Nat} {h : List mE} {E : EP} (hT : TH E τ h) (hS : Stb E W122) (p1 : Int) (hp1 : (-2147483648) ≤ p1 ∧ p1 ≤ 2147483647) (p2 : Int) (hp2 : (-2147483648) ≤ p2 ∧ p2 ≤ 2147483647) (d : Nat) (hd : 1 ≤ d) (Q : Option Value → List mE → Prop) (hQ : ∀ v h', (∃ z : Int, v = some (vI z) ∧ ((-1) ≤ z ∧ z ≤ 1) ∧ (PRain 5 h h' p1 p2 z) ∧ TH E τ h' ∧ Fr τ W122 h h') → Q v h') : MR (mex Ln xs) d 122 0 [some (.ref 4), some (vI p1), some (vI p2), none] [] h Q := by
  have hF := Fr_rf τ W122 h
  refine st_iload c122_0 rfl ?_
  refine st_iconst c122_1 ?_
  refine st_iconst c122_2 ?_
  refine st_calls (as := [vI p1, vI 0, vI 999]) c122_5 cm_166 rfl rfl rfl rfl (by omega) (K166 hT p1 (by omega) 0 (by omega) 999 (by omega) (d - 1) (by omega) _ (fun v h0 H => H)) (fun v1 h1 H => ?_)
  rcases H with ⟨rfl, pf1, rfl⟩ | ⟨rfl, pf2, pf3, rfl⟩
  refine st_if_eq c122_8 (by omega) (fun k4 => ?_) (fun k5 => False.elim (by omega))
  refine st_iconst c122_18 ?_
  refine st_ireturn c122_19 ?_
  exact hQ _ _ ⟨(-1), rfl, by omega, Or.inl ⟨by omega, by omega, (fun _ => rfl)⟩, hT, hF⟩
  refine st_if_eq c122_8 (by omega) (fun k7 => False.elim (by omega)) (fun k8 => ?_)
  refine st_iload c122_11 rfl ?_
  refine st_calls (as := [vI p2]) c122_12 cm_167 rfl rfl rfl rfl (by omega) (K167 hT p2 (by omega) (d - 1) (by omega) _ (fun v h0 H => H)) (fun v1 h1 H => ?_)
  rcases H with ⟨rfl, pf9, rfl⟩ | ⟨rfl, pf10, pf11, rfl⟩
  refine st_if_ne c122_15 (by omega) (fun k12 => False.elim (by omega)) (fun k13 => ?_)
  refine st_iconst c122_18 ?_
  refine st_ireturn c122_19 ?_
  exact hQ _ _ ⟨(-1), rfl, by omega, Or.inl ⟨by omega, by omega, (fun _ => rfl)⟩, hT, hF⟩
  refine st_if_ne c122_15 (by omega) (fun k15 => ?_) (fun k16 => False.elim (by omega))
  refine st_aload c122_20 rfl ?_
  refine st_getX (u := 5) c122_21 hT (tf hT rfl rfl) fd_1_2 rfl ?_
  refine st_iload c122_24 rfl ?_
  refine st_bald c122_25 hT (tf hT rfl rfl) ay_14 (Or.inl rfl) (by omega) (fun e17 e18 => ?_)
  refine st_if_eq c122_26 (by omega) (fun k19 => ?_) (fun k20 => ?_)
  refine st_iconst c122_33 ?_
  refine st_istore (L' := [some (.ref 4), some (vI p1), some (vI p2), some (vI 0)]) c122_34 rfl rfl ?_
  refine st_aload c122_35 rfl ?_
  refine st_getX (u := 5) c122_36 hT (tf hT rfl rfl) fd_1_2 rfl ?_
  refine st_iload c122_39 rfl ?_
  refine st_iload c122_40 rfl ?_
  refine st_iconst c122_41 ?_
  refine st_icmp_ne c122_42 (by omega) (by omega) (fun k21 => ?_) (fun k22 => ?_)
  refine st_iconst c122_49 ?_
  refine st_zast c122_50 hT (tf hT rfl rfl) ay_14 (by omega) (by omega) (Ext_rf _) hS hF (by decide +kernel) (fun h23 hT24 hF25 hU26 => ?_)
  refine st_iload c122_51 rfl ?_
  refine st_ireturn c122_52 ?_
  have st27 : Set1 5 h h23 p1 p2 := fun i a => by
    rw [AUp_aI (j := i) hU26 (by omega) (by omega) (by omega) a]
    all_goals exact if_cg (by omega) (by omega)
  exact hQ _ _ ⟨0, rfl, by omega, Or.inr ⟨by omega, by omega, by omega, by omega, by omega, st27⟩, hT24, hF25⟩
  refine st_iconst c122_45 ?_
  refine st_goto c122_46 ?_
  refine st_zast c122_50 hT (tf hT rfl rfl) ay_14 (by omega) (by omega) (Ext_rf _) hS hF (by decide +kernel) (fun h28 hT29 hF30 hU31 => ?_)
  refine st_iload c122_51 rfl ?_
  refine st_ireturn c122_52 ?_
  have st32 : Set1 5 h h28 p1 p2 := fun i a => by
    rw [AUp_aI (j := i) hU31 (by omega) (by omega) (by omega) a]
    all_goals exact if_cg (by omega) (by omega)
  exact hQ _ _ ⟨0, rfl, by omega, Or.inr ⟨by omega, by omega, by omega, by omega, by omega, st32⟩, hT29, hF30⟩
  refine st_iconst c122_29 ?_
  refine st_goto c122_30 ?_
  refine st_istore (L' := [some (.ref 4), some (vI p1), some (vI p2), some (vI 1)]) c122_34 rfl rfl ?_
  refine st_aload c122_35 rfl ?_
  refine st_getX (u := 5) c122_36 hT (tf hT rfl rfl) fd_1_2 rfl ?_
  refine st_iload c122_39 rfl ?_
  refine st_iload c122_40 rfl ?_
  refine st_iconst c122_41 ?_
  refine st_icmp_ne c122_42 (by omega) (by omega) (fun k33 => ?_) (fun k34 => ?_)
  refine st_iconst c122_49 ?_
  refine st_zast c122_50 hT (tf hT rfl rfl) ay_14 (by omega) (by omega) (Ext_rf _) hS hF (by decide +kernel) (fun h35 hT36 hF37 hU38 => ?_)
  refine st_iload c122_51 rfl ?_
  refine st_ireturn c122_52 ?_
  have st39 : Set1 5 h h35 p1 p2 := fun i a => by
    rw [AUp_aI (j := i) hU38 (by omega) (by omega) (by omega) a]
    all_goals exact if_cg (by omega) (by omega)
  exact hQ _ _ ⟨1, rfl, by omega, Or.inr ⟨by omega, by omega, by omega, by omega, by omega, st39⟩, hT36, hF37⟩
  refine st_iconst c122_45 ?_
  refine st_goto c122_46 ?_
  refine st_zast c122_50 hT (tf hT rfl rfl) ay_14 (by omega) (by omega) (Ext_rf _) hS hF (by decide +kernel) (fun h40 hT41 hF42 hU43 => ?_)
  refine st_iload c122_51 rfl ?_
  refine st_ireturn c122_52 ?_
  have st44 : Set1 5 h h40 p1 p2 := fun i a => by
    rw [AUp_aI (j := i) hU43 (by omega) (by omega) (by omega) a]
    all_goals exact if_cg (by omega) (by omega)
  exact hQ _ _ ⟨1, rfl, by omega, Or.inr ⟨by omega, by omega, by omega, by omega, by omega, st44⟩, hT41, hF42⟩
def W124 : List (Nat × Nat) := [(113, 0)]
set_option maxHeartbeats 0 in
theorem K124 {Ln : Nat} {xs : Nat → Int32} {τ : List Nat} {h : List mE} {E : EP} (hT : TH E τ h) (hS : Stb E W124) (p1 : Int) (hp1 : (-2147483648) ≤ p1 ∧ p1 ≤ 2147483647) (p2 : Int) (hp2 : (-2147483648) ≤ p2 ∧ p2 ≤ 2147483647) (p3 : Int) (hp3 : (-2147483648) ≤ p3 ∧ p3 ≤ 2147483647) (pre0 : I8 h) (d : Nat) (hd : 1 ≤ d) (Q : Option Value → List mE → Prop) (hQ : ∀ v h', (∃ z : Int, v = some (vI z) ∧ ((-1) ≤ z ∧ z ≤ 1) ∧ (PGoC h h' p1 p2 p3 z) ∧ TH E τ h' ∧ Fr τ W124 h h') → Q v h') : MR (mex Ln xs) d 124 0 [some (.ref 4), some (vI p1), some (vI p2), some (vI p3), none, none] [] h Q := by
  have hF := Fr_rf τ W124 h
  refine st_aload c124_0 rfl ?_
  refine st_iload c124_1 rfl ?_
  have e1 := fI_bd (q := 4) hT (tf hT rfl rfl) fd_1_5
  refine st_callt (as := [vI p1]) c124_2 cm_168 hT (tf hT rfl rfl) fd_1_0 rfl rfl rfl rfl (by omega) (K168 hT p1 (by omega) pre0 (d - 1) (by omega) _ (fun v h0 H => H)) (fun v1 h1 H => ?_)
  rcases H with ⟨rfl, nf8, rfl⟩ | ⟨r6, rfl, t7, pf2, pf3, pf4, pf5, rfl⟩
  refine st_astoreN (L' := [some (.ref 4), some (vI p1), some (vI p2), some (vI p3), some .null, none]) c124_5 rfl rfl ?_
  refine st_aloadN c124_7 rfl ?_
  refine st_ifnullN c124_9 ?_
  refine st_iconst c124_32 ?_
  refine st_ireturn c124_33 ?_
  exact hQ _ _ ⟨(-1), rfl, by omega, Or.inl ⟨by omega, by omega, rfl⟩, hT, hF⟩
  refine st_astore (L' := [some (.ref 4), some (vI p1), some (vI p2), some (vI p3), some (.ref r6), none]) c124_5 rfl rfl ?_
  refine st_aload c124_7 rfl ?_
  refine st_ifnullR c124_9 ?_
  refine st_aload c124_12 rfl ?_
  refine st_iload c124_13 rfl ?_
  refine st_callt (as := [vI p2]) c124_14 cm_168 hT (tf hT rfl rfl) fd_1_0 rfl rfl rfl rfl (by omega) (K168 hT p2 (by omega) pre0 (d - 1) (by omega) _ (fun v h0 H => H)) (fun v1 h1 H => ?_)
  rcases H with ⟨rfl, nf15, rfl⟩ | ⟨r13, rfl, t14, pf9, pf10, pf11, pf12, rfl⟩
  refine st_ifnullN c124_17 ?_
  refine st_iconst c124_32 ?_
  refine st_ireturn c124_33 ?_
  exact hQ _ _ ⟨(-1), rfl, by omega, Or.inl ⟨by omega, by omega, rfl⟩, hT, hF⟩
  refine st_ifnullR c124_17 ?_
  refine st_iload c124_20 rfl ?_
  refine st_iload c124_21 rfl ?_
  refine st_icmp_eq c124_22 (by omega) (by omega) (fun k16 => ?_) (fun k17 => ?_)
  refine st_iconst c124_32 ?_
  refine st_ireturn c124_33 ?_
  exact hQ _ _ ⟨(-1), rfl, by omega, Or.inl ⟨by omega, by omega, rfl⟩, hT, hF⟩
  refine st_iload c124_25 rfl ?_
  refine st_calls (as := [vI p3]) c124_26 cm_167 rfl rfl rfl rfl (by omega) (K167 hT p3 (by omega) (d - 1) (by omega) _ (fun v h0 H => H)) (fun v1 h1 H => ?_)
  rcases H with ⟨rfl, pf18, rfl⟩ | ⟨rfl, pf19, pf20, rfl⟩
  refine st_if_ne c124_29 (by omega) (fun k21 => False.elim (by omega)) (fun k22 => ?_)
  refine st_iconst c124_32 ?_
  refine st_ireturn c124_33 ?_
  exact hQ _ _ ⟨(-1), rfl, by omega, Or.inl ⟨by omega, by omega, rfl⟩, hT, hF⟩
  refine st_if_ne c124_29 (by omega) (fun k23 => ?_) (fun k24 => False.elim (by omega))
  refine st_aload c124_34 rfl ?_
  refine st_getR c124_36 hT t7 fd_9_7 (u := 113) rfl (fun r25 e26 t27 => ?_)
  refine st_iload c124_39 rfl ?_
  refine st_bald c124_40 hT t27 ay_113 (Or.inl rfl) (by omega) (fun e28 e29 => ?_)
  refine st_if_eq c124_41 (by omega) (fun k30 => ?_) (fun k31 => ?_)
  refine st_iconst c124_48 ?_
  refine st_istore (L' := [some (.ref 4), some (vI p1), some (vI p2), some (vI p3), some (.ref r6), some (vI 0)]) c124_49 rfl rfl ?_
  refine st_aload c124_51 rfl ?_
  refine st_getNr c124_53 hT t7 fd_9_7 e26 ?_
  refine st_iload c124_56 rfl ?_
  refine st_iload c124_57 rfl ?_
  refine st_iconst c124_58 ?_
  refine st_icmp_ne c124_59 (by omega) (by omega) (fun k32 => ?_) (fun k33 => ?_)
  refine st_iconst c124_66 ?_
  refine st_zast c124_67 hT t27 ay_113 (by omega) (by omega) (Ext_rf _) hS hF (by decide +kernel) (fun h34 hT35 hF36 hU37 => ?_)
  refine st_iload c124_68 rfl ?_
  refine st_ireturn c124_70 ?_
  exact hQ _ _ ⟨0, rfl, by omega, Or.inr ⟨by omega, by omega, by omega, by omega, by omega, by omega, by omega, r6, r25, _, pf5, e26, by omega, by omega, hU37⟩, hT35, hF36⟩
  refine st_iconst c124_62 ?_
  refine st_goto c124_63 ?_
  refine st_zast c124_67 hT t27 ay_113 (by omega) (by omega) (Ext_rf _) hS hF (by decide +kernel) (fun h38 hT39 hF40 hU41 => ?_)
  refine st_iload c124_68 rfl ?_
  refine st_ireturn c124_70 ?_
  exact hQ _ _ ⟨0, rfl, by omega, Or.inr ⟨by omega, by omega, by omega, by omega, by omega, by omega, by omega, r6, r25, _, pf5, e26, by omega, by omega, hU41⟩, hT39, hF40⟩
  refine st_iconst c124_44 ?_
  refine st_goto c124_45 ?_
  refine st_istore (L' := [some (.ref 4), some (vI p1), some (vI p2), some (vI p3), some (.ref r6), some (vI 1)]) c124_49 rfl rfl ?_
  refine st_aload c124_51 rfl ?_
  refine st_getNr c124_53 hT t7 fd_9_7 e26 ?_
  refine st_iload c124_56 rfl ?_
  refine st_iload c124_57 rfl ?_
  refine st_iconst c124_58 ?_
  refine st_icmp_ne c124_59 (by omega) (by omega) (fun k42 => ?_) (fun k43 => ?_)
  refine st_iconst c124_66 ?_
  refine st_zast c124_67 hT t27 ay_113 (by omega) (by omega) (Ext_rf _) hS hF (by decide +kernel) (fun h44 hT45 hF46 hU47 => ?_)
  refine st_iload c124_68 rfl ?_
  refine st_ireturn c124_70 ?_
  exact hQ _ _ ⟨1, rfl, by omega, Or.inr ⟨by omega, by omega, by omega, by omega, by omega, by omega, by omega, r6, r25, _, pf5, e26, by omega, by omega, hU47⟩, hT45, hF46⟩
  refine st_iconst c124_62 ?_
  refine st_goto c124_63 ?_
  refine st_zast c124_67 hT t27 ay_113 (by omega) (by omega) (Ext_rf _) hS hF (by decide +kernel) (fun h48 hT49 hF50 hU51 => ?_)
  refine st_iload c124_68 rfl ?_
  refine st_ireturn c124_70 ?_
  exact hQ _ _ ⟨1, rfl, by omega, Or.inr ⟨by omega, by omega, by omega, by omega, by omega, by omega, by omega, r6, r25, _, pf5, e26, by omega, by omega, hU51⟩, hT49, hF50⟩
def W125 : List (Nat × Nat) := [(112, 0)]
set_option maxHeartbeats 0 in
theorem K125 {Ln : Nat} {xs : Nat → Int32} {τ : List Nat} {h : List mE} {E : EP} (hT : TH E τ h) (hS : Stb E W125) (p1 : Int) (hp1 : (-2147483648) ≤ p1 ∧ p1 ≤ 2147483647) (p2 : Int) (hp2 : (-2147483648) ≤ p2 ∧ p2 ≤ 2147483647) (p3 : Int) (hp3 : (-2147483648) ≤ p3 ∧ p3 ≤ 2147483647) (pre0 : I8 h) (d : Nat) (hd : 1 ≤ d) (Q : Option Value → List mE → Prop) (hQ : ∀ v h', (∃ z : Int, v = some (vI z) ∧ ((-2147483648) ≤ z ∧ z ≤ 2147483647) ∧ (PCoC h h' p1 p2 p3 z) ∧ TH E τ h' ∧ Fr τ W125 h h') → Q v h') : MR (mex Ln xs) d 125 0 [some (.ref 4), some (vI p1), some (vI p2), some (vI p3), none, none] [] h Q := by
  have hF := Fr_rf τ W125 h
  refine st_aload c125_0 rfl ?_
  refine st_iload c125_1 rfl ?_
  have e1 := fI_bd (q := 4) hT (tf hT rfl rfl) fd_1_5
  refine st_callt (as := [vI p1]) c125_2 cm_168 hT (tf hT rfl rfl) fd_1_0 rfl rfl rfl rfl (by omega) (K168 hT p1 (by omega) pre0 (d - 1) (by omega) _ (fun v h0 H => H)) (fun v1 h1 H => ?_)
  rcases H with ⟨rfl, nf8, rfl⟩ | ⟨r6, rfl, t7, pf2, pf3, pf4, pf5, rfl⟩
  refine st_astoreN (L' := [some (.ref 4), some (vI p1), some (vI p2), some (vI p3), some .null, none]) c125_5 rfl rfl ?_
  refine st_aloadN c125_7 rfl ?_
  refine st_ifnullN c125_9 ?_
  refine st_iconst c125_33 ?_
  refine st_ireturn c125_34 ?_
  exact hQ _ _ ⟨(-1), rfl, by omega, Or.inl ⟨by omega, by omega, rfl⟩, hT, hF⟩
  refine st_astore (L' := [some (.ref 4), some (vI p1), some (vI p2), some (vI p3), some (.ref r6), none]) c125_5 rfl rfl ?_
  refine st_aload c125_7 rfl ?_
  refine st_ifnullR c125_9 ?_
  refine st_iload c125_12 rfl ?_
  refine st_iconst c125_13 ?_
  refine st_iconst c125_14 ?_
  refine st_calls (as := [vI p2, vI 0, vI 15]) c125_16 cm_166 rfl rfl rfl rfl (by omega) (K166 hT p2 (by omega) 0 (by omega) 15 (by omega) (d - 1) (by omega) _ (fun v h0 H => H)) (fun v1 h1 H => ?_)
  rcases H with ⟨rfl, pf9, rfl⟩ | ⟨rfl, pf10, pf11, rfl⟩
  refine st_if_eq c125_19 (by omega) (fun k12 => ?_) (fun k13 => False.elim (by omega))
  refine st_iconst c125_33 ?_
  refine st_ireturn c125_34 ?_
  exact hQ _ _ ⟨(-1), rfl, by omega, Or.inl ⟨by omega, by omega, rfl⟩, hT, hF⟩
  refine st_if_eq c125_19 (by omega) (fun k14 => False.elim (by omega)) (fun k15 => ?_)
  refine st_iload c125_22 rfl ?_
  refine st_iconst c125_23 ?_
  refine st_iconst c125_24 ?_
  refine st_calls (as := [vI p3, vI 0, vI 9999]) c125_27 cm_166 rfl rfl rfl rfl (by omega) (K166 hT p3 (by omega) 0 (by omega) 9999 (by omega) (d - 1) (by omega) _ (fun v h0 H => H)) (fun v1 h1 H => ?_)
  rcases H with ⟨rfl, pf16, rfl⟩ | ⟨rfl, pf17, pf18, rfl⟩
  refine st_if_ne c125_30 (by omega) (fun k19 => False.elim (by omega)) (fun k20 => ?_)
  refine st_iconst c125_33 ?_
  refine st_ireturn c125_34 ?_
  exact hQ _ _ ⟨(-1), rfl, by omega, Or.inl ⟨by omega, by omega, rfl⟩, hT, hF⟩
  refine st_if_ne c125_30 (by omega) (fun k21 => ?_) (fun k22 => False.elim (by omega))
  refine st_aload c125_35 rfl ?_
  refine st_getR c125_37 hT t7 fd_9_6 (u := 112) rfl (fun r23 e24 t25 => ?_)
  refine st_iload c125_40 rfl ?_
  refine st_iald c125_41 hT t25 ay_112 (by omega) (fun e26 e27 => ?_)
  refine st_istore (L' := [some (.ref 4), some (vI p1), some (vI p2), some (vI p3), some (.ref r6), some (vI (aI h r23 p2))]) c125_42 rfl rfl ?_
  refine st_aload c125_44 rfl ?_
  refine st_getNr c125_46 hT t7 fd_9_6 e24 ?_
  refine st_iload c125_49 rfl ?_
  refine st_iload c125_50 rfl ?_
  refine st_iast c125_51 hT t25 ay_112 (by omega) (by omega) (by omega) (Ext_rf _) hS hF (by decide +kernel) (fun h28 hT29 hF30 hU31 => ?_)
  refine st_iload c125_52 rfl ?_
  refine st_ireturn c125_54 ?_
  exact hQ _ _ ⟨aI h r23 p2, rfl, by omega, Or.inr ⟨by omega, by omega, by omega, by omega, by omega, by omega, r6, r23, pf5, e24, by omega, hU31⟩, hT29, hF30⟩
def W127 : List (Nat × Nat) := [(10, 15), (114, 0), (115, 0)]
set_option maxHeartbeats 0 in
theorem K127 {Ln : Nat} {xs : Nat → Int32} {τ : List Nat} {h : List mE} {E : EP} (hT : TH E τ h) (hS : Stb E W127) (p1 : Int) (hp1 : (-2147483648) ≤ p1 ∧ p1 ≤ 2147483647) (p2 : Int) (hp2 : (-2147483648) ≤ p2 ∧ p2 ≤ 2147483647) (p3 : Int) (hp3 : (-2147483648) ≤ p3 ∧ p3 ≤ 2147483647) (pre0 : I8 h) (d : Nat) (hd : 1 ≤ d) (Q : Option Value → List mE → Prop) (hQ : ∀ v h', (∃ z : Int, v = some (vI z) ∧ ((-3) ≤ z ∧ z ≤ 5) ∧ (PLkC h h' p1 p2 p3 z) ∧ TH E τ h' ∧ Fr τ W127 h h') → Q v h') : MR (mex Ln xs) d 127 0 [some (.ref 4), some (vI p1), some (vI p2), some (vI p3), none] [] h Q := by
  have hF := Fr_rf τ W127 h
  refine st_aload c127_0 rfl ?_
  refine st_iload c127_1 rfl ?_
  have e1 := fI_bd (q := 4) hT (tf hT rfl rfl) fd_1_7
  refine st_callt (as := [vI p1]) c127_2 cm_169 hT (tf hT rfl rfl) fd_1_0 rfl rfl rfl rfl (by omega) (K169 hT p1 (by omega) pre0 (d - 1) (by omega) _ (fun v h0 H => H)) (fun v1 h1 H => ?_)
  rcases H with ⟨rfl, nf8, rfl⟩ | ⟨r6, rfl, t7, pf2, pf3, pf4, pf5, rfl⟩
  refine st_astoreN (L' := [some (.ref 4), some (vI p1), some (vI p2), some (vI p3), some .null]) c127_5 rfl rfl ?_
  refine st_aloadN c127_7 rfl ?_
  refine st_ifnullN c127_9 ?_
  refine st_iconst c127_33 ?_
  refine st_ireturn c127_34 ?_
  exact hQ _ _ ⟨(-1), rfl, by omega, Or.inl ⟨by omega, by omega, rfl⟩, hT, hF⟩
  refine st_astore (L' := [some (.ref 4), some (vI p1), some (vI p2), some (vI p3), some (.ref r6)]) c127_5 rfl rfl ?_
  refine st_aload c127_7 rfl ?_
  refine st_ifnullR c127_9 ?_
  refine st_iload c127_12 rfl ?_
  refine st_iconst c127_13 ?_
  refine st_iconst c127_14 ?_
  refine st_calls (as := [vI p2, vI 0, vI 9]) c127_16 cm_166 rfl rfl rfl rfl (by omega) (K166 hT p2 (by omega) 0 (by omega) 9 (by omega) (d - 1) (by omega) _ (fun v h0 H => H)) (fun v1 h1 H => ?_)
  rcases H with ⟨rfl, pf9, rfl⟩ | ⟨rfl, pf10, pf11, rfl⟩
  refine st_if_eq c127_19 (by omega) (fun k12 => ?_) (fun k13 => False.elim (by omega))
  refine st_iconst c127_33 ?_
  refine st_ireturn c127_34 ?_
  exact hQ _ _ ⟨(-1), rfl, by omega, Or.inl ⟨by omega, by omega, rfl⟩, hT, hF⟩
  refine st_if_eq c127_19 (by omega) (fun k14 => False.elim (by omega)) (fun k15 => ?_)
  refine st_iload c127_22 rfl ?_
  refine st_iconst c127_23 ?_
  refine st_iconst c127_24 ?_
  refine st_calls (as := [vI p3, vI 1, vI 9999]) c127_27 cm_166 rfl rfl rfl rfl (by omega) (K166 hT p3 (by omega) 1 (by omega) 9999 (by omega) (d - 1) (by omega) _ (fun v h0 H => H)) (fun v1 h1 H => ?_)
  rcases H with ⟨rfl, pf16, rfl⟩ | ⟨rfl, pf17, pf18, rfl⟩
  refine st_if_ne c127_30 (by omega) (fun k19 => False.elim (by omega)) (fun k20 => ?_)
  refine st_iconst c127_33 ?_
  refine st_ireturn c127_34 ?_
  exact hQ _ _ ⟨(-1), rfl, by omega, Or.inl ⟨by omega, by omega, rfl⟩, hT, hF⟩
  refine st_if_ne c127_30 (by omega) (fun k21 => ?_) (fun k22 => False.elim (by omega))
  refine st_aload c127_35 rfl ?_
  refine st_iload c127_37 rfl ?_
  refine st_iload c127_38 rfl ?_
  refine st_callt (as := [vI p2, vI p3]) c127_39 cm_45 hT t7 fd_10_0 rfl rfl rfl rfl (by omega) (K45 hT (Stb_mono hS (by decide +kernel)) r6 t7 p2 (by omega) p3 (by omega) (d - 1) (by omega) _ (fun v h0 H => H)) (fun v1 h23 H => ?_)
  obtain ⟨z27, rfl, b28, pf26, hT24, hF25⟩ := H
  have hF29 := Fr_cp hF hF25 (by decide +kernel : Wsub W45 W127 = true)
  refine st_ireturn c127_42 ?_
  exact hQ _ _ ⟨z27, rfl, by omega, Or.inr ⟨by omega, by omega, by omega, by omega, by omega, by omega, r6, pf5, pf26⟩, hT24, hF29⟩
set_option maxHeartbeats 0 in
theorem K128 {Ln : Nat} {xs : Nat → Int32} {τ : List Nat} {h : List mE} {E : EP} (hT : TH E τ h) (p1 : Int) (hp1 : (-2147483648) ≤ p1 ∧ p1 ≤ 2147483647) (p2 : Int) (hp2 : (-2147483648) ≤ p2 ∧ p2 ≤ 2147483647) (pre0 : I1 τ h) (pre1 : I8 h) (d : Nat) (hd : 4 ≤ d) (Q : Option Value → List mE → Prop) (hQ : ∀ v h', (∃ z : Int, v = some (vI z) ∧ ((-2147483648) ≤ z ∧ z ≤ 2147483647) ∧ h = h') → Q v h') : MR (mex Ln xs) d 128 0 [some (.ref 4), some (vI p1), some (vI p2), none] [] h Q := by
  refine st_aload c128_0 rfl ?_
  refine st_iload c128_1 rfl ?_
  have e1 := fI_bd (q := 4) hT (tf hT rfl rfl) fd_1_7
  refine st_callt (as := [vI p1]) c128_2 cm_169 hT (tf hT rfl rfl) fd_1_0 rfl rfl rfl rfl (by omega) (K169 hT p1 (by omega) pre1 (d - 1) (by omega) _ (fun v h0 H => H)) (fun v1 h1 H => ?_)
  rcases H with ⟨rfl, nf8, rfl⟩ | ⟨r6, rfl, t7, pf2, pf3, pf4, pf5, rfl⟩
  refine st_astoreN (L' := [some (.ref 4), some (vI p1), some (vI p2), some .null]) c128_5 rfl rfl ?_
  refine st_aloadN c128_6 rfl ?_
  refine st_ifnonnullN c128_7 ?_
  refine st_iconst c128_10 ?_
  refine st_ireturn c128_12 ?_
  exact hQ _ _ ⟨(-2000000000), rfl, by omega, rfl⟩
  refine st_astore (L' := [some (.ref 4), some (vI p1), some (vI p2), some (.ref r6)]) c128_5 rfl rfl ?_
  refine st_aload c128_6 rfl ?_
  refine st_ifnonnullR c128_7 ?_
  refine st_iload c128_13 rfl ?_
  rcases (by omega : (p2 < 0 ∨ 9 < p2) ∨ p2 = 0 ∨ p2 = 1 ∨ p2 = 2 ∨ p2 = 3 ∨ p2 = 4 ∨ p2 = 5 ∨ p2 = 6 ∨ p2 = 7 ∨ p2 = 8 ∨ p2 = 9) with k9 | k9 | k9 | k9 | k9 | k9 | k9 | k9 | k9 | k9 | k9
  · refine st_swd c128_14 (by omega) k9 ?_
    rw [show mjmp 14 124 = 138 from by decide]
    refine st_iconst c128_138 ?_
    refine st_ireturn c128_140 ?_
    exact hQ _ _ ⟨(-2000000000), rfl, by omega, rfl⟩
  · refine st_sw (k := 0) (tg := 68) (by decide +kernel) k9 (by decide) ?_
    refine st_aload c128_68 rfl ?_
    refine st_getR c128_69 hT t7 fd_10_1 (u := 9) rfl (fun r10 e11 t12 => ?_)
    refine st_getI c128_72 hT t12 fd_9_0 (fun e13 e14 => ?_)
    refine st_ireturn c128_75 ?_
    exact hQ _ _ ⟨fI h r10 0, rfl, by omega, rfl⟩
  · refine st_sw (k := 1) (tg := 76) (by decide +kernel) k9 (by decide) ?_
    refine st_aload c128_76 rfl ?_
    refine st_getR c128_77 hT t7 fd_10_2 (u := 11) rfl (fun r15 e16 t17 => ?_)
    refine st_callt (as := []) c128_80 cm_58 hT t17 fd_11_0 rfl rfl rfl rfl (by omega) (K58 hT r15 t17 pre0 (d - 1) (by omega) _ (fun v h0 H => H)) (fun v1 h1 H => ?_)
    obtain ⟨z18, rfl, b19, rfl⟩ := H
    refine st_ireturn c128_83 ?_
    exact hQ _ _ ⟨z18, rfl, by omega, rfl⟩
  · refine st_sw (k := 2) (tg := 84) (by decide +kernel) k9 (by decide) ?_
    refine st_aload c128_84 rfl ?_
    refine st_getI c128_85 hT t7 fd_10_3 (fun e20 e21 => ?_)
    refine st_ireturn c128_88 ?_
    exact hQ _ _ ⟨fI h r6 3, rfl, by omega, rfl⟩
  · refine st_sw (k := 3) (tg := 89) (by decide +kernel) k9 (by decide) ?_
    refine st_aload c128_89 rfl ?_
    refine st_getI c128_90 hT t7 fd_10_4 (fun e22 e23 => ?_)
    refine st_ireturn c128_93 ?_
    exact hQ _ _ ⟨fI h r6 4, rfl, by omega, rfl⟩
  · refine st_sw (k := 4) (tg := 94) (by decide +kernel) k9 (by decide) ?_
    refine st_aload c128_94 rfl ?_
    refine st_getI c128_95 hT t7 fd_10_5 (fun e24 e25 => ?_)
    refine st_ireturn c128_98 ?_
    exact hQ _ _ ⟨fI h r6 5, rfl, by omega, rfl⟩
  · refine st_sw (k := 5) (tg := 99) (by decide +kernel) k9 (by decide) ?_
    refine st_aload c128_99 rfl ?_
    refine st_callt (as := []) c128_100 cm_37 hT t7 fd_10_0 rfl rfl rfl rfl (by omega) (K37 hT r6 t7 pre0 (d - 1) (by omega) _ (fun v h0 H => H)) (fun v1 h1 H => ?_)
    obtain ⟨z26, rfl, b27, rfl⟩ := H
    refine st_ireturn c128_103 ?_
    exact hQ _ _ ⟨z26, rfl, by omega, rfl⟩
  · refine st_sw (k := 6) (tg := 104) (by decide +kernel) k9 (by decide) ?_
    refine st_aload c128_104 rfl ?_
    refine st_getI c128_105 hT t7 fd_10_6 (fun e28 e29 => ?_)
    refine st_ireturn c128_108 ?_
    exact hQ _ _ ⟨fI h r6 6, rfl, by omega, rfl⟩
  · refine st_sw (k := 7) (tg := 109) (by decide +kernel) k9 (by decide) ?_
    refine st_aload c128_109 rfl ?_
    refine st_getN c128_110 hT t7 fd_10_9 (u := 12) rfl (fun e31 => ?_) (fun r30 e32 t33 => ?_)
    refine st_ifnonnullN c128_113 ?_
    refine st_iconst c128_116 ?_
    refine st_goto c128_117 ?_
    refine st_ireturn c128_127 ?_
    exact hQ _ _ ⟨(-1), rfl, by omega, rfl⟩
    refine st_ifnonnullR c128_113 ?_
    refine st_aload c128_120 rfl ?_
    refine st_getNr c128_121 hT t7 fd_10_9 e32 ?_
    refine st_getI c128_124 hT t33 fd_12_0 (fun e34 e35 => ?_)
    refine st_ireturn c128_127 ?_
    exact hQ _ _ ⟨fI h r30 0, rfl, by omega, rfl⟩
  · refine st_sw (k := 8) (tg := 128) (by decide +kernel) k9 (by decide) ?_
    refine st_aload c128_128 rfl ?_
    refine st_getI c128_129 hT t7 fd_10_15 (fun e36 e37 => ?_)
    refine st_ireturn c128_132 ?_
    exact hQ _ _ ⟨fI h r6 15, rfl, by omega, rfl⟩
  · refine st_sw (k := 9) (tg := 133) (by decide +kernel) k9 (by decide) ?_
    refine st_aload c128_133 rfl ?_
    refine st_callt (as := []) c128_134 cm_38 hT t7 fd_10_0 rfl rfl rfl rfl (by omega) (K38 hT r6 t7 pre0 (d - 1) (by omega) _ (fun v h0 H => H)) (fun v1 h1 H => ?_)
    obtain ⟨z38, rfl, b39, rfl⟩ := H
    refine st_ireturn c128_137 ?_
    exact hQ _ _ ⟨z38, rfl, by omega, rfl⟩
def W129 : List (Nat × Nat) := [(10, 5), (10, 6), (10, 8)]
set_option maxHeartbeats 0 in
theorem K129 {Ln : Nat} {xs : Nat → Int32} {τ : List Nat} {h : List mE} {E : EP} (hT : TH E τ h) (hS : Stb E W129) (p1 : Int) (hp1 : (-2147483648) ≤ p1 ∧ p1 ≤ 2147483647) (p2 : Int) (hp2 : (-2147483648) ≤ p2 ∧ p2 ≤ 2147483647) (pre0 : I1 τ h) (pre1 : I8 h) (d : Nat) (hd : 3 ≤ d) (Q : Option Value → List mE → Prop) (hQ : ∀ v h', (∃ z : Int, v = some (vI z) ∧ ((-2) ≤ z ∧ z ≤ 1) ∧ TH E τ h' ∧ Fr τ W129 h h') → Q v h') : MR (mex Ln xs) d 129 0 [some (.ref 4), some (vI p1), some (vI p2), none] [] h Q := by
  have hF := Fr_rf τ W129 h
  refine st_aload c129_0 rfl ?_
  refine st_iload c129_1 rfl ?_
  have e1 := fI_bd (q := 4) hT (tf hT rfl rfl) fd_1_7
  refine st_callt (as := [vI p1]) c129_2 cm_169 hT (tf hT rfl rfl) fd_1_0 rfl rfl rfl rfl (by omega) (K169 hT p1 (by omega) pre1 (d - 1) (by omega) _ (fun v h0 H => H)) (fun v1 h1 H => ?_)
  rcases H with ⟨rfl, nf8, rfl⟩ | ⟨r6, rfl, t7, pf2, pf3, pf4, pf5, rfl⟩
  refine st_astoreN (L' := [some (.ref 4), some (vI p1), some (vI p2), some .null]) c129_5 rfl rfl ?_
  refine st_aloadN c129_6 rfl ?_
  refine st_ifnullN c129_7 ?_
  refine st_iconst c129_20 ?_
  refine st_ireturn c129_21 ?_
  exact hQ _ _ ⟨(-1), rfl, by omega, hT, hF⟩
  refine st_astore (L' := [some (.ref 4), some (vI p1), some (vI p2), some (.ref r6)]) c129_5 rfl rfl ?_
  refine st_aload c129_6 rfl ?_
  refine st_ifnullR c129_7 ?_
  refine st_iload c129_10 rfl ?_
  refine st_iconst c129_11 ?_
  refine st_iconst c129_12 ?_
  refine st_calls (as := [vI p2, vI 1, vI 99]) c129_14 cm_166 rfl rfl rfl rfl (by omega) (K166 hT p2 (by omega) 1 (by omega) 99 (by omega) (d - 1) (by omega) _ (fun v h0 H => H)) (fun v1 h1 H => ?_)
  rcases H with ⟨rfl, pf9, rfl⟩ | ⟨rfl, pf10, pf11, rfl⟩
  refine st_if_ne c129_17 (by omega) (fun k12 => False.elim (by omega)) (fun k13 => ?_)
  refine st_iconst c129_20 ?_
  refine st_ireturn c129_21 ?_
  exact hQ _ _ ⟨(-1), rfl, by omega, hT, hF⟩
  refine st_if_ne c129_17 (by omega) (fun k14 => ?_) (fun k15 => False.elim (by omega))
  refine st_aload c129_22 rfl ?_
  refine st_callt (as := []) c129_23 cm_36 hT t7 fd_10_0 rfl rfl rfl rfl (by omega) (K36 hT r6 t7 (d - 1) (by omega) _ (fun v h0 H => H)) (fun v1 h1 H => ?_)
  rcases H with ⟨rfl, rfl⟩ | ⟨rfl, rfl⟩
  refine st_if_ne c129_26 (by omega) (fun k16 => False.elim (by omega)) (fun k17 => ?_)
  refine st_iconst c129_29 ?_
  refine st_ireturn c129_31 ?_
  exact hQ _ _ ⟨(-2), rfl, by omega, hT, hF⟩
  refine st_if_ne c129_26 (by omega) (fun k18 => ?_) (fun k19 => False.elim (by omega))
  refine st_aload c129_32 rfl ?_
  refine st_aload c129_33 rfl ?_
  refine st_getI c129_34 hT (tf hT rfl rfl) fd_1_0 (fun e20 e21 => ?_)
  refine st_iload c129_37 rfl ?_
  refine st_iadd c129_38 ?_
  refine st_callt (as := [vI ((fI h 4 0) + p2)]) c129_39 cm_41 hT t7 fd_10_0 rfl rfl rfl rfl (by omega) (K41 hT (Stb_mono hS (by decide +kernel)) r6 t7 ((fI h 4 0) + p2) (by omega) pre0 (d - 1) (by omega) _ (fun v h0 H => H)) (fun v1 h22 H => ?_)
  obtain ⟨rfl, hT23, hF24⟩ := H
  have hF25 := Fr_cp hF hF24 (by decide +kernel : Wsub W41 W129 = true)
  refine st_iconst c129_42 ?_
  refine st_ireturn c129_43 ?_
  exact hQ _ _ ⟨1, rfl, by omega, hT23, hF25⟩
def W130 : List (Nat × Nat) := [(3, 7), (10, 5), (26, 0), (27, 0), (28, 0)]
set_option maxHeartbeats 0 in
theorem K130 {Ln : Nat} {xs : Nat → Int32} {τ : List Nat} {h : List mE} {E : EP} (hT : TH E τ h) (hS : Stb E W130) (p1 : Int) (hp1 : (-2147483648) ≤ p1 ∧ p1 ≤ 2147483647) (p2 : Int) (hp2 : (-2147483648) ≤ p2 ∧ p2 ≤ 2147483647) (pre0 : I8 h) (d : Nat) (hd : 1 ≤ d) (Q : Option Value → List mE → Prop) (hQ : ∀ v h', (∃ z : Int, v = some (vI z) ∧ ((-3) ≤ z ∧ z ≤ 1) ∧ TH E τ h' ∧ Fr τ W130 h h') → Q v h') : MR (mex Ln xs) d 130 0 [some (.ref 4), some (vI p1), some (vI p2), none] [] h Q := by
  have hF := Fr_rf τ W130 h
  refine st_aload c130_0 rfl ?_
  refine st_iload c130_1 rfl ?_
  have e1 := fI_bd (q := 4) hT (tf hT rfl rfl) fd_1_7
  refine st_callt (as := [vI p1]) c130_2 cm_169 hT (tf hT rfl rfl) fd_1_0 rfl rfl rfl rfl (by omega) (K169 hT p1 (by omega) pre0 (d - 1) (by omega) _ (fun v h0 H => H)) (fun v1 h1 H => ?_)
  rcases H with ⟨rfl, nf8, rfl⟩ | ⟨r6, rfl, t7, pf2, pf3, pf4, pf5, rfl⟩
  refine st_astoreN (L' := [some (.ref 4), some (vI p1), some (vI p2), some .null]) c130_5 rfl rfl ?_
  refine st_aloadN c130_6 rfl ?_
  refine st_ifnullN c130_7 ?_
  refine st_iconst c130_17 ?_
  refine st_ireturn c130_18 ?_
  exact hQ _ _ ⟨(-1), rfl, by omega, hT, hF⟩
  refine st_astore (L' := [some (.ref 4), some (vI p1), some (vI p2), some (.ref r6)]) c130_5 rfl rfl ?_
  refine st_aload c130_6 rfl ?_
  refine st_ifnullR c130_7 ?_
  refine st_iload c130_10 rfl ?_
  refine st_calls (as := [vI p2]) c130_11 cm_167 rfl rfl rfl rfl (by omega) (K167 hT p2 (by omega) (d - 1) (by omega) _ (fun v h0 H => H)) (fun v1 h1 H => ?_)
  rcases H with ⟨rfl, pf9, rfl⟩ | ⟨rfl, pf10, pf11, rfl⟩
  refine st_if_ne c130_14 (by omega) (fun k12 => False.elim (by omega)) (fun k13 => ?_)
  refine st_iconst c130_17 ?_
  refine st_ireturn c130_18 ?_
  exact hQ _ _ ⟨(-1), rfl, by omega, hT, hF⟩
  refine st_if_ne c130_14 (by omega) (fun k14 => ?_) (fun k15 => False.elim (by omega))
  refine st_aload c130_19 rfl ?_
  refine st_getI c130_20 hT t7 fd_10_5 (fun e16 e17 => ?_)
  refine st_iload c130_23 rfl ?_
  refine st_iconst c130_24 ?_
  refine st_icmp_ne c130_25 (by omega) (by omega) (fun k18 => ?_) (fun k19 => ?_)
  refine st_iconst c130_32 ?_
  refine st_icmp_eq c130_33 (by omega) (by omega) (fun k20 => ?_) (fun k21 => ?_)
  refine st_iload c130_39 rfl ?_
  refine st_if_ne c130_40 (by omega) (fun k22 => False.elim (by omega)) (fun k23 => ?_)
  refine st_aload c130_43 rfl ?_
  refine st_iconst c130_44 ?_
  refine st_putI c130_45 hT t7 fd_10_5 (by omega) (by omega) (Ext_rf _) hS hF (by decide +kernel) (fun h24 hT25 hF26 hU27 => ?_)
  refine st_aload c130_48 rfl ?_
  refine st_getX (u := 39) c130_49 hT25 (tf hT25 rfl rfl) fd_1_13 rfl ?_
  refine st_aload c130_52 rfl ?_
  refine st_getI c130_53 hT25 t7 fd_10_0 (fun e28 e29 => ?_)
  have q30 : fI h24 r6 0 = fI h r6 0 := FUp_fIne hU27 (fun z => absurd z.2 (by decide))
  refine st_aload c130_56 rfl ?_
  refine st_getI c130_57 hT25 (tf hT25 rfl rfl) fd_1_0 (fun e31 e32 => ?_)
  have q33 : fI h24 4 0 = fI h 4 0 := FUp_fIne hU27 (fun z => absurd z.2 (by decide))
  refine st_callt (as := [vI (fI h24 r6 0), vI (fI h24 4 0)]) c130_60 cm_19 hT25 (tf hT25 rfl rfl) fd_3_0 rfl rfl rfl rfl (by omega) (K19 hT25 (Stb_mono hS (by decide +kernel)) (fI h24 r6 0) (by omega) (fI h24 4 0) (by omega) (d - 1) (by omega) _ (fun v h0 H => H)) (fun v1 h34 H => ?_)
  obtain ⟨rfl, hT35, hF36⟩ := H
  have hF37 := Fr_cp hF26 hF36 (by decide +kernel : Wsub W19 W130 = true)
  refine st_iconst c130_63 ?_
  refine st_ireturn c130_64 ?_
  exact hQ _ _ ⟨1, rfl, by omega, hT35, hF37⟩
  refine st_iconst c130_36 ?_
  refine st_ireturn c130_38 ?_
  exact hQ _ _ ⟨(-2), rfl, by omega, hT, hF⟩
  refine st_iconst c130_28 ?_
  refine st_goto c130_29 ?_
  refine st_icmp_eq c130_33 (by omega) (by omega) (fun k38 => ?_) (fun k39 => ?_)
  refine st_iload c130_39 rfl ?_
  refine st_if_ne c130_40 (by omega) (fun k40 => ?_) (fun k41 => False.elim (by omega))
  refine st_aload c130_65 rfl ?_
  refine st_getX (u := 39) c130_66 hT (tf hT rfl rfl) fd_1_13 rfl ?_
  refine st_aload c130_69 rfl ?_
  refine st_getI c130_70 hT t7 fd_10_0 (fun e42 e43 => ?_)
  refine st_aload c130_73 rfl ?_
  refine st_getI c130_74 hT (tf hT rfl rfl) fd_1_0 (fun e44 e45 => ?_)
  refine st_callt (as := [vI (fI h r6 0), vI (fI h 4 0)]) c130_77 cm_18 hT (tf hT rfl rfl) fd_3_0 rfl rfl rfl rfl (by omega) (K18 hT (Stb_mono hS (by decide +kernel)) (fI h r6 0) (by omega) (fI h 4 0) (by omega) (d - 1) (by omega) _ (fun v h0 H => H)) (fun v1 h46 H => ?_)
  rcases H with ⟨rfl, hT47, hF48⟩ | ⟨rfl, hT47, hF48⟩
  have hF49 := Fr_cp hF hF48 (by decide +kernel : Wsub W18 W130 = true)
  refine st_if_ne c130_80 (by omega) (fun k50 => False.elim (by omega)) (fun k51 => ?_)
  refine st_iconst c130_83 ?_
  refine st_ireturn c130_85 ?_
  exact hQ _ _ ⟨(-3), rfl, by omega, hT47, hF49⟩
  have hF52 := Fr_cp hF hF48 (by decide +kernel : Wsub W18 W130 = true)
  refine st_if_ne c130_80 (by omega) (fun k53 => ?_) (fun k54 => False.elim (by omega))
  refine st_aload c130_86 rfl ?_
  refine st_iconst c130_87 ?_
  refine st_putI c130_88 hT47 t7 fd_10_5 (by omega) (by omega) (Ext_rf _) hS hF52 (by decide +kernel) (fun h55 hT56 hF57 hU58 => ?_)
  refine st_iconst c130_91 ?_
  refine st_ireturn c130_92 ?_
  exact hQ _ _ ⟨1, rfl, by omega, hT56, hF57⟩
  refine st_iconst c130_36 ?_
  refine st_ireturn c130_38 ?_
  exact hQ _ _ ⟨(-2), rfl, by omega, hT, hF⟩
def W131 : List (Nat × Nat) := [(10, 3), (10, 4), (10, 5), (10, 6), (10, 9), (10, 11), (10, 12), (12, 9), (12, 10), (12, 11), (12, 12), (28, 0)]
set_option maxHeartbeats 0 in
theorem K131 {Ln : Nat} {xs : Nat → Int32} {τ : List Nat} {h : List mE} {E : EP} (hT : TH E τ h) (hS : Stb E W131) (p1 : Int) (hp1 : (-2147483648) ≤ p1 ∧ p1 ≤ 2147483647) (p2 : Int) (hp2 : (-2147483648) ≤ p2 ∧ p2 ≤ 2147483647) (pre0 : I8 h) (d : Nat) (hd : 2 ≤ d) (Q : Option Value → List mE → Prop) (hQ : ∀ v h', (∃ z : Int, v = some (vI z) ∧ ((-2) ≤ z ∧ z ≤ 1) ∧ TH E τ h' ∧ Fr τ W131 h h') → Q v h') : MR (mex Ln xs) d 131 0 [some (.ref 4), some (vI p1), some (vI p2), none] [] h Q := by
  have hF := Fr_rf τ W131 h
  refine st_aload c131_0 rfl ?_
  refine st_iload c131_1 rfl ?_
  have e1 := fI_bd (q := 4) hT (tf hT rfl rfl) fd_1_7
  refine st_callt (as := [vI p1]) c131_2 cm_169 hT (tf hT rfl rfl) fd_1_0 rfl rfl rfl rfl (by omega) (K169 hT p1 (by omega) pre0 (d - 1) (by omega) _ (fun v h0 H => H)) (fun v1 h1 H => ?_)
  rcases H with ⟨rfl, nf8, rfl⟩ | ⟨r6, rfl, t7, pf2, pf3, pf4, pf5, rfl⟩
  refine st_astoreN (L' := [some (.ref 4), some (vI p1), some (vI p2), some .null]) c131_5 rfl rfl ?_
  refine st_aloadN c131_6 rfl ?_
  refine st_ifnullN c131_7 ?_
  refine st_iconst c131_20 ?_
  refine st_ireturn c131_21 ?_
  exact hQ _ _ ⟨(-1), rfl, by omega, hT, hF⟩
  refine st_astore (L' := [some (.ref 4), some (vI p1), some (vI p2), some (.ref r6)]) c131_5 rfl rfl ?_
  refine st_aload c131_6 rfl ?_
  refine st_ifnullR c131_7 ?_
  refine st_iload c131_10 rfl ?_
  refine st_iconst c131_11 ?_
  refine st_icmp_eq c131_12 (by omega) (by omega) (fun k9 => ?_) (fun k10 => ?_)
  refine st_aload c131_22 rfl ?_
  refine st_getI c131_23 hT t7 fd_10_3 (fun e11 e12 => ?_)
  refine st_iconst c131_26 ?_
  refine st_icmp_eq c131_27 (by omega) (by omega) (fun k13 => ?_) (fun k14 => ?_)
  refine st_iconst c131_42 ?_
  refine st_ireturn c131_44 ?_
  exact hQ _ _ ⟨(-2), rfl, by omega, hT, hF⟩
  refine st_iload c131_30 rfl ?_
  refine st_iconst c131_31 ?_
  refine st_icmp_ne c131_32 (by omega) (by omega) (fun k15 => False.elim (by omega)) (fun k16 => ?_)
  refine st_aload c131_35 rfl ?_
  refine st_callt (as := []) c131_36 cm_36 hT t7 fd_10_0 rfl rfl rfl rfl (by omega) (K36 hT r6 t7 (d - 1) (by omega) _ (fun v h0 H => H)) (fun v1 h1 H => ?_)
  rcases H with ⟨rfl, rfl⟩ | ⟨rfl, rfl⟩
  refine st_if_ne c131_39 (by omega) (fun k17 => False.elim (by omega)) (fun k18 => ?_)
  refine st_iconst c131_42 ?_
  refine st_ireturn c131_44 ?_
  exact hQ _ _ ⟨(-2), rfl, by omega, hT, hF⟩
  refine st_if_ne c131_39 (by omega) (fun k19 => ?_) (fun k20 => False.elim (by omega))
  refine st_aload c131_45 rfl ?_
  refine st_getI c131_46 hT t7 fd_10_5 (fun e21 e22 => ?_)
  refine st_iconst c131_49 ?_
  refine st_icmp_ne c131_50 (by omega) (by omega) (fun k23 => ?_) (fun k24 => ?_)
  refine st_aload c131_68 rfl ?_
  refine st_getN c131_69 hT t7 fd_10_9 (u := 12) rfl (fun e26 => ?_) (fun r25 e27 t28 => ?_)
  refine st_ifnullN c131_72 ?_
  refine st_aload c131_86 rfl ?_
  refine st_iload c131_87 rfl ?_
  refine st_aload c131_88 rfl ?_
  refine st_getI c131_89 hT (tf hT rfl rfl) fd_1_0 (fun e29 e30 => ?_)
  refine st_callt (as := [vI p2, vI (fI h 4 0)]) c131_92 cm_44 hT t7 fd_10_0 rfl rfl rfl rfl (by omega) (K44 hT (Stb_mono hS (by decide +kernel)) r6 t7 p2 (by omega) (fI h 4 0) (by omega) (d - 1) (by omega) _ (fun v h0 H => H)) (fun v1 h31 H => ?_)
  obtain ⟨rfl, hT32, hF33⟩ := H
  have hF34 := Fr_cp hF hF33 (by decide +kernel : Wsub W44 W131 = true)
  refine st_iconst c131_95 ?_
  refine st_ireturn c131_96 ?_
  exact hQ _ _ ⟨1, rfl, by omega, hT32, hF34⟩
  refine st_ifnullR c131_72 ?_
  refine st_aload c131_75 rfl ?_
  refine st_getNr c131_76 hT t7 fd_10_9 e27 ?_
  refine st_aload c131_79 rfl ?_
  refine st_getI c131_80 hT (tf hT rfl rfl) fd_1_0 (fun e35 e36 => ?_)
  refine st_callt (as := [vI (fI h 4 0)]) c131_83 cm_72 hT t28 fd_12_0 rfl rfl rfl rfl (by omega) (K72 hT (Stb_mono hS (by decide +kernel)) r25 t28 (fI h 4 0) (by omega) (d - 1) (by omega) _ (fun v h0 H => H)) (fun v1 h37 H => ?_)
  obtain ⟨rfl, hT38, hF39⟩ := H
  have hF40 := Fr_cp hF hF39 (by decide +kernel : Wsub W72 W131 = true)
  refine st_aload c131_86 rfl ?_
  refine st_iload c131_87 rfl ?_
  refine st_aload c131_88 rfl ?_
  refine st_getI c131_89 hT38 (tf hT38 rfl rfl) fd_1_0 (fun e41 e42 => ?_)
  have q43 : fI h37 4 0 = fI h 4 0 := Fr_fI hF39 (tf hT rfl rfl) (by decide +kernel)
  refine st_callt (as := [vI p2, vI (fI h37 4 0)]) c131_92 cm_44 hT38 t7 fd_10_0 rfl rfl rfl rfl (by omega) (K44 hT38 (Stb_mono hS (by decide +kernel)) r6 t7 p2 (by omega) (fI h37 4 0) (by omega) (d - 1) (by omega) _ (fun v h0 H => H)) (fun v1 h44 H => ?_)
  obtain ⟨rfl, hT45, hF46⟩ := H
  have hF47 := Fr_cp hF40 hF46 (by decide +kernel : Wsub W44 W131 = true)
  refine st_iconst c131_95 ?_
  refine st_ireturn c131_96 ?_
  exact hQ _ _ ⟨1, rfl, by omega, hT45, hF47⟩
  refine st_aload c131_53 rfl ?_
  refine st_getX (u := 39) c131_54 hT (tf hT rfl rfl) fd_1_13 rfl ?_
  refine st_aload c131_57 rfl ?_
  refine st_getI c131_58 hT t7 fd_10_0 (fun e48 e49 => ?_)
  refine st_aload c131_61 rfl ?_
  refine st_getI c131_62 hT (tf hT rfl rfl) fd_1_0 (fun e50 e51 => ?_)
  refine st_callt (as := [vI (fI h r6 0), vI (fI h 4 0)]) c131_65 cm_19 hT (tf hT rfl rfl) fd_3_0 rfl rfl rfl rfl (by omega) (K19 hT (Stb_mono hS (by decide +kernel)) (fI h r6 0) (by omega) (fI h 4 0) (by omega) (d - 1) (by omega) _ (fun v h0 H => H)) (fun v1 h52 H => ?_)
  obtain ⟨rfl, hT53, hF54⟩ := H
  have hF55 := Fr_cp hF hF54 (by decide +kernel : Wsub W19 W131 = true)
  refine st_aload c131_68 rfl ?_
  refine st_getN c131_69 hT53 t7 fd_10_9 (u := 12) rfl (fun e57 => ?_) (fun r56 e58 t59 => ?_)
  refine st_ifnullN c131_72 ?_
  refine st_aload c131_86 rfl ?_
  refine st_iload c131_87 rfl ?_
  refine st_aload c131_88 rfl ?_
  refine st_getI c131_89 hT53 (tf hT53 rfl rfl) fd_1_0 (fun e60 e61 => ?_)
  have q62 : fI h52 4 0 = fI h 4 0 := Fr_fI hF54 (tf hT rfl rfl) (by decide +kernel)
  refine st_callt (as := [vI p2, vI (fI h52 4 0)]) c131_92 cm_44 hT53 t7 fd_10_0 rfl rfl rfl rfl (by omega) (K44 hT53 (Stb_mono hS (by decide +kernel)) r6 t7 p2 (by omega) (fI h52 4 0) (by omega) (d - 1) (by omega) _ (fun v h0 H => H)) (fun v1 h63 H => ?_)
  obtain ⟨rfl, hT64, hF65⟩ := H
  have hF66 := Fr_cp hF55 hF65 (by decide +kernel : Wsub W44 W131 = true)
  refine st_iconst c131_95 ?_
  refine st_ireturn c131_96 ?_
  exact hQ _ _ ⟨1, rfl, by omega, hT64, hF66⟩
  refine st_ifnullR c131_72 ?_
  refine st_aload c131_75 rfl ?_
  refine st_getNr c131_76 hT53 t7 fd_10_9 e58 ?_
  refine st_aload c131_79 rfl ?_
  refine st_getI c131_80 hT53 (tf hT53 rfl rfl) fd_1_0 (fun e67 e68 => ?_)
  have q69 : fI h52 4 0 = fI h 4 0 := Fr_fI hF54 (tf hT rfl rfl) (by decide +kernel)
  refine st_callt (as := [vI (fI h52 4 0)]) c131_83 cm_72 hT53 t59 fd_12_0 rfl rfl rfl rfl (by omega) (K72 hT53 (Stb_mono hS (by decide +kernel)) r56 t59 (fI h52 4 0) (by omega) (d - 1) (by omega) _ (fun v h0 H => H)) (fun v1 h70 H => ?_)
  obtain ⟨rfl, hT71, hF72⟩ := H
  have hF73 := Fr_cp hF55 hF72 (by decide +kernel : Wsub W72 W131 = true)
  refine st_aload c131_86 rfl ?_
  refine st_iload c131_87 rfl ?_
  refine st_aload c131_88 rfl ?_
  refine st_getI c131_89 hT71 (tf hT71 rfl rfl) fd_1_0 (fun e74 e75 => ?_)
  have q76 : fI h70 4 0 = fI h52 4 0 := Fr_fI hF72 (tf hT53 rfl rfl) (by decide +kernel)
  refine st_callt (as := [vI p2, vI (fI h70 4 0)]) c131_92 cm_44 hT71 t7 fd_10_0 rfl rfl rfl rfl (by omega) (K44 hT71 (Stb_mono hS (by decide +kernel)) r6 t7 p2 (by omega) (fI h70 4 0) (by omega) (d - 1) (by omega) _ (fun v h0 H => H)) (fun v1 h77 H => ?_)
  obtain ⟨rfl, hT78, hF79⟩ := H
  have hF80 := Fr_cp hF73 hF79 (by decide +kernel : Wsub W44 W131 = true)
  refine st_iconst c131_95 ?_
  refine st_ireturn c131_96 ?_
  exact hQ _ _ ⟨1, rfl, by omega, hT78, hF80⟩
  refine st_iload c131_15 rfl ?_
  refine st_iconst c131_16 ?_
  refine st_icmp_eq c131_17 (by omega) (by omega) (fun k81 => ?_) (fun k82 => ?_)
  refine st_aload c131_22 rfl ?_
  refine st_getI c131_23 hT t7 fd_10_3 (fun e83 e84 => ?_)
  refine st_iconst c131_26 ?_
  refine st_icmp_eq c131_27 (by omega) (by omega) (fun k85 => ?_) (fun k86 => ?_)
  refine st_iconst c131_42 ?_
  refine st_ireturn c131_44 ?_
  exact hQ _ _ ⟨(-2), rfl, by omega, hT, hF⟩
  refine st_iload c131_30 rfl ?_
  refine st_iconst c131_31 ?_
  refine st_icmp_ne c131_32 (by omega) (by omega) (fun k87 => ?_) (fun k88 => False.elim (by omega))
  refine st_aload c131_45 rfl ?_
  refine st_getI c131_46 hT t7 fd_10_5 (fun e89 e90 => ?_)
  refine st_iconst c131_49 ?_
  refine st_icmp_ne c131_50 (by omega) (by omega) (fun k91 => ?_) (fun k92 => ?_)
  refine st_aload c131_68 rfl ?_
  refine st_getN c131_69 hT t7 fd_10_9 (u := 12) rfl (fun e94 => ?_) (fun r93 e95 t96 => ?_)
  refine st_ifnullN c131_72 ?_
  refine st_aload c131_86 rfl ?_
  refine st_iload c131_87 rfl ?_
  refine st_aload c131_88 rfl ?_
  refine st_getI c131_89 hT (tf hT rfl rfl) fd_1_0 (fun e97 e98 => ?_)
  refine st_callt (as := [vI p2, vI (fI h 4 0)]) c131_92 cm_44 hT t7 fd_10_0 rfl rfl rfl rfl (by omega) (K44 hT (Stb_mono hS (by decide +kernel)) r6 t7 p2 (by omega) (fI h 4 0) (by omega) (d - 1) (by omega) _ (fun v h0 H => H)) (fun v1 h99 H => ?_)
  obtain ⟨rfl, hT100, hF101⟩ := H
  have hF102 := Fr_cp hF hF101 (by decide +kernel : Wsub W44 W131 = true)
  refine st_iconst c131_95 ?_
  refine st_ireturn c131_96 ?_
  exact hQ _ _ ⟨1, rfl, by omega, hT100, hF102⟩
  refine st_ifnullR c131_72 ?_
  refine st_aload c131_75 rfl ?_
  refine st_getNr c131_76 hT t7 fd_10_9 e95 ?_
  refine st_aload c131_79 rfl ?_
  refine st_getI c131_80 hT (tf hT rfl rfl) fd_1_0 (fun e103 e104 => ?_)
  refine st_callt (as := [vI (fI h 4 0)]) c131_83 cm_72 hT t96 fd_12_0 rfl rfl rfl rfl (by omega) (K72 hT (Stb_mono hS (by decide +kernel)) r93 t96 (fI h 4 0) (by omega) (d - 1) (by omega) _ (fun v h0 H => H)) (fun v1 h105 H => ?_)
  obtain ⟨rfl, hT106, hF107⟩ := H
  have hF108 := Fr_cp hF hF107 (by decide +kernel : Wsub W72 W131 = true)
  refine st_aload c131_86 rfl ?_
  refine st_iload c131_87 rfl ?_
  refine st_aload c131_88 rfl ?_
  refine st_getI c131_89 hT106 (tf hT106 rfl rfl) fd_1_0 (fun e109 e110 => ?_)
  have q111 : fI h105 4 0 = fI h 4 0 := Fr_fI hF107 (tf hT rfl rfl) (by decide +kernel)
  refine st_callt (as := [vI p2, vI (fI h105 4 0)]) c131_92 cm_44 hT106 t7 fd_10_0 rfl rfl rfl rfl (by omega) (K44 hT106 (Stb_mono hS (by decide +kernel)) r6 t7 p2 (by omega) (fI h105 4 0) (by omega) (d - 1) (by omega) _ (fun v h0 H => H)) (fun v1 h112 H => ?_)
  obtain ⟨rfl, hT113, hF114⟩ := H
  have hF115 := Fr_cp hF108 hF114 (by decide +kernel : Wsub W44 W131 = true)
  refine st_iconst c131_95 ?_
  refine st_ireturn c131_96 ?_
  exact hQ _ _ ⟨1, rfl, by omega, hT113, hF115⟩
  refine st_aload c131_53 rfl ?_
  refine st_getX (u := 39) c131_54 hT (tf hT rfl rfl) fd_1_13 rfl ?_
  refine st_aload c131_57 rfl ?_
  refine st_getI c131_58 hT t7 fd_10_0 (fun e116 e117 => ?_)
  refine st_aload c131_61 rfl ?_
  refine st_getI c131_62 hT (tf hT rfl rfl) fd_1_0 (fun e118 e119 => ?_)
  refine st_callt (as := [vI (fI h r6 0), vI (fI h 4 0)]) c131_65 cm_19 hT (tf hT rfl rfl) fd_3_0 rfl rfl rfl rfl (by omega) (K19 hT (Stb_mono hS (by decide +kernel)) (fI h r6 0) (by omega) (fI h 4 0) (by omega) (d - 1) (by omega) _ (fun v h0 H => H)) (fun v1 h120 H => ?_)
  obtain ⟨rfl, hT121, hF122⟩ := H
  have hF123 := Fr_cp hF hF122 (by decide +kernel : Wsub W19 W131 = true)
  refine st_aload c131_68 rfl ?_
  refine st_getN c131_69 hT121 t7 fd_10_9 (u := 12) rfl (fun e125 => ?_) (fun r124 e126 t127 => ?_)
  refine st_ifnullN c131_72 ?_
  refine st_aload c131_86 rfl ?_
  refine st_iload c131_87 rfl ?_
  refine st_aload c131_88 rfl ?_
  refine st_getI c131_89 hT121 (tf hT121 rfl rfl) fd_1_0 (fun e128 e129 => ?_)
  have q130 : fI h120 4 0 = fI h 4 0 := Fr_fI hF122 (tf hT rfl rfl) (by decide +kernel)
  refine st_callt (as := [vI p2, vI (fI h120 4 0)]) c131_92 cm_44 hT121 t7 fd_10_0 rfl rfl rfl rfl (by omega) (K44 hT121 (Stb_mono hS (by decide +kernel)) r6 t7 p2 (by omega) (fI h120 4 0) (by omega) (d - 1) (by omega) _ (fun v h0 H => H)) (fun v1 h131 H => ?_)
  obtain ⟨rfl, hT132, hF133⟩ := H
  have hF134 := Fr_cp hF123 hF133 (by decide +kernel : Wsub W44 W131 = true)
  refine st_iconst c131_95 ?_
  refine st_ireturn c131_96 ?_
  exact hQ _ _ ⟨1, rfl, by omega, hT132, hF134⟩
  refine st_ifnullR c131_72 ?_
  refine st_aload c131_75 rfl ?_
  refine st_getNr c131_76 hT121 t7 fd_10_9 e126 ?_
  refine st_aload c131_79 rfl ?_
  refine st_getI c131_80 hT121 (tf hT121 rfl rfl) fd_1_0 (fun e135 e136 => ?_)
  have q137 : fI h120 4 0 = fI h 4 0 := Fr_fI hF122 (tf hT rfl rfl) (by decide +kernel)
  refine st_callt (as := [vI (fI h120 4 0)]) c131_83 cm_72 hT121 t127 fd_12_0 rfl rfl rfl rfl (by omega) (K72 hT121 (Stb_mono hS (by decide +kernel)) r124 t127 (fI h120 4 0) (by omega) (d - 1) (by omega) _ (fun v h0 H => H)) (fun v1 h138 H => ?_)
  obtain ⟨rfl, hT139, hF140⟩ := H
  have hF141 := Fr_cp hF123 hF140 (by decide +kernel : Wsub W72 W131 = true)
  refine st_aload c131_86 rfl ?_
  refine st_iload c131_87 rfl ?_
  refine st_aload c131_88 rfl ?_
  refine st_getI c131_89 hT139 (tf hT139 rfl rfl) fd_1_0 (fun e142 e143 => ?_)
  have q144 : fI h138 4 0 = fI h120 4 0 := Fr_fI hF140 (tf hT121 rfl rfl) (by decide +kernel)
  refine st_callt (as := [vI p2, vI (fI h138 4 0)]) c131_92 cm_44 hT139 t7 fd_10_0 rfl rfl rfl rfl (by omega) (K44 hT139 (Stb_mono hS (by decide +kernel)) r6 t7 p2 (by omega) (fI h138 4 0) (by omega) (d - 1) (by omega) _ (fun v h0 H => H)) (fun v1 h145 H => ?_)
  obtain ⟨rfl, hT146, hF147⟩ := H
  have hF148 := Fr_cp hF141 hF147 (by decide +kernel : Wsub W44 W131 = true)
  refine st_iconst c131_95 ?_
  refine st_ireturn c131_96 ?_
  exact hQ _ _ ⟨1, rfl, by omega, hT146, hF148⟩
  refine st_iconst c131_20 ?_
  refine st_ireturn c131_21 ?_
  exact hQ _ _ ⟨(-1), rfl, by omega, hT, hF⟩
def W133 : List (Nat × Nat) := [(3, 3), (23, 0), (24, 0), (25, 0)]
set_option maxHeartbeats 0 in
theorem K133 {Ln : Nat} {xs : Nat → Int32} {τ : List Nat} {h : List mE} {E : EP} (hT : TH E τ h) (hS : Stb E W133) (p1 : Int) (hp1 : (-2147483648) ≤ p1 ∧ p1 ≤ 2147483647) (p2 : Int) (hp2 : (-2147483648) ≤ p2 ∧ p2 ≤ 2147483647) (pre0 : I8 h) (d : Nat) (hd : 1 ≤ d) (Q : Option Value → List mE → Prop) (hQ : ∀ v h', (∃ z : Int, v = some (vI z) ∧ ((-3) ≤ z ∧ z ≤ 300) ∧ ((0 ≤ p1 ∧ p1 < fI h 4 7 ∧ 0 ≤ p2 ∧ p2 < fI h 6 3 ∧ fI h 39 3 ≤ 299 ∧ z = fI h 39 3 + 1 ∧ fI h' 39 3 = fI h 39 3 + 1) ∨ (0 ≤ p1 ∧ p1 < fI h 4 7 ∧ 0 ≤ p2 ∧ p2 < fI h 6 3 ∧ 300 ≤ fI h 39 3 ∧ z = -3 ∧ fI h' 39 3 = fI h 39 3) ∨ ((p1 < 0 ∨ fI h 4 7 ≤ p1 ∨ p2 < 0 ∨ fI h 6 3 ≤ p2) ∧ z = -1 ∧ fI h' 39 3 = fI h 39 3)) ∧ TH E τ h' ∧ Fr τ W133 h h') → Q v h') : MR (mex Ln xs) d 133 0 [some (.ref 4), some (vI p1), some (vI p2)] [] h Q := by
  have hF := Fr_rf τ W133 h
  refine st_aload c133_0 rfl ?_
  refine st_iload c133_1 rfl ?_
  have e1 := fI_bd (q := 4) hT (tf hT rfl rfl) fd_1_7
  refine st_callt (as := [vI p1]) c133_2 cm_169 hT (tf hT rfl rfl) fd_1_0 rfl rfl rfl rfl (by omega) (K169 hT p1 (by omega) pre0 (d - 1) (by omega) _ (fun v h0 H => H)) (fun v1 h1 H => ?_)
  rcases H with ⟨rfl, nf8, rfl⟩ | ⟨r6, rfl, t7, pf2, pf3, pf4, pf5, rfl⟩
  refine st_ifnullN c133_5 ?_
  refine st_iconst c133_19 ?_
  refine st_ireturn c133_20 ?_
  have e9 := fI_bd (q := 39) hT (tf hT rfl rfl) fd_3_3
  exact hQ _ _ ⟨(-1), rfl, by omega, by omega, hT, hF⟩
  refine st_ifnullR c133_5 ?_
  refine st_aload c133_8 rfl ?_
  refine st_getX (u := 6) c133_9 hT (tf hT rfl rfl) fd_1_3 rfl ?_
  refine st_iload c133_12 rfl ?_
  have e10 := fI_bd (q := 6) hT (tf hT rfl rfl) fd_2_3
  refine st_callt (as := [vI p2]) c133_13 cm_85 hT (tf hT rfl rfl) fd_2_0 rfl rfl rfl rfl (by omega) (K85 hT p2 (by omega) (d - 1) (by omega) _ (fun v h0 H => H)) (fun v1 h1 H => ?_)
  rcases H with ⟨rfl, pf11, rfl⟩ | ⟨rfl, pf12, pf13, rfl⟩
  refine st_if_ne c133_16 (by omega) (fun k14 => False.elim (by omega)) (fun k15 => ?_)
  refine st_iconst c133_19 ?_
  refine st_ireturn c133_20 ?_
  have e16 := fI_bd (q := 39) hT (tf hT rfl rfl) fd_3_3
  exact hQ _ _ ⟨(-1), rfl, by omega, by omega, hT, hF⟩
  refine st_if_ne c133_16 (by omega) (fun k17 => ?_) (fun k18 => False.elim (by omega))
  refine st_aload c133_21 rfl ?_
  refine st_getX (u := 39) c133_22 hT (tf hT rfl rfl) fd_1_13 rfl ?_
  refine st_iload c133_25 rfl ?_
  refine st_iload c133_26 rfl ?_
  refine st_aload c133_27 rfl ?_
  refine st_getI c133_28 hT (tf hT rfl rfl) fd_1_0 (fun e19 e20 => ?_)
  have e21 := fI_bd (q := 39) hT (tf hT rfl rfl) fd_3_3
  refine st_callt (as := [vI p1, vI p2, vI (fI h 4 0)]) c133_31 cm_13 hT (tf hT rfl rfl) fd_3_0 rfl rfl rfl rfl (by omega) (K13 hT (Stb_mono hS (by decide +kernel)) p1 (by omega) p2 (by omega) (fI h 4 0) (by omega) (d - 1) (by omega) _ (fun v h0 H => H)) (fun v1 h22 H => ?_)
  obtain ⟨z26, rfl, b27, pf25, hT23, hF24⟩ := H
  have hF28 := Fr_cp hF hF24 (by decide +kernel : Wsub W13 W133 = true)
  have e29 := fI_bd (q := 39) hT23 (tf hT23 rfl rfl) fd_3_3
  refine st_ireturn c133_34 ?_
  exact hQ _ _ ⟨z26, rfl, by omega, by omega, hT23, hF28⟩
set_option maxHeartbeats 0 in
theorem K134 {Ln : Nat} {xs : Nat → Int32} {τ : List Nat} {h : List mE} {E : EP} (hT : TH E τ h) (p1 : Int) (hp1 : (-2147483648) ≤ p1 ∧ p1 ≤ 2147483647) (p2 : Int) (hp2 : (-2147483648) ≤ p2 ∧ p2 ≤ 2147483647) (pre0 : I8 h) (d : Nat) (hd : 3 ≤ d) (Q : Option Value → List mE → Prop) (hQ : ∀ v h', (∃ z : Int, v = some (vI z) ∧ ((-2147483648) ≤ z ∧ z ≤ 2147483647) ∧ h = h') → Q v h') : MR (mex Ln xs) d 134 0 [some (.ref 4), some (vI p1), some (vI p2), none] [] h Q := by
  refine st_aload c134_0 rfl ?_
  refine st_iload c134_1 rfl ?_
  have e1 := fI_bd (q := 4) hT (tf hT rfl rfl) fd_1_7
  refine st_callt (as := [vI p1]) c134_2 cm_169 hT (tf hT rfl rfl) fd_1_0 rfl rfl rfl rfl (by omega) (K169 hT p1 (by omega) pre0 (d - 1) (by omega) _ (fun v h0 H => H)) (fun v1 h1 H => ?_)
  rcases H with ⟨rfl, nf8, rfl⟩ | ⟨r6, rfl, t7, pf2, pf3, pf4, pf5, rfl⟩
  refine st_astoreN (L' := [some (.ref 4), some (vI p1), some (vI p2), some .null]) c134_5 rfl rfl ?_
  refine st_aloadN c134_6 rfl ?_
  refine st_ifnullN c134_7 ?_
  refine st_iconst c134_19 ?_
  refine st_ireturn c134_20 ?_
  exact hQ _ _ ⟨(-1), rfl, by omega, rfl⟩
  refine st_astore (L' := [some (.ref 4), some (vI p1), some (vI p2), some (.ref r6)]) c134_5 rfl rfl ?_
  refine st_aload c134_6 rfl ?_
  refine st_ifnullR c134_7 ?_
  refine st_iload c134_10 rfl ?_
  refine st_iconst c134_11 ?_
  refine st_iconst c134_12 ?_
  refine st_calls (as := [vI p2, vI 0, vI 2]) c134_13 cm_166 rfl rfl rfl rfl (by omega) (K166 hT p2 (by omega) 0 (by omega) 2 (by omega) (d - 1) (by omega) _ (fun v h0 H => H)) (fun v1 h1 H => ?_)
  rcases H with ⟨rfl, pf9, rfl⟩ | ⟨rfl, pf10, pf11, rfl⟩
  refine st_if_ne c134_16 (by omega) (fun k12 => False.elim (by omega)) (fun k13 => ?_)
  refine st_iconst c134_19 ?_
  refine st_ireturn c134_20 ?_
  exact hQ _ _ ⟨(-1), rfl, by omega, rfl⟩
  refine st_if_ne c134_16 (by omega) (fun k14 => ?_) (fun k15 => False.elim (by omega))
  refine st_aload c134_21 rfl ?_
  refine st_getI c134_22 hT t7 fd_10_5 (fun e16 e17 => ?_)
  refine st_iconst c134_25 ?_
  refine st_icmp_eq c134_26 (by omega) (by omega) (fun k18 => ?_) (fun k19 => ?_)
  refine st_iload c134_32 rfl ?_
  refine st_iconst c134_33 ?_
  refine st_icmp_ne c134_34 (by omega) (by omega) (fun k20 => ?_) (fun k21 => ?_)
  refine st_iload c134_42 rfl ?_
  refine st_if_ne c134_43 (by omega) (fun k22 => ?_) (fun k23 => ?_)
  refine st_aload c134_57 rfl ?_
  refine st_getX (u := 39) c134_58 hT (tf hT rfl rfl) fd_1_13 rfl ?_
  refine st_aload c134_61 rfl ?_
  refine st_callt (as := [.ref r6]) c134_62 cm_16 hT (tf hT rfl rfl) fd_3_0 rfl rfl rfl rfl (by omega) (K16 hT r6 t7 (d - 1) (by omega) _ (fun v h0 H => H)) (fun v1 h1 H => ?_)
  obtain ⟨z24, rfl, b25, rfl⟩ := H
  refine st_ireturn c134_65 ?_
  exact hQ _ _ ⟨z24, rfl, by omega, rfl⟩
  refine st_aload c134_46 rfl ?_
  refine st_getX (u := 39) c134_47 hT (tf hT rfl rfl) fd_1_13 rfl ?_
  refine st_aload c134_50 rfl ?_
  refine st_callt (as := [.ref r6]) c134_51 cm_17 hT (tf hT rfl rfl) fd_3_0 rfl rfl rfl rfl (by omega) (K17 hT r6 t7 (d - 1) (by omega) _ (fun v h0 H => H)) (fun v1 h1 H => ?_)
  obtain ⟨z26, rfl, b27, rfl⟩ := H
  refine st_goto c134_54 ?_
  refine st_ireturn c134_65 ?_
  exact hQ _ _ ⟨z26, rfl, by omega, rfl⟩
  refine st_aload c134_37 rfl ?_
  refine st_getI c134_38 hT t7 fd_10_11 (fun e28 e29 => ?_)
  refine st_ireturn c134_41 ?_
  exact hQ _ _ ⟨fI h r6 11, rfl, by omega, rfl⟩
  refine st_iconst c134_29 ?_
  refine st_ireturn c134_31 ?_
  exact hQ _ _ ⟨(-2), rfl, by omega, rfl⟩
def W135 : List (Nat × Nat) := [(1, 10), (17, 0), (18, 0)]
set_option maxHeartbeats 0 in
theorem K135 {Ln : Nat} {xs : Nat → Int32} {τ : List Nat} {h : List mE} {E : EP} (hT : TH E τ h) (hS : Stb E W135) (p1 : Int) (hp1 : (-2147483648) ≤ p1 ∧ p1 ≤ 2147483647) (p2 : Int) (hp2 : (-2147483648) ≤ p2 ∧ p2 ≤ 2147483647) (d : Nat) (hd : 1 ≤ d) (Q : Option Value → List mE → Prop) (hQ : ∀ v h', (∃ z : Int, v = some (vI z) ∧ ((-3) ≤ z ∧ z ≤ 29) ∧ ((0 ≤ p1 ∧ p1 < fI h 6 3 ∧ 0 ≤ p2 ∧ p2 ≤ 255 ∧ fI h 4 10 ≤ 29 ∧ z = fI h 4 10 ∧ fI h' 4 10 = fI h 4 10 + 1) ∨ (0 ≤ p1 ∧ p1 < fI h 6 3 ∧ 0 ≤ p2 ∧ p2 ≤ 255 ∧ 30 ≤ fI h 4 10 ∧ z = -3 ∧ fI h' 4 10 = fI h 4 10) ∨ ((p1 < 0 ∨ fI h 6 3 ≤ p1 ∨ p2 < 0 ∨ 255 < p2) ∧ z = -1 ∧ fI h' 4 10 = fI h 4 10)) ∧ TH E τ h' ∧ Fr τ W135 h h') → Q v h') : MR (mex Ln xs) d 135 0 [some (.ref 4), some (vI p1), some (vI p2)] [] h Q := by
  have hF := Fr_rf τ W135 h
  refine st_aload c135_0 rfl ?_
  refine st_getX (u := 6) c135_1 hT (tf hT rfl rfl) fd_1_3 rfl ?_
  refine st_iload c135_4 rfl ?_
  have e1 := fI_bd (q := 6) hT (tf hT rfl rfl) fd_2_3
  refine st_callt (as := [vI p1]) c135_5 cm_85 hT (tf hT rfl rfl) fd_2_0 rfl rfl rfl rfl (by omega) (K85 hT p1 (by omega) (d - 1) (by omega) _ (fun v h0 H => H)) (fun v1 h1 H => ?_)
  rcases H with ⟨rfl, pf2, rfl⟩ | ⟨rfl, pf3, pf4, rfl⟩
  refine st_if_eq c135_8 (by omega) (fun k5 => ?_) (fun k6 => False.elim (by omega))
  refine st_iconst c135_22 ?_
  refine st_ireturn c135_23 ?_
  have e7 := fI_bd (q := 4) hT (tf hT rfl rfl) fd_1_10
  exact hQ _ _ ⟨(-1), rfl, by omega, by omega, hT, hF⟩
  refine st_if_eq c135_8 (by omega) (fun k8 => False.elim (by omega)) (fun k9 => ?_)
  refine st_iload c135_11 rfl ?_
  refine st_iconst c135_12 ?_
  refine st_iconst c135_13 ?_
  refine st_calls (as := [vI p2, vI 0, vI 255]) c135_16 cm_166 rfl rfl rfl rfl (by omega) (K166 hT p2 (by omega) 0 (by omega) 255 (by omega) (d - 1) (by omega) _ (fun v h0 H => H)) (fun v1 h1 H => ?_)
  rcases H with ⟨rfl, pf10, rfl⟩ | ⟨rfl, pf11, pf12, rfl⟩
  refine st_if_ne c135_19 (by omega) (fun k13 => False.elim (by omega)) (fun k14 => ?_)
  refine st_iconst c135_22 ?_
  refine st_ireturn c135_23 ?_
  have e15 := fI_bd (q := 4) hT (tf hT rfl rfl) fd_1_10
  exact hQ _ _ ⟨(-1), rfl, by omega, by omega, hT, hF⟩
  refine st_if_ne c135_19 (by omega) (fun k16 => ?_) (fun k17 => False.elim (by omega))
  refine st_aload c135_24 rfl ?_
  refine st_getI c135_25 hT (tf hT rfl rfl) fd_1_10 (fun e18 e19 => ?_)
  refine st_iconst c135_28 ?_
  refine st_icmp_lt c135_30 (by omega) (by omega) (fun k20 => ?_) (fun k21 => ?_)
  refine st_aload c135_36 rfl ?_
  refine st_getX (u := 36) c135_37 hT (tf hT rfl rfl) fd_1_8 rfl ?_
  refine st_aload c135_40 rfl ?_
  refine st_getI c135_41 hT (tf hT rfl rfl) fd_1_10 (fun e22 e23 => ?_)
  refine st_iload c135_44 rfl ?_
  refine st_iast c135_45 hT (tf hT rfl rfl) ay_17 (by omega) (by omega) (by omega) (Ext_rf _) hS hF (by decide +kernel) (fun h24 hT25 hF26 hU27 => ?_)
  refine st_aload c135_46 rfl ?_
  refine st_getX (u := 37) c135_47 hT25 (tf hT25 rfl rfl) fd_1_9 rfl ?_
  refine st_aload c135_50 rfl ?_
  refine st_getI c135_51 hT25 (tf hT25 rfl rfl) fd_1_10 (fun e28 e29 => ?_)
  have q30 : fI h24 4 10 = fI h 4 10 := AUp_fI hU27
  refine st_iload c135_54 rfl ?_
  refine st_iast c135_55 hT25 (tf hT25 rfl rfl) ay_18 (by omega) (by omega) (by omega) (Ext_rf _) hS hF26 (by decide +kernel) (fun h31 hT32 hF33 hU34 => ?_)
  refine st_aload c135_56 rfl ?_
  refine st_dup c135_57 rfl ?_
  refine st_getI c135_58 hT32 (tf hT32 rfl rfl) fd_1_10 (fun e35 e36 => ?_)
  have q37 : fI h31 4 10 = fI h24 4 10 := AUp_fI hU34
  refine st_dup_x1 c135_61 rfl rfl ?_
  refine st_iconst c135_62 ?_
  refine st_iadd c135_63 ?_
  refine st_putI c135_64 hT32 (tf hT32 rfl rfl) fd_1_10 (by omega) (by omega) (Ext_rf _) hS hF33 (by decide +kernel) (fun h38 hT39 hF40 hU41 => ?_)
  refine st_ireturn c135_67 ?_
  have e42 := fI_bd (q := 4) hT39 (tf hT39 rfl rfl) fd_1_10
  have q43 : fI h38 4 10 = (fI h31 4 10) + 1 := FUp_fI hU41 (by omega) (by omega)
  exact hQ _ _ ⟨fI h31 4 10, rfl, by omega, by omega, hT39, hF40⟩
  refine st_iconst c135_33 ?_
  refine st_ireturn c135_35 ?_
  exact hQ _ _ ⟨(-3), rfl, by omega, by omega, hT, hF⟩
set_option maxHeartbeats 0 in
theorem K137 {Ln : Nat} {xs : Nat → Int32} {τ : List Nat} {h : List mE} {E : EP} (hT : TH E τ h) (p1 : Int) (hp1 : (-2147483648) ≤ p1 ∧ p1 ≤ 2147483647) (p2 : Int) (hp2 : (-2147483648) ≤ p2 ∧ p2 ≤ 2147483647) (pre0 : I1 τ h) (pre1 : I8 h) (d : Nat) (hd : 5 ≤ d) (Q : Option Value → List mE → Prop) (hQ : ∀ v h', (∃ z : Int, v = some (vI z) ∧ ((-1) ≤ z ∧ z ≤ 6) ∧ h = h') → Q v h') : MR (mex Ln xs) d 137 0 [some (.ref 4), some (vI p1), some (vI p2), none, none] [] h Q := by
  refine st_aload c137_0 rfl ?_
  refine st_iload c137_1 rfl ?_
  have e1 := fI_bd (q := 4) hT (tf hT rfl rfl) fd_1_7
  refine st_callt (as := [vI p1]) c137_2 cm_169 hT (tf hT rfl rfl) fd_1_0 rfl rfl rfl rfl (by omega) (K169 hT p1 (by omega) pre1 (d - 1) (by omega) _ (fun v h0 H => H)) (fun v1 h1 H => ?_)
  rcases H with ⟨rfl, nf8, rfl⟩ | ⟨r6, rfl, t7, pf2, pf3, pf4, pf5, rfl⟩
  refine st_astoreN (L' := [some (.ref 4), some (vI p1), some (vI p2), some .null, none]) c137_5 rfl rfl ?_
  refine st_aload c137_6 rfl ?_
  refine st_iload c137_7 rfl ?_
  have e9 := fI_bd (q := 4) hT (tf hT rfl rfl) fd_1_12
  refine st_callt (as := [vI p2]) c137_8 cm_170 hT (tf hT rfl rfl) fd_1_0 rfl rfl rfl rfl (by omega) (K170 hT p2 (by omega) pre1 (d - 1) (by omega) _ (fun v h0 H => H)) (fun v1 h1 H => ?_)
  rcases H with ⟨rfl, nf16, rfl⟩ | ⟨r14, rfl, t15, pf10, pf11, pf12, pf13, rfl⟩
  refine st_astoreN (L' := [some (.ref 4), some (vI p1), some (vI p2), some .null, some .null]) c137_11 rfl rfl ?_
  refine st_aloadN c137_13 rfl ?_
  refine st_ifnullN c137_14 ?_
  refine st_iconst c137_22 ?_
  refine st_goto c137_23 ?_
  refine st_ireturn c137_40 ?_
  exact hQ _ _ ⟨(-1), rfl, by omega, rfl⟩
  refine st_astore (L' := [some (.ref 4), some (vI p1), some (vI p2), some .null, some (.ref r14)]) c137_11 rfl rfl ?_
  refine st_aloadN c137_13 rfl ?_
  refine st_ifnullN c137_14 ?_
  refine st_iconst c137_22 ?_
  refine st_goto c137_23 ?_
  refine st_ireturn c137_40 ?_
  exact hQ _ _ ⟨(-1), rfl, by omega, rfl⟩
  refine st_astore (L' := [some (.ref 4), some (vI p1), some (vI p2), some (.ref r6), none]) c137_5 rfl rfl ?_
  refine st_aload c137_6 rfl ?_
  refine st_iload c137_7 rfl ?_
  have e17 := fI_bd (q := 4) hT (tf hT rfl rfl) fd_1_12
  refine st_callt (as := [vI p2]) c137_8 cm_170 hT (tf hT rfl rfl) fd_1_0 rfl rfl rfl rfl (by omega) (K170 hT p2 (by omega) pre1 (d - 1) (by omega) _ (fun v h0 H => H)) (fun v1 h1 H => ?_)
  rcases H with ⟨rfl, nf24, rfl⟩ | ⟨r22, rfl, t23, pf18, pf19, pf20, pf21, rfl⟩
  refine st_astoreN (L' := [some (.ref 4), some (vI p1), some (vI p2), some (.ref r6), some .null]) c137_11 rfl rfl ?_
  refine st_aload c137_13 rfl ?_
  refine st_ifnullR c137_14 ?_
  refine st_aloadN c137_17 rfl ?_
  refine st_ifnonnullN c137_19 ?_
  refine st_iconst c137_22 ?_
  refine st_goto c137_23 ?_
  refine st_ireturn c137_40 ?_
  exact hQ _ _ ⟨(-1), rfl, by omega, rfl⟩
  refine st_astore (L' := [some (.ref 4), some (vI p1), some (vI p2), some (.ref r6), some (.ref r22)]) c137_11 rfl rfl ?_
  refine st_aload c137_13 rfl ?_
  refine st_ifnullR c137_14 ?_
  refine st_aload c137_17 rfl ?_
  refine st_ifnonnullR c137_19 ?_
  refine st_aload c137_26 rfl ?_
  refine st_aload c137_28 rfl ?_
  refine st_aload c137_29 rfl ?_
  refine st_getI c137_30 hT (tf hT rfl rfl) fd_1_0 (fun e25 e26 => ?_)
  refine st_aload c137_33 rfl ?_
  refine st_getX (u := 6) c137_34 hT (tf hT rfl rfl) fd_1_3 rfl ?_
  refine st_callt (as := [.ref r6, vI (fI h 4 0), .ref 6]) c137_37 cm_67 hT t23 fd_12_0 rfl rfl rfl rfl (by omega) (K67 hT r22 t23 r6 t7 (fI h 4 0) (by omega) pre0 (d - 1) (by omega) _ (fun v h0 H => H)) (fun v1 h1 H => ?_)
  obtain ⟨z27, rfl, b28, rfl⟩ := H
  refine st_ireturn c137_40 ?_
  exact hQ _ _ ⟨z27, rfl, by omega, rfl⟩
def W138 : List (Nat × Nat) := [(4, 1), (29, 0)]
set_option maxHeartbeats 0 in
theorem K138 {Ln : Nat} {xs : Nat → Int32} {τ : List Nat} {h : List mE} {E : EP} (hT : TH E τ h) (hS : Stb E W138) (p1 : Int) (hp1 : (-2147483648) ≤ p1 ∧ p1 ≤ 2147483647) (pre0 : I8 h) (d : Nat) (hd : 2 ≤ d) (Q : Option Value → List mE → Prop) (hQ : ∀ v h', (∃ z : Int, v = some (vI z) ∧ ((-3) ≤ z ∧ z ≤ 6) ∧ TH E τ h' ∧ Fr τ W138 h h') → Q v h') : MR (mex Ln xs) d 138 0 [some (.ref 4), some (vI p1), none] [] h Q := by
  have hF := Fr_rf τ W138 h
  refine st_aload c138_0 rfl ?_
  refine st_iload c138_1 rfl ?_
  have e1 := fI_bd (q := 4) hT (tf hT rfl rfl) fd_1_12
  refine st_callt (as := [vI p1]) c138_2 cm_170 hT (tf hT rfl rfl) fd_1_0 rfl rfl rfl rfl (by omega) (K170 hT p1 (by omega) pre0 (d - 1) (by omega) _ (fun v h0 H => H)) (fun v1 h1 H => ?_)
  rcases H with ⟨rfl, nf8, rfl⟩ | ⟨r6, rfl, t7, pf2, pf3, pf4, pf5, rfl⟩
  refine st_astoreN (L' := [some (.ref 4), some (vI p1), some .null]) c138_5 rfl rfl ?_
  refine st_aloadN c138_6 rfl ?_
  refine st_ifnonnullN c138_7 ?_
  refine st_iconst c138_10 ?_
  refine st_goto c138_11 ?_
  refine st_ireturn c138_22 ?_
  exact hQ _ _ ⟨(-1), rfl, by omega, hT, hF⟩
  refine st_astore (L' := [some (.ref 4), some (vI p1), some (.ref r6)]) c138_5 rfl rfl ?_
  refine st_aload c138_6 rfl ?_
  refine st_ifnonnullR c138_7 ?_
  refine st_aload c138_14 rfl ?_
  refine st_getX (u := 46) c138_15 hT (tf hT rfl rfl) fd_1_14 rfl ?_
  refine st_aload c138_18 rfl ?_
  refine st_callt (as := [.ref r6]) c138_19 cm_50 hT (tf hT rfl rfl) fd_4_0 rfl rfl rfl rfl (by omega) (K50 hT (Stb_mono hS (by decide +kernel)) r6 t7 (d - 1) (by omega) _ (fun v h0 H => H)) (fun v1 h9 H => ?_)
  obtain ⟨z12, rfl, b13, hT10, hF11⟩ := H
  have hF14 := Fr_cp hF hF11 (by decide +kernel : Wsub W50 W138 = true)
  refine st_ireturn c138_22 ?_
  exact hQ _ _ ⟨z12, rfl, by omega, hT10, hF14⟩
def W139 : List (Nat × Nat) := [(4, 1), (4, 2), (10, 9), (12, 9), (12, 10), (29, 0), (30, 0), (31, 0)]
set_option maxHeartbeats 0 in
theorem K139 {Ln : Nat} {xs : Nat → Int32} {τ : List Nat} {h : List mE} {E : EP} (hT : TH E τ h) (hS : Stb E W139) (pre0 : I1 τ h) (pre1 : I8 h) (d : Nat) (hd : 7 ≤ d) (Q : Option Value → List mE → Prop) (hQ : ∀ v h', (∃ z : Int, v = some (vI z) ∧ ((-2147483648) ≤ z ∧ z ≤ 2147483647) ∧ TH E τ h' ∧ Fr τ W139 h h') → Q v h') : MR (mex Ln xs) d 139 0 [some (.ref 4), none, none] [] h Q := by
  have hF := Fr_rf τ W139 h
  refine st_aload c139_0 rfl ?_
  refine st_getX (u := 46) c139_1 hT (tf hT rfl rfl) fd_1_14 rfl ?_
  refine st_getI c139_4 hT (tf hT rfl rfl) fd_4_1 (fun e1 e2 => ?_)
  refine st_if_ne c139_7 (by omega) (fun k3 => ?_) (fun k4 => ?_)
  refine st_aload c139_13 rfl ?_
  refine st_getX (u := 46) c139_14 hT (tf hT rfl rfl) fd_1_14 rfl ?_
  refine st_callt (as := []) c139_17 cm_51 hT (tf hT rfl rfl) fd_4_0 rfl rfl rfl rfl (by omega) (K51 hT (Stb_mono hS (by decide +kernel)) (d - 1) (by omega) _ (fun v h0 H => H)) (fun v1 h5 H => ?_)
  obtain ⟨rfl, hT6, hF7⟩ := H
  have hF8 := Fr_cp hF hF7 (by decide +kernel : Wsub W51 W139 = true)
  refine st_iconst c139_20 ?_
  refine st_istore (L' := [some (.ref 4), some (vI 0), none]) c139_21 rfl rfl ?_
  have lp175 : ∀ (n176 : Nat) (z170 : Int) (h171 : List mE), (90 : Int) - z170 < (n176 : Int) → 0 ≤ z170 ∧ z170 ≤ 90 → TH E τ h171 → Fr τ W139 h h171 → Fr τ [(30, 0), (31, 0)] h5 h171 → MR (mex Ln xs) d 139 22 [some (.ref 4), some (vI z170), none] [] h171 Q := by
    intro n176
    induction n176 with
    | zero =>
      intro z170 h171 hm178 b179 hT172 hF173 hL174
      exfalso; omega
    | succ n176 ih177 =>
      intro z170 h171 hm178 b179 hT172 hF173 hL174
      refine st_iload c139_22 rfl ?_
      refine st_iconst c139_23 ?_
      refine st_icmp_ge c139_25 (by omega) (by omega) (fun k180 => ?_) (fun k181 => ?_)
      refine st_aload c139_60 rfl ?_
      refine st_getX (u := 46) c139_61 hT172 (tf hT172 rfl rfl) fd_1_14 rfl ?_
      refine st_aload c139_64 rfl ?_
      refine st_getX (u := 35) c139_65 hT172 (tf hT172 rfl rfl) fd_1_6 rfl ?_
      refine st_aload c139_68 rfl ?_
      refine st_getX (u := 6) c139_69 hT172 (tf hT172 rfl rfl) fd_1_3 rfl ?_
      refine st_callt (as := [.ref 35, .ref 6]) c139_72 cm_55 hT172 (tf hT172 rfl rfl) fd_4_0 rfl rfl rfl rfl (by omega) (K55 hT172 (Stb_mono hS (by decide +kernel)) (d - 1) (by omega) _ (fun v h0 H => H)) (fun v1 h182 H => ?_)
      obtain ⟨z185, rfl, b186, hT183, hF184⟩ := H
      have hF187 := Fr_cp hF173 hF184 (by decide +kernel : Wsub W55 W139 = true)
      refine st_ireturn c139_75 ?_
      exact hQ _ _ ⟨z185, rfl, by omega, hT183, hF187⟩
      refine st_aload c139_28 rfl ?_
      refine st_iload c139_29 rfl ?_
      have e188 := fI_bd (q := 4) hT172 (tf hT172 rfl rfl) fd_1_7
      have q189 : fI h171 4 7 = fI h 4 7 := (Fr_fI hL174 (tf hT6 rfl rfl) (by decide +kernel)).trans (Fr_fI hF7 (tf hT rfl rfl) (by decide +kernel))
      refine st_callt (as := [vI z170]) c139_30 cm_169 hT172 (tf hT172 rfl rfl) fd_1_0 rfl rfl rfl rfl (by omega) (K169 hT172 z170 (by omega) (I8_fr pre1 hT hF173 (by decide +kernel)) (d - 1) (by omega) _ (fun v h0 H => H)) (fun v1 h1 H => ?_)
      rcases H with ⟨rfl, nf196, rfl⟩ | ⟨r194, rfl, t195, pf190, pf191, pf192, pf193, rfl⟩
      refine st_astoreN (L' := [some (.ref 4), some (vI z170), some .null]) c139_33 rfl rfl ?_
      refine st_aloadN c139_34 rfl ?_
      refine st_ifnullN c139_35 ?_
      refine st_iinc (L' := [some (.ref 4), some (vI (z170 + 1)), some .null]) c139_54 rfl rfl rfl ?_
      refine st_goto c139_57 ?_
      refine MR_weak (A := [some (.ref 4), some (vI (z170 + 1)), none]) (Lle_s (Lle_s (Lle_n (Lle_0)))) ?_
      exact ih177 (z170 + 1) h171 (by omega) (by omega) hT172 hF173 hL174
      refine st_astore (L' := [some (.ref 4), some (vI z170), some (.ref r194)]) c139_33 rfl rfl ?_
      refine st_aload c139_34 rfl ?_
      refine st_ifnullR c139_35 ?_
      refine st_aload c139_38 rfl ?_
      refine st_getX (u := 46) c139_39 hT172 (tf hT172 rfl rfl) fd_1_14 rfl ?_
      refine st_aload c139_42 rfl ?_
      refine st_aload c139_43 rfl ?_
      refine st_getI c139_44 hT172 (tf hT172 rfl rfl) fd_1_0 (fun e197 e198 => ?_)
      have q199 : fI h171 4 0 = fI h 4 0 := (Fr_fI hL174 (tf hT6 rfl rfl) (by decide +kernel)).trans (Fr_fI hF7 (tf hT rfl rfl) (by decide +kernel))
      refine st_aload c139_47 rfl ?_
      refine st_getX (u := 6) c139_48 hT172 (tf hT172 rfl rfl) fd_1_3 rfl ?_
      refine st_callt (as := [.ref r194, vI (fI h171 4 0), .ref 6]) c139_51 cm_52 hT172 (tf hT172 rfl rfl) fd_4_0 rfl rfl rfl rfl (by omega) (K52 hT172 (Stb_mono hS (by decide +kernel)) r194 t195 (fI h171 4 0) (by omega) (I1_fr pre0 hT hF173 (by decide +kernel)) (d - 1) (by omega) _ (fun v h0 H => H)) (fun v1 h200 H => ?_)
      obtain ⟨rfl, hT201, hF202⟩ := H
      have hF203 := Fr_cp hF173 hF202 (by decide +kernel : Wsub W52 W139 = true)
      refine st_iinc (L' := [some (.ref 4), some (vI (z170 + 1)), some (.ref r194)]) c139_54 rfl rfl rfl ?_
      refine st_goto c139_57 ?_
      refine MR_weak (A := [some (.ref 4), some (vI (z170 + 1)), none]) (Lle_s (Lle_s (Lle_n (Lle_0)))) ?_
      exact ih177 (z170 + 1) h200 (by omega) (by omega) hT201 hF203 (Fr_cp hL174 hF202 (by decide +kernel))
  exact lp175 ((((90 : Int) - 0 : Int) + 1).toNat) 0 h5 (by omega) (by omega) hT6 hF8 (Fr_rf _ _ _)
  refine st_iconst c139_10 ?_
  refine st_ireturn c139_12 ?_
  exact hQ _ _ ⟨(-2), rfl, by omega, hT, hF⟩
set_option maxHeartbeats 0 in
theorem K140 {Ln : Nat} {xs : Nat → Int32} {τ : List Nat} {h : List mE} {E : EP} (hT : TH E τ h) (d : Nat) (hd : 0 ≤ d) (Q : Option Value → List mE → Prop) (hQ : ∀ v h', (∃ z : Int, v = some (vI z) ∧ ((-2147483648) ≤ z ∧ z ≤ 2147483647) ∧ h = h') → Q v h') : MR (mex Ln xs) d 140 0 [some (.ref 4)] [] h Q := by
  refine st_aload c140_0 rfl ?_
  refine st_getX (u := 46) c140_1 hT (tf hT rfl rfl) fd_1_14 rfl ?_
  refine st_getI c140_4 hT (tf hT rfl rfl) fd_4_2 (fun e1 e2 => ?_)
  refine st_ireturn c140_7 ?_
  exact hQ _ _ ⟨fI h 46 2, rfl, by omega, rfl⟩
def W141 : List (Nat × Nat) := [(5, 1), (5, 3), (32, 0), (33, 0), (34, 0)]
set_option maxHeartbeats 0 in
theorem K141 {Ln : Nat} {xs : Nat → Int32} {τ : List Nat} {h : List mE} {E : EP} (hT : TH E τ h) (hS : Stb E W141) (d : Nat) (hd : 4 ≤ d) (Q : Option Value → List mE → Prop) (hQ : ∀ v h', (∃ z : Int, v = some (vI z) ∧ ((-4) ≤ z ∧ z ≤ 2147483647) ∧ TH E τ h' ∧ Fr τ W141 h h') → Q v h') : MR (mex Ln xs) d 141 0 [some (.ref 4)] [] h Q := by
  have hF := Fr_rf τ W141 h
  refine st_aload c141_0 rfl ?_
  refine st_getX (u := 50) c141_1 hT (tf hT rfl rfl) fd_1_15 rfl ?_
  refine st_aload c141_4 rfl ?_
  refine st_getX (u := 6) c141_5 hT (tf hT rfl rfl) fd_1_3 rfl ?_
  refine st_callt (as := [.ref 6]) c141_8 cm_25 hT (tf hT rfl rfl) fd_5_0 rfl rfl rfl rfl (by omega) (K25 hT (Stb_mono hS (by decide +kernel)) (d - 1) (by omega) _ (fun v h0 H => H)) (fun v1 h1 H => ?_)
  obtain ⟨z4, rfl, b5, hT2, hF3⟩ := H
  have hF6 := Fr_cp hF hF3 (by decide +kernel : Wsub W25 W141 = true)
  refine st_ireturn c141_11 ?_
  exact hQ _ _ ⟨z4, rfl, by omega, hT2, hF6⟩
def W142 : List (Nat × Nat) := [(5, 1), (32, 0)]
set_option maxHeartbeats 0 in
theorem K142 {Ln : Nat} {xs : Nat → Int32} {τ : List Nat} {h : List mE} {E : EP} (hT : TH E τ h) (hS : Stb E W142) (p1 : Int) (hp1 : (-2147483648) ≤ p1 ∧ p1 ≤ 2147483647) (pre0 : I8 h) (d : Nat) (hd : 3 ≤ d) (Q : Option Value → List mE → Prop) (hQ : ∀ v h', (∃ z : Int, v = some (vI z) ∧ ((-3) ≤ z ∧ z ≤ 5) ∧ TH E τ h' ∧ Fr τ W142 h h') → Q v h') : MR (mex Ln xs) d 142 0 [some (.ref 4), some (vI p1), none] [] h Q := by
  have hF := Fr_rf τ W142 h
  refine st_aload c142_0 rfl ?_
  refine st_iload c142_1 rfl ?_
  have e1 := fI_bd (q := 4) hT (tf hT rfl rfl) fd_1_7
  refine st_callt (as := [vI p1]) c142_2 cm_169 hT (tf hT rfl rfl) fd_1_0 rfl rfl rfl rfl (by omega) (K169 hT p1 (by omega) pre0 (d - 1) (by omega) _ (fun v h0 H => H)) (fun v1 h1 H => ?_)
  rcases H with ⟨rfl, nf8, rfl⟩ | ⟨r6, rfl, t7, pf2, pf3, pf4, pf5, rfl⟩
  refine st_astoreN (L' := [some (.ref 4), some (vI p1), some .null]) c142_5 rfl rfl ?_
  refine st_aloadN c142_6 rfl ?_
  refine st_ifnonnullN c142_7 ?_
  refine st_iconst c142_10 ?_
  refine st_goto c142_11 ?_
  refine st_ireturn c142_22 ?_
  exact hQ _ _ ⟨(-1), rfl, by omega, hT, hF⟩
  refine st_astore (L' := [some (.ref 4), some (vI p1), some (.ref r6)]) c142_5 rfl rfl ?_
  refine st_aload c142_6 rfl ?_
  refine st_ifnonnullR c142_7 ?_
  refine st_aload c142_14 rfl ?_
  refine st_getX (u := 50) c142_15 hT (tf hT rfl rfl) fd_1_15 rfl ?_
  refine st_aload c142_18 rfl ?_
  refine st_callt (as := [.ref r6]) c142_19 cm_24 hT (tf hT rfl rfl) fd_5_0 rfl rfl rfl rfl (by omega) (K24 hT (Stb_mono hS (by decide +kernel)) r6 t7 (d - 1) (by omega) _ (fun v h0 H => H)) (fun v1 h9 H => ?_)
  obtain ⟨z12, rfl, b13, hT10, hF11⟩ := H
  have hF14 := Fr_cp hF hF11 (by decide +kernel : Wsub W24 W142 = true)
  refine st_ireturn c142_22 ?_
  exact hQ _ _ ⟨z12, rfl, by omega, hT10, hF14⟩
set_option maxHeartbeats 0 in
theorem K143 {Ln : Nat} {xs : Nat → Int32} {τ : List Nat} {h : List mE} {E : EP} (hT : TH E τ h) (p1 : Int) (hp1 : (-2147483648) ≤ p1 ∧ p1 ≤ 2147483647) (d : Nat) (hd : 1 ≤ d) (Q : Option Value → List mE → Prop) (hQ : ∀ v h', (∃ z : Int, v = some (vI z) ∧ ((-2147483648) ≤ z ∧ z ≤ 2147483647) ∧ h = h') → Q v h') : MR (mex Ln xs) d 143 0 [some (.ref 4), some (vI p1), none] [] h Q := by
  refine st_aload c143_0 rfl ?_
  refine st_getX (u := 50) c143_1 hT (tf hT rfl rfl) fd_1_15 rfl ?_
  refine st_iload c143_4 rfl ?_
  refine st_callt (as := [vI p1]) c143_5 cm_26 hT (tf hT rfl rfl) fd_5_0 rfl rfl rfl rfl (by omega) (K26 hT p1 (by omega) (d - 1) (by omega) _ (fun v h0 H => H)) (fun v1 h1 H => ?_)
  rcases H with ⟨rfl, rfl⟩ | ⟨r1, rfl, t2, rfl⟩
  refine st_astoreN (L' := [some (.ref 4), some (vI p1), some .null]) c143_8 rfl rfl ?_
  refine st_aloadN c143_9 rfl ?_
  refine st_ifnonnullN c143_10 ?_
  refine st_iconst c143_13 ?_
  refine st_goto c143_14 ?_
  refine st_ireturn c143_21 ?_
  exact hQ _ _ ⟨(-1), rfl, by omega, rfl⟩
  refine st_astore (L' := [some (.ref 4), some (vI p1), some (.ref r1)]) c143_8 rfl rfl ?_
  refine st_aload c143_9 rfl ?_
  refine st_ifnonnullR c143_10 ?_
  refine st_aload c143_17 rfl ?_
  refine st_getI c143_18 hT t2 fd_10_0 (fun e3 e4 => ?_)
  refine st_ireturn c143_21 ?_
  exact hQ _ _ ⟨fI h r1 0, rfl, by omega, rfl⟩
def W144 : List (Nat × Nat) := [(10, 3), (10, 4), (10, 5), (10, 6), (10, 7), (10, 10), (12, 9), (12, 11)]
set_option maxHeartbeats 0 in
theorem K144 {Ln : Nat} {xs : Nat → Int32} {τ : List Nat} {h : List mE} {E : EP} (hT : TH E τ h) (hS : Stb E W144) (p1 : Int) (hp1 : (-2147483648) ≤ p1 ∧ p1 ≤ 2147483647) (pre0 : I8 h) (d : Nat) (hd : 3 ≤ d) (Q : Option Value → List mE → Prop) (hQ : ∀ v h', (∃ z : Int, v = some (vI z) ∧ ((-2) ≤ z ∧ z ≤ 71606787) ∧ TH E τ h' ∧ Fr τ W144 h h') → Q v h') : MR (mex Ln xs) d 144 0 [some (.ref 4), some (vI p1), none, none, none] [] h Q := by
  have hF := Fr_rf τ W144 h
  refine st_aload c144_0 rfl ?_
  refine st_iload c144_1 rfl ?_
  have e1 := fI_bd (q := 4) hT (tf hT rfl rfl) fd_1_12
  refine st_callt (as := [vI p1]) c144_2 cm_170 hT (tf hT rfl rfl) fd_1_0 rfl rfl rfl rfl (by omega) (K170 hT p1 (by omega) pre0 (d - 1) (by omega) _ (fun v h0 H => H)) (fun v1 h1 H => ?_)
  rcases H with ⟨rfl, nf8, rfl⟩ | ⟨r6, rfl, t7, pf2, pf3, pf4, pf5, rfl⟩
  refine st_astoreN (L' := [some (.ref 4), some (vI p1), some .null, none, none]) c144_5 rfl rfl ?_
  refine st_aloadN c144_6 rfl ?_
  refine st_ifnonnullN c144_7 ?_
  refine st_iconst c144_10 ?_
  refine st_ireturn c144_11 ?_
  exact hQ _ _ ⟨(-1), rfl, by omega, hT, hF⟩
  refine st_astore (L' := [some (.ref 4), some (vI p1), some (.ref r6), none, none]) c144_5 rfl rfl ?_
  refine st_aload c144_6 rfl ?_
  refine st_ifnonnullR c144_7 ?_
  refine st_aload c144_12 rfl ?_
  refine st_getN c144_13 hT t7 fd_12_10 (u := 10) rfl (fun e10 => ?_) (fun r9 e11 t12 => ?_)
  refine st_astoreN (L' := [some (.ref 4), some (vI p1), some (.ref r6), some .null, none]) c144_16 rfl rfl ?_
  refine st_aload c144_17 rfl ?_
  refine st_getI c144_18 hT t7 fd_12_9 (fun e13 e14 => ?_)
  refine st_iconst c144_21 ?_
  refine st_icmp_ne c144_22 (by omega) (by omega) (fun k15 => ?_) (fun k16 => ?_)
  refine st_iconst c144_36 ?_
  refine st_ireturn c144_38 ?_
  exact hQ _ _ ⟨(-2), rfl, by omega, hT, hF⟩
  refine st_aloadN c144_25 rfl ?_
  refine st_ifnullN c144_26 ?_
  refine st_iconst c144_36 ?_
  refine st_ireturn c144_38 ?_
  exact hQ _ _ ⟨(-2), rfl, by omega, hT, hF⟩
  refine st_astore (L' := [some (.ref 4), some (vI p1), some (.ref r6), some (.ref r9), none]) c144_16 rfl rfl ?_
  refine st_aload c144_17 rfl ?_
  refine st_getI c144_18 hT t7 fd_12_9 (fun e17 e18 => ?_)
  refine st_iconst c144_21 ?_
  refine st_icmp_ne c144_22 (by omega) (by omega) (fun k19 => ?_) (fun k20 => ?_)
  refine st_iconst c144_36 ?_
  refine st_ireturn c144_38 ?_
  exact hQ _ _ ⟨(-2), rfl, by omega, hT, hF⟩
  refine st_aload c144_25 rfl ?_
  refine st_ifnullR c144_26 ?_
  refine st_aload c144_29 rfl ?_
  refine st_getI c144_30 hT t12 fd_10_5 (fun e21 e22 => ?_)
  refine st_if_eq c144_33 (by omega) (fun k23 => ?_) (fun k24 => ?_)
  refine st_aload c144_39 rfl ?_
  refine st_getX (u := 6) c144_40 hT (tf hT rfl rfl) fd_1_3 rfl ?_
  refine st_aload c144_43 rfl ?_
  refine st_getI c144_44 hT t12 fd_10_4 (fun e25 e26 => ?_)
  refine st_aload c144_47 rfl ?_
  refine st_getI c144_48 hT t7 fd_12_7 (fun e27 e28 => ?_)
  refine st_callt (as := [vI (fI h r9 4), vI (fI h r6 7)]) c144_51 cm_90 hT (tf hT rfl rfl) fd_2_0 rfl rfl rfl rfl (by omega) (K90 hT (fI h r9 4) (by omega) (fI h r6 7) (by omega) (d - 1) (by omega) _ (fun v h0 H => H)) (fun v1 h1 H => ?_)
  obtain ⟨z29, rfl, b30, rfl⟩ := H
  refine st_istore (L' := [some (.ref 4), some (vI p1), some (.ref r6), some (.ref r9), some (vI z29)]) c144_54 rfl rfl ?_
  refine st_iload c144_56 rfl ?_
  refine st_if_ge c144_58 (by omega) (fun k31 => ?_) (fun k32 => ?_)
  refine st_aload c144_64 rfl ?_
  refine st_iconst c144_65 ?_
  refine st_putI c144_66 hT t7 fd_12_9 (by omega) (by omega) (Ext_rf _) hS hF (by decide +kernel) (fun h33 hT34 hF35 hU36 => ?_)
  refine st_aload c144_69 rfl ?_
  refine st_aload c144_70 rfl ?_
  refine st_getI c144_71 hT34 (tf hT34 rfl rfl) fd_1_0 (fun e37 e38 => ?_)
  have q39 : fI h33 4 0 = fI h 4 0 := FUp_fIne hU36 (fun z => absurd z.2 (by decide))
  refine st_iload c144_74 rfl ?_
  refine st_iadd c144_76 ?_
  refine st_aload c144_77 rfl ?_
  refine st_getI c144_78 hT34 t7 fd_12_1 (fun e40 e41 => ?_)
  have q42 : fI h33 r6 1 = fI h r6 1 := FUp_fIne hU36 (fun z => absurd z.2 (by decide))
  refine st_max c144_81 (by omega) (by omega) rfl (fun z43 e44 e45 e46 => ?_)
  refine st_putI c144_84 hT34 t7 fd_12_11 (by omega) (by omega) (Ext_rf _) hS hF35 (by decide +kernel) (fun h47 hT48 hF49 hU50 => ?_)
  refine st_aload c144_87 rfl ?_
  refine st_aload c144_88 rfl ?_
  refine st_putR c144_89 hT48 t12 fd_10_10 t7 (Ext_rf _) hS hF49 (by decide +kernel) (fun h51 hT52 hF53 hU54 => ?_)
  refine st_aload c144_92 rfl ?_
  refine st_aload c144_93 rfl ?_
  refine st_getI c144_94 hT52 t7 fd_12_7 (fun e55 e56 => ?_)
  have q57 : fI h51 r6 7 = fI h r6 7 := (FUp_fIne hU54 (fun z => absurd z.2 (by decide))).trans ((FUp_fIne hU50 (fun z => absurd z.2 (by decide))).trans (FUp_fIne hU36 (fun z => absurd z.2 (by decide))))
  refine st_aload c144_97 rfl ?_
  refine st_getI c144_98 hT52 (tf hT52 rfl rfl) fd_1_0 (fun e58 e59 => ?_)
  have q60 : fI h51 4 0 = fI h33 4 0 := (FUp_fIne hU54 (fun z => absurd z.2 (by decide))).trans (FUp_fIne hU50 (fun z => absurd z.2 (by decide)))
  refine st_iload c144_101 rfl ?_
  refine st_callt (as := [vI (fI h51 r6 7), vI (fI h51 4 0), vI z29]) c144_103 cm_42 hT52 t12 fd_10_0 rfl rfl rfl rfl (by omega) (K42 hT52 (Stb_mono hS (by decide +kernel)) r9 t12 (fI h51 r6 7) (by omega) (fI h51 4 0) (by omega) z29 (by omega) (d - 1) (by omega) _ (fun v h0 H => H)) (fun v1 h61 H => ?_)
  obtain ⟨rfl, hT62, hF63⟩ := H
  have hF64 := Fr_cp hF53 hF63 (by decide +kernel : Wsub W42 W144 = true)
  refine st_aload c144_106 rfl ?_
  refine st_getI c144_107 hT62 (tf hT62 rfl rfl) fd_1_0 (fun e65 e66 => ?_)
  have q67 : fI h61 4 0 = fI h51 4 0 := Fr_fI hF63 (tf hT52 rfl rfl) (by decide +kernel)
  refine st_iload c144_110 rfl ?_
  refine st_iadd c144_112 ?_
  refine st_ireturn c144_113 ?_
  exact hQ _ _ ⟨(fI h61 4 0) + z29, rfl, by omega, hT62, hF64⟩
  refine st_iconst c144_61 ?_
  refine st_ireturn c144_63 ?_
  exact hQ _ _ ⟨(-2), rfl, by omega, hT, hF⟩
  refine st_iconst c144_36 ?_
  refine st_ireturn c144_38 ?_
  exact hQ _ _ ⟨(-2), rfl, by omega, hT, hF⟩
def W145 : List (Nat × Nat) := [(10, 3), (10, 4), (10, 5), (10, 6), (10, 7), (10, 9), (12, 9), (12, 12)]
set_option maxHeartbeats 0 in
theorem K145 {Ln : Nat} {xs : Nat → Int32} {τ : List Nat} {h : List mE} {E : EP} (hT : TH E τ h) (hS : Stb E W145) (p1 : Int) (hp1 : (-2147483648) ≤ p1 ∧ p1 ≤ 2147483647) (p2 : Int) (hp2 : (-2147483648) ≤ p2 ∧ p2 ≤ 2147483647) (pre0 : I8 h) (d : Nat) (hd : 3 ≤ d) (Q : Option Value → List mE → Prop) (hQ : ∀ v h', (∃ z : Int, v = some (vI z) ∧ ((-2) ≤ z ∧ z ≤ 71606787) ∧ TH E τ h' ∧ Fr τ W145 h h') → Q v h') : MR (mex Ln xs) d 145 0 [some (.ref 4), some (vI p1), some (vI p2), none, none, none] [] h Q := by
  have hF := Fr_rf τ W145 h
  refine st_aload c145_0 rfl ?_
  refine st_iload c145_1 rfl ?_
  have e1 := fI_bd (q := 4) hT (tf hT rfl rfl) fd_1_12
  refine st_callt (as := [vI p1]) c145_2 cm_170 hT (tf hT rfl rfl) fd_1_0 rfl rfl rfl rfl (by omega) (K170 hT p1 (by omega) pre0 (d - 1) (by omega) _ (fun v h0 H => H)) (fun v1 h1 H => ?_)
  rcases H with ⟨rfl, nf8, rfl⟩ | ⟨r6, rfl, t7, pf2, pf3, pf4, pf5, rfl⟩
  refine st_astoreN (L' := [some (.ref 4), some (vI p1), some (vI p2), some .null, none, none]) c145_5 rfl rfl ?_
  refine st_aloadN c145_6 rfl ?_
  refine st_ifnullN c145_7 ?_
  refine st_iconst c145_21 ?_
  refine st_ireturn c145_22 ?_
  exact hQ _ _ ⟨(-1), rfl, by omega, hT, hF⟩
  refine st_astore (L' := [some (.ref 4), some (vI p1), some (vI p2), some (.ref r6), none, none]) c145_5 rfl rfl ?_
  refine st_aload c145_6 rfl ?_
  refine st_ifnullR c145_7 ?_
  refine st_aload c145_10 rfl ?_
  refine st_getX (u := 6) c145_11 hT (tf hT rfl rfl) fd_1_3 rfl ?_
  refine st_iload c145_14 rfl ?_
  have e9 := fI_bd (q := 6) hT (tf hT rfl rfl) fd_2_3
  refine st_callt (as := [vI p2]) c145_15 cm_86 hT (tf hT rfl rfl) fd_2_0 rfl rfl rfl rfl (by omega) (K86 hT p2 (by omega) (d - 1) (by omega) _ (fun v h0 H => H)) (fun v1 h1 H => ?_)
  rcases H with ⟨rfl, pf10, rfl⟩ | ⟨rfl, pf11, pf12, pf13, rfl⟩
  refine st_if_ne c145_18 (by omega) (fun k14 => False.elim (by omega)) (fun k15 => ?_)
  refine st_iconst c145_21 ?_
  refine st_ireturn c145_22 ?_
  exact hQ _ _ ⟨(-1), rfl, by omega, hT, hF⟩
  refine st_if_ne c145_18 (by omega) (fun k16 => ?_) (fun k17 => False.elim (by omega))
  refine st_aload c145_23 rfl ?_
  refine st_getN c145_24 hT t7 fd_12_10 (u := 10) rfl (fun e19 => ?_) (fun r18 e20 t21 => ?_)
  refine st_astoreN (L' := [some (.ref 4), some (vI p1), some (vI p2), some (.ref r6), some .null, none]) c145_27 rfl rfl ?_
  refine st_aload c145_29 rfl ?_
  refine st_getI c145_30 hT t7 fd_12_9 (fun e22 e23 => ?_)
  refine st_iconst c145_33 ?_
  refine st_icmp_ne c145_34 (by omega) (by omega) (fun k24 => ?_) (fun k25 => ?_)
  refine st_iconst c145_53 ?_
  refine st_ireturn c145_55 ?_
  exact hQ _ _ ⟨(-2), rfl, by omega, hT, hF⟩
  refine st_aload c145_37 rfl ?_
  refine st_aload c145_38 rfl ?_
  refine st_getI c145_39 hT (tf hT rfl rfl) fd_1_0 (fun e26 e27 => ?_)
  refine st_callt (as := [vI (fI h 4 0)]) c145_42 cm_68 hT t7 fd_12_0 rfl rfl rfl rfl (by omega) (K68 hT r6 t7 (fI h 4 0) (by omega) (d - 1) (by omega) _ (fun v h0 H => H)) (fun v1 h1 H => ?_)
  rcases H with ⟨rfl, rfl⟩ | ⟨rfl, rfl⟩
  refine st_if_eq c145_45 (by omega) (fun k28 => ?_) (fun k29 => False.elim (by omega))
  refine st_iconst c145_53 ?_
  refine st_ireturn c145_55 ?_
  exact hQ _ _ ⟨(-2), rfl, by omega, hT, hF⟩
  refine st_if_eq c145_45 (by omega) (fun k30 => False.elim (by omega)) (fun k31 => ?_)
  refine st_aloadN c145_48 rfl ?_
  refine st_ifnonnullN c145_50 ?_
  refine st_iconst c145_53 ?_
  refine st_ireturn c145_55 ?_
  exact hQ _ _ ⟨(-2), rfl, by omega, hT, hF⟩
  refine st_astore (L' := [some (.ref 4), some (vI p1), some (vI p2), some (.ref r6), some (.ref r18), none]) c145_27 rfl rfl ?_
  refine st_aload c145_29 rfl ?_
  refine st_getI c145_30 hT t7 fd_12_9 (fun e32 e33 => ?_)
  refine st_iconst c145_33 ?_
  refine st_icmp_ne c145_34 (by omega) (by omega) (fun k34 => ?_) (fun k35 => ?_)
  refine st_iconst c145_53 ?_
  refine st_ireturn c145_55 ?_
  exact hQ _ _ ⟨(-2), rfl, by omega, hT, hF⟩
  refine st_aload c145_37 rfl ?_
  refine st_aload c145_38 rfl ?_
  refine st_getI c145_39 hT (tf hT rfl rfl) fd_1_0 (fun e36 e37 => ?_)
  refine st_callt (as := [vI (fI h 4 0)]) c145_42 cm_68 hT t7 fd_12_0 rfl rfl rfl rfl (by omega) (K68 hT r6 t7 (fI h 4 0) (by omega) (d - 1) (by omega) _ (fun v h0 H => H)) (fun v1 h1 H => ?_)
  rcases H with ⟨rfl, rfl⟩ | ⟨rfl, rfl⟩
  refine st_if_eq c145_45 (by omega) (fun k38 => ?_) (fun k39 => False.elim (by omega))
  refine st_iconst c145_53 ?_
  refine st_ireturn c145_55 ?_
  exact hQ _ _ ⟨(-2), rfl, by omega, hT, hF⟩
  refine st_if_eq c145_45 (by omega) (fun k40 => False.elim (by omega)) (fun k41 => ?_)
  refine st_aload c145_48 rfl ?_
  refine st_ifnonnullR c145_50 ?_
  refine st_aload c145_56 rfl ?_
  refine st_getX (u := 6) c145_57 hT (tf hT rfl rfl) fd_1_3 rfl ?_
  refine st_aload c145_60 rfl ?_
  refine st_getI c145_62 hT t21 fd_10_4 (fun e42 e43 => ?_)
  refine st_iload c145_65 rfl ?_
  refine st_callt (as := [vI (fI h r18 4), vI p2]) c145_66 cm_90 hT (tf hT rfl rfl) fd_2_0 rfl rfl rfl rfl (by omega) (K90 hT (fI h r18 4) (by omega) p2 (by omega) (d - 1) (by omega) _ (fun v h0 H => H)) (fun v1 h1 H => ?_)
  obtain ⟨z44, rfl, b45, rfl⟩ := H
  refine st_istore (L' := [some (.ref 4), some (vI p1), some (vI p2), some (.ref r6), some (.ref r18), some (vI z44)]) c145_69 rfl rfl ?_
  refine st_iload c145_71 rfl ?_
  refine st_if_ge c145_73 (by omega) (fun k46 => ?_) (fun k47 => ?_)
  refine st_aload c145_79 rfl ?_
  refine st_aload c145_80 rfl ?_
  refine st_getI c145_81 hT (tf hT rfl rfl) fd_1_0 (fun e48 e49 => ?_)
  refine st_callt (as := [vI (fI h 4 0)]) c145_84 cm_71 hT t7 fd_12_0 rfl rfl rfl rfl (by omega) (K71 hT (Stb_mono hS (by decide +kernel)) r6 t7 (fI h 4 0) (by omega) (d - 1) (by omega) _ (fun v h0 H => H)) (fun v1 h50 H => ?_)
  obtain ⟨rfl, hT51, hF52⟩ := H
  have hF53 := Fr_cp hF hF52 (by decide +kernel : Wsub W71 W145 = true)
  refine st_aload c145_87 rfl ?_
  refine st_null c145_89 ?_
  refine st_putN c145_90 hT51 t21 fd_10_9 (Ext_rf _) hS hF53 (by decide +kernel) (fun h54 hT55 hF56 hU57 => ?_)
  refine st_aload c145_93 rfl ?_
  refine st_iload c145_95 rfl ?_
  refine st_aload c145_96 rfl ?_
  refine st_getI c145_97 hT55 (tf hT55 rfl rfl) fd_1_0 (fun e58 e59 => ?_)
  have q60 : fI h54 4 0 = fI h 4 0 := (FUp_fIne hU57 (fun z => absurd z.2 (by decide))).trans (Fr_fI hF52 (tf hT rfl rfl) (by decide +kernel))
  refine st_iload c145_100 rfl ?_
  refine st_callt (as := [vI p2, vI (fI h54 4 0), vI z44]) c145_102 cm_42 hT55 t21 fd_10_0 rfl rfl rfl rfl (by omega) (K42 hT55 (Stb_mono hS (by decide +kernel)) r18 t21 p2 (by omega) (fI h54 4 0) (by omega) z44 (by omega) (d - 1) (by omega) _ (fun v h0 H => H)) (fun v1 h61 H => ?_)
  obtain ⟨rfl, hT62, hF63⟩ := H
  have hF64 := Fr_cp hF56 hF63 (by decide +kernel : Wsub W42 W145 = true)
  refine st_aload c145_105 rfl ?_
  refine st_getI c145_106 hT62 (tf hT62 rfl rfl) fd_1_0 (fun e65 e66 => ?_)
  have q67 : fI h61 4 0 = fI h54 4 0 := Fr_fI hF63 (tf hT55 rfl rfl) (by decide +kernel)
  refine st_iload c145_109 rfl ?_
  refine st_iadd c145_111 ?_
  refine st_ireturn c145_112 ?_
  exact hQ _ _ ⟨(fI h61 4 0) + z44, rfl, by omega, hT62, hF64⟩
  refine st_iconst c145_76 ?_
  refine st_ireturn c145_78 ?_
  exact hQ _ _ ⟨(-2), rfl, by omega, hT, hF⟩
def W146 : List (Nat × Nat) := [(10, 9), (12, 9), (12, 10)]
set_option maxHeartbeats 0 in
theorem K146 {Ln : Nat} {xs : Nat → Int32} {τ : List Nat} {h : List mE} {E : EP} (hT : TH E τ h) (hS : Stb E W146) (p1 : Int) (hp1 : (-2147483648) ≤ p1 ∧ p1 ≤ 2147483647) (pre0 : I8 h) (d : Nat) (hd : 1 ≤ d) (Q : Option Value → List mE → Prop) (hQ : ∀ v h', (∃ z : Int, v = some (vI z) ∧ ((-2) ≤ z ∧ z ≤ 1) ∧ TH E τ h' ∧ Fr τ W146 h h') → Q v h') : MR (mex Ln xs) d 146 0 [some (.ref 4), some (vI p1), none] [] h Q := by
  have hF := Fr_rf τ W146 h
  refine st_aload c146_0 rfl ?_
  refine st_iload c146_1 rfl ?_
  have e1 := fI_bd (q := 4) hT (tf hT rfl rfl) fd_1_12
  refine st_callt (as := [vI p1]) c146_2 cm_170 hT (tf hT rfl rfl) fd_1_0 rfl rfl rfl rfl (by omega) (K170 hT p1 (by omega) pre0 (d - 1) (by omega) _ (fun v h0 H => H)) (fun v1 h1 H => ?_)
  rcases H with ⟨rfl, nf8, rfl⟩ | ⟨r6, rfl, t7, pf2, pf3, pf4, pf5, rfl⟩
  refine st_astoreN (L' := [some (.ref 4), some (vI p1), some .null]) c146_5 rfl rfl ?_
  refine st_aloadN c146_6 rfl ?_
  refine st_ifnonnullN c146_7 ?_
  refine st_iconst c146_10 ?_
  refine st_ireturn c146_11 ?_
  exact hQ _ _ ⟨(-1), rfl, by omega, hT, hF⟩
  refine st_astore (L' := [some (.ref 4), some (vI p1), some (.ref r6)]) c146_5 rfl rfl ?_
  refine st_aload c146_6 rfl ?_
  refine st_ifnonnullR c146_7 ?_
  refine st_aload c146_12 rfl ?_
  refine st_getI c146_13 hT t7 fd_12_9 (fun e9 e10 => ?_)
  refine st_if_eq c146_16 (by omega) (fun k11 => ?_) (fun k12 => ?_)
  refine st_aload c146_30 rfl ?_
  refine st_getN c146_31 hT t7 fd_12_10 (u := 10) rfl (fun e14 => ?_) (fun r13 e15 t16 => ?_)
  refine st_ifnullN c146_34 ?_
  refine st_aload c146_45 rfl ?_
  refine st_null c146_46 ?_
  refine st_putN c146_47 hT t7 fd_12_10 (Ext_rf _) hS hF (by decide +kernel) (fun h17 hT18 hF19 hU20 => ?_)
  refine st_aload c146_50 rfl ?_
  refine st_iconst c146_51 ?_
  refine st_putI c146_52 hT18 t7 fd_12_9 (by omega) (by omega) (Ext_rf _) hS hF19 (by decide +kernel) (fun h21 hT22 hF23 hU24 => ?_)
  refine st_iconst c146_55 ?_
  refine st_ireturn c146_56 ?_
  exact hQ _ _ ⟨1, rfl, by omega, hT22, hF23⟩
  refine st_ifnullR c146_34 ?_
  refine st_aload c146_37 rfl ?_
  refine st_getNr c146_38 hT t7 fd_12_10 e15 ?_
  refine st_null c146_41 ?_
  refine st_putN c146_42 hT t16 fd_10_9 (Ext_rf _) hS hF (by decide +kernel) (fun h25 hT26 hF27 hU28 => ?_)
  refine st_aload c146_45 rfl ?_
  refine st_null c146_46 ?_
  refine st_putN c146_47 hT26 t7 fd_12_10 (Ext_rf _) hS hF27 (by decide +kernel) (fun h29 hT30 hF31 hU32 => ?_)
  refine st_aload c146_50 rfl ?_
  refine st_iconst c146_51 ?_
  refine st_putI c146_52 hT30 t7 fd_12_9 (by omega) (by omega) (Ext_rf _) hS hF31 (by decide +kernel) (fun h33 hT34 hF35 hU36 => ?_)
  refine st_iconst c146_55 ?_
  refine st_ireturn c146_56 ?_
  exact hQ _ _ ⟨1, rfl, by omega, hT34, hF35⟩
  refine st_aload c146_19 rfl ?_
  refine st_getI c146_20 hT t7 fd_12_9 (fun e37 e38 => ?_)
  refine st_iconst c146_23 ?_
  refine st_icmp_eq c146_24 (by omega) (by omega) (fun k39 => ?_) (fun k40 => ?_)
  refine st_aload c146_30 rfl ?_
  refine st_getN c146_31 hT t7 fd_12_10 (u := 10) rfl (fun e42 => ?_) (fun r41 e43 t44 => ?_)
  refine st_ifnullN c146_34 ?_
  refine st_aload c146_45 rfl ?_
  refine st_null c146_46 ?_
  refine st_putN c146_47 hT t7 fd_12_10 (Ext_rf _) hS hF (by decide +kernel) (fun h45 hT46 hF47 hU48 => ?_)
  refine st_aload c146_50 rfl ?_
  refine st_iconst c146_51 ?_
  refine st_putI c146_52 hT46 t7 fd_12_9 (by omega) (by omega) (Ext_rf _) hS hF47 (by decide +kernel) (fun h49 hT50 hF51 hU52 => ?_)
  refine st_iconst c146_55 ?_
  refine st_ireturn c146_56 ?_
  exact hQ _ _ ⟨1, rfl, by omega, hT50, hF51⟩
  refine st_ifnullR c146_34 ?_
  refine st_aload c146_37 rfl ?_
  refine st_getNr c146_38 hT t7 fd_12_10 e43 ?_
  refine st_null c146_41 ?_
  refine st_putN c146_42 hT t44 fd_10_9 (Ext_rf _) hS hF (by decide +kernel) (fun h53 hT54 hF55 hU56 => ?_)
  refine st_aload c146_45 rfl ?_
  refine st_null c146_46 ?_
  refine st_putN c146_47 hT54 t7 fd_12_10 (Ext_rf _) hS hF55 (by decide +kernel) (fun h57 hT58 hF59 hU60 => ?_)
  refine st_aload c146_50 rfl ?_
  refine st_iconst c146_51 ?_
  refine st_putI c146_52 hT58 t7 fd_12_9 (by omega) (by omega) (Ext_rf _) hS hF59 (by decide +kernel) (fun h61 hT62 hF63 hU64 => ?_)
  refine st_iconst c146_55 ?_
  refine st_ireturn c146_56 ?_
  exact hQ _ _ ⟨1, rfl, by omega, hT62, hF63⟩
  refine st_iconst c146_27 ?_
  refine st_ireturn c146_29 ?_
  exact hQ _ _ ⟨(-2), rfl, by omega, hT, hF⟩
set_option maxHeartbeats 0 in
theorem K147 {Ln : Nat} {xs : Nat → Int32} {τ : List Nat} {h : List mE} {E : EP} (hT : TH E τ h) (p1 : Int) (hp1 : (-2147483648) ≤ p1 ∧ p1 ≤ 2147483647) (p2 : Int) (hp2 : (-2147483648) ≤ p2 ∧ p2 ≤ 2147483647) (pre0 : I8 h) (d : Nat) (hd : 1 ≤ d) (Q : Option Value → List mE → Prop) (hQ : ∀ v h', (∃ z : Int, v = some (vI z) ∧ ((-2147483648) ≤ z ∧ z ≤ 2147483647) ∧ h = h') → Q v h') : MR (mex Ln xs) d 147 0 [some (.ref 4), some (vI p1), some (vI p2), none] [] h Q := by
  refine st_aload c147_0 rfl ?_
  refine st_iload c147_1 rfl ?_
  have e1 := fI_bd (q := 4) hT (tf hT rfl rfl) fd_1_12
  refine st_callt (as := [vI p1]) c147_2 cm_170 hT (tf hT rfl rfl) fd_1_0 rfl rfl rfl rfl (by omega) (K170 hT p1 (by omega) pre0 (d - 1) (by omega) _ (fun v h0 H => H)) (fun v1 h1 H => ?_)
  rcases H with ⟨rfl, nf8, rfl⟩ | ⟨r6, rfl, t7, pf2, pf3, pf4, pf5, rfl⟩
  refine st_astoreN (L' := [some (.ref 4), some (vI p1), some (vI p2), some .null]) c147_5 rfl rfl ?_
  refine st_aloadN c147_6 rfl ?_
  refine st_ifnonnullN c147_7 ?_
  refine st_iconst c147_10 ?_
  refine st_ireturn c147_12 ?_
  exact hQ _ _ ⟨(-2000000000), rfl, by omega, rfl⟩
  refine st_astore (L' := [some (.ref 4), some (vI p1), some (vI p2), some (.ref r6)]) c147_5 rfl rfl ?_
  refine st_aload c147_6 rfl ?_
  refine st_ifnonnullR c147_7 ?_
  refine st_iload c147_13 rfl ?_
  rcases (by omega : (p2 < 0 ∨ 9 < p2) ∨ p2 = 0 ∨ p2 = 1 ∨ p2 = 2 ∨ p2 = 3 ∨ p2 = 4 ∨ p2 = 5 ∨ p2 = 6 ∨ p2 = 7 ∨ p2 = 8 ∨ p2 = 9) with k9 | k9 | k9 | k9 | k9 | k9 | k9 | k9 | k9 | k9 | k9
  · refine st_swd c147_14 (by omega) k9 ?_
    rw [show mjmp 14 121 = 135 from by decide]
    refine st_iconst c147_135 ?_
    refine st_ireturn c147_137 ?_
    exact hQ _ _ ⟨(-2000000000), rfl, by omega, rfl⟩
  · refine st_sw (k := 0) (tg := 68) (by decide +kernel) k9 (by decide) ?_
    refine st_aload c147_68 rfl ?_
    refine st_getI c147_69 hT t7 fd_12_6 (fun e10 e11 => ?_)
    refine st_ireturn c147_72 ?_
    exact hQ _ _ ⟨fI h r6 6, rfl, by omega, rfl⟩
  · refine st_sw (k := 1) (tg := 73) (by decide +kernel) k9 (by decide) ?_
    refine st_aload c147_73 rfl ?_
    refine st_getR c147_74 hT t7 fd_12_5 (u := 9) rfl (fun r12 e13 t14 => ?_)
    refine st_getI c147_77 hT t14 fd_9_0 (fun e15 e16 => ?_)
    refine st_ireturn c147_80 ?_
    exact hQ _ _ ⟨fI h r12 0, rfl, by omega, rfl⟩
  · refine st_sw (k := 2) (tg := 81) (by decide +kernel) k9 (by decide) ?_
    refine st_aload c147_81 rfl ?_
    refine st_getI c147_82 hT t7 fd_12_1 (fun e17 e18 => ?_)
    refine st_ireturn c147_85 ?_
    exact hQ _ _ ⟨fI h r6 1, rfl, by omega, rfl⟩
  · refine st_sw (k := 3) (tg := 86) (by decide +kernel) k9 (by decide) ?_
    refine st_aload c147_86 rfl ?_
    refine st_getI c147_87 hT t7 fd_12_2 (fun e19 e20 => ?_)
    refine st_ireturn c147_90 ?_
    exact hQ _ _ ⟨fI h r6 2, rfl, by omega, rfl⟩
  · refine st_sw (k := 4) (tg := 91) (by decide +kernel) k9 (by decide) ?_
    refine st_aload c147_91 rfl ?_
    refine st_getI c147_92 hT t7 fd_12_3 (fun e21 e22 => ?_)
    refine st_ireturn c147_95 ?_
    exact hQ _ _ ⟨fI h r6 3, rfl, by omega, rfl⟩
  · refine st_sw (k := 5) (tg := 96) (by decide +kernel) k9 (by decide) ?_
    refine st_aload c147_96 rfl ?_
    refine st_getI c147_97 hT t7 fd_12_9 (fun e23 e24 => ?_)
    refine st_ireturn c147_100 ?_
    exact hQ _ _ ⟨fI h r6 9, rfl, by omega, rfl⟩
  · refine st_sw (k := 6) (tg := 101) (by decide +kernel) k9 (by decide) ?_
    refine st_aload c147_101 rfl ?_
    refine st_getN c147_102 hT t7 fd_12_10 (u := 10) rfl (fun e26 => ?_) (fun r25 e27 t28 => ?_)
    refine st_ifnonnullN c147_105 ?_
    refine st_iconst c147_108 ?_
    refine st_goto c147_109 ?_
    refine st_ireturn c147_119 ?_
    exact hQ _ _ ⟨(-1), rfl, by omega, rfl⟩
    refine st_ifnonnullR c147_105 ?_
    refine st_aload c147_112 rfl ?_
    refine st_getNr c147_113 hT t7 fd_12_10 e27 ?_
    refine st_getI c147_116 hT t28 fd_10_0 (fun e29 e30 => ?_)
    refine st_ireturn c147_119 ?_
    exact hQ _ _ ⟨fI h r25 0, rfl, by omega, rfl⟩
  · refine st_sw (k := 7) (tg := 120) (by decide +kernel) k9 (by decide) ?_
    refine st_aload c147_120 rfl ?_
    refine st_getI c147_121 hT t7 fd_12_11 (fun e31 e32 => ?_)
    refine st_ireturn c147_124 ?_
    exact hQ _ _ ⟨fI h r6 11, rfl, by omega, rfl⟩
  · refine st_sw (k := 8) (tg := 125) (by decide +kernel) k9 (by decide) ?_
    refine st_aload c147_125 rfl ?_
    refine st_getI c147_126 hT t7 fd_12_12 (fun e33 e34 => ?_)
    refine st_ireturn c147_129 ?_
    exact hQ _ _ ⟨fI h r6 12, rfl, by omega, rfl⟩
  · refine st_sw (k := 9) (tg := 130) (by decide +kernel) k9 (by decide) ?_
    refine st_aload c147_130 rfl ?_
    refine st_getI c147_131 hT t7 fd_12_4 (fun e35 e36 => ?_)
    refine st_ireturn c147_134 ?_
    exact hQ _ _ ⟨fI h r6 4, rfl, by omega, rfl⟩
def W148 : List (Nat × Nat) := [(118, 0)]
set_option maxHeartbeats 0 in
theorem K148 {Ln : Nat} {xs : Nat → Int32} {τ : List Nat} {h : List mE} {E : EP} (hT : TH E τ h) (hS : Stb E W148) (p1 : Int) (hp1 : (-2147483648) ≤ p1 ∧ p1 ≤ 2147483647) (p2 : Int) (hp2 : (-2147483648) ≤ p2 ∧ p2 ≤ 2147483647) (p3 : Int) (hp3 : (-2147483648) ≤ p3 ∧ p3 ≤ 2147483647) (pre0 : I8 h) (d : Nat) (hd : 1 ≤ d) (Q : Option Value → List mE → Prop) (hQ : ∀ v h', (∃ z : Int, v = some (vI z) ∧ ((-2) ≤ z ∧ z ≤ 1) ∧ TH E τ h' ∧ Fr τ W148 h h') → Q v h') : MR (mex Ln xs) d 148 0 [some (.ref 4), some (vI p1), some (vI p2), some (vI p3), none] [] h Q := by
  have hF := Fr_rf τ W148 h
  refine st_aload c148_0 rfl ?_
  refine st_iload c148_1 rfl ?_
  have e1 := fI_bd (q := 4) hT (tf hT rfl rfl) fd_1_12
  refine st_callt (as := [vI p1]) c148_2 cm_170 hT (tf hT rfl rfl) fd_1_0 rfl rfl rfl rfl (by omega) (K170 hT p1 (by omega) pre0 (d - 1) (by omega) _ (fun v h0 H => H)) (fun v1 h1 H => ?_)
  rcases H with ⟨rfl, nf8, rfl⟩ | ⟨r6, rfl, t7, pf2, pf3, pf4, pf5, rfl⟩
  refine st_astoreN (L' := [some (.ref 4), some (vI p1), some (vI p2), some (vI p3), some .null]) c148_5 rfl rfl ?_
  refine st_aloadN c148_7 rfl ?_
  refine st_ifnullN c148_9 ?_
  refine st_iconst c148_29 ?_
  refine st_ireturn c148_30 ?_
  exact hQ _ _ ⟨(-1), rfl, by omega, hT, hF⟩
  refine st_astore (L' := [some (.ref 4), some (vI p1), some (vI p2), some (vI p3), some (.ref r6)]) c148_5 rfl rfl ?_
  refine st_aload c148_7 rfl ?_
  refine st_ifnullR c148_9 ?_
  refine st_iload c148_12 rfl ?_
  refine st_iconst c148_13 ?_
  refine st_iconst c148_14 ?_
  refine st_calls (as := [vI p2, vI 0, vI 59]) c148_16 cm_166 rfl rfl rfl rfl (by omega) (K166 hT p2 (by omega) 0 (by omega) 59 (by omega) (d - 1) (by omega) _ (fun v h0 H => H)) (fun v1 h1 H => ?_)
  rcases H with ⟨rfl, pf9, rfl⟩ | ⟨rfl, pf10, pf11, rfl⟩
  refine st_if_eq c148_19 (by omega) (fun k12 => ?_) (fun k13 => False.elim (by omega))
  refine st_iconst c148_29 ?_
  refine st_ireturn c148_30 ?_
  exact hQ _ _ ⟨(-1), rfl, by omega, hT, hF⟩
  refine st_if_eq c148_19 (by omega) (fun k14 => False.elim (by omega)) (fun k15 => ?_)
  refine st_iload c148_22 rfl ?_
  refine st_calls (as := [vI p3]) c148_23 cm_167 rfl rfl rfl rfl (by omega) (K167 hT p3 (by omega) (d - 1) (by omega) _ (fun v h0 H => H)) (fun v1 h1 H => ?_)
  rcases H with ⟨rfl, pf16, rfl⟩ | ⟨rfl, pf17, pf18, rfl⟩
  refine st_if_ne c148_26 (by omega) (fun k19 => False.elim (by omega)) (fun k20 => ?_)
  refine st_iconst c148_29 ?_
  refine st_ireturn c148_30 ?_
  exact hQ _ _ ⟨(-1), rfl, by omega, hT, hF⟩
  refine st_if_ne c148_26 (by omega) (fun k21 => ?_) (fun k22 => False.elim (by omega))
  refine st_aload c148_31 rfl ?_
  refine st_aload c148_33 rfl ?_
  refine st_getI c148_34 hT (tf hT rfl rfl) fd_1_0 (fun e23 e24 => ?_)
  refine st_callt (as := [vI (fI h 4 0)]) c148_37 cm_68 hT t7 fd_12_0 rfl rfl rfl rfl (by omega) (K68 hT r6 t7 (fI h 4 0) (by omega) (d - 1) (by omega) _ (fun v h0 H => H)) (fun v1 h1 H => ?_)
  rcases H with ⟨rfl, rfl⟩ | ⟨rfl, rfl⟩
  refine st_if_ne c148_40 (by omega) (fun k25 => False.elim (by omega)) (fun k26 => ?_)
  refine st_iconst c148_43 ?_
  refine st_ireturn c148_45 ?_
  exact hQ _ _ ⟨(-2), rfl, by omega, hT, hF⟩
  refine st_if_ne c148_40 (by omega) (fun k27 => ?_) (fun k28 => False.elim (by omega))
  refine st_aload c148_46 rfl ?_
  refine st_getR c148_48 hT t7 fd_12_13 (u := 118) rfl (fun r29 e30 t31 => ?_)
  refine st_iload c148_51 rfl ?_
  refine st_iload c148_52 rfl ?_
  refine st_if_ne c148_53 (by omega) (fun k32 => ?_) (fun k33 => ?_)
  refine st_iconst c148_60 ?_
  refine st_zast c148_61 hT t31 ay_118 (by omega) (by omega) (Ext_rf _) hS hF (by decide +kernel) (fun h34 hT35 hF36 hU37 => ?_)
  refine st_iconst c148_62 ?_
  refine st_ireturn c148_63 ?_
  exact hQ _ _ ⟨1, rfl, by omega, hT35, hF36⟩
  refine st_iconst c148_56 ?_
  refine st_goto c148_57 ?_
  refine st_zast c148_61 hT t31 ay_118 (by omega) (by omega) (Ext_rf _) hS hF (by decide +kernel) (fun h38 hT39 hF40 hU41 => ?_)
  refine st_iconst c148_62 ?_
  refine st_ireturn c148_63 ?_
  exact hQ _ _ ⟨1, rfl, by omega, hT39, hF40⟩
set_option maxHeartbeats 0 in
theorem K149 {Ln : Nat} {xs : Nat → Int32} {τ : List Nat} {h : List mE} {E : EP} (hT : TH E τ h) (p1 : Int) (hp1 : (-2147483648) ≤ p1 ∧ p1 ≤ 2147483647) (p2 : Int) (hp2 : (-2147483648) ≤ p2 ∧ p2 ≤ 2147483647) (pre0 : I1 τ h) (pre1 : I8 h) (d : Nat) (hd : 4 ≤ d) (Q : Option Value → List mE → Prop) (hQ : ∀ v h', (∃ z : Int, v = some (vI z) ∧ ((-2147483648) ≤ z ∧ z ≤ 2147483647) ∧ h = h') → Q v h') : MR (mex Ln xs) d 149 0 [some (.ref 4), some (vI p1), some (vI p2), none] [] h Q := by
  refine st_aload c149_0 rfl ?_
  refine st_iload c149_1 rfl ?_
  refine st_callt (as := [vI p1]) c149_2 cm_172 hT (tf hT rfl rfl) fd_1_0 rfl rfl rfl rfl (by omega) (K172 hT p1 (by omega) pre1 (d - 1) (by omega) _ (fun v h0 H => H)) (fun v1 h1 H => ?_)
  rcases H with ⟨rfl, rfl⟩ | ⟨r1, rfl, t2, rfl⟩
  refine st_astoreN (L' := [some (.ref 4), some (vI p1), some (vI p2), some .null]) c149_5 rfl rfl ?_
  refine st_aloadN c149_6 rfl ?_
  refine st_ifnullN c149_7 ?_
  refine st_iconst c149_19 ?_
  refine st_ireturn c149_21 ?_
  exact hQ _ _ ⟨(-2000000000), rfl, by omega, rfl⟩
  refine st_astore (L' := [some (.ref 4), some (vI p1), some (vI p2), some (.ref r1)]) c149_5 rfl rfl ?_
  refine st_aload c149_6 rfl ?_
  refine st_ifnullR c149_7 ?_
  refine st_iload c149_10 rfl ?_
  refine st_iconst c149_11 ?_
  refine st_iconst c149_12 ?_
  refine st_calls (as := [vI p2, vI 0, vI 3]) c149_13 cm_166 rfl rfl rfl rfl (by omega) (K166 hT p2 (by omega) 0 (by omega) 3 (by omega) (d - 1) (by omega) _ (fun v h0 H => H)) (fun v1 h1 H => ?_)
  rcases H with ⟨rfl, pf3, rfl⟩ | ⟨rfl, pf4, pf5, rfl⟩
  refine st_if_ne c149_16 (by omega) (fun k6 => False.elim (by omega)) (fun k7 => ?_)
  refine st_iconst c149_19 ?_
  refine st_ireturn c149_21 ?_
  exact hQ _ _ ⟨(-2000000000), rfl, by omega, rfl⟩
  refine st_if_ne c149_16 (by omega) (fun k8 => ?_) (fun k9 => False.elim (by omega))
  refine st_iload c149_22 rfl ?_
  refine st_if_ne c149_23 (by omega) (fun k10 => ?_) (fun k11 => ?_)
  refine st_aload c149_37 rfl ?_
  refine st_iload c149_38 rfl ?_
  refine st_aload c149_39 rfl ?_
  refine st_getI c149_40 hT (tf hT rfl rfl) fd_1_0 (fun e12 e13 => ?_)
  refine st_callt (as := [vI p2, vI (fI h 4 0)]) c149_43 cm_76 hT t2 fd_12_0 rfl rfl rfl rfl (by omega) (K76 hT r1 t2 p2 (by omega) (fI h 4 0) (by omega) pre0 (d - 1) (by omega) _ (fun v h0 H => H)) (fun v1 h1 H => ?_)
  obtain ⟨z14, rfl, b15, rfl⟩ := H
  refine st_ireturn c149_46 ?_
  exact hQ _ _ ⟨z14, rfl, by omega, rfl⟩
  refine st_aload c149_26 rfl ?_
  refine st_aload c149_27 rfl ?_
  refine st_getI c149_28 hT (tf hT rfl rfl) fd_1_0 (fun e16 e17 => ?_)
  refine st_callt (as := [vI (fI h 4 0)]) c149_31 cm_74 hT t2 fd_12_0 rfl rfl rfl rfl (by omega) (K74 hT r1 t2 (fI h 4 0) (by omega) (d - 1) (by omega) _ (fun v h0 H => H)) (fun v1 h1 H => ?_)
  obtain ⟨z18, rfl, b19, rfl⟩ := H
  refine st_goto c149_34 ?_
  refine st_ireturn c149_46 ?_
  exact hQ _ _ ⟨z18, rfl, by omega, rfl⟩
set_option maxHeartbeats 0 in
theorem K150 {Ln : Nat} {xs : Nat → Int32} {τ : List Nat} {h : List mE} {E : EP} (hT : TH E τ h) (p1 : Int) (hp1 : (-2147483648) ≤ p1 ∧ p1 ≤ 2147483647) (p2 : Int) (hp2 : (-2147483648) ≤ p2 ∧ p2 ≤ 2147483647) (pre0 : I1 τ h) (pre1 : I8 h) (d : Nat) (hd : 3 ≤ d) (Q : Option Value → List mE → Prop) (hQ : ∀ v h', (∃ z : Int, v = some (vI z) ∧ ((-1) ≤ z ∧ z ≤ 3) ∧ h = h') → Q v h') : MR (mex Ln xs) d 150 0 [some (.ref 4), some (vI p1), some (vI p2), none] [] h Q := by
  refine st_aload c150_0 rfl ?_
  refine st_iload c150_1 rfl ?_
  refine st_callt (as := [vI p1]) c150_2 cm_172 hT (tf hT rfl rfl) fd_1_0 rfl rfl rfl rfl (by omega) (K172 hT p1 (by omega) pre1 (d - 1) (by omega) _ (fun v h0 H => H)) (fun v1 h1 H => ?_)
  rcases H with ⟨rfl, rfl⟩ | ⟨r1, rfl, t2, rfl⟩
  refine st_astoreN (L' := [some (.ref 4), some (vI p1), some (vI p2), some .null]) c150_5 rfl rfl ?_
  refine st_aloadN c150_6 rfl ?_
  refine st_ifnullN c150_7 ?_
  refine st_iconst c150_26 ?_
  refine st_ireturn c150_27 ?_
  exact hQ _ _ ⟨(-1), rfl, by omega, rfl⟩
  refine st_astore (L' := [some (.ref 4), some (vI p1), some (vI p2), some (.ref r1)]) c150_5 rfl rfl ?_
  refine st_aload c150_6 rfl ?_
  refine st_ifnullR c150_7 ?_
  refine st_iload c150_10 rfl ?_
  refine st_if_lt c150_11 (by omega) (fun k3 => ?_) (fun k4 => ?_)
  refine st_iconst c150_26 ?_
  refine st_ireturn c150_27 ?_
  exact hQ _ _ ⟨(-1), rfl, by omega, rfl⟩
  refine st_iload c150_14 rfl ?_
  refine st_aload c150_15 rfl ?_
  refine st_aload c150_16 rfl ?_
  refine st_getI c150_17 hT (tf hT rfl rfl) fd_1_0 (fun e5 e6 => ?_)
  refine st_callt (as := [vI (fI h 4 0)]) c150_20 cm_74 hT t2 fd_12_0 rfl rfl rfl rfl (by omega) (K74 hT r1 t2 (fI h 4 0) (by omega) (d - 1) (by omega) _ (fun v h0 H => H)) (fun v1 h1 H => ?_)
  obtain ⟨z7, rfl, b8, rfl⟩ := H
  refine st_icmp_lt c150_23 (by omega) (by omega) (fun k9 => ?_) (fun k10 => ?_)
  refine st_aload c150_28 rfl ?_
  refine st_iload c150_29 rfl ?_
  refine st_aload c150_30 rfl ?_
  refine st_getI c150_31 hT (tf hT rfl rfl) fd_1_0 (fun e11 e12 => ?_)
  refine st_callt (as := [vI p2, vI (fI h 4 0)]) c150_34 cm_75 hT t2 fd_12_0 rfl rfl rfl rfl (by omega) (K75 hT r1 t2 p2 (by omega) (fI h 4 0) (by omega) pre0 (d - 1) (by omega) _ (fun v h0 H => H)) (fun v1 h1 H => ?_)
  obtain ⟨z13, rfl, b14, rfl⟩ := H
  refine st_ireturn c150_37 ?_
  exact hQ _ _ ⟨z13, rfl, by omega, rfl⟩
  refine st_iconst c150_26 ?_
  refine st_ireturn c150_27 ?_
  exact hQ _ _ ⟨(-1), rfl, by omega, rfl⟩
def W151 : List (Nat × Nat) := [(6, 1), (35, 0)]
set_option maxHeartbeats 0 in
theorem K151 {Ln : Nat} {xs : Nat → Int32} {τ : List Nat} {h : List mE} {E : EP} (hT : TH E τ h) (hS : Stb E W151) (p1 : Int) (hp1 : (-2147483648) ≤ p1 ∧ p1 ≤ 2147483647) (p2 : Int) (hp2 : (-2147483648) ≤ p2 ∧ p2 ≤ 2147483647) (p3 : Int) (hp3 : (-2147483648) ≤ p3 ∧ p3 ≤ 2147483647) (p4 : Int) (hp4 : (-2147483648) ≤ p4 ∧ p4 ≤ 2147483647) (p5 : Int) (hp5 : (-2147483648) ≤ p5 ∧ p5 ≤ 2147483647) (d : Nat) (hd : 1 ≤ d) (Q : Option Value → List mE → Prop) (hQ : ∀ v h', (∃ z : Int, v = some (vI z) ∧ ((-3) ≤ z ∧ z ≤ 200) ∧ (PFeC h h' p1 p2 p3 p4 p5 z) ∧ TH E τ h' ∧ Fr τ W151 h h') → Q v h') : MR (mex Ln xs) d 151 0 [some (.ref 4), some (vI p1), some (vI p2), some (vI p3), some (vI p4), some (vI p5)] [] h Q := by
  have hF := Fr_rf τ W151 h
  refine st_aload c151_0 rfl ?_
  refine st_getX (u := 54) c151_1 hT (tf hT rfl rfl) fd_1_16 rfl ?_
  have e1 := fI_bd (q := 54) hT (tf hT rfl rfl) fd_6_1
  refine st_callt (as := []) c151_4 cm_92 hT (tf hT rfl rfl) fd_6_0 rfl rfl rfl rfl (by omega) (K92 hT (d - 1) (by omega) _ (fun v h0 H => H)) (fun v1 h1 H => ?_)
  rcases H with ⟨rfl, pf2, rfl⟩ | ⟨rfl, pf3, rfl⟩
  refine st_if_ne c151_7 (by omega) (fun k4 => False.elim (by omega)) (fun k5 => ?_)
  refine st_iconst c151_10 ?_
  refine st_ireturn c151_12 ?_
  exact hQ _ _ ⟨(-3), rfl, by omega, Or.inl ⟨by omega, by omega, by omega, (fun _ => rfl)⟩, hT, hF⟩
  refine st_if_ne c151_7 (by omega) (fun k7 => ?_) (fun k8 => False.elim (by omega))
  refine st_aload c151_13 rfl ?_
  refine st_getX (u := 54) c151_14 hT (tf hT rfl rfl) fd_1_16 rfl ?_
  refine st_iload c151_17 rfl ?_
  refine st_callt (as := [vI p1]) c151_18 cm_93 hT (tf hT rfl rfl) fd_6_0 rfl rfl rfl rfl (by omega) (K93 hT (Stb_mono hS (by decide +kernel)) p1 (by omega) (d - 1) (by omega) _ (fun v h0 H => H)) (fun v1 h9 H => ?_)
  obtain ⟨rfl, pf12, hT10, hF11⟩ := H
  have hF13 := Fr_cp hF hF11 (by decide +kernel : Wsub W93 W151 = true)
  refine st_aload c151_21 rfl ?_
  refine st_getX (u := 54) c151_22 hT10 (tf hT10 rfl rfl) fd_1_16 rfl ?_
  refine st_iload c151_25 rfl ?_
  refine st_callt (as := [vI p2]) c151_26 cm_93 hT10 (tf hT10 rfl rfl) fd_6_0 rfl rfl rfl rfl (by omega) (K93 hT10 (Stb_mono hS (by decide +kernel)) p2 (by omega) (d - 1) (by omega) _ (fun v h0 H => H)) (fun v1 h14 H => ?_)
  obtain ⟨rfl, pf17, hT15, hF16⟩ := H
  have hF18 := Fr_cp hF13 hF16 (by decide +kernel : Wsub W93 W151 = true)
  refine st_aload c151_29 rfl ?_
  refine st_getX (u := 54) c151_30 hT15 (tf hT15 rfl rfl) fd_1_16 rfl ?_
  refine st_iload c151_33 rfl ?_
  refine st_callt (as := [vI p3]) c151_34 cm_93 hT15 (tf hT15 rfl rfl) fd_6_0 rfl rfl rfl rfl (by omega) (K93 hT15 (Stb_mono hS (by decide +kernel)) p3 (by omega) (d - 1) (by omega) _ (fun v h0 H => H)) (fun v1 h19 H => ?_)
  obtain ⟨rfl, pf22, hT20, hF21⟩ := H
  have hF23 := Fr_cp hF18 hF21 (by decide +kernel : Wsub W93 W151 = true)
  refine st_aload c151_37 rfl ?_
  refine st_getX (u := 54) c151_38 hT20 (tf hT20 rfl rfl) fd_1_16 rfl ?_
  refine st_iload c151_41 rfl ?_
  refine st_callt (as := [vI p4]) c151_43 cm_93 hT20 (tf hT20 rfl rfl) fd_6_0 rfl rfl rfl rfl (by omega) (K93 hT20 (Stb_mono hS (by decide +kernel)) p4 (by omega) (d - 1) (by omega) _ (fun v h0 H => H)) (fun v1 h24 H => ?_)
  obtain ⟨rfl, pf27, hT25, hF26⟩ := H
  have hF28 := Fr_cp hF23 hF26 (by decide +kernel : Wsub W93 W151 = true)
  refine st_aload c151_46 rfl ?_
  refine st_getX (u := 54) c151_47 hT25 (tf hT25 rfl rfl) fd_1_16 rfl ?_
  refine st_iload c151_50 rfl ?_
  refine st_callt (as := [vI p5]) c151_52 cm_93 hT25 (tf hT25 rfl rfl) fd_6_0 rfl rfl rfl rfl (by omega) (K93 hT25 (Stb_mono hS (by decide +kernel)) p5 (by omega) (d - 1) (by omega) _ (fun v h0 H => H)) (fun v1 h29 H => ?_)
  obtain ⟨rfl, pf32, hT30, hF31⟩ := H
  have hF33 := Fr_cp hF28 hF31 (by decide +kernel : Wsub W93 W151 = true)
  refine st_aload c151_55 rfl ?_
  refine st_getX (u := 54) c151_56 hT30 (tf hT30 rfl rfl) fd_1_16 rfl ?_
  refine st_getI c151_59 hT30 (tf hT30 rfl rfl) fd_6_1 (fun e34 e35 => ?_)
  refine st_ireturn c151_62 ?_
  exact hQ _ _ ⟨fI h29 54 1, rfl, by omega, PFeC_of (by omega) pf12 pf17 pf22 pf27 pf32 (by omega), hT30, hF33⟩
def W152 : List (Nat × Nat) := [(6, 1)]
set_option maxHeartbeats 0 in
theorem K152 {Ln : Nat} {xs : Nat → Int32} {τ : List Nat} {h : List mE} {E : EP} (hT : TH E τ h) (hS : Stb E W152) (p1 : Int) (hp1 : (-2147483648) ≤ p1 ∧ p1 ≤ 2147483647) (d : Nat) (hd : 1 ≤ d) (Q : Option Value → List mE → Prop) (hQ : ∀ v h', (∃ z : Int, v = some (vI z) ∧ ((-1) ≤ z ∧ z ≤ 200) ∧ ((0 ≤ p1 ∧ p1 ≤ fI h 54 1 ∧ z = p1 ∧ fI h' 54 1 = p1) ∨ ((p1 < 0 ∨ fI h 54 1 < p1) ∧ z = -1 ∧ fI h' 54 1 = fI h 54 1)) ∧ TH E τ h' ∧ Fr τ W152 h h') → Q v h') : MR (mex Ln xs) d 152 0 [some (.ref 4), some (vI p1)] [] h Q := by
  have hF := Fr_rf τ W152 h
  refine st_iload c152_0 rfl ?_
  refine st_iconst c152_1 ?_
  refine st_aload c152_2 rfl ?_
  refine st_getX (u := 54) c152_3 hT (tf hT rfl rfl) fd_1_16 rfl ?_
  refine st_getI c152_6 hT (tf hT rfl rfl) fd_6_1 (fun e1 e2 => ?_)
  refine st_calls (as := [vI p1, vI 0, vI (fI h 54 1)]) c152_9 cm_166 rfl rfl rfl rfl (by omega) (K166 hT p1 (by omega) 0 (by omega) (fI h 54 1) (by omega) (d - 1) (by omega) _ (fun v h0 H => H)) (fun v1 h1 H => ?_)
  rcases H with ⟨rfl, pf3, rfl⟩ | ⟨rfl, pf4, pf5, rfl⟩
  refine st_if_ne c152_12 (by omega) (fun k6 => False.elim (by omega)) (fun k7 => ?_)
  refine st_iconst c152_15 ?_
  refine st_ireturn c152_16 ?_
  exact hQ _ _ ⟨(-1), rfl, by omega, by omega, hT, hF⟩
  refine st_if_ne c152_12 (by omega) (fun k8 => ?_) (fun k9 => False.elim (by omega))
  refine st_aload c152_17 rfl ?_
  refine st_getX (u := 54) c152_18 hT (tf hT rfl rfl) fd_1_16 rfl ?_
  refine st_iload c152_21 rfl ?_
  refine st_putI c152_22 hT (tf hT rfl rfl) fd_6_1 (by omega) (by omega) (Ext_rf _) hS hF (by decide +kernel) (fun h10 hT11 hF12 hU13 => ?_)
  refine st_iload c152_25 rfl ?_
  refine st_ireturn c152_26 ?_
  have e14 := fI_bd (q := 54) hT11 (tf hT11 rfl rfl) fd_6_1
  have q15 : fI h10 54 1 = p1 := FUp_fI hU13 (by omega) (by omega)
  exact hQ _ _ ⟨p1, rfl, by omega, by omega, hT11, hF12⟩
def W154 : List (Nat × Nat) := [(41, 0), (42, 0)]
set_option maxHeartbeats 0 in
theorem K154 {Ln : Nat} {xs : Nat → Int32} {τ : List Nat} {h : List mE} {E : EP} (hT : TH E τ h) (hS : Stb E W154) (p1 : Int) (hp1 : (-2147483648) ≤ p1 ∧ p1 ≤ 2147483647) (p2 : Int) (hp2 : (-2147483648) ≤ p2 ∧ p2 ≤ 2147483647) (p3 : Int) (hp3 : (-2147483648) ≤ p3 ∧ p3 ≤ 2147483647) (pre0 : I1 τ h) (pre1 : I2 τ h) (pre2 : I8 h) (d : Nat) (hd : 6 ≤ d) (Q : Option Value → List mE → Prop) (hQ : ∀ v h', (∃ z : Int, v = some (vI z) ∧ ((-2000000000) ≤ z ∧ z ≤ 9999999) ∧ TH E τ h' ∧ Fr τ W154 h h') → Q v h') : MR (mex Ln xs) d 154 0 [some (.ref 4), some (vI p1), some (vI p2), some (vI p3), none] [] h Q := by
  have hF := Fr_rf τ W154 h
  refine st_aload c154_0 rfl ?_
  refine st_iload c154_1 rfl ?_
  refine st_callt (as := [vI p2]) c154_2 cm_172 hT (tf hT rfl rfl) fd_1_0 rfl rfl rfl rfl (by omega) (K172 hT p2 (by omega) pre2 (d - 1) (by omega) _ (fun v h0 H => H)) (fun v1 h1 H => ?_)
  rcases H with ⟨rfl, rfl⟩ | ⟨r1, rfl, t2, rfl⟩
  refine st_astoreN (L' := [some (.ref 4), some (vI p1), some (vI p2), some (vI p3), some .null]) c154_5 rfl rfl ?_
  refine st_aloadN c154_7 rfl ?_
  refine st_ifnullN c154_9 ?_
  refine st_iconst c154_34 ?_
  refine st_ireturn c154_36 ?_
  exact hQ _ _ ⟨(-2000000000), rfl, by omega, hT, hF⟩
  refine st_astore (L' := [some (.ref 4), some (vI p1), some (vI p2), some (vI p3), some (.ref r1)]) c154_5 rfl rfl ?_
  refine st_aload c154_7 rfl ?_
  refine st_ifnullR c154_9 ?_
  refine st_aload c154_12 rfl ?_
  refine st_getX (u := 60) c154_13 hT (tf hT rfl rfl) fd_1_17 rfl ?_
  refine st_iload c154_16 rfl ?_
  have e3 := fI_bd (q := 60) hT (tf hT rfl rfl) fd_7_1
  refine st_callt (as := [vI p1]) c154_17 cm_2 hT (tf hT rfl rfl) fd_7_0 rfl rfl rfl rfl (by omega) (K2 hT p1 (by omega) (d - 1) (by omega) _ (fun v h0 H => H)) (fun v1 h1 H => ?_)
  rcases H with ⟨rfl, rfl⟩ | ⟨rfl, pf4, pf5, pf6, rfl⟩
  refine st_if_eq c154_20 (by omega) (fun k7 => ?_) (fun k8 => False.elim (by omega))
  refine st_iconst c154_34 ?_
  refine st_ireturn c154_36 ?_
  exact hQ _ _ ⟨(-2000000000), rfl, by omega, hT, hF⟩
  refine st_if_eq c154_20 (by omega) (fun k9 => False.elim (by omega)) (fun k10 => ?_)
  refine st_iload c154_23 rfl ?_
  refine st_iconst c154_24 ?_
  refine st_iconst c154_25 ?_
  refine st_calls (as := [vI p3, vI 0, vI 999]) c154_28 cm_166 rfl rfl rfl rfl (by omega) (K166 hT p3 (by omega) 0 (by omega) 999 (by omega) (d - 1) (by omega) _ (fun v h0 H => H)) (fun v1 h1 H => ?_)
  rcases H with ⟨rfl, pf11, rfl⟩ | ⟨rfl, pf12, pf13, rfl⟩
  refine st_if_ne c154_31 (by omega) (fun k14 => False.elim (by omega)) (fun k15 => ?_)
  refine st_iconst c154_34 ?_
  refine st_ireturn c154_36 ?_
  exact hQ _ _ ⟨(-2000000000), rfl, by omega, hT, hF⟩
  refine st_if_ne c154_31 (by omega) (fun k16 => ?_) (fun k17 => False.elim (by omega))
  refine st_aload c154_37 rfl ?_
  refine st_aload c154_38 rfl ?_
  refine st_callt (as := [.ref r1]) c154_40 cm_173 hT (tf hT rfl rfl) fd_1_0 rfl rfl rfl rfl (by omega) (K173 hT (Stb_mono hS (by decide +kernel)) r1 t2 pre0 (d - 1) (by omega) _ (fun v h0 H => H)) (fun v1 h18 H => ?_)
  obtain ⟨rfl, hT19, hF20⟩ := H
  have hF21 := Fr_cp hF hF20 (by decide +kernel : Wsub W173 W154 = true)
  refine st_aload c154_43 rfl ?_
  refine st_getX (u := 60) c154_44 hT19 (tf hT19 rfl rfl) fd_1_17 rfl ?_
  refine st_iload c154_47 rfl ?_
  refine st_callt (as := [vI p3]) c154_48 cm_6 hT19 (tf hT19 rfl rfl) fd_7_0 rfl rfl rfl rfl (by omega) (K6 hT19 (Stb_mono hS (by decide +kernel)) p3 (by omega) (d - 1) (by omega) _ (fun v h0 H => H)) (fun v1 h22 H => ?_)
  obtain ⟨rfl, hT23, hF24⟩ := H
  have hF25 := Fr_cp hF21 hF24 (by decide +kernel : Wsub W6 W154 = true)
  refine st_aload c154_51 rfl ?_
  refine st_getX (u := 60) c154_52 hT23 (tf hT23 rfl rfl) fd_1_17 rfl ?_
  refine st_iload c154_55 rfl ?_
  refine st_callt (as := [vI p1]) c154_56 cm_8 hT23 (tf hT23 rfl rfl) fd_7_0 rfl rfl rfl rfl (by omega) (K8 hT23 (Stb_mono hS (by decide +kernel)) p1 (by omega) (I2_fr pre1 hF25 (by decide +kernel)) (d - 1) (by omega) _ (fun v h0 H => H)) (fun v1 h26 H => ?_)
  obtain ⟨z29, rfl, b30, hT27, hF28⟩ := H
  have hF31 := Fr_cp hF25 hF28 (by decide +kernel : Wsub W8 W154 = true)
  refine st_ireturn c154_59 ?_
  exact hQ _ _ ⟨z29, rfl, by omega, hT27, hF31⟩
def W155 : List (Nat × Nat) := [(41, 0), (42, 0)]
set_option maxHeartbeats 0 in
theorem K155 {Ln : Nat} {xs : Nat → Int32} {τ : List Nat} {h : List mE} {E : EP} (hT : TH E τ h) (hS : Stb E W155) (p1 : Int) (hp1 : (-2147483648) ≤ p1 ∧ p1 ≤ 2147483647) (p2 : Int) (hp2 : (-2147483648) ≤ p2 ∧ p2 ≤ 2147483647) (p3 : Int) (hp3 : (-2147483648) ≤ p3 ∧ p3 ≤ 2147483647) (pre0 : I1 τ h) (pre1 : I2 τ h) (pre2 : I8 h) (d : Nat) (hd : 6 ≤ d) (Q : Option Value → List mE → Prop) (hQ : ∀ v h', (∃ z : Int, v = some (vI z) ∧ ((-2000000000) ≤ z ∧ z ≤ 19999998) ∧ TH E τ h' ∧ Fr τ W155 h h') → Q v h') : MR (mex Ln xs) d 155 0 [some (.ref 4), some (vI p1), some (vI p2), some (vI p3), none, none] [] h Q := by
  have hF := Fr_rf τ W155 h
  refine st_aload c155_0 rfl ?_
  refine st_iload c155_1 rfl ?_
  refine st_callt (as := [vI p1]) c155_2 cm_172 hT (tf hT rfl rfl) fd_1_0 rfl rfl rfl rfl (by omega) (K172 hT p1 (by omega) pre2 (d - 1) (by omega) _ (fun v h0 H => H)) (fun v1 h1 H => ?_)
  rcases H with ⟨rfl, rfl⟩ | ⟨r1, rfl, t2, rfl⟩
  refine st_astoreN (L' := [some (.ref 4), some (vI p1), some (vI p2), some (vI p3), some .null, none]) c155_5 rfl rfl ?_
  refine st_aloadN c155_7 rfl ?_
  refine st_ifnullN c155_9 ?_
  refine st_iconst c155_32 ?_
  refine st_ireturn c155_34 ?_
  exact hQ _ _ ⟨(-2000000000), rfl, by omega, hT, hF⟩
  refine st_astore (L' := [some (.ref 4), some (vI p1), some (vI p2), some (vI p3), some (.ref r1), none]) c155_5 rfl rfl ?_
  refine st_aload c155_7 rfl ?_
  refine st_ifnullR c155_9 ?_
  refine st_iload c155_12 rfl ?_
  refine st_iconst c155_13 ?_
  refine st_iconst c155_14 ?_
  refine st_calls (as := [vI p2, vI 0, vI 999]) c155_17 cm_166 rfl rfl rfl rfl (by omega) (K166 hT p2 (by omega) 0 (by omega) 999 (by omega) (d - 1) (by omega) _ (fun v h0 H => H)) (fun v1 h1 H => ?_)
  rcases H with ⟨rfl, pf3, rfl⟩ | ⟨rfl, pf4, pf5, rfl⟩
  refine st_if_eq c155_20 (by omega) (fun k6 => ?_) (fun k7 => False.elim (by omega))
  refine st_iconst c155_32 ?_
  refine st_ireturn c155_34 ?_
  exact hQ _ _ ⟨(-2000000000), rfl, by omega, hT, hF⟩
  refine st_if_eq c155_20 (by omega) (fun k8 => False.elim (by omega)) (fun k9 => ?_)
  refine st_iload c155_23 rfl ?_
  refine st_iconst c155_24 ?_
  refine st_iconst c155_25 ?_
  refine st_calls (as := [vI p3, vI 0, vI 5]) c155_26 cm_166 rfl rfl rfl rfl (by omega) (K166 hT p3 (by omega) 0 (by omega) 5 (by omega) (d - 1) (by omega) _ (fun v h0 H => H)) (fun v1 h1 H => ?_)
  rcases H with ⟨rfl, pf10, rfl⟩ | ⟨rfl, pf11, pf12, rfl⟩
  refine st_if_ne c155_29 (by omega) (fun k13 => False.elim (by omega)) (fun k14 => ?_)
  refine st_iconst c155_32 ?_
  refine st_ireturn c155_34 ?_
  exact hQ _ _ ⟨(-2000000000), rfl, by omega, hT, hF⟩
  refine st_if_ne c155_29 (by omega) (fun k15 => ?_) (fun k16 => False.elim (by omega))
  refine st_aload c155_35 rfl ?_
  refine st_aload c155_36 rfl ?_
  refine st_callt (as := [.ref r1]) c155_38 cm_173 hT (tf hT rfl rfl) fd_1_0 rfl rfl rfl rfl (by omega) (K173 hT (Stb_mono hS (by decide +kernel)) r1 t2 pre0 (d - 1) (by omega) _ (fun v h0 H => H)) (fun v1 h17 H => ?_)
  obtain ⟨rfl, hT18, hF19⟩ := H
  have hF20 := Fr_cp hF hF19 (by decide +kernel : Wsub W173 W155 = true)
  refine st_aload c155_41 rfl ?_
  refine st_getI c155_43 hT18 t2 fd_12_11 (fun e21 e22 => ?_)
  have q23 : fI h17 r1 11 = fI h r1 11 := Fr_fI hF19 t2 (by decide +kernel)
  refine st_iconst c155_46 ?_
  refine st_idivc c155_48 (by omega) (by omega) (fun w24 e25 e26 => ?_)
  refine st_istore (L' := [some (.ref 4), some (vI p1), some (vI p2), some (vI p3), some (.ref r1), some (vI w24)]) c155_49 rfl rfl ?_
  refine st_iload c155_51 rfl ?_
  rcases (by omega : (p3 < 0 ∨ 5 < p3) ∨ p3 = 0 ∨ p3 = 1 ∨ p3 = 2 ∨ p3 = 3 ∨ p3 = 4 ∨ p3 = 5) with k27 | k27 | k27 | k27 | k27 | k27 | k27
  · refine st_swd c155_52 (by omega) k27 ?_
    rw [show mjmp 52 128 = 180 from by decide]
    refine st_aload c155_180 rfl ?_
    refine st_getX (u := 60) c155_181 hT18 (tf hT18 rfl rfl) fd_1_17 rfl ?_
    refine st_aload c155_184 rfl ?_
    refine st_iload c155_186 rfl ?_
    refine st_iconst c155_187 ?_
    refine st_icmp_ne c155_188 (by omega) (by omega) (fun k28 => ?_) (fun k29 => ?_)
    refine st_iconst c155_195 ?_
    refine st_aload c155_196 rfl ?_
    refine st_getI c155_197 hT18 (tf hT18 rfl rfl) fd_1_0 (fun e30 e31 => ?_)
    have q32 : fI h17 4 0 = fI h 4 0 := Fr_fI hF19 (tf hT rfl rfl) (by decide +kernel)
    refine st_callt (as := [vI 2, vI (fI h17 4 0)]) c155_200 cm_76 hT18 t2 fd_12_0 rfl rfl rfl rfl (by omega) (K76 hT18 r1 t2 2 (by omega) (fI h17 4 0) (by omega) (I1_fr pre0 hT hF20 (by decide +kernel)) (d - 1) (by omega) _ (fun v h0 H => H)) (fun v1 h1 H => ?_)
    obtain ⟨z33, rfl, b34, rfl⟩ := H
    refine st_callt (as := [vI z33]) c155_203 cm_6 hT18 (tf hT18 rfl rfl) fd_7_0 rfl rfl rfl rfl (by omega) (K6 hT18 (Stb_mono hS (by decide +kernel)) z33 (by omega) (d - 1) (by omega) _ (fun v h0 H => H)) (fun v1 h35 H => ?_)
    obtain ⟨rfl, hT36, hF37⟩ := H
    have hF38 := Fr_cp hF20 hF37 (by decide +kernel : Wsub W6 W155 = true)
    refine st_aload c155_206 rfl ?_
    refine st_getX (u := 60) c155_207 hT36 (tf hT36 rfl rfl) fd_1_17 rfl ?_
    refine st_aload c155_210 rfl ?_
    refine st_getX (u := 60) c155_211 hT36 (tf hT36 rfl rfl) fd_1_17 rfl ?_
    refine st_iconst c155_214 ?_
    refine st_iload c155_215 rfl ?_
    refine st_iload c155_216 rfl ?_
    refine st_callt (as := [vI 0, vI p2, vI w24]) c155_218 cm_9 hT36 (tf hT36 rfl rfl) fd_7_0 rfl rfl rfl rfl (by omega) (K9 hT36 (Stb_mono hS (by decide +kernel)) 0 (by omega) p2 (by omega) w24 (by omega) (I2_fr pre1 hF38 (by decide +kernel)) (d - 1) (by omega) _ (fun v h0 H => H)) (fun v1 h39 H => ?_)
    obtain ⟨z42, rfl, b43, hT40, hF41⟩ := H
    have hF44 := Fr_cp hF38 hF41 (by decide +kernel : Wsub W9 W155 = true)
    refine st_callt (as := [vI z42]) c155_221 cm_8 hT40 (tf hT40 rfl rfl) fd_7_0 rfl rfl rfl rfl (by omega) (K8 hT40 (Stb_mono hS (by decide +kernel)) z42 (by omega) (I2_fr pre1 hF44 (by decide +kernel)) (d - 1) (by omega) _ (fun v h0 H => H)) (fun v1 h45 H => ?_)
    obtain ⟨z48, rfl, b49, hT46, hF47⟩ := H
    have hF50 := Fr_cp hF44 hF47 (by decide +kernel : Wsub W8 W155 = true)
    refine st_ireturn c155_224 ?_
    exact hQ _ _ ⟨z48, rfl, by omega, hT46, hF50⟩
    refine st_iconst c155_191 ?_
    refine st_goto c155_192 ?_
    refine st_aload c155_196 rfl ?_
    refine st_getI c155_197 hT18 (tf hT18 rfl rfl) fd_1_0 (fun e51 e52 => ?_)
    have q53 : fI h17 4 0 = fI h 4 0 := Fr_fI hF19 (tf hT rfl rfl) (by decide +kernel)
    refine st_callt (as := [vI 1, vI (fI h17 4 0)]) c155_200 cm_76 hT18 t2 fd_12_0 rfl rfl rfl rfl (by omega) (K76 hT18 r1 t2 1 (by omega) (fI h17 4 0) (by omega) (I1_fr pre0 hT hF20 (by decide +kernel)) (d - 1) (by omega) _ (fun v h0 H => H)) (fun v1 h1 H => ?_)
    obtain ⟨z54, rfl, b55, rfl⟩ := H
    refine st_callt (as := [vI z54]) c155_203 cm_6 hT18 (tf hT18 rfl rfl) fd_7_0 rfl rfl rfl rfl (by omega) (K6 hT18 (Stb_mono hS (by decide +kernel)) z54 (by omega) (d - 1) (by omega) _ (fun v h0 H => H)) (fun v1 h56 H => ?_)
    obtain ⟨rfl, hT57, hF58⟩ := H
    have hF59 := Fr_cp hF20 hF58 (by decide +kernel : Wsub W6 W155 = true)
    refine st_aload c155_206 rfl ?_
    refine st_getX (u := 60) c155_207 hT57 (tf hT57 rfl rfl) fd_1_17 rfl ?_
    refine st_aload c155_210 rfl ?_
    refine st_getX (u := 60) c155_211 hT57 (tf hT57 rfl rfl) fd_1_17 rfl ?_
    refine st_iconst c155_214 ?_
    refine st_iload c155_215 rfl ?_
    refine st_iload c155_216 rfl ?_
    refine st_callt (as := [vI 0, vI p2, vI w24]) c155_218 cm_9 hT57 (tf hT57 rfl rfl) fd_7_0 rfl rfl rfl rfl (by omega) (K9 hT57 (Stb_mono hS (by decide +kernel)) 0 (by omega) p2 (by omega) w24 (by omega) (I2_fr pre1 hF59 (by decide +kernel)) (d - 1) (by omega) _ (fun v h0 H => H)) (fun v1 h60 H => ?_)
    obtain ⟨z63, rfl, b64, hT61, hF62⟩ := H
    have hF65 := Fr_cp hF59 hF62 (by decide +kernel : Wsub W9 W155 = true)
    refine st_callt (as := [vI z63]) c155_221 cm_8 hT61 (tf hT61 rfl rfl) fd_7_0 rfl rfl rfl rfl (by omega) (K8 hT61 (Stb_mono hS (by decide +kernel)) z63 (by omega) (I2_fr pre1 hF65 (by decide +kernel)) (d - 1) (by omega) _ (fun v h0 H => H)) (fun v1 h66 H => ?_)
    obtain ⟨z69, rfl, b70, hT67, hF68⟩ := H
    have hF71 := Fr_cp hF65 hF68 (by decide +kernel : Wsub W8 W155 = true)
    refine st_ireturn c155_224 ?_
    exact hQ _ _ ⟨z69, rfl, by omega, hT67, hF71⟩
  · refine st_sw (k := 0) (tg := 92) (by decide +kernel) k27 (by decide) ?_
    refine st_aload c155_92 rfl ?_
    refine st_getX (u := 60) c155_93 hT18 (tf hT18 rfl rfl) fd_1_17 rfl ?_
    refine st_aload c155_96 rfl ?_
    refine st_getX (u := 60) c155_97 hT18 (tf hT18 rfl rfl) fd_1_17 rfl ?_
    refine st_iconst c155_100 ?_
    refine st_iload c155_101 rfl ?_
    refine st_iload c155_102 rfl ?_
    refine st_callt (as := [vI 0, vI p2, vI w24]) c155_104 cm_9 hT18 (tf hT18 rfl rfl) fd_7_0 rfl rfl rfl rfl (by omega) (K9 hT18 (Stb_mono hS (by decide +kernel)) 0 (by omega) p2 (by omega) w24 (by omega) (I2_fr pre1 hF20 (by decide +kernel)) (d - 1) (by omega) _ (fun v h0 H => H)) (fun v1 h72 H => ?_)
    obtain ⟨z75, rfl, b76, hT73, hF74⟩ := H
    have hF77 := Fr_cp hF20 hF74 (by decide +kernel : Wsub W9 W155 = true)
    refine st_callt (as := [vI z75]) c155_107 cm_8 hT73 (tf hT73 rfl rfl) fd_7_0 rfl rfl rfl rfl (by omega) (K8 hT73 (Stb_mono hS (by decide +kernel)) z75 (by omega) (I2_fr pre1 hF77 (by decide +kernel)) (d - 1) (by omega) _ (fun v h0 H => H)) (fun v1 h78 H => ?_)
    obtain ⟨z81, rfl, b82, hT79, hF80⟩ := H
    have hF83 := Fr_cp hF77 hF80 (by decide +kernel : Wsub W8 W155 = true)
    refine st_ireturn c155_110 ?_
    exact hQ _ _ ⟨z81, rfl, by omega, hT79, hF83⟩
  · refine st_sw (k := 1) (tg := 111) (by decide +kernel) k27 (by decide) ?_
    refine st_aload c155_111 rfl ?_
    refine st_getX (u := 60) c155_112 hT18 (tf hT18 rfl rfl) fd_1_17 rfl ?_
    refine st_aload c155_115 rfl ?_
    refine st_getX (u := 60) c155_116 hT18 (tf hT18 rfl rfl) fd_1_17 rfl ?_
    refine st_iconst c155_119 ?_
    refine st_iload c155_120 rfl ?_
    refine st_iload c155_121 rfl ?_
    refine st_callt (as := [vI 1, vI p2, vI w24]) c155_123 cm_9 hT18 (tf hT18 rfl rfl) fd_7_0 rfl rfl rfl rfl (by omega) (K9 hT18 (Stb_mono hS (by decide +kernel)) 1 (by omega) p2 (by omega) w24 (by omega) (I2_fr pre1 hF20 (by decide +kernel)) (d - 1) (by omega) _ (fun v h0 H => H)) (fun v1 h84 H => ?_)
    obtain ⟨z87, rfl, b88, hT85, hF86⟩ := H
    have hF89 := Fr_cp hF20 hF86 (by decide +kernel : Wsub W9 W155 = true)
    refine st_callt (as := [vI z87]) c155_126 cm_8 hT85 (tf hT85 rfl rfl) fd_7_0 rfl rfl rfl rfl (by omega) (K8 hT85 (Stb_mono hS (by decide +kernel)) z87 (by omega) (I2_fr pre1 hF89 (by decide +kernel)) (d - 1) (by omega) _ (fun v h0 H => H)) (fun v1 h90 H => ?_)
    obtain ⟨z93, rfl, b94, hT91, hF92⟩ := H
    have hF95 := Fr_cp hF89 hF92 (by decide +kernel : Wsub W8 W155 = true)
    refine st_ireturn c155_129 ?_
    exact hQ _ _ ⟨z93, rfl, by omega, hT91, hF95⟩
  · refine st_sw (k := 2) (tg := 130) (by decide +kernel) k27 (by decide) ?_
    refine st_aload c155_130 rfl ?_
    refine st_getX (u := 60) c155_131 hT18 (tf hT18 rfl rfl) fd_1_17 rfl ?_
    refine st_aload c155_134 rfl ?_
    refine st_getX (u := 60) c155_135 hT18 (tf hT18 rfl rfl) fd_1_17 rfl ?_
    refine st_iconst c155_138 ?_
    refine st_iload c155_139 rfl ?_
    refine st_iload c155_140 rfl ?_
    refine st_callt (as := [vI 0, vI p2, vI w24]) c155_142 cm_9 hT18 (tf hT18 rfl rfl) fd_7_0 rfl rfl rfl rfl (by omega) (K9 hT18 (Stb_mono hS (by decide +kernel)) 0 (by omega) p2 (by omega) w24 (by omega) (I2_fr pre1 hF20 (by decide +kernel)) (d - 1) (by omega) _ (fun v h0 H => H)) (fun v1 h96 H => ?_)
    obtain ⟨z99, rfl, b100, hT97, hF98⟩ := H
    have hF101 := Fr_cp hF20 hF98 (by decide +kernel : Wsub W9 W155 = true)
    refine st_callt (as := [vI z99]) c155_145 cm_8 hT97 (tf hT97 rfl rfl) fd_7_0 rfl rfl rfl rfl (by omega) (K8 hT97 (Stb_mono hS (by decide +kernel)) z99 (by omega) (I2_fr pre1 hF101 (by decide +kernel)) (d - 1) (by omega) _ (fun v h0 H => H)) (fun v1 h102 H => ?_)
    obtain ⟨z105, rfl, b106, hT103, hF104⟩ := H
    have hF107 := Fr_cp hF101 hF104 (by decide +kernel : Wsub W8 W155 = true)
    refine st_aload c155_148 rfl ?_
    refine st_getX (u := 60) c155_149 hT103 (tf hT103 rfl rfl) fd_1_17 rfl ?_
    refine st_aload c155_152 rfl ?_
    refine st_getX (u := 60) c155_153 hT103 (tf hT103 rfl rfl) fd_1_17 rfl ?_
    refine st_iconst c155_156 ?_
    refine st_iload c155_157 rfl ?_
    refine st_iload c155_158 rfl ?_
    refine st_callt (as := [vI 1, vI p2, vI w24]) c155_160 cm_9 hT103 (tf hT103 rfl rfl) fd_7_0 rfl rfl rfl rfl (by omega) (K9 hT103 (Stb_mono hS (by decide +kernel)) 1 (by omega) p2 (by omega) w24 (by omega) (I2_fr pre1 hF107 (by decide +kernel)) (d - 1) (by omega) _ (fun v h0 H => H)) (fun v1 h108 H => ?_)
    obtain ⟨z111, rfl, b112, hT109, hF110⟩ := H
    have hF113 := Fr_cp hF107 hF110 (by decide +kernel : Wsub W9 W155 = true)
    refine st_callt (as := [vI z111]) c155_163 cm_8 hT109 (tf hT109 rfl rfl) fd_7_0 rfl rfl rfl rfl (by omega) (K8 hT109 (Stb_mono hS (by decide +kernel)) z111 (by omega) (I2_fr pre1 hF113 (by decide +kernel)) (d - 1) (by omega) _ (fun v h0 H => H)) (fun v1 h114 H => ?_)
    obtain ⟨z117, rfl, b118, hT115, hF116⟩ := H
    have hF119 := Fr_cp hF113 hF116 (by decide +kernel : Wsub W8 W155 = true)
    refine st_iadd c155_166 ?_
    refine st_ireturn c155_167 ?_
    exact hQ _ _ ⟨z105 + z117, rfl, by omega, hT115, hF119⟩
  · refine st_sw (k := 3) (tg := 180) (by decide +kernel) k27 (by decide) ?_
    refine st_aload c155_180 rfl ?_
    refine st_getX (u := 60) c155_181 hT18 (tf hT18 rfl rfl) fd_1_17 rfl ?_
    refine st_aload c155_184 rfl ?_
    refine st_iload c155_186 rfl ?_
    refine st_iconst c155_187 ?_
    refine st_icmp_ne c155_188 (by omega) (by omega) (fun k120 => False.elim (by omega)) (fun k121 => ?_)
    refine st_iconst c155_191 ?_
    refine st_goto c155_192 ?_
    refine st_aload c155_196 rfl ?_
    refine st_getI c155_197 hT18 (tf hT18 rfl rfl) fd_1_0 (fun e122 e123 => ?_)
    have q124 : fI h17 4 0 = fI h 4 0 := Fr_fI hF19 (tf hT rfl rfl) (by decide +kernel)
    refine st_callt (as := [vI 1, vI (fI h17 4 0)]) c155_200 cm_76 hT18 t2 fd_12_0 rfl rfl rfl rfl (by omega) (K76 hT18 r1 t2 1 (by omega) (fI h17 4 0) (by omega) (I1_fr pre0 hT hF20 (by decide +kernel)) (d - 1) (by omega) _ (fun v h0 H => H)) (fun v1 h1 H => ?_)
    obtain ⟨z125, rfl, b126, rfl⟩ := H
    refine st_callt (as := [vI z125]) c155_203 cm_6 hT18 (tf hT18 rfl rfl) fd_7_0 rfl rfl rfl rfl (by omega) (K6 hT18 (Stb_mono hS (by decide +kernel)) z125 (by omega) (d - 1) (by omega) _ (fun v h0 H => H)) (fun v1 h127 H => ?_)
    obtain ⟨rfl, hT128, hF129⟩ := H
    have hF130 := Fr_cp hF20 hF129 (by decide +kernel : Wsub W6 W155 = true)
    refine st_aload c155_206 rfl ?_
    refine st_getX (u := 60) c155_207 hT128 (tf hT128 rfl rfl) fd_1_17 rfl ?_
    refine st_aload c155_210 rfl ?_
    refine st_getX (u := 60) c155_211 hT128 (tf hT128 rfl rfl) fd_1_17 rfl ?_
    refine st_iconst c155_214 ?_
    refine st_iload c155_215 rfl ?_
    refine st_iload c155_216 rfl ?_
    refine st_callt (as := [vI 0, vI p2, vI w24]) c155_218 cm_9 hT128 (tf hT128 rfl rfl) fd_7_0 rfl rfl rfl rfl (by omega) (K9 hT128 (Stb_mono hS (by decide +kernel)) 0 (by omega) p2 (by omega) w24 (by omega) (I2_fr pre1 hF130 (by decide +kernel)) (d - 1) (by omega) _ (fun v h0 H => H)) (fun v1 h131 H => ?_)
    obtain ⟨z134, rfl, b135, hT132, hF133⟩ := H
    have hF136 := Fr_cp hF130 hF133 (by decide +kernel : Wsub W9 W155 = true)
    refine st_callt (as := [vI z134]) c155_221 cm_8 hT132 (tf hT132 rfl rfl) fd_7_0 rfl rfl rfl rfl (by omega) (K8 hT132 (Stb_mono hS (by decide +kernel)) z134 (by omega) (I2_fr pre1 hF136 (by decide +kernel)) (d - 1) (by omega) _ (fun v h0 H => H)) (fun v1 h137 H => ?_)
    obtain ⟨z140, rfl, b141, hT138, hF139⟩ := H
    have hF142 := Fr_cp hF136 hF139 (by decide +kernel : Wsub W8 W155 = true)
    refine st_ireturn c155_224 ?_
    exact hQ _ _ ⟨z140, rfl, by omega, hT138, hF142⟩
  · refine st_sw (k := 4) (tg := 180) (by decide +kernel) k27 (by decide) ?_
    refine st_aload c155_180 rfl ?_
    refine st_getX (u := 60) c155_181 hT18 (tf hT18 rfl rfl) fd_1_17 rfl ?_
    refine st_aload c155_184 rfl ?_
    refine st_iload c155_186 rfl ?_
    refine st_iconst c155_187 ?_
    refine st_icmp_ne c155_188 (by omega) (by omega) (fun k143 => ?_) (fun k144 => False.elim (by omega))
    refine st_iconst c155_195 ?_
    refine st_aload c155_196 rfl ?_
    refine st_getI c155_197 hT18 (tf hT18 rfl rfl) fd_1_0 (fun e145 e146 => ?_)
    have q147 : fI h17 4 0 = fI h 4 0 := Fr_fI hF19 (tf hT rfl rfl) (by decide +kernel)
    refine st_callt (as := [vI 2, vI (fI h17 4 0)]) c155_200 cm_76 hT18 t2 fd_12_0 rfl rfl rfl rfl (by omega) (K76 hT18 r1 t2 2 (by omega) (fI h17 4 0) (by omega) (I1_fr pre0 hT hF20 (by decide +kernel)) (d - 1) (by omega) _ (fun v h0 H => H)) (fun v1 h1 H => ?_)
    obtain ⟨z148, rfl, b149, rfl⟩ := H
    refine st_callt (as := [vI z148]) c155_203 cm_6 hT18 (tf hT18 rfl rfl) fd_7_0 rfl rfl rfl rfl (by omega) (K6 hT18 (Stb_mono hS (by decide +kernel)) z148 (by omega) (d - 1) (by omega) _ (fun v h0 H => H)) (fun v1 h150 H => ?_)
    obtain ⟨rfl, hT151, hF152⟩ := H
    have hF153 := Fr_cp hF20 hF152 (by decide +kernel : Wsub W6 W155 = true)
    refine st_aload c155_206 rfl ?_
    refine st_getX (u := 60) c155_207 hT151 (tf hT151 rfl rfl) fd_1_17 rfl ?_
    refine st_aload c155_210 rfl ?_
    refine st_getX (u := 60) c155_211 hT151 (tf hT151 rfl rfl) fd_1_17 rfl ?_
    refine st_iconst c155_214 ?_
    refine st_iload c155_215 rfl ?_
    refine st_iload c155_216 rfl ?_
    refine st_callt (as := [vI 0, vI p2, vI w24]) c155_218 cm_9 hT151 (tf hT151 rfl rfl) fd_7_0 rfl rfl rfl rfl (by omega) (K9 hT151 (Stb_mono hS (by decide +kernel)) 0 (by omega) p2 (by omega) w24 (by omega) (I2_fr pre1 hF153 (by decide +kernel)) (d - 1) (by omega) _ (fun v h0 H => H)) (fun v1 h154 H => ?_)
    obtain ⟨z157, rfl, b158, hT155, hF156⟩ := H
    have hF159 := Fr_cp hF153 hF156 (by decide +kernel : Wsub W9 W155 = true)
    refine st_callt (as := [vI z157]) c155_221 cm_8 hT155 (tf hT155 rfl rfl) fd_7_0 rfl rfl rfl rfl (by omega) (K8 hT155 (Stb_mono hS (by decide +kernel)) z157 (by omega) (I2_fr pre1 hF159 (by decide +kernel)) (d - 1) (by omega) _ (fun v h0 H => H)) (fun v1 h160 H => ?_)
    obtain ⟨z163, rfl, b164, hT161, hF162⟩ := H
    have hF165 := Fr_cp hF159 hF162 (by decide +kernel : Wsub W8 W155 = true)
    refine st_ireturn c155_224 ?_
    exact hQ _ _ ⟨z163, rfl, by omega, hT161, hF165⟩
  · refine st_sw (k := 5) (tg := 168) (by decide +kernel) k27 (by decide) ?_
    refine st_aload c155_168 rfl ?_
    refine st_getX (u := 60) c155_169 hT18 (tf hT18 rfl rfl) fd_1_17 rfl ?_
    refine st_iconst c155_172 ?_
    refine st_iload c155_173 rfl ?_
    refine st_iload c155_174 rfl ?_
    refine st_callt (as := [vI 0, vI p2, vI w24]) c155_176 cm_9 hT18 (tf hT18 rfl rfl) fd_7_0 rfl rfl rfl rfl (by omega) (K9 hT18 (Stb_mono hS (by decide +kernel)) 0 (by omega) p2 (by omega) w24 (by omega) (I2_fr pre1 hF20 (by decide +kernel)) (d - 1) (by omega) _ (fun v h0 H => H)) (fun v1 h166 H => ?_)
    obtain ⟨z169, rfl, b170, hT167, hF168⟩ := H
    have hF171 := Fr_cp hF20 hF168 (by decide +kernel : Wsub W9 W155 = true)
    refine st_ireturn c155_179 ?_
    exact hQ _ _ ⟨z169, rfl, by omega, hT167, hF171⟩
def W156 : List (Nat × Nat) := [(41, 0), (42, 0)]
set_option maxHeartbeats 0 in
theorem K156 {Ln : Nat} {xs : Nat → Int32} {τ : List Nat} {h : List mE} {E : EP} (hT : TH E τ h) (hS : Stb E W156) (p1 : Int) (hp1 : (-2147483648) ≤ p1 ∧ p1 ≤ 2147483647) (p2 : Int) (hp2 : (-2147483648) ≤ p2 ∧ p2 ≤ 2147483647) (pre0 : I1 τ h) (pre1 : I2 τ h) (pre2 : I8 h) (d : Nat) (hd : 6 ≤ d) (Q : Option Value → List mE → Prop) (hQ : ∀ v h', (∃ z : Int, v = some (vI z) ∧ ((-2) ≤ z ∧ z ≤ 66) ∧ TH E τ h' ∧ Fr τ W156 h h') → Q v h') : MR (mex Ln xs) d 156 0 [some (.ref 4), some (vI p1), some (vI p2), none, none, none] [] h Q := by
  have hF := Fr_rf τ W156 h
  refine st_aload c156_0 rfl ?_
  refine st_iload c156_1 rfl ?_
  have e1 := fI_bd (q := 4) hT (tf hT rfl rfl) fd_1_12
  refine st_callt (as := [vI p1]) c156_2 cm_170 hT (tf hT rfl rfl) fd_1_0 rfl rfl rfl rfl (by omega) (K170 hT p1 (by omega) pre2 (d - 1) (by omega) _ (fun v h0 H => H)) (fun v1 h1 H => ?_)
  rcases H with ⟨rfl, nf8, rfl⟩ | ⟨r6, rfl, t7, pf2, pf3, pf4, pf5, rfl⟩
  refine st_astoreN (L' := [some (.ref 4), some (vI p1), some (vI p2), some .null, none, none]) c156_5 rfl rfl ?_
  refine st_aloadN c156_6 rfl ?_
  refine st_ifnullN c156_7 ?_
  refine st_iconst c156_20 ?_
  refine st_ireturn c156_21 ?_
  exact hQ _ _ ⟨(-1), rfl, by omega, hT, hF⟩
  refine st_astore (L' := [some (.ref 4), some (vI p1), some (vI p2), some (.ref r6), none, none]) c156_5 rfl rfl ?_
  refine st_aload c156_6 rfl ?_
  refine st_ifnullR c156_7 ?_
  refine st_iload c156_10 rfl ?_
  refine st_iconst c156_11 ?_
  refine st_iconst c156_12 ?_
  refine st_calls (as := [vI p2, vI 1, vI 60]) c156_14 cm_166 rfl rfl rfl rfl (by omega) (K166 hT p2 (by omega) 1 (by omega) 60 (by omega) (d - 1) (by omega) _ (fun v h0 H => H)) (fun v1 h1 H => ?_)
  rcases H with ⟨rfl, pf9, rfl⟩ | ⟨rfl, pf10, pf11, rfl⟩
  refine st_if_ne c156_17 (by omega) (fun k12 => False.elim (by omega)) (fun k13 => ?_)
  refine st_iconst c156_20 ?_
  refine st_ireturn c156_21 ?_
  exact hQ _ _ ⟨(-1), rfl, by omega, hT, hF⟩
  refine st_if_ne c156_17 (by omega) (fun k14 => ?_) (fun k15 => False.elim (by omega))
  refine st_aload c156_22 rfl ?_
  refine st_aload c156_23 rfl ?_
  refine st_getI c156_24 hT (tf hT rfl rfl) fd_1_0 (fun e16 e17 => ?_)
  refine st_callt (as := [vI (fI h 4 0)]) c156_27 cm_68 hT t7 fd_12_0 rfl rfl rfl rfl (by omega) (K68 hT r6 t7 (fI h 4 0) (by omega) (d - 1) (by omega) _ (fun v h0 H => H)) (fun v1 h1 H => ?_)
  rcases H with ⟨rfl, rfl⟩ | ⟨rfl, rfl⟩
  refine st_if_ne c156_30 (by omega) (fun k18 => False.elim (by omega)) (fun k19 => ?_)
  refine st_iconst c156_33 ?_
  refine st_ireturn c156_35 ?_
  exact hQ _ _ ⟨(-2), rfl, by omega, hT, hF⟩
  refine st_if_ne c156_30 (by omega) (fun k20 => ?_) (fun k21 => False.elim (by omega))
  refine st_aload c156_36 rfl ?_
  refine st_aload c156_37 rfl ?_
  refine st_callt (as := [.ref r6]) c156_38 cm_173 hT (tf hT rfl rfl) fd_1_0 rfl rfl rfl rfl (by omega) (K173 hT (Stb_mono hS (by decide +kernel)) r6 t7 pre0 (d - 1) (by omega) _ (fun v h0 H => H)) (fun v1 h22 H => ?_)
  obtain ⟨rfl, hT23, hF24⟩ := H
  have hF25 := Fr_cp hF hF24 (by decide +kernel : Wsub W173 W156 = true)
  refine st_aload c156_41 rfl ?_
  refine st_aload c156_42 rfl ?_
  refine st_iload c156_43 rfl ?_
  refine st_callt (as := [.ref r6, vI p2]) c156_44 cm_174 hT23 (tf hT23 rfl rfl) fd_1_0 rfl rfl rfl rfl (by omega) (K174 hT23 (Stb_mono hS (by decide +kernel)) r6 t7 p2 (by omega) (I2_fr pre1 hF25 (by decide +kernel)) (d - 1) (by omega) _ (fun v h0 H => H)) (fun v1 h26 H => ?_)
  obtain ⟨z29, rfl, b30, hT27, hF28⟩ := H
  have hF31 := Fr_cp hF25 hF28 (by decide +kernel : Wsub W174 W156 = true)
  refine st_istore (L' := [some (.ref 4), some (vI p1), some (vI p2), some (.ref r6), some (vI z29), none]) c156_47 rfl rfl ?_
  refine st_iload c156_49 rfl ?_
  refine st_iconst c156_50 ?_
  refine st_iadd c156_51 ?_
  refine st_istore (L' := [some (.ref 4), some (vI p1), some (vI p2), some (.ref r6), some (vI z29), some (vI (p2 + 1))]) c156_52 rfl rfl ?_
  have lp97 : ∀ (n98 : Nat) (z92 : Int) (h93 : List mE), (67 : Int) - z92 < (n98 : Int) → 2 ≤ z92 ∧ z92 ≤ 67 → TH E τ h93 → Fr τ W156 h h93 → Fr τ [(41, 0), (42, 0)] h26 h93 → MR (mex Ln xs) d 156 54 [some (.ref 4), none, some (vI p2), some (.ref r6), some (vI z29), some (vI z92)] [] h93 Q := by
    intro n98
    induction n98 with
    | zero =>
      intro z92 h93 hm100 b101 hT94 hF95 hL96
      exfalso; omega
    | succ n98 ih99 =>
      intro z92 h93 hm100 b101 hT94 hF95 hL96
      refine st_iload c156_54 rfl ?_
      refine st_iload c156_56 rfl ?_
      refine st_iconst c156_57 ?_
      refine st_iadd c156_59 ?_
      refine st_icmp_gt c156_60 (by omega) (by omega) (fun k102 => ?_) (fun k103 => ?_)
      refine st_iconst c156_84 ?_
      refine st_ireturn c156_86 ?_
      exact hQ _ _ ⟨(-2), rfl, by omega, hT94, hF95⟩
      refine st_aload c156_63 rfl ?_
      refine st_aload c156_64 rfl ?_
      refine st_iload c156_65 rfl ?_
      refine st_callt (as := [.ref r6, vI z92]) c156_67 cm_174 hT94 (tf hT94 rfl rfl) fd_1_0 rfl rfl rfl rfl (by omega) (K174 hT94 (Stb_mono hS (by decide +kernel)) r6 t7 z92 (by omega) (I2_fr pre1 hF95 (by decide +kernel)) (d - 1) (by omega) _ (fun v h0 H => H)) (fun v1 h104 H => ?_)
      obtain ⟨z107, rfl, b108, hT105, hF106⟩ := H
      have hF109 := Fr_cp hF95 hF106 (by decide +kernel : Wsub W174 W156 = true)
      refine st_iload c156_70 rfl ?_
      refine st_icmp_ge c156_72 (by omega) (by omega) (fun k110 => ?_) (fun k111 => ?_)
      refine st_iinc (L' := [some (.ref 4), none, some (vI p2), some (.ref r6), some (vI z29), some (vI (z92 + 1))]) c156_78 rfl rfl rfl ?_
      refine st_goto c156_81 ?_
      exact ih99 (z92 + 1) h104 (by omega) (by omega) hT105 hF109 (Fr_cp hL96 hF106 (by decide +kernel))
      refine st_iload c156_75 rfl ?_
      refine st_ireturn c156_77 ?_
      exact hQ _ _ ⟨z92, rfl, by omega, hT105, hF109⟩
  refine MR_weak (A := [some (.ref 4), none, some (vI p2), some (.ref r6), some (vI z29), some (vI (p2 + 1))]) (Lle_s (Lle_n (Lle_s (Lle_s (Lle_s (Lle_s (Lle_0))))))) ?_
  exact lp97 ((((67 : Int) - (p2 + 1) : Int) + 1).toNat) (p2 + 1) h26 (by omega) (by omega) hT27 hF31 (Fr_rf _ _ _)
def W157 : List (Nat × Nat) := [(119, 0)]
set_option maxHeartbeats 0 in
theorem K157 {Ln : Nat} {xs : Nat → Int32} {τ : List Nat} {h : List mE} {E : EP} (hT : TH E τ h) (hS : Stb E W157) (p1 : Int) (hp1 : (-2147483648) ≤ p1 ∧ p1 ≤ 2147483647) (p2 : Int) (hp2 : (-2147483648) ≤ p2 ∧ p2 ≤ 2147483647) (p3 : Int) (hp3 : (-2147483648) ≤ p3 ∧ p3 ≤ 2147483647) (pre0 : I8 h) (d : Nat) (hd : 2 ≤ d) (Q : Option Value → List mE → Prop) (hQ : ∀ v h', (∃ z : Int, v = some (vI z) ∧ ((-2) ≤ z ∧ z ≤ 1) ∧ TH E τ h' ∧ Fr τ W157 h h') → Q v h') : MR (mex Ln xs) d 157 0 [some (.ref 4), some (vI p1), some (vI p2), some (vI p3), none] [] h Q := by
  have hF := Fr_rf τ W157 h
  refine st_aload c157_0 rfl ?_
  refine st_iload c157_1 rfl ?_
  have e1 := fI_bd (q := 4) hT (tf hT rfl rfl) fd_1_12
  refine st_callt (as := [vI p1]) c157_2 cm_170 hT (tf hT rfl rfl) fd_1_0 rfl rfl rfl rfl (by omega) (K170 hT p1 (by omega) pre0 (d - 1) (by omega) _ (fun v h0 H => H)) (fun v1 h1 H => ?_)
  rcases H with ⟨rfl, nf8, rfl⟩ | ⟨r6, rfl, t7, pf2, pf3, pf4, pf5, rfl⟩
  refine st_astoreN (L' := [some (.ref 4), some (vI p1), some (vI p2), some (vI p3), some .null]) c157_5 rfl rfl ?_
  refine st_aloadN c157_7 rfl ?_
  refine st_ifnullN c157_9 ?_
  refine st_iconst c157_30 ?_
  refine st_ireturn c157_31 ?_
  exact hQ _ _ ⟨(-1), rfl, by omega, hT, hF⟩
  refine st_astore (L' := [some (.ref 4), some (vI p1), some (vI p2), some (vI p3), some (.ref r6)]) c157_5 rfl rfl ?_
  refine st_aload c157_7 rfl ?_
  refine st_ifnullR c157_9 ?_
  refine st_iload c157_12 rfl ?_
  refine st_calls (as := [vI p2]) c157_13 cm_167 rfl rfl rfl rfl (by omega) (K167 hT p2 (by omega) (d - 1) (by omega) _ (fun v h0 H => H)) (fun v1 h1 H => ?_)
  rcases H with ⟨rfl, pf9, rfl⟩ | ⟨rfl, pf10, pf11, rfl⟩
  refine st_if_eq c157_16 (by omega) (fun k12 => ?_) (fun k13 => False.elim (by omega))
  refine st_iconst c157_30 ?_
  refine st_ireturn c157_31 ?_
  exact hQ _ _ ⟨(-1), rfl, by omega, hT, hF⟩
  refine st_if_eq c157_16 (by omega) (fun k14 => False.elim (by omega)) (fun k15 => ?_)
  refine st_iload c157_19 rfl ?_
  refine st_iconst c157_20 ?_
  refine st_iconst c157_21 ?_
  refine st_calls (as := [vI p3, vI 0, vI 65535]) c157_24 cm_166 rfl rfl rfl rfl (by omega) (K166 hT p3 (by omega) 0 (by omega) 65535 (by omega) (d - 1) (by omega) _ (fun v h0 H => H)) (fun v1 h1 H => ?_)
  rcases H with ⟨rfl, pf16, rfl⟩ | ⟨rfl, pf17, pf18, rfl⟩
  refine st_if_ne c157_27 (by omega) (fun k19 => False.elim (by omega)) (fun k20 => ?_)
  refine st_iconst c157_30 ?_
  refine st_ireturn c157_31 ?_
  exact hQ _ _ ⟨(-1), rfl, by omega, hT, hF⟩
  refine st_if_ne c157_27 (by omega) (fun k21 => ?_) (fun k22 => False.elim (by omega))
  refine st_aload c157_32 rfl ?_
  refine st_aload c157_34 rfl ?_
  refine st_getR c157_36 hT t7 fd_12_14 (u := 119) rfl (fun r23 e24 t25 => ?_)
  refine st_iload c157_39 rfl ?_
  refine st_iload c157_40 rfl ?_
  refine st_callt (as := [.ref r23, vI p2, vI p3]) c157_41 cm_79 hT t7 fd_12_0 rfl rfl rfl rfl (by omega) (K79m hT (Stb_mono hS (by decide +kernel)) r6 t7 r23 t25 p2 (by omega) p3 (by omega) (d - 1) (by omega) _ (fun v h0 H => H)) (fun v1 h26 H => ?_)
  obtain ⟨z29, rfl, b30, hT27, hF28⟩ := H
  have hF31 := Fr_cp hF hF28 (by decide +kernel : Wsub W79m W157 = true)
  refine st_ireturn c157_44 ?_
  exact hQ _ _ ⟨z29, rfl, by omega, hT27, hF31⟩
def W158 : List (Nat × Nat) := [(120, 0)]
set_option maxHeartbeats 0 in
theorem K158 {Ln : Nat} {xs : Nat → Int32} {τ : List Nat} {h : List mE} {E : EP} (hT : TH E τ h) (hS : Stb E W158) (p1 : Int) (hp1 : (-2147483648) ≤ p1 ∧ p1 ≤ 2147483647) (p2 : Int) (hp2 : (-2147483648) ≤ p2 ∧ p2 ≤ 2147483647) (p3 : Int) (hp3 : (-2147483648) ≤ p3 ∧ p3 ≤ 2147483647) (pre0 : I8 h) (d : Nat) (hd : 2 ≤ d) (Q : Option Value → List mE → Prop) (hQ : ∀ v h', (∃ z : Int, v = some (vI z) ∧ ((-2) ≤ z ∧ z ≤ 1) ∧ TH E τ h' ∧ Fr τ W158 h h') → Q v h') : MR (mex Ln xs) d 158 0 [some (.ref 4), some (vI p1), some (vI p2), some (vI p3), none] [] h Q := by
  have hF := Fr_rf τ W158 h
  refine st_aload c158_0 rfl ?_
  refine st_iload c158_1 rfl ?_
  have e1 := fI_bd (q := 4) hT (tf hT rfl rfl) fd_1_12
  refine st_callt (as := [vI p1]) c158_2 cm_170 hT (tf hT rfl rfl) fd_1_0 rfl rfl rfl rfl (by omega) (K170 hT p1 (by omega) pre0 (d - 1) (by omega) _ (fun v h0 H => H)) (fun v1 h1 H => ?_)
  rcases H with ⟨rfl, nf8, rfl⟩ | ⟨r6, rfl, t7, pf2, pf3, pf4, pf5, rfl⟩
  refine st_astoreN (L' := [some (.ref 4), some (vI p1), some (vI p2), some (vI p3), some .null]) c158_5 rfl rfl ?_
  refine st_aloadN c158_7 rfl ?_
  refine st_ifnullN c158_9 ?_
  refine st_iconst c158_30 ?_
  refine st_ireturn c158_31 ?_
  exact hQ _ _ ⟨(-1), rfl, by omega, hT, hF⟩
  refine st_astore (L' := [some (.ref 4), some (vI p1), some (vI p2), some (vI p3), some (.ref r6)]) c158_5 rfl rfl ?_
  refine st_aload c158_7 rfl ?_
  refine st_ifnullR c158_9 ?_
  refine st_iload c158_12 rfl ?_
  refine st_calls (as := [vI p2]) c158_13 cm_167 rfl rfl rfl rfl (by omega) (K167 hT p2 (by omega) (d - 1) (by omega) _ (fun v h0 H => H)) (fun v1 h1 H => ?_)
  rcases H with ⟨rfl, pf9, rfl⟩ | ⟨rfl, pf10, pf11, rfl⟩
  refine st_if_eq c158_16 (by omega) (fun k12 => ?_) (fun k13 => False.elim (by omega))
  refine st_iconst c158_30 ?_
  refine st_ireturn c158_31 ?_
  exact hQ _ _ ⟨(-1), rfl, by omega, hT, hF⟩
  refine st_if_eq c158_16 (by omega) (fun k14 => False.elim (by omega)) (fun k15 => ?_)
  refine st_iload c158_19 rfl ?_
  refine st_iconst c158_20 ?_
  refine st_iconst c158_21 ?_
  refine st_calls (as := [vI p3, vI 0, vI 999]) c158_24 cm_166 rfl rfl rfl rfl (by omega) (K166 hT p3 (by omega) 0 (by omega) 999 (by omega) (d - 1) (by omega) _ (fun v h0 H => H)) (fun v1 h1 H => ?_)
  rcases H with ⟨rfl, pf16, rfl⟩ | ⟨rfl, pf17, pf18, rfl⟩
  refine st_if_ne c158_27 (by omega) (fun k19 => False.elim (by omega)) (fun k20 => ?_)
  refine st_iconst c158_30 ?_
  refine st_ireturn c158_31 ?_
  exact hQ _ _ ⟨(-1), rfl, by omega, hT, hF⟩
  refine st_if_ne c158_27 (by omega) (fun k21 => ?_) (fun k22 => False.elim (by omega))
  refine st_aload c158_32 rfl ?_
  refine st_aload c158_34 rfl ?_
  refine st_getR c158_36 hT t7 fd_12_15 (u := 120) rfl (fun r23 e24 t25 => ?_)
  refine st_iload c158_39 rfl ?_
  refine st_iload c158_40 rfl ?_
  refine st_callt (as := [.ref r23, vI p2, vI p3]) c158_41 cm_79 hT t7 fd_12_0 rfl rfl rfl rfl (by omega) (K79l hT (Stb_mono hS (by decide +kernel)) r6 t7 r23 t25 p2 (by omega) p3 (by omega) (d - 1) (by omega) _ (fun v h0 H => H)) (fun v1 h26 H => ?_)
  obtain ⟨z29, rfl, b30, hT27, hF28⟩ := H
  have hF31 := Fr_cp hF hF28 (by decide +kernel : Wsub W79l W158 = true)
  refine st_ireturn c158_44 ?_
  exact hQ _ _ ⟨z29, rfl, by omega, hT27, hF31⟩
set_option maxHeartbeats 0 in
theorem K159 {Ln : Nat} {xs : Nat → Int32} {τ : List Nat} {h : List mE} {E : EP} (hT : TH E τ h) (p1 : Int) (hp1 : (-2147483648) ≤ p1 ∧ p1 ≤ 2147483647) (p2 : Int) (hp2 : (-2147483648) ≤ p2 ∧ p2 ≤ 2147483647) (pre0 : I8 h) (d : Nat) (hd : 2 ≤ d) (Q : Option Value → List mE → Prop) (hQ : ∀ v h', (∃ z : Int, v = some (vI z) ∧ ((-2147483648) ≤ z ∧ z ≤ 2147483647) ∧ h = h') → Q v h') : MR (mex Ln xs) d 159 0 [some (.ref 4), some (vI p1), some (vI p2), none] [] h Q := by
  refine st_aload c159_0 rfl ?_
  refine st_iload c159_1 rfl ?_
  have e1 := fI_bd (q := 4) hT (tf hT rfl rfl) fd_1_12
  refine st_callt (as := [vI p1]) c159_2 cm_170 hT (tf hT rfl rfl) fd_1_0 rfl rfl rfl rfl (by omega) (K170 hT p1 (by omega) pre0 (d - 1) (by omega) _ (fun v h0 H => H)) (fun v1 h1 H => ?_)
  rcases H with ⟨rfl, nf8, rfl⟩ | ⟨r6, rfl, t7, pf2, pf3, pf4, pf5, rfl⟩
  refine st_astoreN (L' := [some (.ref 4), some (vI p1), some (vI p2), some .null]) c159_5 rfl rfl ?_
  refine st_aloadN c159_6 rfl ?_
  refine st_ifnonnullN c159_7 ?_
  refine st_iconst c159_10 ?_
  refine st_ireturn c159_11 ?_
  exact hQ _ _ ⟨(-1), rfl, by omega, rfl⟩
  refine st_astore (L' := [some (.ref 4), some (vI p1), some (vI p2), some (.ref r6)]) c159_5 rfl rfl ?_
  refine st_aload c159_6 rfl ?_
  refine st_ifnonnullR c159_7 ?_
  refine st_iload c159_12 rfl ?_
  rcases (by omega : (p2 < 0 ∨ 2 < p2) ∨ p2 = 0 ∨ p2 = 1 ∨ p2 = 2) with k9 | k9 | k9 | k9
  · refine st_swd c159_13 (by omega) k9 ?_
    rw [show mjmp 13 42 = 55 from by decide]
    refine st_iconst c159_55 ?_
    refine st_ireturn c159_56 ?_
    exact hQ _ _ ⟨(-1), rfl, by omega, rfl⟩
  · refine st_sw (k := 0) (tg := 40) (by decide +kernel) k9 (by decide) ?_
    refine st_aload c159_40 rfl ?_
    refine st_callt (as := []) c159_41 cm_80 hT t7 fd_12_0 rfl rfl rfl rfl (by omega) (K80 hT r6 t7 (d - 1) (by omega) _ (fun v h0 H => H)) (fun v1 h1 H => ?_)
    obtain ⟨z10, rfl, b11, rfl⟩ := H
    refine st_ireturn c159_44 ?_
    exact hQ _ _ ⟨z10, rfl, by omega, rfl⟩
  · refine st_sw (k := 1) (tg := 45) (by decide +kernel) k9 (by decide) ?_
    refine st_aload c159_45 rfl ?_
    refine st_callt (as := []) c159_46 cm_81 hT t7 fd_12_0 rfl rfl rfl rfl (by omega) (K81 hT r6 t7 (d - 1) (by omega) _ (fun v h0 H => H)) (fun v1 h1 H => ?_)
    obtain ⟨z12, rfl, b13, rfl⟩ := H
    refine st_ireturn c159_49 ?_
    exact hQ _ _ ⟨z12, rfl, by omega, rfl⟩
  · refine st_sw (k := 2) (tg := 50) (by decide +kernel) k9 (by decide) ?_
    refine st_aload c159_50 rfl ?_
    refine st_callt (as := []) c159_51 cm_82 hT t7 fd_12_0 rfl rfl rfl rfl (by omega) (K82 hT r6 t7 (d - 1) (by omega) _ (fun v h0 H => H)) (fun v1 h1 H => ?_)
    obtain ⟨z14, rfl, b15, rfl⟩ := H
    refine st_ireturn c159_54 ?_
    exact hQ _ _ ⟨z14, rfl, by omega, rfl⟩
set_option maxHeartbeats 0 in
theorem K160 {Ln : Nat} {xs : Nat → Int32} {τ : List Nat} {h : List mE} {E : EP} (hT : TH E τ h) (p1 : Int) (hp1 : (-2147483648) ≤ p1 ∧ p1 ≤ 2147483647) (p2 : Int) (hp2 : (-2147483648) ≤ p2 ∧ p2 ≤ 2147483647) (pre0 : I1 τ h) (pre1 : I8 h) (d : Nat) (hd : 4 ≤ d) (Q : Option Value → List mE → Prop) (hQ : ∀ v h', (∃ z : Int, v = some (vI z) ∧ ((-2147483648) ≤ z ∧ z ≤ 2147483647) ∧ h = h') → Q v h') : MR (mex Ln xs) d 160 0 [some (.ref 4), some (vI p1), some (vI p2), none, none] [] h Q := by
  refine st_aload c160_0 rfl ?_
  refine st_iload c160_1 rfl ?_
  refine st_callt (as := [vI p1]) c160_2 cm_172 hT (tf hT rfl rfl) fd_1_0 rfl rfl rfl rfl (by omega) (K172 hT p1 (by omega) pre1 (d - 1) (by omega) _ (fun v h0 H => H)) (fun v1 h1 H => ?_)
  rcases H with ⟨rfl, rfl⟩ | ⟨r1, rfl, t2, rfl⟩
  refine st_astoreN (L' := [some (.ref 4), some (vI p1), some (vI p2), some .null, none]) c160_5 rfl rfl ?_
  refine st_aloadN c160_6 rfl ?_
  refine st_ifnullN c160_7 ?_
  refine st_iconst c160_32 ?_
  refine st_ireturn c160_34 ?_
  exact hQ _ _ ⟨(-2000000000), rfl, by omega, rfl⟩
  refine st_astore (L' := [some (.ref 4), some (vI p1), some (vI p2), some (.ref r1), none]) c160_5 rfl rfl ?_
  refine st_aload c160_6 rfl ?_
  refine st_ifnullR c160_7 ?_
  refine st_aload c160_10 rfl ?_
  refine st_getN c160_11 hT t2 fd_12_10 (u := 10) rfl (fun e4 => ?_) (fun r3 e5 t6 => ?_)
  refine st_ifnullN c160_14 ?_
  refine st_iconst c160_32 ?_
  refine st_ireturn c160_34 ?_
  exact hQ _ _ ⟨(-2000000000), rfl, by omega, rfl⟩
  refine st_ifnullR c160_14 ?_
  refine st_iload c160_17 rfl ?_
  refine st_if_lt c160_18 (by omega) (fun k7 => ?_) (fun k8 => ?_)
  refine st_iconst c160_32 ?_
  refine st_ireturn c160_34 ?_
  exact hQ _ _ ⟨(-2000000000), rfl, by omega, rfl⟩
  refine st_iload c160_21 rfl ?_
  refine st_aload c160_22 rfl ?_
  refine st_getNr c160_23 hT t2 fd_12_10 e5 ?_
  refine st_getI c160_26 hT t6 fd_10_15 (fun e9 e10 => ?_)
  refine st_icmp_lt c160_29 (by omega) (by omega) (fun k11 => ?_) (fun k12 => ?_)
  refine st_aload c160_35 rfl ?_
  refine st_getNr c160_36 hT t2 fd_12_10 e5 ?_
  refine st_astore (L' := [some (.ref 4), some (vI p1), some (vI p2), some (.ref r1), some (.ref r3)]) c160_39 rfl rfl ?_
  refine st_aload c160_41 rfl ?_
  refine st_iload c160_43 rfl ?_
  refine st_callt (as := [vI p2]) c160_44 cm_47 hT t6 fd_10_0 rfl rfl rfl rfl (by omega) (K47 hT r3 t6 p2 (by omega) (d - 1) (by omega) _ (fun v h0 H => H)) (fun v1 h1 H => ?_)
  obtain ⟨z14, rfl, b15, pf13, rfl⟩ := H
  refine st_aload c160_47 rfl ?_
  refine st_iload c160_49 rfl ?_
  refine st_iconst c160_50 ?_
  refine st_iadd c160_51 ?_
  refine st_callt (as := [vI (p2 + 1)]) c160_52 cm_47 hT t6 fd_10_0 rfl rfl rfl rfl (by omega) (K47 hT r3 t6 (p2 + 1) (by omega) (d - 1) (by omega) _ (fun v h0 H => H)) (fun v1 h1 H => ?_)
  obtain ⟨z17, rfl, b18, pf16, rfl⟩ := H
  refine st_isub c160_55 ?_
  refine MR_wrap (fun w19 e20 e21 e22 => ?_)
  refine st_aload c160_56 rfl ?_
  refine st_iconst c160_57 ?_
  refine st_aload c160_58 rfl ?_
  refine st_getI c160_59 hT (tf hT rfl rfl) fd_1_0 (fun e23 e24 => ?_)
  refine st_callt (as := [vI 3, vI (fI h 4 0)]) c160_62 cm_76 hT t2 fd_12_0 rfl rfl rfl rfl (by omega) (K76 hT r1 t2 3 (by omega) (fI h 4 0) (by omega) pre0 (d - 1) (by omega) _ (fun v h0 H => H)) (fun v1 h1 H => ?_)
  obtain ⟨z25, rfl, b26, rfl⟩ := H
  refine st_imul c160_65 ?_
  refine MR_wrap (fun w27 e28 e29 e30 => ?_)
  clear e30
  refine st_ireturn c160_66 ?_
  exact hQ _ _ ⟨w27, rfl, by omega, rfl⟩
  refine st_iconst c160_32 ?_
  refine st_ireturn c160_34 ?_
  exact hQ _ _ ⟨(-2000000000), rfl, by omega, rfl⟩
set_option maxHeartbeats 0 in
theorem K161 {Ln : Nat} {xs : Nat → Int32} {τ : List Nat} {h : List mE} {E : EP} (hT : TH E τ h) (p1 : Int) (hp1 : (-2147483648) ≤ p1 ∧ p1 ≤ 2147483647) (p2 : Int) (hp2 : (-2147483648) ≤ p2 ∧ p2 ≤ 2147483647) (p3 : Int) (hp3 : (-2147483648) ≤ p3 ∧ p3 ≤ 2147483647) (pre0 : I8 h) (d : Nat) (hd : 1 ≤ d) (Q : Option Value → List mE → Prop) (hQ : ∀ v h', (∃ z : Int, v = some (vI z) ∧ ((-2147483648) ≤ z ∧ z ≤ 2147483647) ∧ (PChC h p1 p2 p3 z) ∧ h = h') → Q v h') : MR (mex Ln xs) d 161 0 [some (.ref 4), some (vI p1), some (vI p2), some (vI p3), none] [] h Q := by
  refine st_aload c161_0 rfl ?_
  refine st_iload c161_1 rfl ?_
  have e1 := fI_bd (q := 4) hT (tf hT rfl rfl) fd_1_7
  refine st_callt (as := [vI p1]) c161_2 cm_169 hT (tf hT rfl rfl) fd_1_0 rfl rfl rfl rfl (by omega) (K169 hT p1 (by omega) pre0 (d - 1) (by omega) _ (fun v h0 H => H)) (fun v1 h1 H => ?_)
  rcases H with ⟨rfl, nf8, rfl⟩ | ⟨r6, rfl, t7, pf2, pf3, pf4, pf5, rfl⟩
  refine st_astoreN (L' := [some (.ref 4), some (vI p1), some (vI p2), some (vI p3), some .null]) c161_5 rfl rfl ?_
  refine st_aloadN c161_7 rfl ?_
  refine st_ifnullN c161_9 ?_
  refine st_iconst c161_32 ?_
  refine st_ireturn c161_33 ?_
  exact hQ _ _ ⟨(-1), rfl, by omega, Or.inl ⟨by omega, by omega⟩, rfl⟩
  refine st_astore (L' := [some (.ref 4), some (vI p1), some (vI p2), some (vI p3), some (.ref r6)]) c161_5 rfl rfl ?_
  refine st_aload c161_7 rfl ?_
  refine st_ifnullR c161_9 ?_
  refine st_iload c161_12 rfl ?_
  refine st_if_lt c161_13 (by omega) (fun k9 => ?_) (fun k10 => ?_)
  refine st_iconst c161_32 ?_
  refine st_ireturn c161_33 ?_
  exact hQ _ _ ⟨(-1), rfl, by omega, Or.inr ⟨by omega, by omega, r6, pf5, Or.inl ⟨by omega, by omega⟩⟩, rfl⟩
  refine st_iload c161_16 rfl ?_
  refine st_aload c161_17 rfl ?_
  refine st_getI c161_19 hT t7 fd_10_15 (fun e11 e12 => ?_)
  refine st_icmp_ge c161_22 (by omega) (by omega) (fun k13 => ?_) (fun k14 => ?_)
  refine st_iconst c161_32 ?_
  refine st_ireturn c161_33 ?_
  exact hQ _ _ ⟨(-1), rfl, by omega, Or.inr ⟨by omega, by omega, r6, pf5, Or.inl ⟨by omega, by omega⟩⟩, rfl⟩
  refine st_iload c161_25 rfl ?_
  refine st_calls (as := [vI p3]) c161_26 cm_167 rfl rfl rfl rfl (by omega) (K167 hT p3 (by omega) (d - 1) (by omega) _ (fun v h0 H => H)) (fun v1 h1 H => ?_)
  rcases H with ⟨rfl, pf15, rfl⟩ | ⟨rfl, pf16, pf17, rfl⟩
  refine st_if_ne c161_29 (by omega) (fun k18 => False.elim (by omega)) (fun k19 => ?_)
  refine st_iconst c161_32 ?_
  refine st_ireturn c161_33 ?_
  exact hQ _ _ ⟨(-1), rfl, by omega, Or.inl ⟨by omega, by omega⟩, rfl⟩
  refine st_if_ne c161_29 (by omega) (fun k20 => ?_) (fun k21 => False.elim (by omega))
  refine st_iload c161_34 rfl ?_
  refine st_if_ne c161_35 (by omega) (fun k22 => ?_) (fun k23 => ?_)
  refine st_aload c161_45 rfl ?_
  refine st_iload c161_47 rfl ?_
  refine st_callt (as := [vI p2]) c161_48 cm_47 hT t7 fd_10_0 rfl rfl rfl rfl (by omega) (K47 hT r6 t7 p2 (by omega) (d - 1) (by omega) _ (fun v h0 H => H)) (fun v1 h1 H => ?_)
  obtain ⟨z25, rfl, b26, pf24, rfl⟩ := H
  refine st_aload c161_51 rfl ?_
  refine st_iload c161_53 rfl ?_
  refine st_iconst c161_54 ?_
  refine st_iadd c161_55 ?_
  refine st_callt (as := [vI (p2 + 1)]) c161_56 cm_47 hT t7 fd_10_0 rfl rfl rfl rfl (by omega) (K47 hT r6 t7 (p2 + 1) (by omega) (d - 1) (by omega) _ (fun v h0 H => H)) (fun v1 h1 H => ?_)
  obtain ⟨z28, rfl, b29, pf27, rfl⟩ := H
  refine st_icmp_ge c161_59 (by omega) (by omega) (fun k30 => ?_) (fun k31 => ?_)
  refine st_iconst c161_66 ?_
  refine st_ireturn c161_67 ?_
  exact hQ _ _ ⟨0, rfl, by omega, Or.inr ⟨by omega, by omega, r6, pf5, Or.inr ⟨by omega, by omega, by omega, by omega, Or.inr ⟨by omega, z25, z28, _, by omega, pf24, pf27, by omega⟩⟩⟩, rfl⟩
  refine st_iconst c161_62 ?_
  refine st_goto c161_63 ?_
  refine st_ireturn c161_67 ?_
  exact hQ _ _ ⟨1, rfl, by omega, Or.inr ⟨by omega, by omega, r6, pf5, Or.inr ⟨by omega, by omega, by omega, by omega, Or.inr ⟨by omega, z25, z28, _, by omega, pf24, pf27, by omega⟩⟩⟩, rfl⟩
  refine st_aload c161_38 rfl ?_
  refine st_iload c161_40 rfl ?_
  refine st_callt (as := [vI p2]) c161_41 cm_46 hT t7 fd_10_0 rfl rfl rfl rfl (by omega) (K46 hT r6 t7 p2 (by omega) (d - 1) (by omega) _ (fun v h0 H => H)) (fun v1 h1 H => ?_)
  obtain ⟨z33, rfl, b34, pf32, rfl⟩ := H
  refine st_ireturn c161_44 ?_
  exact hQ _ _ ⟨z33, rfl, by omega, Or.inr ⟨by omega, by omega, r6, pf5, Or.inr ⟨by omega, by omega, by omega, by omega, Or.inl ⟨by omega, pf32⟩⟩⟩, rfl⟩
set_option maxHeartbeats 0 in
theorem K162 {Ln : Nat} {xs : Nat → Int32} {τ : List Nat} {h : List mE} {E : EP} (hT : TH E τ h) (p1 : Int) (hp1 : (-2147483648) ≤ p1 ∧ p1 ≤ 2147483647) (p2 : Int) (hp2 : (-2147483648) ≤ p2 ∧ p2 ≤ 2147483647) (pre0 : I8 h) (d : Nat) (hd : 1 ≤ d) (Q : Option Value → List mE → Prop) (hQ : ∀ v h', (∃ z : Int, v = some (vI z) ∧ ((-2147483648) ≤ z ∧ z ≤ 2147483647) ∧ (PRkC h p1 p2 z) ∧ h = h') → Q v h') : MR (mex Ln xs) d 162 0 [some (.ref 4), some (vI p1), some (vI p2), none] [] h Q := by
  refine st_aload c162_0 rfl ?_
  refine st_iload c162_1 rfl ?_
  have e1 := fI_bd (q := 4) hT (tf hT rfl rfl) fd_1_7
  refine st_callt (as := [vI p1]) c162_2 cm_169 hT (tf hT rfl rfl) fd_1_0 rfl rfl rfl rfl (by omega) (K169 hT p1 (by omega) pre0 (d - 1) (by omega) _ (fun v h0 H => H)) (fun v1 h1 H => ?_)
  rcases H with ⟨rfl, nf8, rfl⟩ | ⟨r6, rfl, t7, pf2, pf3, pf4, pf5, rfl⟩
  refine st_astoreN (L' := [some (.ref 4), some (vI p1), some (vI p2), some .null]) c162_5 rfl rfl ?_
  refine st_aloadN c162_6 rfl ?_
  refine st_ifnullN c162_7 ?_
  refine st_iconst c162_22 ?_
  refine st_ireturn c162_23 ?_
  exact hQ _ _ ⟨(-1), rfl, by omega, Or.inl ⟨by omega, by omega⟩, rfl⟩
  refine st_astore (L' := [some (.ref 4), some (vI p1), some (vI p2), some (.ref r6)]) c162_5 rfl rfl ?_
  refine st_aload c162_6 rfl ?_
  refine st_ifnullR c162_7 ?_
  refine st_iload c162_10 rfl ?_
  refine st_if_lt c162_11 (by omega) (fun k9 => ?_) (fun k10 => ?_)
  refine st_iconst c162_22 ?_
  refine st_ireturn c162_23 ?_
  exact hQ _ _ ⟨(-1), rfl, by omega, Or.inr ⟨by omega, by omega, r6, pf5, Or.inl ⟨by omega, by omega⟩⟩, rfl⟩
  refine st_iload c162_14 rfl ?_
  refine st_aload c162_15 rfl ?_
  refine st_getI c162_16 hT t7 fd_10_15 (fun e11 e12 => ?_)
  refine st_icmp_lt c162_19 (by omega) (by omega) (fun k13 => ?_) (fun k14 => ?_)
  refine st_aload c162_24 rfl ?_
  refine st_aload c162_25 rfl ?_
  refine st_getI c162_26 hT t7 fd_10_15 (fun e15 e16 => ?_)
  refine st_iconst c162_29 ?_
  refine st_isub c162_30 ?_
  refine st_iload c162_31 rfl ?_
  refine st_isub c162_32 ?_
  refine st_callt (as := [vI (((fI h r6 15) - 1) - p2)]) c162_33 cm_46 hT t7 fd_10_0 rfl rfl rfl rfl (by omega) (K46 hT r6 t7 (((fI h r6 15) - 1) - p2) (by omega) (d - 1) (by omega) _ (fun v h0 H => H)) (fun v1 h1 H => ?_)
  obtain ⟨z18, rfl, b19, pf17, rfl⟩ := H
  refine st_ireturn c162_36 ?_
  exact hQ _ _ ⟨z18, rfl, by omega, Or.inr ⟨by omega, by omega, r6, pf5, Or.inr ⟨by omega, by omega, _, by omega, pf17⟩⟩, rfl⟩
  refine st_iconst c162_22 ?_
  refine st_ireturn c162_23 ?_
  exact hQ _ _ ⟨(-1), rfl, by omega, Or.inr ⟨by omega, by omega, r6, pf5, Or.inl ⟨by omega, by omega⟩⟩, rfl⟩
set_option maxHeartbeats 0 in
theorem K163 {Ln : Nat} {xs : Nat → Int32} {τ : List Nat} {h : List mE} {E : EP} (hT : TH E τ h) (p1 : Int) (hp1 : (-2147483648) ≤ p1 ∧ p1 ≤ 2147483647) (p2 : Int) (hp2 : (-2147483648) ≤ p2 ∧ p2 ≤ 2147483647) (p3 : Int) (hp3 : (-2147483648) ≤ p3 ∧ p3 ≤ 2147483647) (pre0 : I8 h) (d : Nat) (hd : 2 ≤ d) (Q : Option Value → List mE → Prop) (hQ : ∀ v h', (∃ z : Int, v = some (vI z) ∧ ((-2147483648) ≤ z ∧ z ≤ 2147483647) ∧ h = h') → Q v h') : MR (mex Ln xs) d 163 0 [some (.ref 4), some (vI p1), some (vI p2), some (vI p3), none] [] h Q := by
  refine st_aload c163_0 rfl ?_
  refine st_iload c163_1 rfl ?_
  have e1 := fI_bd (q := 4) hT (tf hT rfl rfl) fd_1_5
  refine st_callt (as := [vI p1]) c163_2 cm_168 hT (tf hT rfl rfl) fd_1_0 rfl rfl rfl rfl (by omega) (K168 hT p1 (by omega) pre0 (d - 1) (by omega) _ (fun v h0 H => H)) (fun v1 h1 H => ?_)
  rcases H with ⟨rfl, nf8, rfl⟩ | ⟨r6, rfl, t7, pf2, pf3, pf4, pf5, rfl⟩
  refine st_astoreN (L' := [some (.ref 4), some (vI p1), some (vI p2), some (vI p3), some .null]) c163_5 rfl rfl ?_
  refine st_aloadN c163_7 rfl ?_
  refine st_ifnullN c163_9 ?_
  refine st_iconst c163_30 ?_
  refine st_ireturn c163_31 ?_
  exact hQ _ _ ⟨(-1), rfl, by omega, rfl⟩
  refine st_astore (L' := [some (.ref 4), some (vI p1), some (vI p2), some (vI p3), some (.ref r6)]) c163_5 rfl rfl ?_
  refine st_aload c163_7 rfl ?_
  refine st_ifnullR c163_9 ?_
  refine st_aload c163_12 rfl ?_
  refine st_getX (u := 6) c163_13 hT (tf hT rfl rfl) fd_1_3 rfl ?_
  refine st_iload c163_16 rfl ?_
  have e9 := fI_bd (q := 6) hT (tf hT rfl rfl) fd_2_3
  refine st_callt (as := [vI p2]) c163_17 cm_85 hT (tf hT rfl rfl) fd_2_0 rfl rfl rfl rfl (by omega) (K85 hT p2 (by omega) (d - 1) (by omega) _ (fun v h0 H => H)) (fun v1 h1 H => ?_)
  rcases H with ⟨rfl, pf10, rfl⟩ | ⟨rfl, pf11, pf12, rfl⟩
  refine st_if_eq c163_20 (by omega) (fun k13 => ?_) (fun k14 => False.elim (by omega))
  refine st_iconst c163_30 ?_
  refine st_ireturn c163_31 ?_
  exact hQ _ _ ⟨(-1), rfl, by omega, rfl⟩
  refine st_if_eq c163_20 (by omega) (fun k15 => False.elim (by omega)) (fun k16 => ?_)
  refine st_iload c163_23 rfl ?_
  refine st_calls (as := [vI p3]) c163_24 cm_167 rfl rfl rfl rfl (by omega) (K167 hT p3 (by omega) (d - 1) (by omega) _ (fun v h0 H => H)) (fun v1 h1 H => ?_)
  rcases H with ⟨rfl, pf17, rfl⟩ | ⟨rfl, pf18, pf19, rfl⟩
  refine st_if_ne c163_27 (by omega) (fun k20 => False.elim (by omega)) (fun k21 => ?_)
  refine st_iconst c163_30 ?_
  refine st_ireturn c163_31 ?_
  exact hQ _ _ ⟨(-1), rfl, by omega, rfl⟩
  refine st_if_ne c163_27 (by omega) (fun k22 => ?_) (fun k23 => False.elim (by omega))
  refine st_iload c163_32 rfl ?_
  refine st_if_ne c163_33 (by omega) (fun k24 => ?_) (fun k25 => ?_)
  refine st_aload c163_46 rfl ?_
  refine st_aload c163_47 rfl ?_
  refine st_iload c163_49 rfl ?_
  refine st_callt (as := [.ref r6, vI p2]) c163_50 cm_176 hT (tf hT rfl rfl) fd_1_0 rfl rfl rfl rfl (by omega) (K176 hT r6 t7 p2 (by omega) pre0 (d - 1) (by omega) _ (fun v h0 H => H)) (fun v1 h1 H => ?_)
  obtain ⟨z26, rfl, b27, rfl⟩ := H
  refine st_ireturn c163_53 ?_
  exact hQ _ _ ⟨z26, rfl, by omega, rfl⟩
  refine st_aload c163_36 rfl ?_
  refine st_aload c163_37 rfl ?_
  refine st_iload c163_39 rfl ?_
  refine st_callt (as := [.ref r6, vI p2]) c163_40 cm_175 hT (tf hT rfl rfl) fd_1_0 rfl rfl rfl rfl (by omega) (K175 hT r6 t7 p2 (by omega) pre0 (d - 1) (by omega) _ (fun v h0 H => H)) (fun v1 h1 H => ?_)
  obtain ⟨z28, rfl, b29, rfl⟩ := H
  refine st_goto c163_43 ?_
  refine st_ireturn c163_53 ?_
  exact hQ _ _ ⟨z28, rfl, by omega, rfl⟩
set_option maxHeartbeats 0 in
theorem K164 {Ln : Nat} {xs : Nat → Int32} {τ : List Nat} {h : List mE} {E : EP} (hT : TH E τ h) (p1 : Int) (hp1 : (-2147483648) ≤ p1 ∧ p1 ≤ 2147483647) (pre0 : I8 h) (d : Nat) (hd : 2 ≤ d) (Q : Option Value → List mE → Prop) (hQ : ∀ v h', (∃ z : Int, v = some (vI z) ∧ ((-2) ≤ z ∧ z ≤ 1111) ∧ h = h') → Q v h') : MR (mex Ln xs) d 164 0 [some (.ref 4), some (vI p1), none, none, none, none, none, none, none] [] h Q := by
  refine st_aload c164_0 rfl ?_
  refine st_iload c164_1 rfl ?_
  have e1 := fI_bd (q := 4) hT (tf hT rfl rfl) fd_1_5
  refine st_callt (as := [vI p1]) c164_2 cm_168 hT (tf hT rfl rfl) fd_1_0 rfl rfl rfl rfl (by omega) (K168 hT p1 (by omega) pre0 (d - 1) (by omega) _ (fun v h0 H => H)) (fun v1 h1 H => ?_)
  rcases H with ⟨rfl, nf8, rfl⟩ | ⟨r6, rfl, t7, pf2, pf3, pf4, pf5, rfl⟩
  refine st_astoreN (L' := [some (.ref 4), some (vI p1), some .null, none, none, none, none, none, none]) c164_5 rfl rfl ?_
  refine st_aloadN c164_6 rfl ?_
  refine st_ifnonnullN c164_7 ?_
  refine st_iconst c164_10 ?_
  refine st_ireturn c164_11 ?_
  exact hQ _ _ ⟨(-1), rfl, by omega, rfl⟩
  refine st_astore (L' := [some (.ref 4), some (vI p1), some (.ref r6), none, none, none, none, none, none]) c164_5 rfl rfl ?_
  refine st_aload c164_6 rfl ?_
  refine st_ifnonnullR c164_7 ?_
  refine st_iconst c164_12 ?_
  refine st_istore (L' := [some (.ref 4), some (vI p1), some (.ref r6), some (vI (-1)), none, none, none, none, none]) c164_13 rfl rfl ?_
  refine st_iconst c164_14 ?_
  refine st_istore (L' := [some (.ref 4), some (vI p1), some (.ref r6), some (vI (-1)), some (vI (-1)), none, none, none, none]) c164_15 rfl rfl ?_
  refine st_iconst c164_17 ?_
  refine st_istore (L' := [some (.ref 4), some (vI p1), some (.ref r6), some (vI (-1)), some (vI (-1)), some (vI 0), none, none, none]) c164_18 rfl rfl ?_
  refine st_iconst c164_20 ?_
  refine st_istore (L' := [some (.ref 4), some (vI p1), some (.ref r6), some (vI (-1)), some (vI (-1)), some (vI 0), some (vI 0), none, none]) c164_21 rfl rfl ?_
  refine st_iconst c164_23 ?_
  refine st_istore (L' := [some (.ref 4), some (vI p1), some (.ref r6), some (vI (-1)), some (vI (-1)), some (vI 0), some (vI 0), some (vI 0), none]) c164_24 rfl rfl ?_
  have lp166 : ∀ (n167 : Nat) (z161 : Int) (z162 : Int) (z163 : Int) (z164 : Int) (z165 : Int), (12 : Int) - z165 < (n167 : Int) → (-1) ≤ z161 ∧ z161 ≤ 11 → (-1) ≤ z162 ∧ z162 ≤ 11 → 0 ≤ z163 ∧ z163 ≤ 2147483647 → (-2147483648) ≤ z164 ∧ z164 ≤ 2147483647 → 0 ≤ z165 ∧ z165 ≤ 12 → MR (mex Ln xs) d 164 26 [some (.ref 4), none, some (.ref r6), some (vI z161), some (vI z162), some (vI z163), some (vI z164), some (vI z165), none] [] h Q := by
    intro n167
    induction n167 with
    | zero =>
      intro z161 z162 z163 z164 z165 hm169 b170 b171 b172 b173 b174
      exfalso; omega
    | succ n167 ih168 =>
      intro z161 z162 z163 z164 z165 hm169 b170 b171 b172 b173 b174
      refine st_iload c164_26 rfl ?_
      refine st_iconst c164_28 ?_
      refine st_icmp_ge c164_30 (by omega) (by omega) (fun k175 => ?_) (fun k176 => ?_)
      refine st_iload c164_99 rfl ?_
      refine st_if_lt c164_100 (by omega) (fun k177 => ?_) (fun k178 => ?_)
      refine st_iconst c164_108 ?_
      refine st_goto c164_110 ?_
      refine st_ireturn c164_120 ?_
      exact hQ _ _ ⟨(-2), rfl, by omega, rfl⟩
      refine st_iload c164_103 rfl ?_
      refine st_if_ge c164_105 (by omega) (fun k179 => ?_) (fun k180 => ?_)
      refine st_iconst c164_113 ?_
      refine st_iload c164_115 rfl ?_
      refine st_imul c164_116 ?_
      refine st_iload c164_117 rfl ?_
      refine st_iadd c164_119 ?_
      refine st_ireturn c164_120 ?_
      exact hQ _ _ ⟨(100 * z161) + z162, rfl, by omega, rfl⟩
      refine st_iconst c164_108 ?_
      refine st_goto c164_110 ?_
      refine st_ireturn c164_120 ?_
      exact hQ _ _ ⟨(-2), rfl, by omega, rfl⟩
      refine st_aload c164_33 rfl ?_
      refine st_getX (u := 6) c164_34 hT (tf hT rfl rfl) fd_1_3 rfl ?_
      refine st_iload c164_37 rfl ?_
      have e181 := fI_bd (q := 6) hT (tf hT rfl rfl) fd_2_3
      refine st_callt (as := [vI z165]) c164_39 cm_86 hT (tf hT rfl rfl) fd_2_0 rfl rfl rfl rfl (by omega) (K86 hT z165 (by omega) (d - 1) (by omega) _ (fun v h0 H => H)) (fun v1 h1 H => ?_)
      rcases H with ⟨rfl, pf182, rfl⟩ | ⟨rfl, pf183, pf184, pf185, rfl⟩
      refine st_if_eq c164_42 (by omega) (fun k186 => ?_) (fun k187 => False.elim (by omega))
      refine st_iinc (L' := [some (.ref 4), none, some (.ref r6), some (vI z161), some (vI z162), some (vI z163), some (vI z164), some (vI (z165 + 1)), none]) c164_93 rfl rfl rfl ?_
      refine st_goto c164_96 ?_
      exact ih168 z161 z162 z163 z164 (z165 + 1) (by omega) (by omega) (by omega) (by omega) (by omega) (by omega)
      refine st_if_eq c164_42 (by omega) (fun k188 => False.elim (by omega)) (fun k189 => ?_)
      refine st_aload c164_45 rfl ?_
      refine st_aload c164_46 rfl ?_
      refine st_iload c164_47 rfl ?_
      refine st_callt (as := [.ref r6, vI z165]) c164_49 cm_175 hT (tf hT rfl rfl) fd_1_0 rfl rfl rfl rfl (by omega) (K175 hT r6 t7 z165 (by omega) pre0 (d - 1) (by omega) _ (fun v h0 H => H)) (fun v1 h1 H => ?_)
      obtain ⟨z190, rfl, b191, rfl⟩ := H
      refine st_aload c164_52 rfl ?_
      refine st_aload c164_53 rfl ?_
      refine st_iload c164_54 rfl ?_
      refine st_callt (as := [.ref r6, vI z165]) c164_56 cm_176 hT (tf hT rfl rfl) fd_1_0 rfl rfl rfl rfl (by omega) (K176 hT r6 t7 z165 (by omega) pre0 (d - 1) (by omega) _ (fun v h0 H => H)) (fun v1 h1 H => ?_)
      obtain ⟨z192, rfl, b193, rfl⟩ := H
      refine st_isub c164_59 ?_
      refine MR_wrap (fun w194 e195 e196 e197 => ?_)
      refine st_istore (L' := [some (.ref 4), none, some (.ref r6), some (vI z161), some (vI z162), some (vI z163), some (vI z164), some (vI z165), some (vI w194)]) c164_60 rfl rfl ?_
      refine st_iload c164_62 rfl ?_
      refine st_iload c164_64 rfl ?_
      refine st_icmp_le c164_66 (by omega) (by omega) (fun k198 => ?_) (fun k199 => ?_)
      refine st_iload c164_76 rfl ?_
      refine st_ineg c164_78 ?_
      refine MR_wrap (fun w200 e201 e202 e203 => ?_)
      refine st_iload c164_79 rfl ?_
      refine st_icmp_le c164_81 (by omega) (by omega) (fun k204 => ?_) (fun k205 => ?_)
      refine st_iinc (L' := [some (.ref 4), none, some (.ref r6), some (vI z161), some (vI z162), some (vI z163), some (vI z164), some (vI (z165 + 1)), some (vI w194)]) c164_93 rfl rfl rfl ?_
      refine st_goto c164_96 ?_
      refine MR_weak (A := [some (.ref 4), none, some (.ref r6), some (vI z161), some (vI z162), some (vI z163), some (vI z164), some (vI (z165 + 1)), none]) (Lle_s (Lle_s (Lle_s (Lle_s (Lle_s (Lle_s (Lle_s (Lle_s (Lle_n (Lle_0)))))))))) ?_
      exact ih168 z161 z162 z163 z164 (z165 + 1) (by omega) (by omega) (by omega) (by omega) (by omega) (by omega)
      refine st_iload c164_84 rfl ?_
      refine st_ineg c164_86 ?_
      refine MR_wrap (fun w206 e207 e208 e209 => ?_)
      refine st_istore (L' := [some (.ref 4), none, some (.ref r6), some (vI z161), some (vI z162), some (vI z163), some (vI w206), some (vI z165), some (vI w194)]) c164_87 rfl rfl ?_
      refine st_iload c164_89 rfl ?_
      refine st_istore (L' := [some (.ref 4), none, some (.ref r6), some (vI z161), some (vI z165), some (vI z163), some (vI w206), some (vI z165), some (vI w194)]) c164_91 rfl rfl ?_
      refine st_iinc (L' := [some (.ref 4), none, some (.ref r6), some (vI z161), some (vI z165), some (vI z163), some (vI w206), some (vI (z165 + 1)), some (vI w194)]) c164_93 rfl rfl rfl ?_
      refine st_goto c164_96 ?_
      refine MR_weak (A := [some (.ref 4), none, some (.ref r6), some (vI z161), some (vI z165), some (vI z163), some (vI w206), some (vI (z165 + 1)), none]) (Lle_s (Lle_s (Lle_s (Lle_s (Lle_s (Lle_s (Lle_s (Lle_s (Lle_n (Lle_0)))))))))) ?_
      exact ih168 z161 z165 z163 w206 (z165 + 1) (by omega) (by omega) (by omega) (by omega) (by omega) (by omega)
      refine st_iload c164_69 rfl ?_
      refine st_istore (L' := [some (.ref 4), none, some (.ref r6), some (vI z161), some (vI z162), some (vI w194), some (vI z164), some (vI z165), some (vI w194)]) c164_71 rfl rfl ?_
      refine st_iload c164_73 rfl ?_
      refine st_istore (L' := [some (.ref 4), none, some (.ref r6), some (vI z165), some (vI z162), some (vI w194), some (vI z164), some (vI z165), some (vI w194)]) c164_75 rfl rfl ?_
      refine st_iload c164_76 rfl ?_
      refine st_ineg c164_78 ?_
      refine st_iload c164_79 rfl ?_
      refine st_icmp_le c164_81 (by omega) (by omega) (fun k210 => ?_) (fun k211 => ?_)
      refine st_iinc (L' := [some (.ref 4), none, some (.ref r6), some (vI z165), some (vI z162), some (vI w194), some (vI z164), some (vI (z165 + 1)), some (vI w194)]) c164_93 rfl rfl rfl ?_
      refine st_goto c164_96 ?_
      refine MR_weak (A := [some (.ref 4), none, some (.ref r6), some (vI z165), some (vI z162), some (vI w194), some (vI z164), some (vI (z165 + 1)), none]) (Lle_s (Lle_s (Lle_s (Lle_s (Lle_s (Lle_s (Lle_s (Lle_s (Lle_n (Lle_0)))))))))) ?_
      exact ih168 z165 z162 w194 z164 (z165 + 1) (by omega) (by omega) (by omega) (by omega) (by omega) (by omega)
      refine st_iload c164_84 rfl ?_
      refine st_ineg c164_86 ?_
      refine st_istore (L' := [some (.ref 4), none, some (.ref r6), some (vI z165), some (vI z162), some (vI w194), some (vI (-w194)), some (vI z165), some (vI w194)]) c164_87 rfl rfl ?_
      refine st_iload c164_89 rfl ?_
      refine st_istore (L' := [some (.ref 4), none, some (.ref r6), some (vI z165), some (vI z165), some (vI w194), some (vI (-w194)), some (vI z165), some (vI w194)]) c164_91 rfl rfl ?_
      refine st_iinc (L' := [some (.ref 4), none, some (.ref r6), some (vI z165), some (vI z165), some (vI w194), some (vI (-w194)), some (vI (z165 + 1)), some (vI w194)]) c164_93 rfl rfl rfl ?_
      refine st_goto c164_96 ?_
      refine MR_weak (A := [some (.ref 4), none, some (.ref r6), some (vI z165), some (vI z165), some (vI w194), some (vI (-w194)), some (vI (z165 + 1)), none]) (Lle_s (Lle_s (Lle_s (Lle_s (Lle_s (Lle_s (Lle_s (Lle_s (Lle_n (Lle_0)))))))))) ?_
      exact ih168 z165 z165 w194 (-w194) (z165 + 1) (by omega) (by omega) (by omega) (by omega) (by omega) (by omega)
  refine MR_weak (A := [some (.ref 4), none, some (.ref r6), some (vI (-1)), some (vI (-1)), some (vI 0), some (vI 0), some (vI 0), none]) (Lle_s (Lle_n (Lle_s (Lle_s (Lle_s (Lle_s (Lle_s (Lle_s (Lle_s (Lle_0)))))))))) ?_
  exact lp166 ((((12 : Int) - 0 : Int) + 1).toNat) (-1) (-1) 0 0 0 (by omega) (by omega) (by omega) (by omega) (by omega) (by omega)
set_option maxHeartbeats 0 in
theorem K165 {Ln : Nat} {xs : Nat → Int32} {τ : List Nat} {h : List mE} {E : EP} (hT : TH E τ h) (p1 : Int) (hp1 : (-2147483648) ≤ p1 ∧ p1 ≤ 2147483647) (pre0 : I8 h) (d : Nat) (hd : 2 ≤ d) (Q : Option Value → List mE → Prop) (hQ : ∀ v h', (∃ z : Int, v = some (vI z) ∧ ((-2147483648) ≤ z ∧ z ≤ 2147483647) ∧ h = h') → Q v h') : MR (mex Ln xs) d 165 0 [some (.ref 4), some (vI p1)] [] h Q := by
  refine st_iload c165_0 rfl ?_
  rcases (by omega : (p1 < 0 ∨ 13 < p1) ∨ p1 = 0 ∨ p1 = 1 ∨ p1 = 2 ∨ p1 = 3 ∨ p1 = 4 ∨ p1 = 5 ∨ p1 = 6 ∨ p1 = 7 ∨ p1 = 8 ∨ p1 = 9 ∨ p1 = 10 ∨ p1 = 11 ∨ p1 = 12 ∨ p1 = 13) with k1 | k1 | k1 | k1 | k1 | k1 | k1 | k1 | k1 | k1 | k1 | k1 | k1 | k1 | k1
  · refine st_swd c165_1 (by omega) k1 ?_
    rw [show mjmp 1 157 = 158 from by decide]
    refine st_iconst c165_158 ?_
    refine st_ireturn c165_159 ?_
    exact hQ _ _ ⟨(-1), rfl, by omega, rfl⟩
  · refine st_sw (k := 0) (tg := 72) (by decide +kernel) k1 (by decide) ?_
    refine st_aload c165_72 rfl ?_
    refine st_getX (u := 6) c165_73 hT (tf hT rfl rfl) fd_1_3 rfl ?_
    refine st_getI c165_76 hT (tf hT rfl rfl) fd_2_3 (fun e2 e3 => ?_)
    refine st_ireturn c165_79 ?_
    exact hQ _ _ ⟨fI h 6 3, rfl, by omega, rfl⟩
  · refine st_sw (k := 1) (tg := 80) (by decide +kernel) k1 (by decide) ?_
    refine st_aload c165_80 rfl ?_
    refine st_getI c165_81 hT (tf hT rfl rfl) fd_1_5 (fun e4 e5 => ?_)
    refine st_ireturn c165_84 ?_
    exact hQ _ _ ⟨fI h 4 5, rfl, by omega, rfl⟩
  · refine st_sw (k := 2) (tg := 85) (by decide +kernel) k1 (by decide) ?_
    refine st_aload c165_85 rfl ?_
    refine st_getI c165_86 hT (tf hT rfl rfl) fd_1_7 (fun e6 e7 => ?_)
    refine st_ireturn c165_89 ?_
    exact hQ _ _ ⟨fI h 4 7, rfl, by omega, rfl⟩
  · refine st_sw (k := 3) (tg := 90) (by decide +kernel) k1 (by decide) ?_
    refine st_aload c165_90 rfl ?_
    refine st_getI c165_91 hT (tf hT rfl rfl) fd_1_10 (fun e8 e9 => ?_)
    refine st_ireturn c165_94 ?_
    exact hQ _ _ ⟨fI h 4 10, rfl, by omega, rfl⟩
  · refine st_sw (k := 4) (tg := 95) (by decide +kernel) k1 (by decide) ?_
    refine st_aload c165_95 rfl ?_
    refine st_getI c165_96 hT (tf hT rfl rfl) fd_1_12 (fun e10 e11 => ?_)
    refine st_ireturn c165_99 ?_
    exact hQ _ _ ⟨fI h 4 12, rfl, by omega, rfl⟩
  · refine st_sw (k := 5) (tg := 100) (by decide +kernel) k1 (by decide) ?_
    refine st_aload c165_100 rfl ?_
    refine st_getI c165_101 hT (tf hT rfl rfl) fd_1_0 (fun e12 e13 => ?_)
    refine st_ireturn c165_104 ?_
    exact hQ _ _ ⟨fI h 4 0, rfl, by omega, rfl⟩
  · refine st_sw (k := 6) (tg := 105) (by decide +kernel) k1 (by decide) ?_
    refine st_aload c165_105 rfl ?_
    refine st_getX (u := 60) c165_106 hT (tf hT rfl rfl) fd_1_17 rfl ?_
    refine st_getI c165_109 hT (tf hT rfl rfl) fd_7_1 (fun e14 e15 => ?_)
    refine st_ireturn c165_112 ?_
    exact hQ _ _ ⟨fI h 60 1, rfl, by omega, rfl⟩
  · refine st_sw (k := 7) (tg := 113) (by decide +kernel) k1 (by decide) ?_
    refine st_aload c165_113 rfl ?_
    refine st_getI c165_114 hT (tf hT rfl rfl) fd_1_1 (fun e16 e17 => ?_)
    refine st_ireturn c165_117 ?_
    exact hQ _ _ ⟨fI h 4 1, rfl, by omega, rfl⟩
  · refine st_sw (k := 8) (tg := 118) (by decide +kernel) k1 (by decide) ?_
    refine st_aload c165_118 rfl ?_
    refine st_getX (u := 39) c165_119 hT (tf hT rfl rfl) fd_1_13 rfl ?_
    refine st_getI c165_122 hT (tf hT rfl rfl) fd_3_3 (fun e18 e19 => ?_)
    refine st_ireturn c165_125 ?_
    exact hQ _ _ ⟨fI h 39 3, rfl, by omega, rfl⟩
  · refine st_sw (k := 9) (tg := 126) (by decide +kernel) k1 (by decide) ?_
    refine st_aload c165_126 rfl ?_
    refine st_iconst c165_127 ?_
    refine st_callt (as := [vI 2]) c165_128 cm_177 hT (tf hT rfl rfl) fd_1_0 rfl rfl rfl rfl (by omega) (K177 hT 2 (by omega) pre0 (d - 1) (by omega) _ (fun v h0 H => H)) (fun v1 h1 H => ?_)
    obtain ⟨z20, rfl, b21, rfl⟩ := H
    refine st_ireturn c165_131 ?_
    exact hQ _ _ ⟨z20, rfl, by omega, rfl⟩
  · refine st_sw (k := 10) (tg := 132) (by decide +kernel) k1 (by decide) ?_
    refine st_aload c165_132 rfl ?_
    refine st_iconst c165_133 ?_
    refine st_callt (as := [vI 1]) c165_134 cm_177 hT (tf hT rfl rfl) fd_1_0 rfl rfl rfl rfl (by omega) (K177 hT 1 (by omega) pre0 (d - 1) (by omega) _ (fun v h0 H => H)) (fun v1 h1 H => ?_)
    obtain ⟨z22, rfl, b23, rfl⟩ := H
    refine st_ireturn c165_137 ?_
    exact hQ _ _ ⟨z22, rfl, by omega, rfl⟩
  · refine st_sw (k := 11) (tg := 138) (by decide +kernel) k1 (by decide) ?_
    refine st_aload c165_138 rfl ?_
    refine st_getX (u := 54) c165_139 hT (tf hT rfl rfl) fd_1_16 rfl ?_
    refine st_getI c165_142 hT (tf hT rfl rfl) fd_6_1 (fun e24 e25 => ?_)
    refine st_ireturn c165_145 ?_
    exact hQ _ _ ⟨fI h 54 1, rfl, by omega, rfl⟩
  · refine st_sw (k := 12) (tg := 146) (by decide +kernel) k1 (by decide) ?_
    refine st_aload c165_146 rfl ?_
    refine st_iconst c165_147 ?_
    refine st_callt (as := [vI 0]) c165_148 cm_178 hT (tf hT rfl rfl) fd_1_0 rfl rfl rfl rfl (by omega) (K178 hT 0 (by omega) pre0 (d - 1) (by omega) _ (fun v h0 H => H)) (fun v1 h1 H => ?_)
    obtain ⟨z26, rfl, b27, rfl⟩ := H
    refine st_ireturn c165_151 ?_
    exact hQ _ _ ⟨z26, rfl, by omega, rfl⟩
  · refine st_sw (k := 13) (tg := 152) (by decide +kernel) k1 (by decide) ?_
    refine st_aload c165_152 rfl ?_
    refine st_iconst c165_153 ?_
    refine st_callt (as := [vI 3]) c165_154 cm_178 hT (tf hT rfl rfl) fd_1_0 rfl rfl rfl rfl (by omega) (K178 hT 3 (by omega) pre0 (d - 1) (by omega) _ (fun v h0 H => H)) (fun v1 h1 H => ?_)
    obtain ⟨z28, rfl, b29, rfl⟩ := H
    refine st_ireturn c165_157 ?_
    exact hQ _ _ ⟨z28, rfl, by omega, rfl⟩
