set_option maxHeartbeats 0 in
theorem K166 {Ln : Nat} {xs : Nat → Int32} {τ : List Nat} {h : List mE} {E : EP} (hT : TH E τ h) (p0 : Int) (hp0 : (-2147483648) ≤ p0 ∧ p0 ≤ 2147483647) (p1 : Int) (hp1 : (-2147483648) ≤ p1 ∧ p1 ≤ 2147483647) (p2 : Int) (hp2 : (-2147483648) ≤ p2 ∧ p2 ≤ 2147483647) (d : Nat) (hd : 0 ≤ d) (Q : Option Value → List mE → Prop) (hQ : ∀ v h', ((v = some (vI 0) ∧ (p0 < p1 ∨ p2 < p0) ∧ h = h') ∨ (v = some (vI 1) ∧ (p1≤p0) ∧ (p0≤p2) ∧ h = h')) → Q v h') : MR (mex Ln xs) d 166 0 [some (vI p0), some (vI p1), some (vI p2)] [] h Q := by
  refine st_iload c166_0 rfl ?_
  refine st_iload c166_1 rfl ?_
  refine st_icmp_lt c166_2 (by omega) (by omega) (fun k1 => ?_) (fun k2 => ?_)
  refine st_iconst c166_14 ?_
  refine st_zreturn c166_15 (by omega) ?_
  exact hQ _ _ (Or.inl ⟨rfl, by omega, rfl⟩)
  refine st_iload c166_5 rfl ?_
  refine st_iload c166_6 rfl ?_
  refine st_icmp_gt c166_7 (by omega) (by omega) (fun k3 => ?_) (fun k4 => ?_)
  refine st_iconst c166_14 ?_
  refine st_zreturn c166_15 (by omega) ?_
  exact hQ _ _ (Or.inl ⟨rfl, by omega, rfl⟩)
  refine st_iconst c166_10 ?_
  refine st_goto c166_11 ?_
  refine st_zreturn c166_15 (by omega) ?_
  exact hQ _ _ (Or.inr ⟨rfl, by omega, by omega, rfl⟩)
set_option maxHeartbeats 0 in
theorem K167 {Ln : Nat} {xs : Nat → Int32} {τ : List Nat} {h : List mE} {E : EP} (hT : TH E τ h) (p0 : Int) (hp0 : (-2147483648) ≤ p0 ∧ p0 ≤ 2147483647) (d : Nat) (hd : 0 ≤ d) (Q : Option Value → List mE → Prop) (hQ : ∀ v h', ((v = some (vI 0) ∧ (p0 ≠ 0 ∧ p0 ≠ 1) ∧ h = h') ∨ (v = some (vI 1) ∧ (0≤p0) ∧ (p0≤1) ∧ h = h')) → Q v h') : MR (mex Ln xs) d 167 0 [some (vI p0)] [] h Q := by
  refine st_iload c167_0 rfl ?_
  refine st_if_eq c167_1 (by omega) (fun k1 => ?_) (fun k2 => ?_)
  refine st_iconst c167_9 ?_
  refine st_goto c167_10 ?_
  refine st_zreturn c167_14 (by omega) ?_
  exact hQ _ _ (Or.inr ⟨rfl, by omega, by omega, rfl⟩)
  refine st_iload c167_4 rfl ?_
  refine st_iconst c167_5 ?_
  refine st_icmp_ne c167_6 (by omega) (by omega) (fun k3 => ?_) (fun k4 => ?_)
  refine st_iconst c167_13 ?_
  refine st_zreturn c167_14 (by omega) ?_
  exact hQ _ _ (Or.inl ⟨rfl, by omega, rfl⟩)
  refine st_iconst c167_9 ?_
  refine st_goto c167_10 ?_
  refine st_zreturn c167_14 (by omega) ?_
  exact hQ _ _ (Or.inr ⟨rfl, by omega, by omega, rfl⟩)
set_option maxHeartbeats 0 in
theorem K168 {Ln : Nat} {xs : Nat → Int32} {τ : List Nat} {h : List mE} {E : EP} (hT : TH E τ h) (p1 : Int) (hp1 : (-2147483648) ≤ p1 ∧ p1 ≤ 2147483647) (pre0 : I8 h) (d : Nat) (hd : 0 ≤ d) (Q : Option Value → List mE → Prop) (hQ : ∀ v h', ((v = some .null ∧ (p1 < 0 ∨ fI h 4 5 ≤ p1) ∧ h = h') ∨ (∃ r : Nat, v = some (.ref r) ∧ ty τ r 9 ∧ (0≤p1) ∧ (p1≤14) ∧ (p1<fI h 4 5) ∧ (aR h 34 p1 = some r) ∧ h = h')) → Q v h') : MR (mex Ln xs) d 168 0 [some (.ref 4), some (vI p1)] [] h Q := by
  refine st_iload c168_0 rfl ?_
  refine st_if_lt c168_1 (by omega) (fun k1 => ?_) (fun k2 => ?_)
  refine st_null c168_22 ?_
  refine st_areturnN c168_23 ?_
  have e3 := fI_bd (q := 4) hT (tf hT rfl rfl) fd_1_5
  exact hQ _ _ (Or.inl ⟨rfl, (by omega), rfl⟩)
  refine st_iload c168_4 rfl ?_
  refine st_aload c168_5 rfl ?_
  refine st_getX (u := 34) c168_6 hT (tf hT rfl rfl) fd_1_4 rfl ?_
  refine st_alenC (z := 15) c168_9 hT (tf hT rfl rfl) ay_15 rfl rfl rfl ?_
  refine st_icmp_ge c168_10 (by omega) (by omega) (fun k4 => ?_) (fun k5 => ?_)
  refine st_null c168_22 ?_
  refine st_areturnN c168_23 ?_
  have e6 := fI_bd (q := 4) hT (tf hT rfl rfl) fd_1_5
  exact hQ _ _ (Or.inl ⟨rfl, (by omega), rfl⟩)
  refine st_aload c168_13 rfl ?_
  refine st_getX (u := 34) c168_14 hT (tf hT rfl rfl) fd_1_4 rfl ?_
  refine st_iload c168_17 rfl ?_
  refine st_aald c168_18 hT (tf hT rfl rfl) ay_15 rfl (u := 9) rfl (by omega) (fun e8 => ?_) (fun r7 e9 t10 => ?_)
  refine st_goto c168_19 ?_
  refine st_areturnN c168_23 ?_
  have e11 := fI_bd (q := 4) hT (tf hT rfl rfl) fd_1_5
  exact hQ _ _ (Or.inl ⟨rfl, ((I8_at pre0.1 (i := p1) (by omega) (by omega)).elim (fun x => absurd e8 x.1) (fun x => Or.inr x.2)), rfl⟩)
  refine st_goto c168_19 ?_
  refine st_areturn c168_23 ?_
  exact hQ _ _ (Or.inr ⟨_, rfl, t10, by omega, by omega, ((I8_at pre0.1 (i := p1) (by omega) (by omega)).elim (fun x => x.2) (fun x => absurd e9 (by rw [x.1]; exact fun e => by cases e))), e9, rfl⟩)
set_option maxHeartbeats 0 in
theorem K169 {Ln : Nat} {xs : Nat → Int32} {τ : List Nat} {h : List mE} {E : EP} (hT : TH E τ h) (p1 : Int) (hp1 : (-2147483648) ≤ p1 ∧ p1 ≤ 2147483647) (pre0 : I8 h) (d : Nat) (hd : 0 ≤ d) (Q : Option Value → List mE → Prop) (hQ : ∀ v h', ((v = some .null ∧ (p1 < 0 ∨ fI h 4 7 ≤ p1) ∧ h = h') ∨ (∃ r : Nat, v = some (.ref r) ∧ ty τ r 10 ∧ (0≤p1) ∧ (p1≤89) ∧ (p1<fI h 4 7) ∧ (aR h 35 p1 = some r) ∧ h = h')) → Q v h') : MR (mex Ln xs) d 169 0 [some (.ref 4), some (vI p1)] [] h Q := by
  refine st_iload c169_0 rfl ?_
  refine st_if_lt c169_1 (by omega) (fun k1 => ?_) (fun k2 => ?_)
  refine st_null c169_22 ?_
  refine st_areturnN c169_23 ?_
  have e3 := fI_bd (q := 4) hT (tf hT rfl rfl) fd_1_7
  exact hQ _ _ (Or.inl ⟨rfl, (by omega), rfl⟩)
  refine st_iload c169_4 rfl ?_
  refine st_aload c169_5 rfl ?_
  refine st_getX (u := 35) c169_6 hT (tf hT rfl rfl) fd_1_6 rfl ?_
  refine st_alenC (z := 90) c169_9 hT (tf hT rfl rfl) ay_16 rfl rfl rfl ?_
  refine st_icmp_ge c169_10 (by omega) (by omega) (fun k4 => ?_) (fun k5 => ?_)
  refine st_null c169_22 ?_
  refine st_areturnN c169_23 ?_
  have e6 := fI_bd (q := 4) hT (tf hT rfl rfl) fd_1_7
  exact hQ _ _ (Or.inl ⟨rfl, (by omega), rfl⟩)
  refine st_aload c169_13 rfl ?_
  refine st_getX (u := 35) c169_14 hT (tf hT rfl rfl) fd_1_6 rfl ?_
  refine st_iload c169_17 rfl ?_
  refine st_aald c169_18 hT (tf hT rfl rfl) ay_16 rfl (u := 10) rfl (by omega) (fun e8 => ?_) (fun r7 e9 t10 => ?_)
  refine st_goto c169_19 ?_
  refine st_areturnN c169_23 ?_
  have e11 := fI_bd (q := 4) hT (tf hT rfl rfl) fd_1_7
  exact hQ _ _ (Or.inl ⟨rfl, ((I8_at pre0.2.1 (i := p1) (by omega) (by omega)).elim (fun x => absurd e8 x.1) (fun x => Or.inr x.2)), rfl⟩)
  refine st_goto c169_19 ?_
  refine st_areturn c169_23 ?_
  exact hQ _ _ (Or.inr ⟨_, rfl, t10, by omega, by omega, ((I8_at pre0.2.1 (i := p1) (by omega) (by omega)).elim (fun x => x.2) (fun x => absurd e9 (by rw [x.1]; exact fun e => by cases e))), e9, rfl⟩)
set_option maxHeartbeats 0 in
theorem K170 {Ln : Nat} {xs : Nat → Int32} {τ : List Nat} {h : List mE} {E : EP} (hT : TH E τ h) (p1 : Int) (hp1 : (-2147483648) ≤ p1 ∧ p1 ≤ 2147483647) (pre0 : I8 h) (d : Nat) (hd : 0 ≤ d) (Q : Option Value → List mE → Prop) (hQ : ∀ v h', ((v = some .null ∧ (p1 < 0 ∨ fI h 4 12 ≤ p1) ∧ h = h') ∨ (∃ r : Nat, v = some (.ref r) ∧ ty τ r 12 ∧ (0≤p1) ∧ (p1≤99) ∧ (p1<fI h 4 12) ∧ (aR h 38 p1 = some r) ∧ h = h')) → Q v h') : MR (mex Ln xs) d 170 0 [some (.ref 4), some (vI p1)] [] h Q := by
  refine st_iload c170_0 rfl ?_
  refine st_if_lt c170_1 (by omega) (fun k1 => ?_) (fun k2 => ?_)
  refine st_null c170_22 ?_
  refine st_areturnN c170_23 ?_
  have e3 := fI_bd (q := 4) hT (tf hT rfl rfl) fd_1_12
  exact hQ _ _ (Or.inl ⟨rfl, (by omega), rfl⟩)
  refine st_iload c170_4 rfl ?_
  refine st_aload c170_5 rfl ?_
  refine st_getX (u := 38) c170_6 hT (tf hT rfl rfl) fd_1_11 rfl ?_
  refine st_alenC (z := 100) c170_9 hT (tf hT rfl rfl) ay_19 rfl rfl rfl ?_
  refine st_icmp_ge c170_10 (by omega) (by omega) (fun k4 => ?_) (fun k5 => ?_)
  refine st_null c170_22 ?_
  refine st_areturnN c170_23 ?_
  have e6 := fI_bd (q := 4) hT (tf hT rfl rfl) fd_1_12
  exact hQ _ _ (Or.inl ⟨rfl, (by omega), rfl⟩)
  refine st_aload c170_13 rfl ?_
  refine st_getX (u := 38) c170_14 hT (tf hT rfl rfl) fd_1_11 rfl ?_
  refine st_iload c170_17 rfl ?_
  refine st_aald c170_18 hT (tf hT rfl rfl) ay_19 rfl (u := 12) rfl (by omega) (fun e8 => ?_) (fun r7 e9 t10 => ?_)
  refine st_goto c170_19 ?_
  refine st_areturnN c170_23 ?_
  have e11 := fI_bd (q := 4) hT (tf hT rfl rfl) fd_1_12
  exact hQ _ _ (Or.inl ⟨rfl, ((I8_at pre0.2.2 (i := p1) (by omega) (by omega)).elim (fun x => absurd e8 x.1) (fun x => Or.inr x.2)), rfl⟩)
  refine st_goto c170_19 ?_
  refine st_areturn c170_23 ?_
  exact hQ _ _ (Or.inr ⟨_, rfl, t10, by omega, by omega, ((I8_at pre0.2.2 (i := p1) (by omega) (by omega)).elim (fun x => x.2) (fun x => absurd e9 (by rw [x.1]; exact fun e => by cases e))), e9, rfl⟩)
set_option maxHeartbeats 0 in
theorem K171 {Ln : Nat} {xs : Nat → Int32} {τ : List Nat} {h : List mE} {E : EP} (hT : TH E τ h) (p1 : Int) (hp1 : (-2147483648) ≤ p1 ∧ p1 ≤ 2147483647) (d : Nat) (hd : 0 ≤ d) (Q : Option Value → List mE → Prop) (hQ : ∀ v h', ((v = some (vI 0) ∧ (p1 < 0 ∨ fI h 4 10 ≤ p1) ∧ h = h') ∨ (v = some (vI 1) ∧ (0≤p1) ∧ (p1<fI h 4 10) ∧ h = h')) → Q v h') : MR (mex Ln xs) d 171 0 [some (.ref 4), some (vI p1)] [] h Q := by
  refine st_iload c171_0 rfl ?_
  refine st_if_lt c171_1 (by omega) (fun k1 => ?_) (fun k2 => ?_)
  refine st_iconst c171_16 ?_
  refine st_zreturn c171_17 (by omega) ?_
  exact hQ _ _ (Or.inl ⟨rfl, by omega, rfl⟩)
  refine st_iload c171_4 rfl ?_
  refine st_aload c171_5 rfl ?_
  refine st_getI c171_6 hT (tf hT rfl rfl) fd_1_10 (fun e3 e4 => ?_)
  refine st_icmp_ge c171_9 (by omega) (by omega) (fun k5 => ?_) (fun k6 => ?_)
  refine st_iconst c171_16 ?_
  refine st_zreturn c171_17 (by omega) ?_
  exact hQ _ _ (Or.inl ⟨rfl, by omega, rfl⟩)
  refine st_iconst c171_12 ?_
  refine st_goto c171_13 ?_
  refine st_zreturn c171_17 (by omega) ?_
  exact hQ _ _ (Or.inr ⟨rfl, by omega, by omega, rfl⟩)
set_option maxHeartbeats 0 in
theorem K85 {Ln : Nat} {xs : Nat → Int32} {τ : List Nat} {h : List mE} {E : EP} (hT : TH E τ h) (p1 : Int) (hp1 : (-2147483648) ≤ p1 ∧ p1 ≤ 2147483647) (d : Nat) (hd : 0 ≤ d) (Q : Option Value → List mE → Prop) (hQ : ∀ v h', ((v = some (vI 0) ∧ (p1 < 0 ∨ fI h 6 3 ≤ p1) ∧ h = h') ∨ (v = some (vI 1) ∧ (0≤p1) ∧ (p1<fI h 6 3) ∧ h = h')) → Q v h') : MR (mex Ln xs) d 85 0 [some (.ref 6), some (vI p1)] [] h Q := by
  refine st_iload c85_0 rfl ?_
  refine st_if_lt c85_1 (by omega) (fun k1 => ?_) (fun k2 => ?_)
  refine st_iconst c85_16 ?_
  refine st_zreturn c85_17 (by omega) ?_
  exact hQ _ _ (Or.inl ⟨rfl, by omega, rfl⟩)
  refine st_iload c85_4 rfl ?_
  refine st_aload c85_5 rfl ?_
  refine st_getI c85_6 hT (tf hT rfl rfl) fd_2_3 (fun e3 e4 => ?_)
  refine st_icmp_ge c85_9 (by omega) (by omega) (fun k5 => ?_) (fun k6 => ?_)
  refine st_iconst c85_16 ?_
  refine st_zreturn c85_17 (by omega) ?_
  exact hQ _ _ (Or.inl ⟨rfl, by omega, rfl⟩)
  refine st_iconst c85_12 ?_
  refine st_goto c85_13 ?_
  refine st_zreturn c85_17 (by omega) ?_
  exact hQ _ _ (Or.inr ⟨rfl, by omega, by omega, rfl⟩)
set_option maxHeartbeats 0 in
theorem K86 {Ln : Nat} {xs : Nat → Int32} {τ : List Nat} {h : List mE} {E : EP} (hT : TH E τ h) (p1 : Int) (hp1 : (-2147483648) ≤ p1 ∧ p1 ≤ 2147483647) (d : Nat) (hd : 1 ≤ d) (Q : Option Value → List mE → Prop) (hQ : ∀ v h', ((v = some (vI 0) ∧ (p1 < 0 ∨ fI h 6 3 ≤ p1 ∨ aI h 7 p1 = 0) ∧ h = h') ∨ (v = some (vI 1) ∧ (0≤p1) ∧ (p1<fI h 6 3) ∧ (aI h 7 p1 = 1) ∧ h = h')) → Q v h') : MR (mex Ln xs) d 86 0 [some (.ref 6), some (vI p1)] [] h Q := by
  refine st_aload c86_0 rfl ?_
  refine st_iload c86_1 rfl ?_
  have e1 := fI_bd (q := 6) hT (tf hT rfl rfl) fd_2_3
  refine st_callt (as := [vI p1]) c86_2 cm_85 hT (tf hT rfl rfl) fd_2_0 rfl rfl rfl rfl (by omega) (K85 hT p1 (by omega) (d - 1) (by omega) _ (fun v h0 H => H)) (fun v1 h1 H => ?_)
  rcases H with ⟨rfl, pf2, rfl⟩ | ⟨rfl, pf3, pf4, rfl⟩
  refine st_if_eq c86_5 (by omega) (fun k5 => ?_) (fun k6 => False.elim (by omega))
  refine st_iconst c86_21 ?_
  refine st_zreturn c86_22 (by omega) ?_
  exact hQ _ _ (Or.inl ⟨rfl, by omega, rfl⟩)
  refine st_if_eq c86_5 (by omega) (fun k7 => False.elim (by omega)) (fun k8 => ?_)
  refine st_aload c86_8 rfl ?_
  refine st_getX (u := 7) c86_9 hT (tf hT rfl rfl) fd_2_0 rfl ?_
  refine st_iload c86_12 rfl ?_
  refine st_bald c86_13 hT (tf hT rfl rfl) ay_20 (Or.inl rfl) (by omega) (fun e9 e10 => ?_)
  refine st_if_eq c86_14 (by omega) (fun k11 => ?_) (fun k12 => ?_)
  refine st_iconst c86_21 ?_
  refine st_zreturn c86_22 (by omega) ?_
  exact hQ _ _ (Or.inl ⟨rfl, by omega, rfl⟩)
  refine st_iconst c86_17 ?_
  refine st_goto c86_18 ?_
  refine st_zreturn c86_22 (by omega) ?_
  exact hQ _ _ (Or.inr ⟨rfl, by omega, by omega, by omega, rfl⟩)
def W84 : List (Nat × Nat) := [(2, 3), (20, 0), (123, 0)]
set_option maxHeartbeats 0 in
theorem K84 {Ln : Nat} {xs : Nat → Int32} {τ : List Nat} {h : List mE} {E : EP} (hT : TH E τ h) (hS : Stb E W84) (p1 : Int) (hp1 : (-2147483648) ≤ p1 ∧ p1 ≤ 2147483647) (pre0 : ID h) (d : Nat) (hd : 0 ≤ d) (Q : Option Value → List mE → Prop) (hQ : ∀ v h', (∃ z : Int, v = some (vI z) ∧ ((-3) ≤ z ∧ z ≤ 11) ∧ ((fI h 6 3 ≤ 11 ∧ z = fI h 6 3 ∧ fI h' 6 3 = fI h 6 3 + 1) ∨ (12 ≤ fI h 6 3 ∧ z = -3 ∧ fI h' 6 3 = fI h 6 3)) ∧ (PFound h h' p1) ∧ (PTnC h h') ∧ TH E τ h' ∧ Fr τ W84 h h') → Q v h') : MR (mex Ln xs) d 84 0 [some (.ref 6), some (vI p1), none] [] h Q := by
  have hF := Fr_rf τ W84 h
  refine st_aload c84_0 rfl ?_
  refine st_getI c84_1 hT (tf hT rfl rfl) fd_2_3 (fun e1 e2 => ?_)
  refine st_iconst c84_4 ?_
  refine st_icmp_lt c84_6 (by omega) (by omega) (fun k3 => ?_) (fun k4 => ?_)
  refine st_aload c84_12 rfl ?_
  refine st_getX (u := 7) c84_13 hT (tf hT rfl rfl) fd_2_0 rfl ?_
  refine st_aload c84_16 rfl ?_
  refine st_getI c84_17 hT (tf hT rfl rfl) fd_2_3 (fun e5 e6 => ?_)
  refine st_iload c84_20 rfl ?_
  refine st_iconst c84_21 ?_
  refine st_icmp_ne c84_22 (by omega) (by omega) (fun k7 => ?_) (fun k8 => ?_)
  refine st_iconst c84_29 ?_
  refine st_zast c84_30 hT (tf hT rfl rfl) ay_20 (by omega) (by omega) (Ext_rf _) hS hF (by decide +kernel) (fun h9 hT10 hF11 hU12 => ?_)
  refine st_iconst c84_31 ?_
  refine st_istore (L' := [some (.ref 6), some (vI p1), some (vI 0)]) c84_32 rfl rfl ?_
  have lp146 : ∀ (n147 : Nat) (z141 : Int) (h142 : List mE), (11 : Int) - z141 < (n147 : Int) → 0 ≤ z141 ∧ z141 ≤ 11 → FOi h h142 z141 → z141 ≤ fI h142 6 3 → TH E τ h142 → Fr τ W84 h h142 → Fr τ [(123, 0)] h9 h142 → MR (mex Ln xs) d 84 33 [some (.ref 6), none, some (vI z141)] [] h142 Q := by
    intro n147
    induction n147 with
    | zero =>
      intro z141 h142 hm149 b150 x151 x152 hT143 hF144 hL145
      exfalso; omega
    | succ n147 ih148 =>
      intro z141 h142 hm149 b150 x151 x152 hT143 hF144 hL145
      have e153 := fI_bd (q := 6) hT143 (tf hT143 rfl rfl) fd_2_3
      have q154 : fI h142 6 3 = fI h 6 3 := (Fr_fI hL145 (tf hT10 rfl rfl) (by decide +kernel)).trans (AUp_fI hU12)
      refine st_iload c84_33 rfl ?_
      refine st_aload c84_34 rfl ?_
      refine st_getI c84_35 hT143 (tf hT143 rfl rfl) fd_2_3 (fun e155 e156 => ?_)
      have q157 : fI h142 6 3 = fI h 6 3 := (Fr_fI hL145 (tf hT10 rfl rfl) (by decide +kernel)).trans (AUp_fI hU12)
      refine st_icmp_ge c84_38 (by omega) (by omega) (fun k158 => ?_) (fun k159 => ?_)
      refine st_aload c84_71 rfl ?_
      refine st_dup c84_72 rfl ?_
      refine st_getI c84_73 hT143 (tf hT143 rfl rfl) fd_2_3 (fun e160 e161 => ?_)
      have q162 : fI h142 6 3 = fI h 6 3 := (Fr_fI hL145 (tf hT10 rfl rfl) (by decide +kernel)).trans (AUp_fI hU12)
      refine st_dup_x1 c84_76 rfl rfl ?_
      refine st_iconst c84_77 ?_
      refine st_iadd c84_78 ?_
      refine st_putI c84_79 hT143 (tf hT143 rfl rfl) fd_2_3 (by omega) (by omega) (Ext_rf _) hS hF144 (by decide +kernel) (fun h163 hT164 hF165 hU166 => ?_)
      refine st_ireturn c84_82 ?_
      have e167 := fI_bd (q := 6) hT164 (tf hT164 rfl rfl) fd_2_3
      have q168 : fI h163 6 3 = (fI h142 6 3) + 1 := FUp_fI hU166 (by omega) (by omega)
      have st169 : Set1 7 h h163 (fI h 6 3) 0 := fun i a => by
        rw [(FUp_aI hU166 i : aI h163 7 i = aI h142 7 i)]
        rw [(Fr_aI hL145 (tf hT10 rfl rfl) (by decide +kernel) i : aI h142 7 i = aI h9 7 i)]
        rw [AUp_aI (j := i) hU12 (by omega) (by omega) (by omega) a]
        all_goals exact if_cg (by omega) (by omega)
      have fo170 : FOi h h142 (fI h 6 3) := by
        rw [show fI h 6 3 = z141 from by omega]
        exact x151
      exact hQ _ _ ⟨fI h142 6 3, rfl, by omega, by omega, Or.inr ⟨by omega, 0, by omega, st169⟩, Or.inr ⟨by omega, by omega, FOi_F fo170 hU166⟩, hT164, hF165⟩
      refine st_aload c84_41 rfl ?_
      refine st_getX (u := 21) c84_42 hT143 (tf hT143 rfl rfl) fd_2_2 rfl ?_
      refine st_iload c84_45 rfl ?_
      refine st_aald2 c84_46 hT143 (tf hT143 rfl rfl) ay_22 rfl (u := 123) rfl (by omega) (fun r171 e173 t174 => ?_)
      refine st_aload c84_47 rfl ?_
      refine st_getI c84_48 hT143 (tf hT143 rfl rfl) fd_2_3 (fun e175 e176 => ?_)
      have q177 : fI h142 6 3 = fI h 6 3 := (Fr_fI hL145 (tf hT10 rfl rfl) (by decide +kernel)).trans (AUp_fI hU12)
      refine st_iconst c84_51 ?_
      refine st_iast c84_52 hT143 t174 ay_123 (by omega) (by omega) (by omega) (Ext_rf _) hS hF144 (by decide +kernel) (fun h178 hT179 hF180 hU181 => ?_)
      refine st_aload c84_53 rfl ?_
      refine st_getX (u := 21) c84_54 hT179 (tf hT179 rfl rfl) fd_2_2 rfl ?_
      refine st_aload c84_57 rfl ?_
      refine st_getI c84_58 hT179 (tf hT179 rfl rfl) fd_2_3 (fun e182 e183 => ?_)
      have q184 : fI h178 6 3 = fI h142 6 3 := AUp_fI hU181
      refine st_aald2 c84_61 hT179 (tf hT179 rfl rfl) ay_22 rfl (u := 123) rfl (by omega) (fun r185 e187 t188 => ?_)
      refine st_iload c84_62 rfl ?_
      refine st_iconst c84_63 ?_
      refine st_iast c84_64 hT179 t188 ay_123 (by omega) (by omega) (by omega) (Ext_rf _) hS hF180 (by decide +kernel) (fun h189 hT190 hF191 hU192 => ?_)
      refine st_iinc (L' := [some (.ref 6), none, some (vI (z141 + 1))]) c84_65 rfl rfl rfl ?_
      refine st_goto c84_68 ?_
      have e193 := fI_bd (q := 6) hT190 (tf hT190 rfl rfl) fd_2_3
      have q194 : fI h189 6 3 = fI h178 6 3 := AUp_fI hU192
      exact ih148 (z141 + 1) h189 (by omega) (by omega) (FOi_step x151 (by omega) (by omega) (by omega) e173 (by omega) hU181 e187 (by omega) hU192) (by omega) hT190 hF191 (AUp_Fr (AUp_Fr hL145 hU181 (fun u hu => by rw [ty_1 hu t174]; decide)) hU192 (fun u hu => by rw [ty_1 hu t188]; decide))
  refine MR_weak (A := [some (.ref 6), none, some (vI 0)]) (Lle_s (Lle_n (Lle_s (Lle_0)))) ?_
  have e195 := fI_bd (q := 6) hT10 (tf hT10 rfl rfl) fd_2_3
  have q196 : fI h9 6 3 = fI h 6 3 := AUp_fI hU12
  exact lp146 ((((11 : Int) - 0 : Int) + 1).toNat) 0 h9 (by omega) (by omega) (FOi_0 pre0.1 hU12) (by omega) hT10 hF11 (Fr_rf _ _ _)
  refine st_iconst c84_25 ?_
  refine st_goto c84_26 ?_
  refine st_zast c84_30 hT (tf hT rfl rfl) ay_20 (by omega) (by omega) (Ext_rf _) hS hF (by decide +kernel) (fun h197 hT198 hF199 hU200 => ?_)
  refine st_iconst c84_31 ?_
  refine st_istore (L' := [some (.ref 6), some (vI p1), some (vI 0)]) c84_32 rfl rfl ?_
  have lp334 : ∀ (n335 : Nat) (z329 : Int) (h330 : List mE), (11 : Int) - z329 < (n335 : Int) → 0 ≤ z329 ∧ z329 ≤ 11 → FOi h h330 z329 → z329 ≤ fI h330 6 3 → TH E τ h330 → Fr τ W84 h h330 → Fr τ [(123, 0)] h197 h330 → MR (mex Ln xs) d 84 33 [some (.ref 6), none, some (vI z329)] [] h330 Q := by
    intro n335
    induction n335 with
    | zero =>
      intro z329 h330 hm337 b338 x339 x340 hT331 hF332 hL333
      exfalso; omega
    | succ n335 ih336 =>
      intro z329 h330 hm337 b338 x339 x340 hT331 hF332 hL333
      have e341 := fI_bd (q := 6) hT331 (tf hT331 rfl rfl) fd_2_3
      have q342 : fI h330 6 3 = fI h 6 3 := (Fr_fI hL333 (tf hT198 rfl rfl) (by decide +kernel)).trans (AUp_fI hU200)
      refine st_iload c84_33 rfl ?_
      refine st_aload c84_34 rfl ?_
      refine st_getI c84_35 hT331 (tf hT331 rfl rfl) fd_2_3 (fun e343 e344 => ?_)
      have q345 : fI h330 6 3 = fI h 6 3 := (Fr_fI hL333 (tf hT198 rfl rfl) (by decide +kernel)).trans (AUp_fI hU200)
      refine st_icmp_ge c84_38 (by omega) (by omega) (fun k346 => ?_) (fun k347 => ?_)
      refine st_aload c84_71 rfl ?_
      refine st_dup c84_72 rfl ?_
      refine st_getI c84_73 hT331 (tf hT331 rfl rfl) fd_2_3 (fun e348 e349 => ?_)
      have q350 : fI h330 6 3 = fI h 6 3 := (Fr_fI hL333 (tf hT198 rfl rfl) (by decide +kernel)).trans (AUp_fI hU200)
      refine st_dup_x1 c84_76 rfl rfl ?_
      refine st_iconst c84_77 ?_
      refine st_iadd c84_78 ?_
      refine st_putI c84_79 hT331 (tf hT331 rfl rfl) fd_2_3 (by omega) (by omega) (Ext_rf _) hS hF332 (by decide +kernel) (fun h351 hT352 hF353 hU354 => ?_)
      refine st_ireturn c84_82 ?_
      have e355 := fI_bd (q := 6) hT352 (tf hT352 rfl rfl) fd_2_3
      have q356 : fI h351 6 3 = (fI h330 6 3) + 1 := FUp_fI hU354 (by omega) (by omega)
      have st357 : Set1 7 h h351 (fI h 6 3) 1 := fun i a => by
        rw [(FUp_aI hU354 i : aI h351 7 i = aI h330 7 i)]
        rw [(Fr_aI hL333 (tf hT198 rfl rfl) (by decide +kernel) i : aI h330 7 i = aI h197 7 i)]
        rw [AUp_aI (j := i) hU200 (by omega) (by omega) (by omega) a]
        all_goals exact if_cg (by omega) (by omega)
      have fo358 : FOi h h330 (fI h 6 3) := by
        rw [show fI h 6 3 = z329 from by omega]
        exact x339
      exact hQ _ _ ⟨fI h330 6 3, rfl, by omega, by omega, Or.inr ⟨by omega, 1, by omega, st357⟩, Or.inr ⟨by omega, by omega, FOi_F fo358 hU354⟩, hT352, hF353⟩
      refine st_aload c84_41 rfl ?_
      refine st_getX (u := 21) c84_42 hT331 (tf hT331 rfl rfl) fd_2_2 rfl ?_
      refine st_iload c84_45 rfl ?_
      refine st_aald2 c84_46 hT331 (tf hT331 rfl rfl) ay_22 rfl (u := 123) rfl (by omega) (fun r359 e361 t362 => ?_)
      refine st_aload c84_47 rfl ?_
      refine st_getI c84_48 hT331 (tf hT331 rfl rfl) fd_2_3 (fun e363 e364 => ?_)
      have q365 : fI h330 6 3 = fI h 6 3 := (Fr_fI hL333 (tf hT198 rfl rfl) (by decide +kernel)).trans (AUp_fI hU200)
      refine st_iconst c84_51 ?_
      refine st_iast c84_52 hT331 t362 ay_123 (by omega) (by omega) (by omega) (Ext_rf _) hS hF332 (by decide +kernel) (fun h366 hT367 hF368 hU369 => ?_)
      refine st_aload c84_53 rfl ?_
      refine st_getX (u := 21) c84_54 hT367 (tf hT367 rfl rfl) fd_2_2 rfl ?_
      refine st_aload c84_57 rfl ?_
      refine st_getI c84_58 hT367 (tf hT367 rfl rfl) fd_2_3 (fun e370 e371 => ?_)
      have q372 : fI h366 6 3 = fI h330 6 3 := AUp_fI hU369
      refine st_aald2 c84_61 hT367 (tf hT367 rfl rfl) ay_22 rfl (u := 123) rfl (by omega) (fun r373 e375 t376 => ?_)
      refine st_iload c84_62 rfl ?_
      refine st_iconst c84_63 ?_
      refine st_iast c84_64 hT367 t376 ay_123 (by omega) (by omega) (by omega) (Ext_rf _) hS hF368 (by decide +kernel) (fun h377 hT378 hF379 hU380 => ?_)
      refine st_iinc (L' := [some (.ref 6), none, some (vI (z329 + 1))]) c84_65 rfl rfl rfl ?_
      refine st_goto c84_68 ?_
      have e381 := fI_bd (q := 6) hT378 (tf hT378 rfl rfl) fd_2_3
      have q382 : fI h377 6 3 = fI h366 6 3 := AUp_fI hU380
      exact ih336 (z329 + 1) h377 (by omega) (by omega) (FOi_step x339 (by omega) (by omega) (by omega) e361 (by omega) hU369 e375 (by omega) hU380) (by omega) hT378 hF379 (AUp_Fr (AUp_Fr hL333 hU369 (fun u hu => by rw [ty_1 hu t362]; decide)) hU380 (fun u hu => by rw [ty_1 hu t376]; decide))
  refine MR_weak (A := [some (.ref 6), none, some (vI 0)]) (Lle_s (Lle_n (Lle_s (Lle_0)))) ?_
  have e383 := fI_bd (q := 6) hT198 (tf hT198 rfl rfl) fd_2_3
  have q384 : fI h197 6 3 = fI h 6 3 := AUp_fI hU200
  exact lp334 ((((11 : Int) - 0 : Int) + 1).toNat) 0 h197 (by omega) (by omega) (FOi_0 pre0.1 hU200) (by omega) hT198 hF199 (Fr_rf _ _ _)
  refine st_iconst c84_9 ?_
  refine st_ireturn c84_11 ?_
  exact hQ _ _ ⟨(-3), rfl, by omega, by omega, Or.inl ⟨by omega, (fun _ => rfl)⟩, Or.inl ⟨rfl, pre0.1, fun _ _ _ _ => rfl⟩, hT, hF⟩
def W88 : List (Nat × Nat) := [(123, 0)]
set_option maxHeartbeats 0 in
theorem K88 {Ln : Nat} {xs : Nat → Int32} {τ : List Nat} {h : List mE} {E : EP} (hT : TH E τ h) (hS : Stb E W88) (p1 : Int) (hp1 : (-2147483648) ≤ p1 ∧ p1 ≤ 2147483647) (p2 : Int) (hp2 : (-2147483648) ≤ p2 ∧ p2 ≤ 2147483647) (p3 : Int) (hp3 : (-2147483648) ≤ p3 ∧ p3 ≤ 1000000) (p4 : Int) (hp4 : 1 ≤ p4 ∧ p4 ≤ 300) (p5 : Int) (hp5 : (-2147483648) ≤ p5 ∧ p5 ≤ 1000000) (d : Nat) (hd : 1 ≤ d) (Q : Option Value → List mE → Prop) (hQ : ∀ v h', (v = none ∧ (PSh h h' p1 p2 p3 p4 p5) ∧ TH E τ h' ∧ Fr τ W88 h h') → Q v h') : MR (mex Ln xs) d 88 0 [some (.ref 6), some (vI p1), some (vI p2), some (vI p3), some (vI p4), some (vI p5), none] [] h Q := by
  have hF := Fr_rf τ W88 h
  refine st_iload c88_0 rfl ?_
  refine st_if_lt c88_1 (by omega) (fun k1 => ?_) (fun k2 => ?_)
  refine st_return c88_25 ?_
  exact hQ _ _ ⟨rfl, Or.inl ⟨rfl, by omega⟩, hT, hF⟩
  refine st_iload c88_4 rfl ?_
  refine st_if_lt c88_6 (by omega) (fun k3 => ?_) (fun k4 => ?_)
  refine st_return c88_25 ?_
  exact hQ _ _ ⟨rfl, Or.inl ⟨rfl, by omega⟩, hT, hF⟩
  refine st_aload c88_9 rfl ?_
  refine st_iload c88_10 rfl ?_
  have e5 := fI_bd (q := 6) hT (tf hT rfl rfl) fd_2_3
  refine st_callt (as := [vI p1]) c88_11 cm_85 hT (tf hT rfl rfl) fd_2_0 rfl rfl rfl rfl (by omega) (K85 hT p1 (by omega) (d - 1) (by omega) _ (fun v h0 H => H)) (fun v1 h1 H => ?_)
  rcases H with ⟨rfl, pf6, rfl⟩ | ⟨rfl, pf7, pf8, rfl⟩
  refine st_if_eq c88_14 (by omega) (fun k9 => ?_) (fun k10 => False.elim (by omega))
  refine st_return c88_25 ?_
  exact hQ _ _ ⟨rfl, Or.inl ⟨rfl, by omega⟩, hT, hF⟩
  refine st_if_eq c88_14 (by omega) (fun k11 => False.elim (by omega)) (fun k12 => ?_)
  refine st_aload c88_17 rfl ?_
  refine st_iload c88_18 rfl ?_
  refine st_callt (as := [vI p2]) c88_19 cm_85 hT (tf hT rfl rfl) fd_2_0 rfl rfl rfl rfl (by omega) (K85 hT p2 (by omega) (d - 1) (by omega) _ (fun v h0 H => H)) (fun v1 h1 H => ?_)
  rcases H with ⟨rfl, pf13, rfl⟩ | ⟨rfl, pf14, pf15, rfl⟩
  refine st_if_ne c88_22 (by omega) (fun k16 => False.elim (by omega)) (fun k17 => ?_)
  refine st_return c88_25 ?_
  exact hQ _ _ ⟨rfl, Or.inl ⟨rfl, by omega⟩, hT, hF⟩
  refine st_if_ne c88_22 (by omega) (fun k18 => ?_) (fun k19 => False.elim (by omega))
  refine st_iload c88_26 rfl ?_
  refine st_iload c88_27 rfl ?_
  refine st_iadd c88_29 ?_
  refine st_iload c88_30 rfl ?_
  refine st_iadd c88_32 ?_
  refine st_istore (L' := [some (.ref 6), some (vI p1), some (vI p2), some (vI p3), some (vI p4), some (vI p5), some (vI ((p3 + p4) + p5))]) c88_33 rfl rfl ?_
  refine st_aload c88_35 rfl ?_
  refine st_getX (u := 21) c88_36 hT (tf hT rfl rfl) fd_2_2 rfl ?_
  refine st_iload c88_39 rfl ?_
  refine st_aald2 c88_40 hT (tf hT rfl rfl) ay_22 rfl (u := 123) rfl (by omega) (fun r20 e22 t23 => ?_)
  refine st_iload c88_41 rfl ?_
  refine st_iald c88_42 hT t23 ay_123 (by omega) (fun e24 e25 => ?_)
  refine st_if_lt c88_43 (by omega) (fun k26 => ?_) (fun k27 => ?_)
  refine st_aload c88_59 rfl ?_
  refine st_getX (u := 21) c88_60 hT (tf hT rfl rfl) fd_2_2 rfl ?_
  refine st_iload c88_63 rfl ?_
  refine st_aaldr c88_64 hT (tf hT rfl rfl) ay_22 rfl (by omega) e22 ?_
  refine st_iload c88_65 rfl ?_
  refine st_iload c88_66 rfl ?_
  refine st_iast c88_68 hT t23 ay_123 (by omega) (by omega) (by omega) (Ext_rf _) hS hF (by decide +kernel) (fun h28 hT29 hF30 hU31 => ?_)
  refine st_return c88_69 ?_
  exact hQ _ _ ⟨rfl, Or.inr ⟨r20, e22, by omega, by omega, Or.inr ⟨by omega, _, by omega, hU31⟩⟩, hT29, hF30⟩
  refine st_iload c88_46 rfl ?_
  refine st_aload c88_48 rfl ?_
  refine st_getX (u := 21) c88_49 hT (tf hT rfl rfl) fd_2_2 rfl ?_
  refine st_iload c88_52 rfl ?_
  refine st_aaldr c88_53 hT (tf hT rfl rfl) ay_22 rfl (by omega) e22 ?_
  refine st_iload c88_54 rfl ?_
  refine st_iald c88_55 hT t23 ay_123 (by omega) (fun e32 e33 => ?_)
  refine st_icmp_ge c88_56 (by omega) (by omega) (fun k34 => ?_) (fun k35 => ?_)
  refine st_return c88_69 ?_
  exact hQ _ _ ⟨rfl, Or.inr ⟨r20, e22, by omega, by omega, Or.inl ⟨by omega, by omega, rfl⟩⟩, hT, hF⟩
  refine st_aload c88_59 rfl ?_
  refine st_getX (u := 21) c88_60 hT (tf hT rfl rfl) fd_2_2 rfl ?_
  refine st_iload c88_63 rfl ?_
  refine st_aaldr c88_64 hT (tf hT rfl rfl) ay_22 rfl (by omega) e22 ?_
  refine st_iload c88_65 rfl ?_
  refine st_iload c88_66 rfl ?_
  refine st_iast c88_68 hT t23 ay_123 (by omega) (by omega) (by omega) (Ext_rf _) hS hF (by decide +kernel) (fun h36 hT37 hF38 hU39 => ?_)
  refine st_return c88_69 ?_
  exact hQ _ _ ⟨rfl, Or.inr ⟨r20, e22, by omega, by omega, Or.inr ⟨by omega, _, by omega, hU39⟩⟩, hT37, hF38⟩
def W87 : List (Nat × Nat) := [(122, 0), (123, 0)]
set_option maxHeartbeats 0 in
theorem K87 {Ln : Nat} {xs : Nat → Int32} {τ : List Nat} {h : List mE} {E : EP} (hT : TH E τ h) (hS : Stb E W87) (p1 : Int) (hp1 : (-2147483648) ≤ p1 ∧ p1 ≤ 2147483647) (p2 : Int) (hp2 : (-2147483648) ≤ p2 ∧ p2 ≤ 2147483647) (p3 : Int) (hp3 : 1 ≤ p3 ∧ p3 ≤ 300) (pre0 : ID h) (d : Nat) (hd : 2 ≤ d) (Q : Option Value → List mE → Prop) (hQ : ∀ v h', (∃ z : Int, v = some (vI z) ∧ ((-1) ≤ z ∧ z ≤ 300) ∧ (PLay τ h h' p1 p2 p3 z) ∧ TH E τ h' ∧ Fr τ W87 h h') → Q v h') : MR (mex Ln xs) d 87 0 [some (.ref 6), some (vI p1), some (vI p2), some (vI p3), none, none] [] h Q := by
  have hF := Fr_rf τ W87 h
  refine st_aload c87_0 rfl ?_
  refine st_iload c87_1 rfl ?_
  have e1 := fI_bd (q := 6) hT (tf hT rfl rfl) fd_2_3
  refine st_callt (as := [vI p1]) c87_2 cm_85 hT (tf hT rfl rfl) fd_2_0 rfl rfl rfl rfl (by omega) (K85 hT p1 (by omega) (d - 1) (by omega) _ (fun v h0 H => H)) (fun v1 h1 H => ?_)
  rcases H with ⟨rfl, pf2, rfl⟩ | ⟨rfl, pf3, pf4, rfl⟩
  refine st_if_eq c87_5 (by omega) (fun k5 => ?_) (fun k6 => False.elim (by omega))
  refine st_iconst c87_16 ?_
  refine st_ireturn c87_17 ?_
  exact hQ _ _ ⟨(-1), rfl, by omega, Or.inl ⟨by omega, by omega, rfl⟩, hT, hF⟩
  refine st_if_eq c87_5 (by omega) (fun k7 => False.elim (by omega)) (fun k8 => ?_)
  refine st_aload c87_8 rfl ?_
  refine st_iload c87_9 rfl ?_
  refine st_callt (as := [vI p2]) c87_10 cm_85 hT (tf hT rfl rfl) fd_2_0 rfl rfl rfl rfl (by omega) (K85 hT p2 (by omega) (d - 1) (by omega) _ (fun v h0 H => H)) (fun v1 h1 H => ?_)
  rcases H with ⟨rfl, pf9, rfl⟩ | ⟨rfl, pf10, pf11, rfl⟩
  refine st_if_ne c87_13 (by omega) (fun k12 => False.elim (by omega)) (fun k13 => ?_)
  refine st_iconst c87_16 ?_
  refine st_ireturn c87_17 ?_
  exact hQ _ _ ⟨(-1), rfl, by omega, Or.inl ⟨by omega, by omega, rfl⟩, hT, hF⟩
  refine st_if_ne c87_13 (by omega) (fun k14 => ?_) (fun k15 => False.elim (by omega))
  refine st_aload c87_18 rfl ?_
  refine st_getX (u := 8) c87_19 hT (tf hT rfl rfl) fd_2_1 rfl ?_
  refine st_iload c87_22 rfl ?_
  refine st_aald2 c87_23 hT (tf hT rfl rfl) ay_21 rfl (u := 122) rfl (by omega) (fun r16 e18 t19 => ?_)
  refine st_iload c87_24 rfl ?_
  refine st_iald c87_25 hT t19 ay_122 (by omega) (fun e20 e21 => ?_)
  refine st_if_eq c87_26 (by omega) (fun k22 => ?_) (fun k23 => ?_)
  refine st_aload c87_41 rfl ?_
  refine st_getX (u := 8) c87_42 hT (tf hT rfl rfl) fd_2_1 rfl ?_
  refine st_iload c87_45 rfl ?_
  refine st_aaldr c87_46 hT (tf hT rfl rfl) ay_21 rfl (by omega) e18 ?_
  refine st_iload c87_47 rfl ?_
  refine st_iload c87_48 rfl ?_
  refine st_iast c87_49 hT t19 ay_122 (by omega) (by omega) (by omega) (Ext_rf _) hS hF (by decide +kernel) (fun h24 hT25 hF26 hU27 => ?_)
  refine st_aload c87_50 rfl ?_
  refine st_getX (u := 8) c87_51 hT25 (tf hT25 rfl rfl) fd_2_1 rfl ?_
  refine st_iload c87_54 rfl ?_
  refine st_aald2 c87_55 hT25 (tf hT25 rfl rfl) ay_21 rfl (u := 122) rfl (by omega) (fun r28 e30 t31 => ?_)
  refine st_iload c87_56 rfl ?_
  refine st_iload c87_57 rfl ?_
  refine st_iast c87_58 hT25 t31 ay_122 (by omega) (by omega) (by omega) (Ext_rf _) hS hF26 (by decide +kernel) (fun h32 hT33 hF34 hU35 => ?_)
  refine st_iconst c87_59 ?_
  refine st_istore (L' := [some (.ref 6), some (vI p1), some (vI p2), some (vI p3), some (vI 0), none]) c87_60 rfl rfl ?_
  have lp1077 : ∀ (n1078 : Nat) (z1072 : Int) (h1073 : List mE), (12 : Int) - z1072 < (n1078 : Int) → 0 ≤ z1072 ∧ z1072 ≤ 12 → LIv h h1073 p1 p2 p3 z1072 0 → TH E τ h1073 → Fr τ W87 h h1073 → Fr τ [(123, 0)] h32 h1073 → MR (mex Ln xs) d 87 62 [some (.ref 6), some (vI p1), some (vI p2), some (vI p3), some (vI z1072), none] [] h1073 Q := by
    intro n1078
    induction n1078 with
    | zero =>
      intro z1072 h1073 hm1080 b1081 x1082 hT1074 hF1075 hL1076
      exfalso; omega
    | succ n1078 ih1079 =>
      intro z1072 h1073 hm1080 b1081 x1082 hT1074 hF1075 hL1076
      refine st_iload c87_62 rfl ?_
      refine st_aload c87_64 rfl ?_
      refine st_getI c87_65 hT1074 (tf hT1074 rfl rfl) fd_2_3 (fun e1083 e1084 => ?_)
      have q1085 : fI h1073 6 3 = fI h 6 3 := (Fr_fI hL1076 (tf hT33 rfl rfl) (by decide +kernel)).trans ((AUp_fI hU35).trans (AUp_fI hU27))
      refine st_icmp_ge c87_68 (by omega) (by omega) (fun k1086 => ?_) (fun k1087 => ?_)
      refine st_aload c87_149 rfl ?_
      refine st_getX (u := 8) c87_150 hT1074 (tf hT1074 rfl rfl) fd_2_1 rfl ?_
      refine st_iload c87_153 rfl ?_
      refine st_aaldr c87_154 hT1074 (tf hT1074 rfl rfl) ay_21 rfl (by omega) ((Fr_aR hL1076 (tf hT1074 rfl rfl) (by decide +kernel) p1).trans ((AUp_aR hU35 p1).trans ((AUp_aR hU27 p1).trans (e18)))) ?_
      refine st_iload c87_155 rfl ?_
      refine st_iald c87_156 hT1074 t19 ay_122 (by omega) (fun e1088 e1089 => ?_)
      have q1090 : aI h1073 r16 p2 = aI h32 r16 p2 := Fr_aI hL1076 t19 (by decide +kernel) p2
      refine st_ireturn c87_157 ?_
      have lv1091 := lay_val hU27 hU35 hL1076 t19 (by omega) (by omega) (by omega)
      exact hQ _ _ ⟨aI h1073 r16 p2, rfl, by omega, Or.inr ⟨by omega, by omega, by omega, by omega, r16, r28, e18, (AUp_aR hU27 _).symm.trans e30, Or.inr ⟨by omega, by omega, h24, h32, hU27, hU35, hL1076, LIv_end x1082 (by omega)⟩⟩, hT1074, hF1075⟩
      refine st_iconst c87_71 ?_
      refine st_istore (L' := [some (.ref 6), some (vI p1), some (vI p2), some (vI p3), some (vI z1072), some (vI 0)]) c87_72 rfl rfl ?_
      have lp1293 : ∀ (n1294 : Nat) (z1288 : Int) (h1289 : List mE), (12 : Int) - z1288 < (n1294 : Int) → 0 ≤ z1288 ∧ z1288 ≤ 12 → LIv h h1289 p1 p2 p3 z1072 z1288 → TH E τ h1289 → Fr τ W87 h h1289 → Fr τ [(123, 0)] h1073 h1289 → MR (mex Ln xs) d 87 74 [some (.ref 6), some (vI p1), some (vI p2), some (vI p3), some (vI z1072), some (vI z1288)] [] h1289 Q := by
        intro n1294
        induction n1294 with
        | zero =>
          intro z1288 h1289 hm1296 b1297 x1298 hT1290 hF1291 hL1292
          exfalso; omega
        | succ n1294 ih1295 =>
          intro z1288 h1289 hm1296 b1297 x1298 hT1290 hF1291 hL1292
          refine st_iload c87_74 rfl ?_
          refine st_aload c87_76 rfl ?_
          refine st_getI c87_77 hT1290 (tf hT1290 rfl rfl) fd_2_3 (fun e1299 e1300 => ?_)
          have q1301 : fI h1289 6 3 = fI h1073 6 3 := Fr_fI hL1292 (tf hT1074 rfl rfl) (by decide +kernel)
          refine st_icmp_ge c87_80 (by omega) (by omega) (fun k1302 => ?_) (fun k1303 => ?_)
          refine st_iinc (L' := [some (.ref 6), some (vI p1), some (vI p2), some (vI p3), some (vI (z1072 + 1)), some (vI z1288)]) c87_143 rfl rfl rfl ?_
          refine st_goto c87_146 ?_
          refine MR_weak (A := [some (.ref 6), some (vI p1), some (vI p2), some (vI p3), some (vI (z1072 + 1)), none]) (Lle_s (Lle_s (Lle_s (Lle_s (Lle_s (Lle_n (Lle_0))))))) ?_
          exact ih1079 (z1072 + 1) h1289 (by omega) (by omega) (LIv_row x1298 (by omega)) hT1290 hF1291 (Fr_cp hL1076 hL1292 (by decide +kernel))
          refine st_aload c87_83 rfl ?_
          refine st_iload c87_84 rfl ?_
          refine st_iload c87_86 rfl ?_
          refine st_aload c87_88 rfl ?_
          refine st_getX (u := 21) c87_89 hT1290 (tf hT1290 rfl rfl) fd_2_2 rfl ?_
          refine st_iload c87_92 rfl ?_
          refine st_aald2 c87_94 hT1290 (tf hT1290 rfl rfl) ay_22 rfl (u := 123) rfl (by omega) (fun r1304 e1306 t1307 => ?_)
          refine st_iload c87_95 rfl ?_
          refine st_iald c87_96 hT1290 t1307 ay_123 (by omega) (fun e1308 e1309 => ?_)
          refine st_iload c87_97 rfl ?_
          refine st_aload c87_98 rfl ?_
          refine st_getX (u := 21) c87_99 hT1290 (tf hT1290 rfl rfl) fd_2_2 rfl ?_
          refine st_iload c87_102 rfl ?_
          refine st_aald2 c87_103 hT1290 (tf hT1290 rfl rfl) ay_22 rfl (u := 123) rfl (by omega) (fun r1310 e1312 t1313 => ?_)
          refine st_iload c87_104 rfl ?_
          refine st_iald c87_106 hT1290 t1313 ay_123 (by omega) (fun e1314 e1315 => ?_)
          obtain ⟨rq1316, rb1317⟩ := LIv_bd (y := p1) x1298 (by omega) (by omega) (by omega) (by omega) e1306
          obtain ⟨rq1318, rb1319⟩ := LIv_bd (y := z1288) x1298 (by omega) (by omega) (by omega) (by omega) e1312
          refine st_callt (as := [vI z1072, vI z1288, vI (aI h1289 r1304 p1), vI p3, vI (aI h1289 r1310 z1288)]) c87_107 cm_88 hT1290 (tf hT1290 rfl rfl) fd_2_0 rfl rfl rfl rfl (by omega) (K88 hT1290 (Stb_mono hS (by decide +kernel)) z1072 (by omega) z1288 (by omega) (aI h1289 r1304 p1) (by omega) p3 (by omega) (aI h1289 r1310 z1288) (by omega) (d - 1) (by omega) _ (fun v h0 H => H)) (fun v1 h1320 H => ?_)
          obtain ⟨rfl, pf1323, hT1321, hF1322⟩ := H
          have hF1324 := Fr_cp hF1291 hF1322 (by decide +kernel : Wsub W88 W87 = true)
          refine st_aload c87_110 rfl ?_
          refine st_iload c87_111 rfl ?_
          refine st_iload c87_113 rfl ?_
          refine st_aload c87_115 rfl ?_
          refine st_getX (u := 21) c87_116 hT1321 (tf hT1321 rfl rfl) fd_2_2 rfl ?_
          refine st_iload c87_119 rfl ?_
          refine st_aaldr c87_121 hT1321 (tf hT1321 rfl rfl) ay_22 rfl (by omega) ((Fr_aR hF1322 (tf hT1321 rfl rfl) (by decide +kernel) z1072).trans (e1306)) ?_
          refine st_iload c87_122 rfl ?_
          refine st_iald c87_123 hT1321 t1307 ay_123 (by omega) (fun e1325 e1326 => ?_)
          refine st_iload c87_124 rfl ?_
          refine st_aload c87_125 rfl ?_
          refine st_getX (u := 21) c87_126 hT1321 (tf hT1321 rfl rfl) fd_2_2 rfl ?_
          refine st_iload c87_129 rfl ?_
          refine st_aald2 c87_130 hT1321 (tf hT1321 rfl rfl) ay_22 rfl (u := 123) rfl (by omega) (fun r1327 e1329 t1330 => ?_)
          refine st_iload c87_131 rfl ?_
          refine st_iald c87_133 hT1321 t1330 ay_123 (by omega) (fun e1331 e1332 => ?_)
          obtain ⟨rw1333, lm1334⟩ := LIv_mid hT pre0 x1298 (by omega) (by omega) (by omega) (by omega) (by omega) (by omega) (by omega) (by omega) (by omega) (by omega) (by rw [← rq1316]) (by rw [← rq1318]) pf1323
          have rb1335 := lm1334 z1072 p2 (by omega) (by omega) (by omega) (by omega)
          rw [← rq1316] at rb1335
          have rq1336 : r1327 = 22 + (p1 : Int).toNat := Option.some.inj (e1329.symm.trans (rw1333 p1 (by omega) (by omega)))
          have rb1337 := lm1334 p1 z1288 (by omega) (by omega) (by omega) (by omega)
          rw [← rq1336] at rb1337
          refine st_callt (as := [vI z1072, vI z1288, vI (aI h1320 r1304 p2), vI p3, vI (aI h1320 r1327 z1288)]) c87_134 cm_88 hT1321 (tf hT1321 rfl rfl) fd_2_0 rfl rfl rfl rfl (by omega) (K88 hT1321 (Stb_mono hS (by decide +kernel)) z1072 (by omega) z1288 (by omega) (aI h1320 r1304 p2) (by omega) p3 (by omega) (aI h1320 r1327 z1288) (by omega) (d - 1) (by omega) _ (fun v h0 H => H)) (fun v1 h1338 H => ?_)
          obtain ⟨rfl, pf1341, hT1339, hF1340⟩ := H
          have hF1342 := Fr_cp hF1324 hF1340 (by decide +kernel : Wsub W88 W87 = true)
          refine st_iinc (L' := [some (.ref 6), some (vI p1), some (vI p2), some (vI p3), some (vI z1072), some (vI (z1288 + 1))]) c87_137 rfl rfl rfl ?_
          refine st_goto c87_140 ?_
          exact ih1295 (z1288 + 1) h1338 (by omega) (by omega) (LIv_step hT pre0 x1298 (by omega) (by omega) (by omega) (by omega) (by omega) (by omega) (by omega) (by omega) (by omega) (by omega) (by rw [← rq1316]) (by rw [← rq1318]) pf1323 (by rw [← rq1316]) (by rw [← rq1336]) pf1341) hT1339 hF1342 (Fr_cp (Fr_cp hL1292 hF1322 (by decide +kernel)) hF1340 (by decide +kernel))
      exact lp1293 ((((12 : Int) - 0 : Int) + 1).toNat) 0 h1073 (by omega) (by omega) x1082 hT1074 hF1075 (Fr_rf _ _ _)
  exact lp1077 ((((12 : Int) - 0 : Int) + 1).toNat) 0 h32 (by omega) (by omega) (LIv_0 hT pre0 t19 t31 hU27 hU35) hT33 hF34 (Fr_rf _ _ _)
  refine st_iload c87_29 rfl ?_
  refine st_aload c87_30 rfl ?_
  refine st_getX (u := 8) c87_31 hT (tf hT rfl rfl) fd_2_1 rfl ?_
  refine st_iload c87_34 rfl ?_
  refine st_aaldr c87_35 hT (tf hT rfl rfl) ay_21 rfl (by omega) e18 ?_
  refine st_iload c87_36 rfl ?_
  refine st_iald c87_37 hT t19 ay_122 (by omega) (fun e1343 e1344 => ?_)
  refine st_icmp_ge c87_38 (by omega) (by omega) (fun k1345 => ?_) (fun k1346 => ?_)
  refine st_aload c87_149 rfl ?_
  refine st_getX (u := 8) c87_150 hT (tf hT rfl rfl) fd_2_1 rfl ?_
  refine st_iload c87_153 rfl ?_
  refine st_aaldr c87_154 hT (tf hT rfl rfl) ay_21 rfl (by omega) e18 ?_
  refine st_iload c87_155 rfl ?_
  refine st_iald c87_156 hT t19 ay_122 (by omega) (fun e1347 e1348 => ?_)
  refine st_ireturn c87_157 ?_
  obtain ⟨rb, rb1349⟩ := aR_some hT (tf (q := 8) (t := 21) hT rfl rfl) ay_21 (i := p2) (by omega)
  exact hQ _ _ ⟨aI h r16 p2, rfl, by omega, Or.inr ⟨by omega, by omega, by omega, by omega, r16, rb, e18, rb1349, Or.inl ⟨by omega, by omega, by omega, rfl⟩⟩, hT, hF⟩
  refine st_aload c87_41 rfl ?_
  refine st_getX (u := 8) c87_42 hT (tf hT rfl rfl) fd_2_1 rfl ?_
  refine st_iload c87_45 rfl ?_
  refine st_aaldr c87_46 hT (tf hT rfl rfl) ay_21 rfl (by omega) e18 ?_
  refine st_iload c87_47 rfl ?_
  refine st_iload c87_48 rfl ?_
  refine st_iast c87_49 hT t19 ay_122 (by omega) (by omega) (by omega) (Ext_rf _) hS hF (by decide +kernel) (fun h1350 hT1351 hF1352 hU1353 => ?_)
  refine st_aload c87_50 rfl ?_
  refine st_getX (u := 8) c87_51 hT1351 (tf hT1351 rfl rfl) fd_2_1 rfl ?_
  refine st_iload c87_54 rfl ?_
  refine st_aald2 c87_55 hT1351 (tf hT1351 rfl rfl) ay_21 rfl (u := 122) rfl (by omega) (fun r1354 e1356 t1357 => ?_)
  refine st_iload c87_56 rfl ?_
  refine st_iload c87_57 rfl ?_
  refine st_iast c87_58 hT1351 t1357 ay_122 (by omega) (by omega) (by omega) (Ext_rf _) hS hF1352 (by decide +kernel) (fun h1358 hT1359 hF1360 hU1361 => ?_)
  refine st_iconst c87_59 ?_
  refine st_istore (L' := [some (.ref 6), some (vI p1), some (vI p2), some (vI p3), some (vI 0), none]) c87_60 rfl rfl ?_
  have lp2403 : ∀ (n2404 : Nat) (z2398 : Int) (h2399 : List mE), (12 : Int) - z2398 < (n2404 : Int) → 0 ≤ z2398 ∧ z2398 ≤ 12 → LIv h h2399 p1 p2 p3 z2398 0 → TH E τ h2399 → Fr τ W87 h h2399 → Fr τ [(123, 0)] h1358 h2399 → MR (mex Ln xs) d 87 62 [some (.ref 6), some (vI p1), some (vI p2), some (vI p3), some (vI z2398), none] [] h2399 Q := by
    intro n2404
    induction n2404 with
    | zero =>
      intro z2398 h2399 hm2406 b2407 x2408 hT2400 hF2401 hL2402
      exfalso; omega
    | succ n2404 ih2405 =>
      intro z2398 h2399 hm2406 b2407 x2408 hT2400 hF2401 hL2402
      refine st_iload c87_62 rfl ?_
      refine st_aload c87_64 rfl ?_
      refine st_getI c87_65 hT2400 (tf hT2400 rfl rfl) fd_2_3 (fun e2409 e2410 => ?_)
      have q2411 : fI h2399 6 3 = fI h 6 3 := (Fr_fI hL2402 (tf hT1359 rfl rfl) (by decide +kernel)).trans ((AUp_fI hU1361).trans (AUp_fI hU1353))
      refine st_icmp_ge c87_68 (by omega) (by omega) (fun k2412 => ?_) (fun k2413 => ?_)
      refine st_aload c87_149 rfl ?_
      refine st_getX (u := 8) c87_150 hT2400 (tf hT2400 rfl rfl) fd_2_1 rfl ?_
      refine st_iload c87_153 rfl ?_
      refine st_aaldr c87_154 hT2400 (tf hT2400 rfl rfl) ay_21 rfl (by omega) ((Fr_aR hL2402 (tf hT2400 rfl rfl) (by decide +kernel) p1).trans ((AUp_aR hU1361 p1).trans ((AUp_aR hU1353 p1).trans (e18)))) ?_
      refine st_iload c87_155 rfl ?_
      refine st_iald c87_156 hT2400 t19 ay_122 (by omega) (fun e2414 e2415 => ?_)
      have q2416 : aI h2399 r16 p2 = aI h1358 r16 p2 := Fr_aI hL2402 t19 (by decide +kernel) p2
      refine st_ireturn c87_157 ?_
      have lv2417 := lay_val hU1353 hU1361 hL2402 t19 (by omega) (by omega) (by omega)
      exact hQ _ _ ⟨aI h2399 r16 p2, rfl, by omega, Or.inr ⟨by omega, by omega, by omega, by omega, r16, r1354, e18, (AUp_aR hU1353 _).symm.trans e1356, Or.inr ⟨by omega, by omega, h1350, h1358, hU1353, hU1361, hL2402, LIv_end x2408 (by omega)⟩⟩, hT2400, hF2401⟩
      refine st_iconst c87_71 ?_
      refine st_istore (L' := [some (.ref 6), some (vI p1), some (vI p2), some (vI p3), some (vI z2398), some (vI 0)]) c87_72 rfl rfl ?_
      have lp2619 : ∀ (n2620 : Nat) (z2614 : Int) (h2615 : List mE), (12 : Int) - z2614 < (n2620 : Int) → 0 ≤ z2614 ∧ z2614 ≤ 12 → LIv h h2615 p1 p2 p3 z2398 z2614 → TH E τ h2615 → Fr τ W87 h h2615 → Fr τ [(123, 0)] h2399 h2615 → MR (mex Ln xs) d 87 74 [some (.ref 6), some (vI p1), some (vI p2), some (vI p3), some (vI z2398), some (vI z2614)] [] h2615 Q := by
        intro n2620
        induction n2620 with
        | zero =>
          intro z2614 h2615 hm2622 b2623 x2624 hT2616 hF2617 hL2618
          exfalso; omega
        | succ n2620 ih2621 =>
          intro z2614 h2615 hm2622 b2623 x2624 hT2616 hF2617 hL2618
          refine st_iload c87_74 rfl ?_
          refine st_aload c87_76 rfl ?_
          refine st_getI c87_77 hT2616 (tf hT2616 rfl rfl) fd_2_3 (fun e2625 e2626 => ?_)
          have q2627 : fI h2615 6 3 = fI h2399 6 3 := Fr_fI hL2618 (tf hT2400 rfl rfl) (by decide +kernel)
          refine st_icmp_ge c87_80 (by omega) (by omega) (fun k2628 => ?_) (fun k2629 => ?_)
          refine st_iinc (L' := [some (.ref 6), some (vI p1), some (vI p2), some (vI p3), some (vI (z2398 + 1)), some (vI z2614)]) c87_143 rfl rfl rfl ?_
          refine st_goto c87_146 ?_
          refine MR_weak (A := [some (.ref 6), some (vI p1), some (vI p2), some (vI p3), some (vI (z2398 + 1)), none]) (Lle_s (Lle_s (Lle_s (Lle_s (Lle_s (Lle_n (Lle_0))))))) ?_
          exact ih2405 (z2398 + 1) h2615 (by omega) (by omega) (LIv_row x2624 (by omega)) hT2616 hF2617 (Fr_cp hL2402 hL2618 (by decide +kernel))
          refine st_aload c87_83 rfl ?_
          refine st_iload c87_84 rfl ?_
          refine st_iload c87_86 rfl ?_
          refine st_aload c87_88 rfl ?_
          refine st_getX (u := 21) c87_89 hT2616 (tf hT2616 rfl rfl) fd_2_2 rfl ?_
          refine st_iload c87_92 rfl ?_
          refine st_aald2 c87_94 hT2616 (tf hT2616 rfl rfl) ay_22 rfl (u := 123) rfl (by omega) (fun r2630 e2632 t2633 => ?_)
          refine st_iload c87_95 rfl ?_
          refine st_iald c87_96 hT2616 t2633 ay_123 (by omega) (fun e2634 e2635 => ?_)
          refine st_iload c87_97 rfl ?_
          refine st_aload c87_98 rfl ?_
          refine st_getX (u := 21) c87_99 hT2616 (tf hT2616 rfl rfl) fd_2_2 rfl ?_
          refine st_iload c87_102 rfl ?_
          refine st_aald2 c87_103 hT2616 (tf hT2616 rfl rfl) ay_22 rfl (u := 123) rfl (by omega) (fun r2636 e2638 t2639 => ?_)
          refine st_iload c87_104 rfl ?_
          refine st_iald c87_106 hT2616 t2639 ay_123 (by omega) (fun e2640 e2641 => ?_)
          obtain ⟨rq2642, rb2643⟩ := LIv_bd (y := p1) x2624 (by omega) (by omega) (by omega) (by omega) e2632
          obtain ⟨rq2644, rb2645⟩ := LIv_bd (y := z2614) x2624 (by omega) (by omega) (by omega) (by omega) e2638
          refine st_callt (as := [vI z2398, vI z2614, vI (aI h2615 r2630 p1), vI p3, vI (aI h2615 r2636 z2614)]) c87_107 cm_88 hT2616 (tf hT2616 rfl rfl) fd_2_0 rfl rfl rfl rfl (by omega) (K88 hT2616 (Stb_mono hS (by decide +kernel)) z2398 (by omega) z2614 (by omega) (aI h2615 r2630 p1) (by omega) p3 (by omega) (aI h2615 r2636 z2614) (by omega) (d - 1) (by omega) _ (fun v h0 H => H)) (fun v1 h2646 H => ?_)
          obtain ⟨rfl, pf2649, hT2647, hF2648⟩ := H
          have hF2650 := Fr_cp hF2617 hF2648 (by decide +kernel : Wsub W88 W87 = true)
          refine st_aload c87_110 rfl ?_
          refine st_iload c87_111 rfl ?_
          refine st_iload c87_113 rfl ?_
          refine st_aload c87_115 rfl ?_
          refine st_getX (u := 21) c87_116 hT2647 (tf hT2647 rfl rfl) fd_2_2 rfl ?_
          refine st_iload c87_119 rfl ?_
          refine st_aaldr c87_121 hT2647 (tf hT2647 rfl rfl) ay_22 rfl (by omega) ((Fr_aR hF2648 (tf hT2647 rfl rfl) (by decide +kernel) z2398).trans (e2632)) ?_
          refine st_iload c87_122 rfl ?_
          refine st_iald c87_123 hT2647 t2633 ay_123 (by omega) (fun e2651 e2652 => ?_)
          refine st_iload c87_124 rfl ?_
          refine st_aload c87_125 rfl ?_
          refine st_getX (u := 21) c87_126 hT2647 (tf hT2647 rfl rfl) fd_2_2 rfl ?_
          refine st_iload c87_129 rfl ?_
          refine st_aald2 c87_130 hT2647 (tf hT2647 rfl rfl) ay_22 rfl (u := 123) rfl (by omega) (fun r2653 e2655 t2656 => ?_)
          refine st_iload c87_131 rfl ?_
          refine st_iald c87_133 hT2647 t2656 ay_123 (by omega) (fun e2657 e2658 => ?_)
          obtain ⟨rw2659, lm2660⟩ := LIv_mid hT pre0 x2624 (by omega) (by omega) (by omega) (by omega) (by omega) (by omega) (by omega) (by omega) (by omega) (by omega) (by rw [← rq2642]) (by rw [← rq2644]) pf2649
          have rb2661 := lm2660 z2398 p2 (by omega) (by omega) (by omega) (by omega)
          rw [← rq2642] at rb2661
          have rq2662 : r2653 = 22 + (p1 : Int).toNat := Option.some.inj (e2655.symm.trans (rw2659 p1 (by omega) (by omega)))
          have rb2663 := lm2660 p1 z2614 (by omega) (by omega) (by omega) (by omega)
          rw [← rq2662] at rb2663
          refine st_callt (as := [vI z2398, vI z2614, vI (aI h2646 r2630 p2), vI p3, vI (aI h2646 r2653 z2614)]) c87_134 cm_88 hT2647 (tf hT2647 rfl rfl) fd_2_0 rfl rfl rfl rfl (by omega) (K88 hT2647 (Stb_mono hS (by decide +kernel)) z2398 (by omega) z2614 (by omega) (aI h2646 r2630 p2) (by omega) p3 (by omega) (aI h2646 r2653 z2614) (by omega) (d - 1) (by omega) _ (fun v h0 H => H)) (fun v1 h2664 H => ?_)
          obtain ⟨rfl, pf2667, hT2665, hF2666⟩ := H
          have hF2668 := Fr_cp hF2650 hF2666 (by decide +kernel : Wsub W88 W87 = true)
          refine st_iinc (L' := [some (.ref 6), some (vI p1), some (vI p2), some (vI p3), some (vI z2398), some (vI (z2614 + 1))]) c87_137 rfl rfl rfl ?_
          refine st_goto c87_140 ?_
          exact ih2621 (z2614 + 1) h2664 (by omega) (by omega) (LIv_step hT pre0 x2624 (by omega) (by omega) (by omega) (by omega) (by omega) (by omega) (by omega) (by omega) (by omega) (by omega) (by rw [← rq2642]) (by rw [← rq2644]) pf2649 (by rw [← rq2642]) (by rw [← rq2662]) pf2667) hT2665 hF2668 (Fr_cp (Fr_cp hL2618 hF2648 (by decide +kernel)) hF2666 (by decide +kernel))
      exact lp2619 ((((12 : Int) - 0 : Int) + 1).toNat) 0 h2399 (by omega) (by omega) x2408 hT2400 hF2401 (Fr_rf _ _ _)
  exact lp2403 ((((12 : Int) - 0 : Int) + 1).toNat) 0 h1358 (by omega) (by omega) (LIv_0 hT pre0 t19 t1357 hU1353 hU1361) hT1359 hF1360 (Fr_rf _ _ _)
set_option maxHeartbeats 0 in
theorem K89 {Ln : Nat} {xs : Nat → Int32} {τ : List Nat} {h : List mE} {E : EP} (hT : TH E τ h) (p1 : Int) (hp1 : (-2147483648) ≤ p1 ∧ p1 ≤ 2147483647) (p2 : Int) (hp2 : (-2147483648) ≤ p2 ∧ p2 ≤ 2147483647) (d : Nat) (hd : 1 ≤ d) (Q : Option Value → List mE → Prop) (hQ : ∀ v h', (∃ z : Int, v = some (vI z) ∧ ((-2147483648) ≤ z ∧ z ≤ 2147483647) ∧ (PWay h p1 p2 z) ∧ h = h') → Q v h') : MR (mex Ln xs) d 89 0 [some (.ref 6), some (vI p1), some (vI p2)] [] h Q := by
  refine st_aload c89_0 rfl ?_
  refine st_iload c89_1 rfl ?_
  have e1 := fI_bd (q := 6) hT (tf hT rfl rfl) fd_2_3
  refine st_callt (as := [vI p1]) c89_2 cm_85 hT (tf hT rfl rfl) fd_2_0 rfl rfl rfl rfl (by omega) (K85 hT p1 (by omega) (d - 1) (by omega) _ (fun v h0 H => H)) (fun v1 h1 H => ?_)
  rcases H with ⟨rfl, pf2, rfl⟩ | ⟨rfl, pf3, pf4, rfl⟩
  refine st_if_eq c89_5 (by omega) (fun k5 => ?_) (fun k6 => False.elim (by omega))
  refine st_iconst c89_27 ?_
  refine st_ireturn c89_28 ?_
  exact hQ _ _ ⟨(-1), rfl, by omega, Or.inl ⟨by omega, by omega⟩, rfl⟩
  refine st_if_eq c89_5 (by omega) (fun k7 => False.elim (by omega)) (fun k8 => ?_)
  refine st_aload c89_8 rfl ?_
  refine st_iload c89_9 rfl ?_
  refine st_callt (as := [vI p2]) c89_10 cm_85 hT (tf hT rfl rfl) fd_2_0 rfl rfl rfl rfl (by omega) (K85 hT p2 (by omega) (d - 1) (by omega) _ (fun v h0 H => H)) (fun v1 h1 H => ?_)
  rcases H with ⟨rfl, pf9, rfl⟩ | ⟨rfl, pf10, pf11, rfl⟩
  refine st_if_eq c89_13 (by omega) (fun k12 => ?_) (fun k13 => False.elim (by omega))
  refine st_iconst c89_27 ?_
  refine st_ireturn c89_28 ?_
  exact hQ _ _ ⟨(-1), rfl, by omega, Or.inl ⟨by omega, by omega⟩, rfl⟩
  refine st_if_eq c89_13 (by omega) (fun k14 => False.elim (by omega)) (fun k15 => ?_)
  refine st_aload c89_16 rfl ?_
  refine st_getX (u := 21) c89_17 hT (tf hT rfl rfl) fd_2_2 rfl ?_
  refine st_iload c89_20 rfl ?_
  refine st_aald2 c89_21 hT (tf hT rfl rfl) ay_22 rfl (u := 123) rfl (by omega) (fun r16 e18 t19 => ?_)
  refine st_iload c89_22 rfl ?_
  refine st_iald c89_23 hT t19 ay_123 (by omega) (fun e20 e21 => ?_)
  refine st_goto c89_24 ?_
  refine st_ireturn c89_28 ?_
  exact hQ _ _ ⟨aI h r16 p2, rfl, by omega, Or.inr ⟨by omega, by omega, by omega, by omega, r16, e18, rfl⟩, rfl⟩
set_option maxHeartbeats 0 in
theorem K90 {Ln : Nat} {xs : Nat → Int32} {τ : List Nat} {h : List mE} {E : EP} (hT : TH E τ h) (p1 : Int) (hp1 : (-2147483648) ≤ p1 ∧ p1 ≤ 2147483647) (p2 : Int) (hp2 : (-2147483648) ≤ p2 ∧ p2 ≤ 2147483647) (d : Nat) (hd : 2 ≤ d) (Q : Option Value → List mE → Prop) (hQ : ∀ v h', (∃ z : Int, v = some (vI z) ∧ ((-71582788) ≤ z ∧ z ≤ 71582788) ∧ h = h') → Q v h') : MR (mex Ln xs) d 90 0 [some (.ref 6), some (vI p1), some (vI p2), none] [] h Q := by
  refine st_aload c90_0 rfl ?_
  refine st_iload c90_1 rfl ?_
  refine st_iload c90_2 rfl ?_
  refine st_callt (as := [vI p1, vI p2]) c90_3 cm_89 hT (tf hT rfl rfl) fd_2_0 rfl rfl rfl rfl (by omega) (K89 hT p1 (by omega) p2 (by omega) (d - 1) (by omega) _ (fun v h0 H => H)) (fun v1 h1 H => ?_)
  obtain ⟨z2, rfl, b3, pf1, rfl⟩ := H
  refine st_istore (L' := [some (.ref 6), some (vI p1), some (vI p2), some (vI z2)]) c90_6 rfl rfl ?_
  refine st_iload c90_7 rfl ?_
  refine st_if_ge c90_8 (by omega) (fun k4 => ?_) (fun k5 => ?_)
  refine st_iload c90_15 rfl ?_
  refine st_iconst c90_16 ?_
  refine st_iadd c90_18 ?_
  refine MR_wrap (fun w6 e7 e8 e9 => ?_)
  refine st_iconst c90_19 ?_
  refine st_isub c90_20 ?_
  refine MR_wrap (fun w10 e11 e12 e13 => ?_)
  refine st_iconst c90_21 ?_
  refine st_idivc c90_23 (by omega) (by omega) (fun w14 e15 e16 => ?_)
  refine st_ireturn c90_24 ?_
  exact hQ _ _ ⟨w14, rfl, by omega, rfl⟩
  refine st_iconst c90_11 ?_
  refine st_goto c90_12 ?_
  refine st_ireturn c90_24 ?_
  exact hQ _ _ ⟨(-1), rfl, by omega, rfl⟩
set_option maxHeartbeats 0 in
theorem K11 {Ln : Nat} {xs : Nat → Int32} {τ : List Nat} {h : List mE} {E : EP} (hT : TH E τ h) (q0 : Nat) (hq0 : ty τ q0 9) (q1 : Nat) (hq1 : ty τ q1 9) (d : Nat) (hd : 0 ≤ d) (Q : Option Value → List mE → Prop) (hQ : ∀ v h', ((v = some (vI 0) ∧ h = h') ∨ (v = some (vI 1) ∧ h = h')) → Q v h') : MR (mex Ln xs) d 11 0 [some (.ref q0), some (.ref q1)] [] h Q := by
  refine st_aload c11_0 rfl ?_
  refine st_ifnullR c11_1 ?_
  refine st_aload c11_4 rfl ?_
  refine st_aload c11_5 rfl ?_
  refine st_acmp_eq c11_6 (ty_q hq1) (ty_q hq0) (fun k1 => ?_) (fun k2 => ?_)
  refine st_iconst c11_21 ?_
  refine st_goto c11_22 ?_
  refine st_zreturn c11_26 (by omega) ?_
  exact hQ _ _ (Or.inr ⟨rfl, rfl⟩)
  refine st_aload c11_9 rfl ?_
  refine st_getR c11_10 hT hq0 fd_9_7 (u := 113) rfl (fun r3 e4 t5 => ?_)
  refine st_aload c11_13 rfl ?_
  refine st_getI c11_14 hT hq1 fd_9_0 (fun e6 e7 => ?_)
  refine st_bald c11_17 hT t5 ay_113 (Or.inl rfl) (by omega) (fun e8 e9 => ?_)
  refine st_if_eq c11_18 (by omega) (fun k10 => ?_) (fun k11 => ?_)
  refine st_iconst c11_25 ?_
  refine st_zreturn c11_26 (by omega) ?_
  exact hQ _ _ (Or.inl ⟨rfl, rfl⟩)
  refine st_iconst c11_21 ?_
  refine st_goto c11_22 ?_
  refine st_zreturn c11_26 (by omega) ?_
  exact hQ _ _ (Or.inr ⟨rfl, rfl⟩)
set_option maxHeartbeats 0 in
theorem K57 {Ln : Nat} {xs : Nat → Int32} {τ : List Nat} {h : List mE} {E : EP} (hT : TH E τ h) (q0 : Nat) (hq0 : ty τ q0 11) (d : Nat) (hd : 0 ≤ d) (Q : Option Value → List mE → Prop) (hQ : ∀ v h', (∃ z : Int, v = some (vI z) ∧ (1 ≤ z ∧ z ≤ 401) ∧ h = h') → Q v h') : MR (mex Ln xs) d 57 0 [some (.ref q0)] [] h Q := by
  refine st_aload c57_0 rfl ?_
  refine st_getI c57_1 hT hq0 fd_11_2 (fun e1 e2 => ?_)
  refine st_ireturn c57_4 ?_
  exact hQ _ _ ⟨fI h q0 2, rfl, by omega, rfl⟩
set_option maxHeartbeats 0 in
theorem K59 {Ln : Nat} {xs : Nat → Int32} {τ : List Nat} {h : List mE} {E : EP} (hT : TH E τ h) (q0 : Nat) (hq0 : ty τ q0 11) (p1 : Int) (hp1 : (-2147483648) ≤ p1 ∧ p1 ≤ 2147483647) (pre0 : I1 τ h) (d : Nat) (hd : 0 ≤ d) (Q : Option Value → List mE → Prop) (hQ : ∀ v h', (∃ z : Int, v = some (vI z) ∧ ((-2147483648) ≤ z ∧ z ≤ 2147483647) ∧ h = h') → Q v h') : MR (mex Ln xs) d 59 0 [some (.ref q0), some (vI p1)] [] h Q := by
  refine st_iload c59_0 rfl ?_
  refine st_if_lt c59_1 (by omega) (fun k1 => ?_) (fun k2 => ?_)
  refine st_iconst c59_21 ?_
  refine st_ireturn c59_22 ?_
  exact hQ _ _ ⟨0, rfl, by omega, rfl⟩
  refine st_iload c59_4 rfl ?_
  refine st_aload c59_5 rfl ?_
  refine st_getI c59_6 hT hq0 fd_11_2 (fun e3 e4 => ?_)
  refine st_icmp_ge c59_9 (by omega) (by omega) (fun k5 => ?_) (fun k6 => ?_)
  refine st_iconst c59_21 ?_
  refine st_ireturn c59_22 ?_
  exact hQ _ _ ⟨0, rfl, by omega, rfl⟩
  refine st_aload c59_12 rfl ?_
  refine st_getR c59_13 hT hq0 fd_11_1 (u := 117) rfl (fun r7 e8 t9 => ?_)
  have q10 := I1_1 pre0 hq0 e8
  refine st_iload c59_16 rfl ?_
  refine st_iald c59_17 hT t9 ay_117 (by omega) (fun e11 e12 => ?_)
  refine st_goto c59_18 ?_
  refine st_ireturn c59_22 ?_
  exact hQ _ _ ⟨aI h r7 p1, rfl, by omega, rfl⟩
set_option maxHeartbeats 0 in
theorem K58 {Ln : Nat} {xs : Nat → Int32} {τ : List Nat} {h : List mE} {E : EP} (hT : TH E τ h) (q0 : Nat) (hq0 : ty τ q0 11) (pre0 : I1 τ h) (d : Nat) (hd : 1 ≤ d) (Q : Option Value → List mE → Prop) (hQ : ∀ v h', (∃ z : Int, v = some (vI z) ∧ ((-2147483648) ≤ z ∧ z ≤ 2147483647) ∧ h = h') → Q v h') : MR (mex Ln xs) d 58 0 [some (.ref q0)] [] h Q := by
  refine st_aload c58_0 rfl ?_
  refine st_aload c58_1 rfl ?_
  refine st_getI c58_2 hT hq0 fd_11_2 (fun e1 e2 => ?_)
  refine st_iconst c58_5 ?_
  refine st_isub c58_6 ?_
  refine st_callt (as := [vI ((fI h q0 2) - 1)]) c58_7 cm_59 hT hq0 fd_11_0 rfl rfl rfl rfl (by omega) (K59 hT q0 hq0 ((fI h q0 2) - 1) (by omega) pre0 (d - 1) (by omega) _ (fun v h0 H => H)) (fun v1 h1 H => ?_)
  obtain ⟨z3, rfl, b4, rfl⟩ := H
  refine st_ireturn c58_10 ?_
  exact hQ _ _ ⟨z3, rfl, by omega, rfl⟩
set_option maxHeartbeats 0 in
theorem K60 {Ln : Nat} {xs : Nat → Int32} {τ : List Nat} {h : List mE} {E : EP} (hT : TH E τ h) (q0 : Nat) (hq0 : ty τ q0 11) (p1 : Int) (hp1 : (-2147483648) ≤ p1 ∧ p1 ≤ 2147483647) (pre0 : I1 τ h) (d : Nat) (hd : 0 ≤ d) (Q : Option Value → List mE → Prop) (hQ : ∀ v h', ((v = some (vI 0) ∧ (∀ r : Nat, fR h q0 0 = some r → aI h r (fI h q0 2 - 1) ≠ p1) ∧ h = h') ∨ (v = some (vI 1) ∧ (TOLD h q0 p1) ∧ h = h')) → Q v h') : MR (mex Ln xs) d 60 0 [some (.ref q0), some (vI p1)] [] h Q := by
  refine st_aload c60_0 rfl ?_
  refine st_getI c60_1 hT hq0 fd_11_2 (fun e1 e2 => ?_)
  refine st_if_le c60_4 (by omega) (fun k3 => False.elim (by omega)) (fun k4 => ?_)
  refine st_aload c60_7 rfl ?_
  refine st_getR c60_8 hT hq0 fd_11_0 (u := 116) rfl (fun r5 e6 t7 => ?_)
  have q8 := I1_0 pre0 hq0 e6
  refine st_aload c60_11 rfl ?_
  refine st_getI c60_12 hT hq0 fd_11_2 (fun e9 e10 => ?_)
  refine st_iconst c60_15 ?_
  refine st_isub c60_16 ?_
  refine st_iald c60_17 hT t7 ay_116 (by omega) (fun e11 e12 => ?_)
  refine st_iload c60_18 rfl ?_
  refine st_icmp_ne c60_19 (by omega) (by omega) (fun k13 => ?_) (fun k14 => ?_)
  refine st_iconst c60_26 ?_
  refine st_zreturn c60_27 (by omega) ?_
  exact hQ _ _ (Or.inl ⟨rfl, (fun r hr => by rw [show r = r5 from Option.some.inj (hr.symm.trans e6)]; omega), rfl⟩)
  refine st_iconst c60_22 ?_
  refine st_goto c60_23 ?_
  refine st_zreturn c60_27 (by omega) ?_
  exact hQ _ _ (Or.inr ⟨rfl, ⟨r5, e6, by omega⟩, rfl⟩)
set_option maxHeartbeats 0 in
theorem K61 {Ln : Nat} {xs : Nat → Int32} {τ : List Nat} {h : List mE} {E : EP} (hT : TH E τ h) (q0 : Nat) (hq0 : ty τ q0 11) (p1 : Int) (hp1 : (-2147483648) ≤ p1 ∧ p1 ≤ 2147483647) (pre0 : I1 τ h) (d : Nat) (hd : 1 ≤ d) (Q : Option Value → List mE → Prop) (hQ : ∀ v h', ((v = some (vI 0) ∧ (TOLD h q0 p1) ∧ h = h') ∨ (v = some (vI 1) ∧ h = h')) → Q v h') : MR (mex Ln xs) d 61 0 [some (.ref q0), some (vI p1)] [] h Q := by
  refine st_aload c61_0 rfl ?_
  refine st_iload c61_1 rfl ?_
  refine st_callt (as := [vI p1]) c61_2 cm_60 hT hq0 fd_11_0 rfl rfl rfl rfl (by omega) (K60 hT q0 hq0 p1 (by omega) pre0 (d - 1) (by omega) _ (fun v h0 H => H)) (fun v1 h1 H => ?_)
  rcases H with ⟨rfl, pf1, rfl⟩ | ⟨rfl, pf2, rfl⟩
  refine st_if_eq c61_5 (by omega) (fun k3 => ?_) (fun k4 => False.elim (by omega))
  refine st_iconst c61_23 ?_
  refine st_goto c61_24 ?_
  refine st_zreturn c61_28 (by omega) ?_
  exact hQ _ _ (Or.inr ⟨rfl, rfl⟩)
  refine st_if_eq c61_5 (by omega) (fun k5 => False.elim (by omega)) (fun k6 => ?_)
  refine st_aload c61_8 rfl ?_
  refine st_getI c61_9 hT hq0 fd_11_2 (fun e7 e8 => ?_)
  refine st_iconst c61_12 ?_
  refine st_icmp_ne c61_13 (by omega) (by omega) (fun k9 => ?_) (fun k10 => ?_)
  refine st_iconst c61_27 ?_
  refine st_zreturn c61_28 (by omega) ?_
  exact hQ _ _ (Or.inl ⟨rfl, pf2, rfl⟩)
  refine st_aload c61_16 rfl ?_
  refine st_getI c61_17 hT hq0 fd_11_3 (fun e11 e12 => ?_)
  refine st_if_eq c61_20 (by omega) (fun k13 => ?_) (fun k14 => ?_)
  refine st_iconst c61_27 ?_
  refine st_zreturn c61_28 (by omega) ?_
  exact hQ _ _ (Or.inl ⟨rfl, pf2, rfl⟩)
  refine st_iconst c61_23 ?_
  refine st_goto c61_24 ?_
  refine st_zreturn c61_28 (by omega) ?_
  exact hQ _ _ (Or.inr ⟨rfl, rfl⟩)
set_option maxHeartbeats 0 in
theorem K64 {Ln : Nat} {xs : Nat → Int32} {τ : List Nat} {h : List mE} {E : EP} (hT : TH E τ h) (q0 : Nat) (hq0 : ty τ q0 11) (p1 : Int) (hp1 : (-2147483648) ≤ p1 ∧ p1 ≤ 2147483647) (pre0 : I1 τ h) (d : Nat) (hd : 0 ≤ d) (Q : Option Value → List mE → Prop) (hQ : ∀ v h', (∃ z : Int, v = some (vI z) ∧ ((-1) ≤ z ∧ z ≤ 400) ∧ h = h') → Q v h') : MR (mex Ln xs) d 64 0 [some (.ref q0), some (vI p1), none, none, none, none] [] h Q := by
  refine st_iconst c64_0 ?_
  refine st_istore (L' := [some (.ref q0), some (vI p1), some (vI 0), none, none, none]) c64_1 rfl rfl ?_
  refine st_aload c64_2 rfl ?_
  refine st_getI c64_3 hT hq0 fd_11_2 (fun e1 e2 => ?_)
  refine st_istore (L' := [some (.ref q0), some (vI p1), some (vI 0), some (vI (fI h q0 2)), none, none]) c64_6 rfl rfl ?_
  refine st_iconst c64_7 ?_
  refine st_istore (L' := [some (.ref q0), some (vI p1), some (vI 0), some (vI (fI h q0 2)), some (vI 0), none]) c64_8 rfl rfl ?_
  have lp81 : ∀ (n82 : Nat) (z78 : Int) (z79 : Int) (z80 : Int), (32 : Int) - z80 < (n82 : Int) → 0 ≤ z78 ∧ z78 ≤ 401 → 0 ≤ z79 ∧ z79 ≤ 401 → 0 ≤ z80 ∧ z80 ≤ 32 → z79 ≤ fI h q0 2 → MR (mex Ln xs) d 64 10 [some (.ref q0), some (vI p1), some (vI z78), some (vI z79), some (vI z80), none] [] h Q := by
    intro n82
    induction n82 with
    | zero =>
      intro z78 z79 z80 hm84 b85 b86 b87 x88
      exfalso; omega
    | succ n82 ih83 =>
      intro z78 z79 z80 hm84 b85 b86 b87 x88
      refine st_iload c64_10 rfl ?_
      refine st_iconst c64_12 ?_
      refine st_icmp_ge c64_14 (by omega) (by omega) (fun k89 => ?_) (fun k90 => ?_)
      refine st_iload c64_57 rfl ?_
      refine st_iconst c64_58 ?_
      refine st_isub c64_59 ?_
      refine st_ireturn c64_60 ?_
      exact hQ _ _ ⟨z78 - 1, rfl, by omega, rfl⟩
      refine st_iload c64_17 rfl ?_
      refine st_iload c64_18 rfl ?_
      refine st_icmp_ge c64_19 (by omega) (by omega) (fun k91 => ?_) (fun k92 => ?_)
      refine st_iload c64_57 rfl ?_
      refine st_iconst c64_58 ?_
      refine st_isub c64_59 ?_
      refine st_ireturn c64_60 ?_
      exact hQ _ _ ⟨z78 - 1, rfl, by omega, rfl⟩
      refine st_iload c64_22 rfl ?_
      refine st_iload c64_23 rfl ?_
      refine st_iadd c64_24 ?_
      refine st_iconst c64_25 ?_
      refine st_iushr1 c64_26 (by omega) ?_
      refine st_istore (L' := [some (.ref q0), some (vI p1), some (vI z78), some (vI z79), some (vI z80), some (vI ((z78 + z79) / 2))]) c64_27 rfl rfl ?_
      refine st_aload c64_29 rfl ?_
      refine st_getR c64_30 hT hq0 fd_11_0 (u := 116) rfl (fun r93 e94 t95 => ?_)
      have q96 := I1_0 pre0 hq0 e94
      refine st_iload c64_33 rfl ?_
      refine st_iald c64_35 hT t95 ay_116 (by omega) (fun e97 e98 => ?_)
      refine st_iload c64_36 rfl ?_
      refine st_icmp_gt c64_37 (by omega) (by omega) (fun k99 => ?_) (fun k100 => ?_)
      refine st_iload c64_48 rfl ?_
      refine st_istore (L' := [some (.ref q0), some (vI p1), some (vI z78), some (vI ((z78 + z79) / 2)), some (vI z80), some (vI ((z78 + z79) / 2))]) c64_50 rfl rfl ?_
      refine st_iinc (L' := [some (.ref q0), some (vI p1), some (vI z78), some (vI ((z78 + z79) / 2)), some (vI (z80 + 1)), some (vI ((z78 + z79) / 2))]) c64_51 rfl rfl rfl ?_
      refine st_goto c64_54 ?_
      refine MR_weak (A := [some (.ref q0), some (vI p1), some (vI z78), some (vI ((z78 + z79) / 2)), some (vI (z80 + 1)), none]) (Lle_s (Lle_s (Lle_s (Lle_s (Lle_s (Lle_n (Lle_0))))))) ?_
      exact ih83 z78 ((z78 + z79) / 2) (z80 + 1) (by omega) (by omega) (by omega) (by omega) (by omega)
      refine st_iload c64_40 rfl ?_
      refine st_iconst c64_42 ?_
      refine st_iadd c64_43 ?_
      refine st_istore (L' := [some (.ref q0), some (vI p1), some (vI (((z78 + z79) / 2) + 1)), some (vI z79), some (vI z80), some (vI ((z78 + z79) / 2))]) c64_44 rfl rfl ?_
      refine st_goto c64_45 ?_
      refine st_iinc (L' := [some (.ref q0), some (vI p1), some (vI (((z78 + z79) / 2) + 1)), some (vI z79), some (vI (z80 + 1)), some (vI ((z78 + z79) / 2))]) c64_51 rfl rfl rfl ?_
      refine st_goto c64_54 ?_
      refine MR_weak (A := [some (.ref q0), some (vI p1), some (vI (((z78 + z79) / 2) + 1)), some (vI z79), some (vI (z80 + 1)), none]) (Lle_s (Lle_s (Lle_s (Lle_s (Lle_s (Lle_n (Lle_0))))))) ?_
      exact ih83 (((z78 + z79) / 2) + 1) z79 (z80 + 1) (by omega) (by omega) (by omega) (by omega) (by omega)
  exact lp81 ((((32 : Int) - 0 : Int) + 1).toNat) 0 (fI h q0 2) 0 (by omega) (by omega) (by omega) (by omega) (by omega)
set_option maxHeartbeats 0 in
theorem K65 {Ln : Nat} {xs : Nat → Int32} {τ : List Nat} {h : List mE} {E : EP} (hT : TH E τ h) (q0 : Nat) (hq0 : ty τ q0 11) (p1 : Int) (hp1 : (-2147483648) ≤ p1 ∧ p1 ≤ 2147483647) (pre0 : I1 τ h) (d : Nat) (hd : 1 ≤ d) (Q : Option Value → List mE → Prop) (hQ : ∀ v h', (∃ z : Int, v = some (vI z) ∧ (0 ≤ z ∧ z ≤ 401) ∧ h = h') → Q v h') : MR (mex Ln xs) d 65 0 [some (.ref q0), some (vI p1)] [] h Q := by
  refine st_aload c65_0 rfl ?_
  refine st_iload c65_1 rfl ?_
  refine st_iconst c65_2 ?_
  refine st_isub c65_3 ?_
  refine MR_wrap (fun w1 e2 e3 e4 => ?_)
  refine st_callt (as := [vI w1]) c65_4 cm_64 hT hq0 fd_11_0 rfl rfl rfl rfl (by omega) (K64 hT q0 hq0 w1 (by omega) pre0 (d - 1) (by omega) _ (fun v h0 H => H)) (fun v1 h1 H => ?_)
  obtain ⟨z5, rfl, b6, rfl⟩ := H
  refine st_iconst c65_7 ?_
  refine st_iadd c65_8 ?_
  refine st_ireturn c65_9 ?_
  exact hQ _ _ ⟨z5 + 1, rfl, by omega, rfl⟩
set_option maxHeartbeats 0 in
theorem K36 {Ln : Nat} {xs : Nat → Int32} {τ : List Nat} {h : List mE} {E : EP} (hT : TH E τ h) (q0 : Nat) (hq0 : ty τ q0 10) (d : Nat) (hd : 0 ≤ d) (Q : Option Value → List mE → Prop) (hQ : ∀ v h', ((v = some (vI 0) ∧ h = h') ∨ (v = some (vI 1) ∧ h = h')) → Q v h') : MR (mex Ln xs) d 36 0 [some (.ref q0)] [] h Q := by
  refine st_aload c36_0 rfl ?_
  refine st_getI c36_1 hT hq0 fd_10_5 (fun e1 e2 => ?_)
  refine st_if_ne c36_4 (by omega) (fun k3 => ?_) (fun k4 => ?_)
  refine st_iconst c36_25 ?_
  refine st_zreturn c36_26 (by omega) ?_
  exact hQ _ _ (Or.inl ⟨rfl, rfl⟩)
  refine st_aload c36_7 rfl ?_
  refine st_getI c36_8 hT hq0 fd_10_3 (fun e5 e6 => ?_)
  refine st_if_ne c36_11 (by omega) (fun k7 => ?_) (fun k8 => ?_)
  refine st_iconst c36_25 ?_
  refine st_zreturn c36_26 (by omega) ?_
  exact hQ _ _ (Or.inl ⟨rfl, rfl⟩)
  refine st_aload c36_14 rfl ?_
  refine st_getN c36_15 hT hq0 fd_10_9 (u := 12) rfl (fun e10 => ?_) (fun r9 e11 t12 => ?_)
  refine st_ifnonnullN c36_18 ?_
  refine st_iconst c36_21 ?_
  refine st_goto c36_22 ?_
  refine st_zreturn c36_26 (by omega) ?_
  exact hQ _ _ (Or.inr ⟨rfl, rfl⟩)
  refine st_ifnonnullR c36_18 ?_
  refine st_iconst c36_25 ?_
  refine st_zreturn c36_26 (by omega) ?_
  exact hQ _ _ (Or.inl ⟨rfl, rfl⟩)
set_option maxHeartbeats 0 in
theorem K37 {Ln : Nat} {xs : Nat → Int32} {τ : List Nat} {h : List mE} {E : EP} (hT : TH E τ h) (q0 : Nat) (hq0 : ty τ q0 10) (pre0 : I1 τ h) (d : Nat) (hd : 2 ≤ d) (Q : Option Value → List mE → Prop) (hQ : ∀ v h', (∃ z : Int, v = some (vI z) ∧ ((-2147483648) ≤ z ∧ z ≤ 2147483647) ∧ h = h') → Q v h') : MR (mex Ln xs) d 37 0 [some (.ref q0)] [] h Q := by
  refine st_aload c37_0 rfl ?_
  refine st_getR c37_1 hT hq0 fd_10_2 (u := 11) rfl (fun r1 e2 t3 => ?_)
  refine st_callt (as := []) c37_4 cm_58 hT t3 fd_11_0 rfl rfl rfl rfl (by omega) (K58 hT r1 t3 pre0 (d - 1) (by omega) _ (fun v h0 H => H)) (fun v1 h1 H => ?_)
  obtain ⟨z4, rfl, b5, rfl⟩ := H
  refine st_aload c37_7 rfl ?_
  refine st_getI c37_8 hT hq0 fd_10_8 (fun e6 e7 => ?_)
  refine st_isub c37_11 ?_
  refine MR_wrap (fun w8 e9 e10 e11 => ?_)
  refine st_ireturn c37_12 ?_
  exact hQ _ _ ⟨w8, rfl, by omega, rfl⟩
set_option maxHeartbeats 0 in
theorem K38 {Ln : Nat} {xs : Nat → Int32} {τ : List Nat} {h : List mE} {E : EP} (hT : TH E τ h) (q0 : Nat) (hq0 : ty τ q0 10) (pre0 : I1 τ h) (d : Nat) (hd : 3 ≤ d) (Q : Option Value → List mE → Prop) (hQ : ∀ v h', (∃ z : Int, v = some (vI z) ∧ ((-1) ≤ z ∧ z ≤ 2147483647) ∧ h = h') → Q v h') : MR (mex Ln xs) d 38 0 [some (.ref q0)] [] h Q := by
  refine st_aload c38_0 rfl ?_
  refine st_getR c38_1 hT hq0 fd_10_1 (u := 9) rfl (fun r1 e2 t3 => ?_)
  refine st_getI c38_4 hT t3 fd_9_2 (fun e4 e5 => ?_)
  refine st_if_ne c38_7 (by omega) (fun k6 => ?_) (fun k7 => ?_)
  refine st_iconst c38_14 ?_
  refine st_aload c38_15 rfl ?_
  refine st_getNr c38_16 hT hq0 fd_10_1 e2 ?_
  refine st_getI c38_19 hT t3 fd_9_2 (fun e8 e9 => ?_)
  refine st_aload c38_22 rfl ?_
  refine st_callt (as := []) c38_23 cm_37 hT hq0 fd_10_0 rfl rfl rfl rfl (by omega) (K37 hT q0 hq0 pre0 (d - 1) (by omega) _ (fun v h0 H => H)) (fun v1 h1 H => ?_)
  obtain ⟨z10, rfl, b11, rfl⟩ := H
  refine st_isub c38_26 ?_
  refine MR_wrap (fun w12 e13 e14 e15 => ?_)
  refine st_max c38_27 (by omega) (by omega) rfl (fun z16 e17 e18 e19 => ?_)
  refine st_ireturn c38_30 ?_
  exact hQ _ _ ⟨z16, rfl, by omega, rfl⟩
  refine st_iconst c38_10 ?_
  refine st_goto c38_11 ?_
  refine st_ireturn c38_30 ?_
  exact hQ _ _ ⟨(-1), rfl, by omega, rfl⟩
set_option maxHeartbeats 0 in
theorem K39 {Ln : Nat} {xs : Nat → Int32} {τ : List Nat} {h : List mE} {E : EP} (hT : TH E τ h) (q0 : Nat) (hq0 : ty τ q0 10) (pre0 : I1 τ h) (d : Nat) (hd : 3 ≤ d) (Q : Option Value → List mE → Prop) (hQ : ∀ v h', ((v = some (vI 0) ∧ h = h') ∨ (v = some (vI 1) ∧ h = h')) → Q v h') : MR (mex Ln xs) d 39 0 [some (.ref q0)] [] h Q := by
  refine st_aload c39_0 rfl ?_
  refine st_getR c39_1 hT hq0 fd_10_1 (u := 9) rfl (fun r1 e2 t3 => ?_)
  refine st_getI c39_4 hT t3 fd_9_2 (fun e4 e5 => ?_)
  refine st_if_le c39_7 (by omega) (fun k6 => ?_) (fun k7 => ?_)
  refine st_iconst c39_28 ?_
  refine st_zreturn c39_29 (by omega) ?_
  exact hQ _ _ (Or.inl ⟨rfl, rfl⟩)
  refine st_aload c39_10 rfl ?_
  refine st_callt (as := []) c39_11 cm_37 hT hq0 fd_10_0 rfl rfl rfl rfl (by omega) (K37 hT q0 hq0 pre0 (d - 1) (by omega) _ (fun v h0 H => H)) (fun v1 h1 H => ?_)
  obtain ⟨z8, rfl, b9, rfl⟩ := H
  refine st_aload c39_14 rfl ?_
  refine st_getNr c39_15 hT hq0 fd_10_1 e2 ?_
  refine st_getI c39_18 hT t3 fd_9_2 (fun e10 e11 => ?_)
  refine st_icmp_lt c39_21 (by omega) (by omega) (fun k12 => ?_) (fun k13 => ?_)
  refine st_iconst c39_28 ?_
  refine st_zreturn c39_29 (by omega) ?_
  exact hQ _ _ (Or.inl ⟨rfl, rfl⟩)
  refine st_iconst c39_24 ?_
  refine st_goto c39_25 ?_
  refine st_zreturn c39_29 (by omega) ?_
  exact hQ _ _ (Or.inr ⟨rfl, rfl⟩)
set_option maxHeartbeats 0 in
theorem K40 {Ln : Nat} {xs : Nat → Int32} {τ : List Nat} {h : List mE} {E : EP} (hT : TH E τ h) (q0 : Nat) (hq0 : ty τ q0 10) (p1 : Int) (hp1 : (-2147483648) ≤ p1 ∧ p1 ≤ 2147483647) (pre0 : I1 τ h) (d : Nat) (hd : 3 ≤ d) (Q : Option Value → List mE → Prop) (hQ : ∀ v h', ((v = some (vI 0) ∧ h = h') ∨ (v = some (vI 1) ∧ h = h')) → Q v h') : MR (mex Ln xs) d 40 0 [some (.ref q0), some (vI p1)] [] h Q := by
  refine st_aload c40_0 rfl ?_
  refine st_getR c40_1 hT hq0 fd_10_1 (u := 9) rfl (fun r1 e2 t3 => ?_)
  refine st_getI c40_4 hT t3 fd_9_2 (fun e4 e5 => ?_)
  refine st_if_le c40_7 (by omega) (fun k6 => ?_) (fun k7 => ?_)
  refine st_iconst c40_30 ?_
  refine st_zreturn c40_31 (by omega) ?_
  exact hQ _ _ (Or.inl ⟨rfl, rfl⟩)
  refine st_aload c40_10 rfl ?_
  refine st_callt (as := []) c40_11 cm_37 hT hq0 fd_10_0 rfl rfl rfl rfl (by omega) (K37 hT q0 hq0 pre0 (d - 1) (by omega) _ (fun v h0 H => H)) (fun v1 h1 H => ?_)
  obtain ⟨z8, rfl, b9, rfl⟩ := H
  refine st_iload c40_14 rfl ?_
  refine st_iadd c40_15 ?_
  refine MR_wrap (fun w10 e11 e12 e13 => ?_)
  refine st_aload c40_16 rfl ?_
  refine st_getNr c40_17 hT hq0 fd_10_1 e2 ?_
  refine st_getI c40_20 hT t3 fd_9_2 (fun e14 e15 => ?_)
  refine st_icmp_le c40_23 (by omega) (by omega) (fun k16 => ?_) (fun k17 => ?_)
  refine st_iconst c40_30 ?_
  refine st_zreturn c40_31 (by omega) ?_
  exact hQ _ _ (Or.inl ⟨rfl, rfl⟩)
  refine st_iconst c40_26 ?_
  refine st_goto c40_27 ?_
  refine st_zreturn c40_31 (by omega) ?_
  exact hQ _ _ (Or.inr ⟨rfl, rfl⟩)
def W41 : List (Nat × Nat) := [(10, 5), (10, 6), (10, 8)]
set_option maxHeartbeats 0 in
theorem K41 {Ln : Nat} {xs : Nat → Int32} {τ : List Nat} {h : List mE} {E : EP} (hT : TH E τ h) (hS : Stb E W41) (q0 : Nat) (hq0 : ty τ q0 10) (p1 : Int) (hp1 : (-2147483648) ≤ p1 ∧ p1 ≤ 2147483647) (pre0 : I1 τ h) (d : Nat) (hd : 2 ≤ d) (Q : Option Value → List mE → Prop) (hQ : ∀ v h', (v = none ∧ TH E τ h' ∧ Fr τ W41 h h') → Q v h') : MR (mex Ln xs) d 41 0 [some (.ref q0), some (vI p1)] [] h Q := by
  have hF := Fr_rf τ W41 h
  refine st_aload c41_0 rfl ?_
  refine st_iconst c41_1 ?_
  refine st_putI c41_2 hT hq0 fd_10_5 (by omega) (by omega) (Ext_rf _) hS hF (by decide +kernel) (fun h1 hT2 hF3 hU4 => ?_)
  refine st_aload c41_5 rfl ?_
  refine st_iload c41_6 rfl ?_
  refine st_putI c41_7 hT2 hq0 fd_10_6 (by omega) (by omega) (Ext_rf _) hS hF3 (by decide +kernel) (fun h5 hT6 hF7 hU8 => ?_)
  refine st_aload c41_10 rfl ?_
  refine st_aload c41_11 rfl ?_
  refine st_getR c41_12 hT6 hq0 fd_10_2 (u := 11) rfl (fun r9 e10 t11 => ?_)
  refine st_callt (as := []) c41_15 cm_58 hT6 t11 fd_11_0 rfl rfl rfl rfl (by omega) (K58 hT6 r9 t11 (I1_fr pre0 hT hF7 (by decide +kernel)) (d - 1) (by omega) _ (fun v h0 H => H)) (fun v1 h1 H => ?_)
  obtain ⟨z12, rfl, b13, rfl⟩ := H
  refine st_putI c41_18 hT6 hq0 fd_10_8 (by omega) (by omega) (Ext_rf _) hS hF7 (by decide +kernel) (fun h14 hT15 hF16 hU17 => ?_)
  refine st_return c41_21 ?_
  exact hQ _ _ ⟨rfl, hT15, hF16⟩
def W43 : List (Nat × Nat) := [(10, 3), (10, 5), (10, 6), (10, 7)]
set_option maxHeartbeats 0 in
theorem K43 {Ln : Nat} {xs : Nat → Int32} {τ : List Nat} {h : List mE} {E : EP} (hT : TH E τ h) (hS : Stb E W43) (q0 : Nat) (hq0 : ty τ q0 10) (p1 : Int) (hp1 : (-2147483648) ≤ p1 ∧ p1 ≤ 2147483647) (d : Nat) (hd : 0 ≤ d) (Q : Option Value → List mE → Prop) (hQ : ∀ v h', (v = none ∧ TH E τ h' ∧ Fr τ W43 h h') → Q v h') : MR (mex Ln xs) d 43 0 [some (.ref q0), some (vI p1)] [] h Q := by
  have hF := Fr_rf τ W43 h
  refine st_aload c43_0 rfl ?_
  refine st_getI c43_1 hT hq0 fd_10_6 (fun e1 e2 => ?_)
  refine st_if_lt c43_4 (by omega) (fun k3 => ?_) (fun k4 => ?_)
  refine st_return c43_15 ?_
  exact hQ _ _ ⟨rfl, hT, hF⟩
  refine st_aload c43_7 rfl ?_
  refine st_getI c43_8 hT hq0 fd_10_6 (fun e5 e6 => ?_)
  refine st_iload c43_11 rfl ?_
  refine st_icmp_le c43_12 (by omega) (by omega) (fun k7 => ?_) (fun k8 => ?_)
  refine st_aload c43_16 rfl ?_
  refine st_getI c43_17 hT hq0 fd_10_3 (fun e9 e10 => ?_)
  refine st_iconst c43_20 ?_
  refine st_icmp_ne c43_21 (by omega) (by omega) (fun k11 => ?_) (fun k12 => ?_)
  refine st_aload c43_51 rfl ?_
  refine st_getI c43_52 hT hq0 fd_10_5 (fun e13 e14 => ?_)
  refine st_iconst c43_55 ?_
  refine st_icmp_ne c43_56 (by omega) (by omega) (fun k15 => ?_) (fun k16 => ?_)
  refine st_aload c43_64 rfl ?_
  refine st_iconst c43_65 ?_
  refine st_putI c43_66 hT hq0 fd_10_6 (by omega) (by omega) (Ext_rf _) hS hF (by decide +kernel) (fun h17 hT18 hF19 hU20 => ?_)
  refine st_return c43_69 ?_
  exact hQ _ _ ⟨rfl, hT18, hF19⟩
  refine st_aload c43_59 rfl ?_
  refine st_iconst c43_60 ?_
  refine st_putI c43_61 hT hq0 fd_10_5 (by omega) (by omega) (Ext_rf _) hS hF (by decide +kernel) (fun h21 hT22 hF23 hU24 => ?_)
  refine st_aload c43_64 rfl ?_
  refine st_iconst c43_65 ?_
  refine st_putI c43_66 hT22 hq0 fd_10_6 (by omega) (by omega) (Ext_rf _) hS hF23 (by decide +kernel) (fun h25 hT26 hF27 hU28 => ?_)
  refine st_return c43_69 ?_
  exact hQ _ _ ⟨rfl, hT26, hF27⟩
  refine st_aload c43_24 rfl ?_
  refine st_aload c43_25 rfl ?_
  refine st_getN c43_26 hT hq0 fd_10_9 (u := 12) rfl (fun e30 => ?_) (fun r29 e31 t32 => ?_)
  refine st_ifnonnullN c43_29 ?_
  refine st_iconst c43_32 ?_
  refine st_goto c43_33 ?_
  refine st_putI c43_37 hT hq0 fd_10_3 (by omega) (by omega) (Ext_rf _) hS hF (by decide +kernel) (fun h33 hT34 hF35 hU36 => ?_)
  refine st_aload c43_40 rfl ?_
  refine st_aload c43_41 rfl ?_
  refine st_getI c43_42 hT34 hq0 fd_10_6 (fun e37 e38 => ?_)
  have q39 : fI h33 q0 6 = fI h q0 6 := FUp_fIne hU36 (fun z => absurd z.2 (by decide))
  refine st_putI c43_45 hT34 hq0 fd_10_7 (by omega) (by omega) (Ext_rf _) hS hF35 (by decide +kernel) (fun h40 hT41 hF42 hU43 => ?_)
  refine st_goto c43_48 ?_
  refine st_aload c43_64 rfl ?_
  refine st_iconst c43_65 ?_
  refine st_putI c43_66 hT41 hq0 fd_10_6 (by omega) (by omega) (Ext_rf _) hS hF42 (by decide +kernel) (fun h44 hT45 hF46 hU47 => ?_)
  refine st_return c43_69 ?_
  exact hQ _ _ ⟨rfl, hT45, hF46⟩
  refine st_ifnonnullR c43_29 ?_
  refine st_iconst c43_36 ?_
  refine st_putI c43_37 hT hq0 fd_10_3 (by omega) (by omega) (Ext_rf _) hS hF (by decide +kernel) (fun h48 hT49 hF50 hU51 => ?_)
  refine st_aload c43_40 rfl ?_
  refine st_aload c43_41 rfl ?_
  refine st_getI c43_42 hT49 hq0 fd_10_6 (fun e52 e53 => ?_)
  have q54 : fI h48 q0 6 = fI h q0 6 := FUp_fIne hU51 (fun z => absurd z.2 (by decide))
  refine st_putI c43_45 hT49 hq0 fd_10_7 (by omega) (by omega) (Ext_rf _) hS hF50 (by decide +kernel) (fun h55 hT56 hF57 hU58 => ?_)
  refine st_goto c43_48 ?_
  refine st_aload c43_64 rfl ?_
  refine st_iconst c43_65 ?_
  refine st_putI c43_66 hT56 hq0 fd_10_6 (by omega) (by omega) (Ext_rf _) hS hF57 (by decide +kernel) (fun h59 hT60 hF61 hU62 => ?_)
  refine st_return c43_69 ?_
  exact hQ _ _ ⟨rfl, hT60, hF61⟩
  refine st_return c43_15 ?_
  exact hQ _ _ ⟨rfl, hT, hF⟩
def W42 : List (Nat × Nat) := [(10, 3), (10, 4), (10, 5), (10, 6), (10, 7)]
set_option maxHeartbeats 0 in
theorem K42 {Ln : Nat} {xs : Nat → Int32} {τ : List Nat} {h : List mE} {E : EP} (hT : TH E τ h) (hS : Stb E W42) (q0 : Nat) (hq0 : ty τ q0 10) (p1 : Int) (hp1 : (-2147483648) ≤ p1 ∧ p1 ≤ 2147483647) (p2 : Int) (hp2 : (-2147483648) ≤ p2 ∧ p2 ≤ 2147483647) (p3 : Int) (hp3 : (-2147483648) ≤ p3 ∧ p3 ≤ 2147483647) (d : Nat) (hd : 1 ≤ d) (Q : Option Value → List mE → Prop) (hQ : ∀ v h', (v = none ∧ TH E τ h' ∧ Fr τ W42 h h') → Q v h') : MR (mex Ln xs) d 42 0 [some (.ref q0), some (vI p1), some (vI p2), some (vI p3)] [] h Q := by
  have hF := Fr_rf τ W42 h
  refine st_aload c42_0 rfl ?_
  refine st_iconst c42_1 ?_
  refine st_putI c42_2 hT hq0 fd_10_3 (by omega) (by omega) (Ext_rf _) hS hF (by decide +kernel) (fun h1 hT2 hF3 hU4 => ?_)
  refine st_aload c42_5 rfl ?_
  refine st_iload c42_6 rfl ?_
  refine st_putI c42_7 hT2 hq0 fd_10_4 (by omega) (by omega) (Ext_rf _) hS hF3 (by decide +kernel) (fun h5 hT6 hF7 hU8 => ?_)
  refine st_aload c42_10 rfl ?_
  refine st_iload c42_11 rfl ?_
  refine st_putI c42_12 hT6 hq0 fd_10_7 (by omega) (by omega) (Ext_rf _) hS hF7 (by decide +kernel) (fun h9 hT10 hF11 hU12 => ?_)
  refine st_aload c42_15 rfl ?_
  refine st_iload c42_16 rfl ?_
  refine st_iload c42_17 rfl ?_
  refine st_iadd c42_18 ?_
  refine MR_wrap (fun w13 e14 e15 e16 => ?_)
  refine st_putI c42_19 hT10 hq0 fd_10_6 (by omega) (by omega) (Ext_rf _) hS hF11 (by decide +kernel) (fun h17 hT18 hF19 hU20 => ?_)
  refine st_aload c42_22 rfl ?_
  refine st_iload c42_23 rfl ?_
  refine st_callt (as := [vI p2]) c42_24 cm_43 hT18 hq0 fd_10_0 rfl rfl rfl rfl (by omega) (K43 hT18 (Stb_mono hS (by decide +kernel)) q0 hq0 p2 (by omega) (d - 1) (by omega) _ (fun v h0 H => H)) (fun v1 h21 H => ?_)
  obtain ⟨rfl, hT22, hF23⟩ := H
  have hF24 := Fr_cp hF19 hF23 (by decide +kernel : Wsub W43 W42 = true)
  refine st_return c42_27 ?_
  exact hQ _ _ ⟨rfl, hT22, hF24⟩
def W44 : List (Nat × Nat) := [(10, 3), (10, 4), (10, 5), (10, 6), (10, 9), (10, 11), (10, 12)]
set_option maxHeartbeats 0 in
theorem K44 {Ln : Nat} {xs : Nat → Int32} {τ : List Nat} {h : List mE} {E : EP} (hT : TH E τ h) (hS : Stb E W44) (q0 : Nat) (hq0 : ty τ q0 10) (p1 : Int) (hp1 : (-2147483648) ≤ p1 ∧ p1 ≤ 2147483647) (p2 : Int) (hp2 : (-2147483648) ≤ p2 ∧ p2 ≤ 2147483647) (d : Nat) (hd : 0 ≤ d) (Q : Option Value → List mE → Prop) (hQ : ∀ v h', (v = none ∧ TH E τ h' ∧ Fr τ W44 h h') → Q v h') : MR (mex Ln xs) d 44 0 [some (.ref q0), some (vI p1), some (vI p2)] [] h Q := by
  have hF := Fr_rf τ W44 h
  refine st_aload c44_0 rfl ?_
  refine st_aload c44_1 rfl ?_
  refine st_getI c44_2 hT hq0 fd_10_4 (fun e1 e2 => ?_)
  refine st_putI c44_5 hT hq0 fd_10_11 (by omega) (by omega) (Ext_rf _) hS hF (by decide +kernel) (fun h3 hT4 hF5 hU6 => ?_)
  refine st_aload c44_8 rfl ?_
  refine st_iload c44_9 rfl ?_
  refine st_putI c44_10 hT4 hq0 fd_10_12 (by omega) (by omega) (Ext_rf _) hS hF5 (by decide +kernel) (fun h7 hT8 hF9 hU10 => ?_)
  refine st_aload c44_13 rfl ?_
  refine st_iload c44_14 rfl ?_
  refine st_putI c44_15 hT8 hq0 fd_10_5 (by omega) (by omega) (Ext_rf _) hS hF9 (by decide +kernel) (fun h11 hT12 hF13 hU14 => ?_)
  refine st_aload c44_18 rfl ?_
  refine st_iconst c44_19 ?_
  refine st_putI c44_20 hT12 hq0 fd_10_3 (by omega) (by omega) (Ext_rf _) hS hF13 (by decide +kernel) (fun h15 hT16 hF17 hU18 => ?_)
  refine st_aload c44_23 rfl ?_
  refine st_iconst c44_24 ?_
  refine st_putI c44_25 hT16 hq0 fd_10_4 (by omega) (by omega) (Ext_rf _) hS hF17 (by decide +kernel) (fun h19 hT20 hF21 hU22 => ?_)
  refine st_aload c44_28 rfl ?_
  refine st_iconst c44_29 ?_
  refine st_putI c44_30 hT20 hq0 fd_10_6 (by omega) (by omega) (Ext_rf _) hS hF21 (by decide +kernel) (fun h23 hT24 hF25 hU26 => ?_)
  refine st_aload c44_33 rfl ?_
  refine st_null c44_34 ?_
  refine st_putN c44_35 hT24 hq0 fd_10_9 (Ext_rf _) hS hF25 (by decide +kernel) (fun h27 hT28 hF29 hU30 => ?_)
  refine st_return c44_38 ?_
  exact hQ _ _ ⟨rfl, hT28, hF29⟩
def W45 : List (Nat × Nat) := [(10, 15), (114, 0), (115, 0)]
set_option maxHeartbeats 0 in
theorem K45 {Ln : Nat} {xs : Nat → Int32} {τ : List Nat} {h : List mE} {E : EP} (hT : TH E τ h) (hS : Stb E W45) (q0 : Nat) (hq0 : ty τ q0 10) (p1 : Int) (hp1 : (-2147483648) ≤ p1 ∧ p1 ≤ 2147483647) (p2 : Int) (hp2 : (-2147483648) ≤ p2 ∧ p2 ≤ 2147483647) (d : Nat) (hd : 0 ≤ d) (Q : Option Value → List mE → Prop) (hQ : ∀ v h', (∃ z : Int, v = some (vI z) ∧ ((-3) ≤ z ∧ z ≤ 5) ∧ (PAdd h h' q0 p1 p2 z) ∧ TH E τ h' ∧ Fr τ W45 h h') → Q v h') : MR (mex Ln xs) d 45 0 [some (.ref q0), some (vI p1), some (vI p2)] [] h Q := by
  have hF := Fr_rf τ W45 h
  refine st_aload c45_0 rfl ?_
  refine st_getI c45_1 hT hq0 fd_10_15 (fun e1 e2 => ?_)
  refine st_iconst c45_4 ?_
  refine st_icmp_lt c45_5 (by omega) (by omega) (fun k3 => ?_) (fun k4 => ?_)
  refine st_aload c45_11 rfl ?_
  refine st_getR c45_12 hT hq0 fd_10_13 (u := 114) rfl (fun r5 e6 t7 => ?_)
  refine st_aload c45_15 rfl ?_
  refine st_getI c45_16 hT hq0 fd_10_15 (fun e8 e9 => ?_)
  refine st_iload c45_19 rfl ?_
  refine st_iast c45_20 hT t7 ay_114 (by omega) (by omega) (by omega) (Ext_rf _) hS hF (by decide +kernel) (fun h10 hT11 hF12 hU13 => ?_)
  refine st_aload c45_21 rfl ?_
  refine st_getR c45_22 hT11 hq0 fd_10_14 (u := 115) rfl (fun r14 e15 t16 => ?_)
  refine st_aload c45_25 rfl ?_
  refine st_getI c45_26 hT11 hq0 fd_10_15 (fun e17 e18 => ?_)
  have q19 : fI h10 q0 15 = fI h q0 15 := AUp_fI hU13
  refine st_iload c45_29 rfl ?_
  refine st_iast c45_30 hT11 t16 ay_115 (by omega) (by omega) (by omega) (Ext_rf _) hS hF12 (by decide +kernel) (fun h20 hT21 hF22 hU23 => ?_)
  refine st_aload c45_31 rfl ?_
  refine st_dup c45_32 rfl ?_
  refine st_getI c45_33 hT21 hq0 fd_10_15 (fun e24 e25 => ?_)
  have q26 : fI h20 q0 15 = fI h10 q0 15 := AUp_fI hU23
  refine st_iconst c45_36 ?_
  refine st_iadd c45_37 ?_
  refine st_putI c45_38 hT21 hq0 fd_10_15 (by omega) (by omega) (Ext_rf _) hS hF22 (by decide +kernel) (fun h27 hT28 hF29 hU30 => ?_)
  refine st_aload c45_41 rfl ?_
  refine st_getI c45_42 hT28 hq0 fd_10_15 (fun e31 e32 => ?_)
  have q33 : fI h27 q0 15 = (fI h20 q0 15) + 1 := FUp_fI hU30 (by omega) (by omega)
  refine st_ireturn c45_45 ?_
  exact hQ _ _ ⟨fI h27 q0 15, rfl, by omega, Or.inr ⟨by omega, by omega, r5, r14, h10, h20, _, _, _, by omega, by omega, by omega, e6, (AUp_fR hU13).symm.trans e15, hU13, hU23, hU30⟩, hT28, hF29⟩
  refine st_iconst c45_8 ?_
  refine st_ireturn c45_10 ?_
  exact hQ _ _ ⟨(-3), rfl, by omega, Or.inl ⟨by omega, by omega, rfl⟩, hT, hF⟩
set_option maxHeartbeats 0 in
theorem K46 {Ln : Nat} {xs : Nat → Int32} {τ : List Nat} {h : List mE} {E : EP} (hT : TH E τ h) (q0 : Nat) (hq0 : ty τ q0 10) (p1 : Int) (hp1 : (-2147483648) ≤ p1 ∧ p1 ≤ 2147483647) (d : Nat) (hd : 0 ≤ d) (Q : Option Value → List mE → Prop) (hQ : ∀ v h', (∃ z : Int, v = some (vI z) ∧ ((-2147483648) ≤ z ∧ z ≤ 2147483647) ∧ (PVal 13 (-1) h q0 p1 z) ∧ h = h') → Q v h') : MR (mex Ln xs) d 46 0 [some (.ref q0), some (vI p1)] [] h Q := by
  refine st_iload c46_0 rfl ?_
  refine st_if_lt c46_1 (by omega) (fun k1 => ?_) (fun k2 => ?_)
  refine st_iconst c46_21 ?_
  refine st_ireturn c46_22 ?_
  exact hQ _ _ ⟨(-1), rfl, by omega, Or.inr ⟨by omega, by omega⟩, rfl⟩
  refine st_iload c46_4 rfl ?_
  refine st_aload c46_5 rfl ?_
  refine st_getI c46_6 hT hq0 fd_10_15 (fun e3 e4 => ?_)
  refine st_icmp_ge c46_9 (by omega) (by omega) (fun k5 => ?_) (fun k6 => ?_)
  refine st_iconst c46_21 ?_
  refine st_ireturn c46_22 ?_
  exact hQ _ _ ⟨(-1), rfl, by omega, Or.inr ⟨by omega, by omega⟩, rfl⟩
  refine st_aload c46_12 rfl ?_
  refine st_getR c46_13 hT hq0 fd_10_13 (u := 114) rfl (fun r7 e8 t9 => ?_)
  refine st_iload c46_16 rfl ?_
  refine st_iald c46_17 hT t9 ay_114 (by omega) (fun e10 e11 => ?_)
  refine st_goto c46_18 ?_
  refine st_ireturn c46_22 ?_
  exact hQ _ _ ⟨aI h r7 p1, rfl, by omega, Or.inl ⟨by omega, by omega, r7, e8, rfl⟩, rfl⟩
set_option maxHeartbeats 0 in
theorem K47 {Ln : Nat} {xs : Nat → Int32} {τ : List Nat} {h : List mE} {E : EP} (hT : TH E τ h) (q0 : Nat) (hq0 : ty τ q0 10) (p1 : Int) (hp1 : (-2147483648) ≤ p1 ∧ p1 ≤ 2147483647) (d : Nat) (hd : 0 ≤ d) (Q : Option Value → List mE → Prop) (hQ : ∀ v h', (∃ z : Int, v = some (vI z) ∧ ((-2147483648) ≤ z ∧ z ≤ 2147483647) ∧ (PVal 14 (0) h q0 p1 z) ∧ h = h') → Q v h') : MR (mex Ln xs) d 47 0 [some (.ref q0), some (vI p1)] [] h Q := by
  refine st_iload c47_0 rfl ?_
  refine st_if_lt c47_1 (by omega) (fun k1 => ?_) (fun k2 => ?_)
  refine st_iconst c47_21 ?_
  refine st_ireturn c47_22 ?_
  exact hQ _ _ ⟨0, rfl, by omega, Or.inr ⟨by omega, by omega⟩, rfl⟩
  refine st_iload c47_4 rfl ?_
  refine st_aload c47_5 rfl ?_
  refine st_getI c47_6 hT hq0 fd_10_15 (fun e3 e4 => ?_)
  refine st_icmp_ge c47_9 (by omega) (by omega) (fun k5 => ?_) (fun k6 => ?_)
  refine st_iconst c47_21 ?_
  refine st_ireturn c47_22 ?_
  exact hQ _ _ ⟨0, rfl, by omega, Or.inr ⟨by omega, by omega⟩, rfl⟩
  refine st_aload c47_12 rfl ?_
  refine st_getR c47_13 hT hq0 fd_10_14 (u := 115) rfl (fun r7 e8 t9 => ?_)
  refine st_iload c47_16 rfl ?_
  refine st_iald c47_17 hT t9 ay_115 (by omega) (fun e10 e11 => ?_)
  refine st_goto c47_18 ?_
  refine st_ireturn c47_22 ?_
  exact hQ _ _ ⟨aI h r7 p1, rfl, by omega, Or.inl ⟨by omega, by omega, r7, e8, rfl⟩, rfl⟩
set_option maxHeartbeats 0 in
theorem K67 {Ln : Nat} {xs : Nat → Int32} {τ : List Nat} {h : List mE} {E : EP} (hT : TH E τ h) (q0 : Nat) (hq0 : ty τ q0 12) (q1 : Nat) (hq1 : ty τ q1 10) (p2 : Int) (hp2 : (-2147483648) ≤ p2 ∧ p2 ≤ 2147483647) (pre0 : I1 τ h) (d : Nat) (hd : 4 ≤ d) (Q : Option Value → List mE → Prop) (hQ : ∀ v h', (∃ z : Int, v = some (vI z) ∧ (0 ≤ z ∧ z ≤ 6) ∧ h = h') → Q v h') : MR (mex Ln xs) d 67 0 [some (.ref q0), some (.ref q1), some (vI p2), some (.ref 6), none] [] h Q := by
  refine st_aload c67_0 rfl ?_
  refine st_getI c67_1 hT hq1 fd_10_5 (fun e1 e2 => ?_)
  refine st_if_ne c67_4 (by omega) (fun k3 => ?_) (fun k4 => ?_)
  refine st_iconst c67_14 ?_
  refine st_ireturn c67_15 ?_
  exact hQ _ _ ⟨1, rfl, by omega, rfl⟩
  refine st_aload c67_7 rfl ?_
  refine st_getI c67_8 hT hq1 fd_10_3 (fun e5 e6 => ?_)
  refine st_if_eq c67_11 (by omega) (fun k7 => ?_) (fun k8 => ?_)
  refine st_aload c67_16 rfl ?_
  refine st_getR c67_17 hT hq1 fd_10_1 (u := 9) rfl (fun r9 e10 t11 => ?_)
  refine st_aload c67_20 rfl ?_
  refine st_getR c67_21 hT hq0 fd_12_5 (u := 9) rfl (fun r12 e13 t14 => ?_)
  refine st_callt (as := [.ref r12]) c67_24 cm_11 hT t11 fd_9_0 rfl rfl rfl rfl (by omega) (K11 hT r9 t11 r12 t14 (d - 1) (by omega) _ (fun v h0 H => H)) (fun v1 h1 H => ?_)
  rcases H with ⟨rfl, rfl⟩ | ⟨rfl, rfl⟩
  refine st_if_ne c67_27 (by omega) (fun k15 => False.elim (by omega)) (fun k16 => ?_)
  refine st_iconst c67_30 ?_
  refine st_ireturn c67_31 ?_
  exact hQ _ _ ⟨2, rfl, by omega, rfl⟩
  refine st_if_ne c67_27 (by omega) (fun k17 => ?_) (fun k18 => False.elim (by omega))
  refine st_aload c67_32 rfl ?_
  refine st_getI c67_33 hT hq0 fd_12_8 (fun e19 e20 => ?_)
  refine st_aload c67_36 rfl ?_
  refine st_getNr c67_37 hT hq1 fd_10_1 e10 ?_
  refine st_getI c67_40 hT t11 fd_9_4 (fun e21 e22 => ?_)
  refine st_ishrw c67_43 (fun w23 e24 e25 => ?_)
  refine st_iconst c67_44 ?_
  refine st_iandr c67_45 (by omega) (fun w26 e27 e28 => ?_)
  refine st_if_ne c67_46 (by omega) (fun k29 => ?_) (fun k30 => ?_)
  refine st_aload c67_51 rfl ?_
  refine st_callt (as := []) c67_52 cm_39 hT hq1 fd_10_0 rfl rfl rfl rfl (by omega) (K39 hT q1 hq1 pre0 (d - 1) (by omega) _ (fun v h0 H => H)) (fun v1 h1 H => ?_)
  rcases H with ⟨rfl, rfl⟩ | ⟨rfl, rfl⟩
  refine st_if_ne c67_55 (by omega) (fun k31 => False.elim (by omega)) (fun k32 => ?_)
  refine st_aload c67_58 rfl ?_
  refine st_aload c67_59 rfl ?_
  refine st_getI c67_60 hT hq0 fd_12_2 (fun e33 e34 => ?_)
  refine st_aload c67_63 rfl ?_
  refine st_getI c67_64 hT hq0 fd_12_3 (fun e35 e36 => ?_)
  refine st_imul c67_67 ?_
  refine MR_wrap (fun w37 e38 e39 e40 => ?_)
  clear e40
  refine st_callt (as := [vI w37]) c67_68 cm_40 hT hq1 fd_10_0 rfl rfl rfl rfl (by omega) (K40 hT q1 hq1 w37 (by omega) pre0 (d - 1) (by omega) _ (fun v h0 H => H)) (fun v1 h1 H => ?_)
  rcases H with ⟨rfl, rfl⟩ | ⟨rfl, rfl⟩
  refine st_if_eq c67_71 (by omega) (fun k41 => ?_) (fun k42 => False.elim (by omega))
  refine st_aload c67_76 rfl ?_
  refine st_aload c67_77 rfl ?_
  refine st_getI c67_78 hT hq1 fd_10_4 (fun e43 e44 => ?_)
  refine st_aload c67_81 rfl ?_
  refine st_getI c67_82 hT hq0 fd_12_7 (fun e45 e46 => ?_)
  refine st_callt (as := [vI (fI h q1 4), vI (fI h q0 7)]) c67_85 cm_90 hT (tf hT rfl rfl) fd_2_0 rfl rfl rfl rfl (by omega) (K90 hT (fI h q1 4) (by omega) (fI h q0 7) (by omega) (d - 1) (by omega) _ (fun v h0 H => H)) (fun v1 h1 H => ?_)
  obtain ⟨z47, rfl, b48, rfl⟩ := H
  refine st_istore (L' := [some (.ref q0), some (.ref q1), some (vI p2), some (.ref 6), some (vI z47)]) c67_88 rfl rfl ?_
  refine st_iload c67_90 rfl ?_
  refine st_if_lt c67_92 (by omega) (fun k49 => ?_) (fun k50 => ?_)
  refine st_iconst c67_106 ?_
  refine st_ireturn c67_107 ?_
  exact hQ _ _ ⟨5, rfl, by omega, rfl⟩
  refine st_iload c67_95 rfl ?_
  refine st_iload c67_96 rfl ?_
  refine st_iadd c67_98 ?_
  refine MR_wrap (fun w51 e52 e53 e54 => ?_)
  refine st_aload c67_99 rfl ?_
  refine st_getI c67_100 hT hq0 fd_12_1 (fun e55 e56 => ?_)
  refine st_icmp_le c67_103 (by omega) (by omega) (fun k57 => ?_) (fun k58 => ?_)
  refine st_aload c67_108 rfl ?_
  refine st_getN c67_109 hT hq1 fd_10_9 (u := 12) rfl (fun e60 => ?_) (fun r59 e61 t62 => ?_)
  refine st_ifnullN c67_112 ?_
  refine st_iconst c67_123 ?_
  refine st_goto c67_124 ?_
  refine st_ireturn c67_129 ?_
  exact hQ _ _ ⟨0, rfl, by omega, rfl⟩
  refine st_ifnullR c67_112 ?_
  refine st_aload c67_115 rfl ?_
  refine st_getNr c67_116 hT hq1 fd_10_9 e61 ?_
  refine st_aload c67_119 rfl ?_
  refine st_acmp_ne c67_120 (ty_q t62) (ty_q hq0) (fun k63 => ?_) (fun k64 => ?_)
  refine st_iconst c67_127 ?_
  refine st_ireturn c67_129 ?_
  exact hQ _ _ ⟨6, rfl, by omega, rfl⟩
  refine st_iconst c67_123 ?_
  refine st_goto c67_124 ?_
  refine st_ireturn c67_129 ?_
  exact hQ _ _ ⟨0, rfl, by omega, rfl⟩
  refine st_iconst c67_106 ?_
  refine st_ireturn c67_107 ?_
  exact hQ _ _ ⟨5, rfl, by omega, rfl⟩
  refine st_if_eq c67_71 (by omega) (fun k65 => False.elim (by omega)) (fun k66 => ?_)
  refine st_iconst c67_74 ?_
  refine st_ireturn c67_75 ?_
  exact hQ _ _ ⟨4, rfl, by omega, rfl⟩
  refine st_if_ne c67_55 (by omega) (fun k67 => ?_) (fun k68 => False.elim (by omega))
  refine st_iconst c67_74 ?_
  refine st_ireturn c67_75 ?_
  exact hQ _ _ ⟨4, rfl, by omega, rfl⟩
  refine st_iconst c67_49 ?_
  refine st_ireturn c67_50 ?_
  exact hQ _ _ ⟨3, rfl, by omega, rfl⟩
  refine st_iconst c67_14 ?_
  refine st_ireturn c67_15 ?_
  exact hQ _ _ ⟨1, rfl, by omega, rfl⟩
set_option maxHeartbeats 0 in
theorem K68 {Ln : Nat} {xs : Nat → Int32} {τ : List Nat} {h : List mE} {E : EP} (hT : TH E τ h) (q0 : Nat) (hq0 : ty τ q0 12) (p1 : Int) (hp1 : (-2147483648) ≤ p1 ∧ p1 ≤ 2147483647) (d : Nat) (hd : 0 ≤ d) (Q : Option Value → List mE → Prop) (hQ : ∀ v h', ((v = some (vI 0) ∧ h = h') ∨ (v = some (vI 1) ∧ h = h')) → Q v h') : MR (mex Ln xs) d 68 0 [some (.ref q0), some (vI p1)] [] h Q := by
  refine st_aload c68_0 rfl ?_
  refine st_getN c68_1 hT hq0 fd_12_10 (u := 10) rfl (fun e2 => ?_) (fun r1 e3 t4 => ?_)
  refine st_ifnullN c68_4 ?_
  refine st_iconst c68_35 ?_
  refine st_zreturn c68_36 (by omega) ?_
  exact hQ _ _ (Or.inl ⟨rfl, rfl⟩)
  refine st_ifnullR c68_4 ?_
  refine st_aload c68_7 rfl ?_
  refine st_getI c68_8 hT hq0 fd_12_9 (fun e5 e6 => ?_)
  refine st_iconst c68_11 ?_
  refine st_icmp_eq c68_12 (by omega) (by omega) (fun k7 => ?_) (fun k8 => ?_)
  refine st_iconst c68_31 ?_
  refine st_goto c68_32 ?_
  refine st_zreturn c68_36 (by omega) ?_
  exact hQ _ _ (Or.inr ⟨rfl, rfl⟩)
  refine st_aload c68_15 rfl ?_
  refine st_getI c68_16 hT hq0 fd_12_9 (fun e9 e10 => ?_)
  refine st_iconst c68_19 ?_
  refine st_icmp_ne c68_20 (by omega) (by omega) (fun k11 => ?_) (fun k12 => ?_)
  refine st_iconst c68_35 ?_
  refine st_zreturn c68_36 (by omega) ?_
  exact hQ _ _ (Or.inl ⟨rfl, rfl⟩)
  refine st_iload c68_23 rfl ?_
  refine st_aload c68_24 rfl ?_
  refine st_getI c68_25 hT hq0 fd_12_11 (fun e13 e14 => ?_)
  refine st_icmp_lt c68_28 (by omega) (by omega) (fun k15 => ?_) (fun k16 => ?_)
  refine st_iconst c68_35 ?_
  refine st_zreturn c68_36 (by omega) ?_
  exact hQ _ _ (Or.inl ⟨rfl, rfl⟩)
  refine st_iconst c68_31 ?_
  refine st_goto c68_32 ?_
  refine st_zreturn c68_36 (by omega) ?_
  exact hQ _ _ (Or.inr ⟨rfl, rfl⟩)
set_option maxHeartbeats 0 in
theorem K69 {Ln : Nat} {xs : Nat → Int32} {τ : List Nat} {h : List mE} {E : EP} (hT : TH E τ h) (q0 : Nat) (hq0 : ty τ q0 12) (d : Nat) (hd : 0 ≤ d) (Q : Option Value → List mE → Prop) (hQ : ∀ v h', ((v = some (vI 0) ∧ h = h') ∨ (v = some (vI 1) ∧ h = h')) → Q v h') : MR (mex Ln xs) d 69 0 [some (.ref q0)] [] h Q := by
  refine st_aload c69_0 rfl ?_
  refine st_getN c69_1 hT hq0 fd_12_10 (u := 10) rfl (fun e2 => ?_) (fun r1 e3 t4 => ?_)
  refine st_ifnullN c69_4 ?_
  refine st_iconst c69_25 ?_
  refine st_zreturn c69_26 (by omega) ?_
  exact hQ _ _ (Or.inl ⟨rfl, rfl⟩)
  refine st_ifnullR c69_4 ?_
  refine st_aload c69_7 rfl ?_
  refine st_getNr c69_8 hT hq0 fd_12_10 e3 ?_
  refine st_getR c69_11 hT t4 fd_10_1 (u := 9) rfl (fun r5 e6 t7 => ?_)
  refine st_aload c69_14 rfl ?_
  refine st_getR c69_15 hT hq0 fd_12_5 (u := 9) rfl (fun r8 e9 t10 => ?_)
  refine st_acmp_eq c69_18 (ty_q t7) (ty_q t10) (fun k11 => ?_) (fun k12 => ?_)
  refine st_iconst c69_25 ?_
  refine st_zreturn c69_26 (by omega) ?_
  exact hQ _ _ (Or.inl ⟨rfl, rfl⟩)
  refine st_iconst c69_21 ?_
  refine st_goto c69_22 ?_
  refine st_zreturn c69_26 (by omega) ?_
  exact hQ _ _ (Or.inr ⟨rfl, rfl⟩)
def W70 : List (Nat × Nat) := [(10, 9), (12, 9), (12, 10)]
set_option maxHeartbeats 0 in
theorem K70 {Ln : Nat} {xs : Nat → Int32} {τ : List Nat} {h : List mE} {E : EP} (hT : TH E τ h) (hS : Stb E W70) (q0 : Nat) (hq0 : ty τ q0 12) (q1 : Nat) (hq1 : ty τ q1 10) (d : Nat) (hd : 0 ≤ d) (Q : Option Value → List mE → Prop) (hQ : ∀ v h', (v = none ∧ TH E τ h' ∧ Fr τ W70 h h') → Q v h') : MR (mex Ln xs) d 70 0 [some (.ref q0), some (.ref q1)] [] h Q := by
  have hF := Fr_rf τ W70 h
  refine st_aload c70_0 rfl ?_
  refine st_iconst c70_1 ?_
  refine st_putI c70_2 hT hq0 fd_12_9 (by omega) (by omega) (Ext_rf _) hS hF (by decide +kernel) (fun h1 hT2 hF3 hU4 => ?_)
  refine st_aload c70_5 rfl ?_
  refine st_aload c70_6 rfl ?_
  refine st_putR c70_7 hT2 hq0 fd_12_10 hq1 (Ext_rf _) hS hF3 (by decide +kernel) (fun h5 hT6 hF7 hU8 => ?_)
  refine st_aload c70_10 rfl ?_
  refine st_aload c70_11 rfl ?_
  refine st_putR c70_12 hT6 hq1 fd_10_9 hq0 (Ext_rf _) hS hF7 (by decide +kernel) (fun h9 hT10 hF11 hU12 => ?_)
  refine st_return c70_15 ?_
  exact hQ _ _ ⟨rfl, hT10, hF11⟩
def W71 : List (Nat × Nat) := [(12, 9), (12, 12)]
set_option maxHeartbeats 0 in
theorem K71 {Ln : Nat} {xs : Nat → Int32} {τ : List Nat} {h : List mE} {E : EP} (hT : TH E τ h) (hS : Stb E W71) (q0 : Nat) (hq0 : ty τ q0 12) (p1 : Int) (hp1 : (-2147483648) ≤ p1 ∧ p1 ≤ 2147483647) (d : Nat) (hd : 0 ≤ d) (Q : Option Value → List mE → Prop) (hQ : ∀ v h', (v = none ∧ TH E τ h' ∧ Fr τ W71 h h') → Q v h') : MR (mex Ln xs) d 71 0 [some (.ref q0), some (vI p1)] [] h Q := by
  have hF := Fr_rf τ W71 h
  refine st_aload c71_0 rfl ?_
  refine st_iconst c71_1 ?_
  refine st_putI c71_2 hT hq0 fd_12_9 (by omega) (by omega) (Ext_rf _) hS hF (by decide +kernel) (fun h1 hT2 hF3 hU4 => ?_)
  refine st_aload c71_5 rfl ?_
  refine st_iload c71_6 rfl ?_
  refine st_putI c71_7 hT2 hq0 fd_12_12 (by omega) (by omega) (Ext_rf _) hS hF3 (by decide +kernel) (fun h5 hT6 hF7 hU8 => ?_)
  refine st_return c71_10 ?_
  exact hQ _ _ ⟨rfl, hT6, hF7⟩
def W72 : List (Nat × Nat) := [(12, 9), (12, 10), (12, 11), (12, 12)]
set_option maxHeartbeats 0 in
theorem K72 {Ln : Nat} {xs : Nat → Int32} {τ : List Nat} {h : List mE} {E : EP} (hT : TH E τ h) (hS : Stb E W72) (q0 : Nat) (hq0 : ty τ q0 12) (p1 : Int) (hp1 : (-2147483648) ≤ p1 ∧ p1 ≤ 2147483647) (d : Nat) (hd : 1 ≤ d) (Q : Option Value → List mE → Prop) (hQ : ∀ v h', (v = none ∧ TH E τ h' ∧ Fr τ W72 h h') → Q v h') : MR (mex Ln xs) d 72 0 [some (.ref q0), some (vI p1)] [] h Q := by
  have hF := Fr_rf τ W72 h
  refine st_aload c72_0 rfl ?_
  refine st_iload c72_1 rfl ?_
  refine st_callt (as := [vI p1]) c72_2 cm_68 hT hq0 fd_12_0 rfl rfl rfl rfl (by omega) (K68 hT q0 hq0 p1 (by omega) (d - 1) (by omega) _ (fun v h0 H => H)) (fun v1 h1 H => ?_)
  rcases H with ⟨rfl, rfl⟩ | ⟨rfl, rfl⟩
  refine st_if_eq c72_5 (by omega) (fun k1 => ?_) (fun k2 => False.elim (by omega))
  refine st_aload c72_14 rfl ?_
  refine st_iconst c72_15 ?_
  refine st_putI c72_16 hT hq0 fd_12_9 (by omega) (by omega) (Ext_rf _) hS hF (by decide +kernel) (fun h3 hT4 hF5 hU6 => ?_)
  refine st_aload c72_19 rfl ?_
  refine st_null c72_20 ?_
  refine st_putN c72_21 hT4 hq0 fd_12_10 (Ext_rf _) hS hF5 (by decide +kernel) (fun h7 hT8 hF9 hU10 => ?_)
  refine st_aload c72_24 rfl ?_
  refine st_iconst c72_25 ?_
  refine st_putI c72_26 hT8 hq0 fd_12_11 (by omega) (by omega) (Ext_rf _) hS hF9 (by decide +kernel) (fun h11 hT12 hF13 hU14 => ?_)
  refine st_return c72_29 ?_
  exact hQ _ _ ⟨rfl, hT12, hF13⟩
  refine st_if_eq c72_5 (by omega) (fun k15 => False.elim (by omega)) (fun k16 => ?_)
  refine st_aload c72_8 rfl ?_
  refine st_iload c72_9 rfl ?_
  refine st_callt (as := [vI p1]) c72_10 cm_71 hT hq0 fd_12_0 rfl rfl rfl rfl (by omega) (K71 hT (Stb_mono hS (by decide +kernel)) q0 hq0 p1 (by omega) (d - 1) (by omega) _ (fun v h0 H => H)) (fun v1 h17 H => ?_)
  obtain ⟨rfl, hT18, hF19⟩ := H
  have hF20 := Fr_cp hF hF19 (by decide +kernel : Wsub W71 W72 = true)
  refine st_return c72_13 ?_
  exact hQ _ _ ⟨rfl, hT18, hF20⟩
set_option maxHeartbeats 0 in
theorem K73 {Ln : Nat} {xs : Nat → Int32} {τ : List Nat} {h : List mE} {E : EP} (hT : TH E τ h) (q0 : Nat) (hq0 : ty τ q0 12) (p1 : Int) (hp1 : (-2147483648) ≤ p1 ∧ p1 ≤ 2147483647) (d : Nat) (hd : 0 ≤ d) (Q : Option Value → List mE → Prop) (hQ : ∀ v h', (∃ z : Int, v = some (vI z) ∧ ((-2147483648) ≤ z ∧ z ≤ 2147483647) ∧ h = h') → Q v h') : MR (mex Ln xs) d 73 0 [some (.ref q0), some (vI p1)] [] h Q := by
  refine st_aload c73_0 rfl ?_
  refine st_getI c73_1 hT hq0 fd_12_12 (fun e1 e2 => ?_)
  refine st_if_ge c73_4 (by omega) (fun k3 => ?_) (fun k4 => ?_)
  refine st_aload c73_11 rfl ?_
  refine st_getI c73_12 hT hq0 fd_12_12 (fun e5 e6 => ?_)
  refine st_ireturn c73_15 ?_
  exact hQ _ _ ⟨fI h q0 12, rfl, by omega, rfl⟩
  refine st_iload c73_7 rfl ?_
  refine st_goto c73_8 ?_
  refine st_ireturn c73_15 ?_
  exact hQ _ _ ⟨p1, rfl, by omega, rfl⟩
set_option maxHeartbeats 0 in
theorem K74 {Ln : Nat} {xs : Nat → Int32} {τ : List Nat} {h : List mE} {E : EP} (hT : TH E τ h) (q0 : Nat) (hq0 : ty τ q0 12) (p1 : Int) (hp1 : (-2147483648) ≤ p1 ∧ p1 ≤ 2147483647) (d : Nat) (hd : 1 ≤ d) (Q : Option Value → List mE → Prop) (hQ : ∀ v h', (∃ z : Int, v = some (vI z) ∧ ((-89478485) ≤ z ∧ z ≤ 89478485) ∧ h = h') → Q v h') : MR (mex Ln xs) d 74 0 [some (.ref q0), some (vI p1)] [] h Q := by
  refine st_aload c74_0 rfl ?_
  refine st_iload c74_1 rfl ?_
  refine st_callt (as := [vI p1]) c74_2 cm_73 hT hq0 fd_12_0 rfl rfl rfl rfl (by omega) (K73 hT q0 hq0 p1 (by omega) (d - 1) (by omega) _ (fun v h0 H => H)) (fun v1 h1 H => ?_)
  obtain ⟨z1, rfl, b2, rfl⟩ := H
  refine st_aload c74_5 rfl ?_
  refine st_getI c74_6 hT hq0 fd_12_11 (fun e3 e4 => ?_)
  refine st_isub c74_9 ?_
  refine MR_wrap (fun w5 e6 e7 e8 => ?_)
  refine st_iconst c74_10 ?_
  refine st_iadd c74_12 ?_
  refine MR_wrap (fun w9 e10 e11 e12 => ?_)
  refine st_iconst c74_13 ?_
  refine st_isub c74_14 ?_
  refine MR_wrap (fun w13 e14 e15 e16 => ?_)
  refine st_iconst c74_15 ?_
  refine st_idivc c74_17 (by omega) (by omega) (fun w17 e18 e19 => ?_)
  refine st_ireturn c74_18 ?_
  exact hQ _ _ ⟨w17, rfl, by omega, rfl⟩
set_option maxHeartbeats 0 in
theorem K75 {Ln : Nat} {xs : Nat → Int32} {τ : List Nat} {h : List mE} {E : EP} (hT : TH E τ h) (q0 : Nat) (hq0 : ty τ q0 12) (p1 : Int) (hp1 : (-2147483648) ≤ p1 ∧ p1 ≤ 2147483647) (p2 : Int) (hp2 : (-2147483648) ≤ p2 ∧ p2 ≤ 2147483647) (pre0 : I1 τ h) (d : Nat) (hd : 2 ≤ d) (Q : Option Value → List mE → Prop) (hQ : ∀ v h', (∃ z : Int, v = some (vI z) ∧ (0 ≤ z ∧ z ≤ 3) ∧ h = h') → Q v h') : MR (mex Ln xs) d 75 0 [some (.ref q0), some (vI p1), some (vI p2), none, none, none, none, none, none, none, none] [] h Q := by
  refine st_aload c75_0 rfl ?_
  refine st_getN c75_1 hT hq0 fd_12_10 (u := 10) rfl (fun e2 => ?_) (fun r1 e3 t4 => ?_)
  refine st_ifnonnullN c75_4 ?_
  refine st_iconst c75_7 ?_
  refine st_ireturn c75_8 ?_
  exact hQ _ _ ⟨3, rfl, by omega, rfl⟩
  refine st_ifnonnullR c75_4 ?_
  refine st_aload c75_9 rfl ?_
  refine st_getNr c75_10 hT hq0 fd_12_10 e3 ?_
  refine st_getR c75_13 hT t4 fd_10_2 (u := 11) rfl (fun r5 e6 t7 => ?_)
  refine st_astore (L' := [some (.ref q0), some (vI p1), some (vI p2), some (.ref r5), none, none, none, none, none, none, none]) c75_16 rfl rfl ?_
  refine st_aload c75_17 rfl ?_
  refine st_getI c75_18 hT hq0 fd_12_11 (fun e8 e9 => ?_)
  refine st_iconst c75_21 ?_
  refine st_iload c75_23 rfl ?_
  refine st_imul c75_24 ?_
  refine MR_wrap (fun w10 e11 e12 e13 => ?_)
  refine st_iadd c75_25 ?_
  refine MR_wrap (fun w14 e15 e16 e17 => ?_)
  refine st_istore (L' := [some (.ref q0), some (vI p1), some (vI p2), some (.ref r5), some (vI w14), none, none, none, none, none, none]) c75_26 rfl rfl ?_
  refine st_iload c75_28 rfl ?_
  refine st_iconst c75_30 ?_
  refine st_iadd c75_32 ?_
  refine MR_wrap (fun w18 e19 e20 e21 => ?_)
  refine st_aload c75_33 rfl ?_
  refine st_iload c75_34 rfl ?_
  refine st_callt (as := [vI p2]) c75_35 cm_73 hT hq0 fd_12_0 rfl rfl rfl rfl (by omega) (K73 hT q0 hq0 p2 (by omega) (d - 1) (by omega) _ (fun v h0 H => H)) (fun v1 h1 H => ?_)
  obtain ⟨z22, rfl, b23, rfl⟩ := H
  refine st_min c75_38 (by omega) (by omega) rfl (fun z24 e25 e26 e27 => ?_)
  refine st_istore (L' := [some (.ref q0), some (vI p1), some (vI p2), some (.ref r5), some (vI w14), some (vI z24), none, none, none, none, none]) c75_41 rfl rfl ?_
  refine st_aload c75_43 rfl ?_
  refine st_iload c75_44 rfl ?_
  refine st_callt (as := [vI w14]) c75_46 cm_65 hT t7 fd_11_0 rfl rfl rfl rfl (by omega) (K65 hT r5 t7 w14 (by omega) pre0 (d - 1) (by omega) _ (fun v h0 H => H)) (fun v1 h1 H => ?_)
  obtain ⟨z28, rfl, b29, rfl⟩ := H
  refine st_istore (L' := [some (.ref q0), some (vI p1), some (vI p2), some (.ref r5), some (vI w14), some (vI z24), some (vI z28), none, none, none, none]) c75_49 rfl rfl ?_
  refine st_aload c75_51 rfl ?_
  refine st_iload c75_52 rfl ?_
  refine st_callt (as := [vI z24]) c75_54 cm_64 hT t7 fd_11_0 rfl rfl rfl rfl (by omega) (K64 hT r5 t7 z24 (by omega) pre0 (d - 1) (by omega) _ (fun v h0 H => H)) (fun v1 h1 H => ?_)
  obtain ⟨z30, rfl, b31, rfl⟩ := H
  refine st_istore (L' := [some (.ref q0), some (vI p1), some (vI p2), some (.ref r5), some (vI w14), some (vI z24), some (vI z28), some (vI z30), none, none, none]) c75_57 rfl rfl ?_
  refine st_iload c75_59 rfl ?_
  refine st_iload c75_61 rfl ?_
  refine st_icmp_ge c75_63 (by omega) (by omega) (fun k32 => ?_) (fun k33 => ?_)
  refine st_aload c75_83 rfl ?_
  refine st_iload c75_84 rfl ?_
  refine st_callt (as := [vI w14]) c75_86 cm_64 hT t7 fd_11_0 rfl rfl rfl rfl (by omega) (K64 hT r5 t7 w14 (by omega) pre0 (d - 1) (by omega) _ (fun v h0 H => H)) (fun v1 h1 H => ?_)
  obtain ⟨z34, rfl, b35, rfl⟩ := H
  refine st_istore (L' := [some (.ref q0), some (vI p1), some (vI p2), some (.ref r5), some (vI w14), some (vI z24), some (vI z28), some (vI z30), some (vI z34), none, none]) c75_89 rfl rfl ?_
  refine st_aload c75_91 rfl ?_
  refine st_iload c75_92 rfl ?_
  refine st_callt (as := [vI z24]) c75_94 cm_65 hT t7 fd_11_0 rfl rfl rfl rfl (by omega) (K65 hT r5 t7 z24 (by omega) pre0 (d - 1) (by omega) _ (fun v h0 H => H)) (fun v1 h1 H => ?_)
  obtain ⟨z36, rfl, b37, rfl⟩ := H
  refine st_istore (L' := [some (.ref q0), some (vI p1), some (vI p2), some (.ref r5), some (vI w14), some (vI z24), some (vI z28), some (vI z30), some (vI z34), some (vI z36), none]) c75_97 rfl rfl ?_
  refine st_iload c75_99 rfl ?_
  refine st_if_lt c75_101 (by omega) (fun k38 => ?_) (fun k39 => ?_)
  refine st_iconst c75_117 ?_
  refine st_istore (L' := [some (.ref q0), some (vI p1), some (vI p2), some (.ref r5), some (vI w14), some (vI z24), some (vI z28), some (vI z30), some (vI z34), some (vI z36), some (vI 0)]) c75_118 rfl rfl ?_
  refine st_iload c75_120 rfl ?_
  refine st_if_eq c75_122 (by omega) (fun k40 => ?_) (fun k41 => False.elim (by omega))
  refine st_iload c75_142 rfl ?_
  refine st_if_lt c75_143 (by omega) (fun k42 => ?_) (fun k43 => ?_)
  refine st_iconst c75_165 ?_
  refine st_ireturn c75_166 ?_
  exact hQ _ _ ⟨2, rfl, by omega, rfl⟩
  refine st_iload c75_146 rfl ?_
  refine st_iconst c75_147 ?_
  refine st_icmp_ge c75_149 (by omega) (by omega) (fun k44 => ?_) (fun k45 => ?_)
  refine st_iconst c75_165 ?_
  refine st_ireturn c75_166 ?_
  exact hQ _ _ ⟨2, rfl, by omega, rfl⟩
  refine st_aload c75_152 rfl ?_
  refine st_getR c75_153 hT hq0 fd_12_13 (u := 118) rfl (fun r46 e47 t48 => ?_)
  refine st_iload c75_156 rfl ?_
  refine st_bald c75_157 hT t48 ay_118 (Or.inl rfl) (by omega) (fun e49 e50 => ?_)
  refine st_if_eq c75_158 (by omega) (fun k51 => ?_) (fun k52 => ?_)
  refine st_iconst c75_165 ?_
  refine st_ireturn c75_166 ?_
  exact hQ _ _ ⟨2, rfl, by omega, rfl⟩
  refine st_iconst c75_161 ?_
  refine st_goto c75_162 ?_
  refine st_ireturn c75_166 ?_
  exact hQ _ _ ⟨3, rfl, by omega, rfl⟩
  refine st_iload c75_104 rfl ?_
  refine st_aload c75_106 rfl ?_
  refine st_callt (as := []) c75_107 cm_57 hT t7 fd_11_0 rfl rfl rfl rfl (by omega) (K57 hT r5 t7 (d - 1) (by omega) _ (fun v h0 H => H)) (fun v1 h1 H => ?_)
  obtain ⟨z53, rfl, b54, rfl⟩ := H
  refine st_icmp_ge c75_110 (by omega) (by omega) (fun k55 => ?_) (fun k56 => ?_)
  refine st_iconst c75_117 ?_
  refine st_istore (L' := [some (.ref q0), some (vI p1), some (vI p2), some (.ref r5), some (vI w14), some (vI z24), some (vI z28), some (vI z30), some (vI z34), some (vI z36), some (vI 0)]) c75_118 rfl rfl ?_
  refine st_iload c75_120 rfl ?_
  refine st_if_eq c75_122 (by omega) (fun k57 => ?_) (fun k58 => False.elim (by omega))
  refine st_iload c75_142 rfl ?_
  refine st_if_lt c75_143 (by omega) (fun k59 => ?_) (fun k60 => ?_)
  refine st_iconst c75_165 ?_
  refine st_ireturn c75_166 ?_
  exact hQ _ _ ⟨2, rfl, by omega, rfl⟩
  refine st_iload c75_146 rfl ?_
  refine st_iconst c75_147 ?_
  refine st_icmp_ge c75_149 (by omega) (by omega) (fun k61 => ?_) (fun k62 => ?_)
  refine st_iconst c75_165 ?_
  refine st_ireturn c75_166 ?_
  exact hQ _ _ ⟨2, rfl, by omega, rfl⟩
  refine st_aload c75_152 rfl ?_
  refine st_getR c75_153 hT hq0 fd_12_13 (u := 118) rfl (fun r63 e64 t65 => ?_)
  refine st_iload c75_156 rfl ?_
  refine st_bald c75_157 hT t65 ay_118 (Or.inl rfl) (by omega) (fun e66 e67 => ?_)
  refine st_if_eq c75_158 (by omega) (fun k68 => ?_) (fun k69 => ?_)
  refine st_iconst c75_165 ?_
  refine st_ireturn c75_166 ?_
  exact hQ _ _ ⟨2, rfl, by omega, rfl⟩
  refine st_iconst c75_161 ?_
  refine st_goto c75_162 ?_
  refine st_ireturn c75_166 ?_
  exact hQ _ _ ⟨3, rfl, by omega, rfl⟩
  refine st_iconst c75_113 ?_
  refine st_goto c75_114 ?_
  refine st_istore (L' := [some (.ref q0), some (vI p1), some (vI p2), some (.ref r5), some (vI w14), some (vI z24), some (vI z28), some (vI z30), some (vI z34), some (vI z36), some (vI 1)]) c75_118 rfl rfl ?_
  refine st_iload c75_120 rfl ?_
  refine st_if_eq c75_122 (by omega) (fun k70 => False.elim (by omega)) (fun k71 => ?_)
  refine st_aload c75_125 rfl ?_
  refine st_iload c75_126 rfl ?_
  refine st_callt (as := [vI z34]) c75_128 cm_59 hT t7 fd_11_0 rfl rfl rfl rfl (by omega) (K59 hT r5 t7 z34 (by omega) pre0 (d - 1) (by omega) _ (fun v h0 H => H)) (fun v1 h1 H => ?_)
  obtain ⟨z72, rfl, b73, rfl⟩ := H
  refine st_aload c75_131 rfl ?_
  refine st_iload c75_132 rfl ?_
  refine st_callt (as := [vI z36]) c75_134 cm_59 hT t7 fd_11_0 rfl rfl rfl rfl (by omega) (K59 hT r5 t7 z36 (by omega) pre0 (d - 1) (by omega) _ (fun v h0 H => H)) (fun v1 h1 H => ?_)
  obtain ⟨z74, rfl, b75, rfl⟩ := H
  refine st_icmp_ne c75_137 (by omega) (by omega) (fun k76 => ?_) (fun k77 => ?_)
  refine st_iload c75_142 rfl ?_
  refine st_if_lt c75_143 (by omega) (fun k78 => ?_) (fun k79 => ?_)
  refine st_iconst c75_165 ?_
  refine st_ireturn c75_166 ?_
  exact hQ _ _ ⟨2, rfl, by omega, rfl⟩
  refine st_iload c75_146 rfl ?_
  refine st_iconst c75_147 ?_
  refine st_icmp_ge c75_149 (by omega) (by omega) (fun k80 => ?_) (fun k81 => ?_)
  refine st_iconst c75_165 ?_
  refine st_ireturn c75_166 ?_
  exact hQ _ _ ⟨2, rfl, by omega, rfl⟩
  refine st_aload c75_152 rfl ?_
  refine st_getR c75_153 hT hq0 fd_12_13 (u := 118) rfl (fun r82 e83 t84 => ?_)
  refine st_iload c75_156 rfl ?_
  refine st_bald c75_157 hT t84 ay_118 (Or.inl rfl) (by omega) (fun e85 e86 => ?_)
  refine st_if_eq c75_158 (by omega) (fun k87 => ?_) (fun k88 => ?_)
  refine st_iconst c75_165 ?_
  refine st_ireturn c75_166 ?_
  exact hQ _ _ ⟨2, rfl, by omega, rfl⟩
  refine st_iconst c75_161 ?_
  refine st_goto c75_162 ?_
  refine st_ireturn c75_166 ?_
  exact hQ _ _ ⟨3, rfl, by omega, rfl⟩
  refine st_iconst c75_140 ?_
  refine st_ireturn c75_141 ?_
  exact hQ _ _ ⟨0, rfl, by omega, rfl⟩
  refine st_aload c75_66 rfl ?_
  refine st_iload c75_67 rfl ?_
  refine st_callt (as := [vI z28]) c75_69 cm_59 hT t7 fd_11_0 rfl rfl rfl rfl (by omega) (K59 hT r5 t7 z28 (by omega) pre0 (d - 1) (by omega) _ (fun v h0 H => H)) (fun v1 h1 H => ?_)
  obtain ⟨z89, rfl, b90, rfl⟩ := H
  refine st_aload c75_72 rfl ?_
  refine st_iload c75_73 rfl ?_
  refine st_callt (as := [vI z30]) c75_75 cm_59 hT t7 fd_11_0 rfl rfl rfl rfl (by omega) (K59 hT r5 t7 z30 (by omega) pre0 (d - 1) (by omega) _ (fun v h0 H => H)) (fun v1 h1 H => ?_)
  obtain ⟨z91, rfl, b92, rfl⟩ := H
  refine st_icmp_eq c75_78 (by omega) (by omega) (fun k93 => ?_) (fun k94 => ?_)
  refine st_aload c75_83 rfl ?_
  refine st_iload c75_84 rfl ?_
  refine st_callt (as := [vI w14]) c75_86 cm_64 hT t7 fd_11_0 rfl rfl rfl rfl (by omega) (K64 hT r5 t7 w14 (by omega) pre0 (d - 1) (by omega) _ (fun v h0 H => H)) (fun v1 h1 H => ?_)
  obtain ⟨z95, rfl, b96, rfl⟩ := H
  refine st_istore (L' := [some (.ref q0), some (vI p1), some (vI p2), some (.ref r5), some (vI w14), some (vI z24), some (vI z28), some (vI z30), some (vI z95), none, none]) c75_89 rfl rfl ?_
  refine st_aload c75_91 rfl ?_
  refine st_iload c75_92 rfl ?_
  refine st_callt (as := [vI z24]) c75_94 cm_65 hT t7 fd_11_0 rfl rfl rfl rfl (by omega) (K65 hT r5 t7 z24 (by omega) pre0 (d - 1) (by omega) _ (fun v h0 H => H)) (fun v1 h1 H => ?_)
  obtain ⟨z97, rfl, b98, rfl⟩ := H
  refine st_istore (L' := [some (.ref q0), some (vI p1), some (vI p2), some (.ref r5), some (vI w14), some (vI z24), some (vI z28), some (vI z30), some (vI z95), some (vI z97), none]) c75_97 rfl rfl ?_
  refine st_iload c75_99 rfl ?_
  refine st_if_lt c75_101 (by omega) (fun k99 => ?_) (fun k100 => ?_)
  refine st_iconst c75_117 ?_
  refine st_istore (L' := [some (.ref q0), some (vI p1), some (vI p2), some (.ref r5), some (vI w14), some (vI z24), some (vI z28), some (vI z30), some (vI z95), some (vI z97), some (vI 0)]) c75_118 rfl rfl ?_
  refine st_iload c75_120 rfl ?_
  refine st_if_eq c75_122 (by omega) (fun k101 => ?_) (fun k102 => False.elim (by omega))
  refine st_iload c75_142 rfl ?_
  refine st_if_lt c75_143 (by omega) (fun k103 => ?_) (fun k104 => ?_)
  refine st_iconst c75_165 ?_
  refine st_ireturn c75_166 ?_
  exact hQ _ _ ⟨2, rfl, by omega, rfl⟩
  refine st_iload c75_146 rfl ?_
  refine st_iconst c75_147 ?_
  refine st_icmp_ge c75_149 (by omega) (by omega) (fun k105 => ?_) (fun k106 => ?_)
  refine st_iconst c75_165 ?_
  refine st_ireturn c75_166 ?_
  exact hQ _ _ ⟨2, rfl, by omega, rfl⟩
  refine st_aload c75_152 rfl ?_
  refine st_getR c75_153 hT hq0 fd_12_13 (u := 118) rfl (fun r107 e108 t109 => ?_)
  refine st_iload c75_156 rfl ?_
  refine st_bald c75_157 hT t109 ay_118 (Or.inl rfl) (by omega) (fun e110 e111 => ?_)
  refine st_if_eq c75_158 (by omega) (fun k112 => ?_) (fun k113 => ?_)
  refine st_iconst c75_165 ?_
  refine st_ireturn c75_166 ?_
  exact hQ _ _ ⟨2, rfl, by omega, rfl⟩
  refine st_iconst c75_161 ?_
  refine st_goto c75_162 ?_
  refine st_ireturn c75_166 ?_
  exact hQ _ _ ⟨3, rfl, by omega, rfl⟩
  refine st_iload c75_104 rfl ?_
  refine st_aload c75_106 rfl ?_
  refine st_callt (as := []) c75_107 cm_57 hT t7 fd_11_0 rfl rfl rfl rfl (by omega) (K57 hT r5 t7 (d - 1) (by omega) _ (fun v h0 H => H)) (fun v1 h1 H => ?_)
  obtain ⟨z114, rfl, b115, rfl⟩ := H
  refine st_icmp_ge c75_110 (by omega) (by omega) (fun k116 => ?_) (fun k117 => ?_)
  refine st_iconst c75_117 ?_
  refine st_istore (L' := [some (.ref q0), some (vI p1), some (vI p2), some (.ref r5), some (vI w14), some (vI z24), some (vI z28), some (vI z30), some (vI z95), some (vI z97), some (vI 0)]) c75_118 rfl rfl ?_
  refine st_iload c75_120 rfl ?_
  refine st_if_eq c75_122 (by omega) (fun k118 => ?_) (fun k119 => False.elim (by omega))
  refine st_iload c75_142 rfl ?_
  refine st_if_lt c75_143 (by omega) (fun k120 => ?_) (fun k121 => ?_)
  refine st_iconst c75_165 ?_
  refine st_ireturn c75_166 ?_
  exact hQ _ _ ⟨2, rfl, by omega, rfl⟩
  refine st_iload c75_146 rfl ?_
  refine st_iconst c75_147 ?_
  refine st_icmp_ge c75_149 (by omega) (by omega) (fun k122 => ?_) (fun k123 => ?_)
  refine st_iconst c75_165 ?_
  refine st_ireturn c75_166 ?_
  exact hQ _ _ ⟨2, rfl, by omega, rfl⟩
  refine st_aload c75_152 rfl ?_
  refine st_getR c75_153 hT hq0 fd_12_13 (u := 118) rfl (fun r124 e125 t126 => ?_)
  refine st_iload c75_156 rfl ?_
  refine st_bald c75_157 hT t126 ay_118 (Or.inl rfl) (by omega) (fun e127 e128 => ?_)
  refine st_if_eq c75_158 (by omega) (fun k129 => ?_) (fun k130 => ?_)
  refine st_iconst c75_165 ?_
  refine st_ireturn c75_166 ?_
  exact hQ _ _ ⟨2, rfl, by omega, rfl⟩
  refine st_iconst c75_161 ?_
  refine st_goto c75_162 ?_
  refine st_ireturn c75_166 ?_
  exact hQ _ _ ⟨3, rfl, by omega, rfl⟩
  refine st_iconst c75_113 ?_
  refine st_goto c75_114 ?_
  refine st_istore (L' := [some (.ref q0), some (vI p1), some (vI p2), some (.ref r5), some (vI w14), some (vI z24), some (vI z28), some (vI z30), some (vI z95), some (vI z97), some (vI 1)]) c75_118 rfl rfl ?_
  refine st_iload c75_120 rfl ?_
  refine st_if_eq c75_122 (by omega) (fun k131 => False.elim (by omega)) (fun k132 => ?_)
  refine st_aload c75_125 rfl ?_
  refine st_iload c75_126 rfl ?_
  refine st_callt (as := [vI z95]) c75_128 cm_59 hT t7 fd_11_0 rfl rfl rfl rfl (by omega) (K59 hT r5 t7 z95 (by omega) pre0 (d - 1) (by omega) _ (fun v h0 H => H)) (fun v1 h1 H => ?_)
  obtain ⟨z133, rfl, b134, rfl⟩ := H
  refine st_aload c75_131 rfl ?_
  refine st_iload c75_132 rfl ?_
  refine st_callt (as := [vI z97]) c75_134 cm_59 hT t7 fd_11_0 rfl rfl rfl rfl (by omega) (K59 hT r5 t7 z97 (by omega) pre0 (d - 1) (by omega) _ (fun v h0 H => H)) (fun v1 h1 H => ?_)
  obtain ⟨z135, rfl, b136, rfl⟩ := H
  refine st_icmp_ne c75_137 (by omega) (by omega) (fun k137 => ?_) (fun k138 => ?_)
  refine st_iload c75_142 rfl ?_
  refine st_if_lt c75_143 (by omega) (fun k139 => ?_) (fun k140 => ?_)
  refine st_iconst c75_165 ?_
  refine st_ireturn c75_166 ?_
  exact hQ _ _ ⟨2, rfl, by omega, rfl⟩
  refine st_iload c75_146 rfl ?_
  refine st_iconst c75_147 ?_
  refine st_icmp_ge c75_149 (by omega) (by omega) (fun k141 => ?_) (fun k142 => ?_)
  refine st_iconst c75_165 ?_
  refine st_ireturn c75_166 ?_
  exact hQ _ _ ⟨2, rfl, by omega, rfl⟩
  refine st_aload c75_152 rfl ?_
  refine st_getR c75_153 hT hq0 fd_12_13 (u := 118) rfl (fun r143 e144 t145 => ?_)
  refine st_iload c75_156 rfl ?_
  refine st_bald c75_157 hT t145 ay_118 (Or.inl rfl) (by omega) (fun e146 e147 => ?_)
  refine st_if_eq c75_158 (by omega) (fun k148 => ?_) (fun k149 => ?_)
  refine st_iconst c75_165 ?_
  refine st_ireturn c75_166 ?_
  exact hQ _ _ ⟨2, rfl, by omega, rfl⟩
  refine st_iconst c75_161 ?_
  refine st_goto c75_162 ?_
  refine st_ireturn c75_166 ?_
  exact hQ _ _ ⟨3, rfl, by omega, rfl⟩
  refine st_iconst c75_140 ?_
  refine st_ireturn c75_141 ?_
  exact hQ _ _ ⟨0, rfl, by omega, rfl⟩
  refine st_iconst c75_81 ?_
  refine st_ireturn c75_82 ?_
  exact hQ _ _ ⟨1, rfl, by omega, rfl⟩
set_option maxHeartbeats 0 in
theorem K76 {Ln : Nat} {xs : Nat → Int32} {τ : List Nat} {h : List mE} {E : EP} (hT : TH E τ h) (q0 : Nat) (hq0 : ty τ q0 12) (p1 : Int) (hp1 : (-2147483648) ≤ p1 ∧ p1 ≤ 2147483647) (p2 : Int) (hp2 : (-2147483648) ≤ p2 ∧ p2 ≤ 2147483647) (pre0 : I1 τ h) (d : Nat) (hd : 3 ≤ d) (Q : Option Value → List mE → Prop) (hQ : ∀ v h', (∃ z : Int, v = some (vI z) ∧ ((-2147483648) ≤ z ∧ z ≤ 2147483647) ∧ h = h') → Q v h') : MR (mex Ln xs) d 76 0 [some (.ref q0), some (vI p1), some (vI p2), none, none, none, none, none] [] h Q := by
  refine st_aload c76_0 rfl ?_
  refine st_iload c76_1 rfl ?_
  refine st_callt (as := [vI p2]) c76_2 cm_74 hT hq0 fd_12_0 rfl rfl rfl rfl (by omega) (K74 hT q0 hq0 p2 (by omega) (d - 1) (by omega) _ (fun v h0 H => H)) (fun v1 h1 H => ?_)
  obtain ⟨z1, rfl, b2, rfl⟩ := H
  refine st_istore (L' := [some (.ref q0), some (vI p1), some (vI p2), some (vI z1), none, none, none, none]) c76_5 rfl rfl ?_
  refine st_iconst c76_6 ?_
  refine st_istore (L' := [some (.ref q0), some (vI p1), some (vI p2), some (vI z1), some (vI 0), none, none, none]) c76_7 rfl rfl ?_
  refine st_iconst c76_9 ?_
  refine st_istore (L' := [some (.ref q0), some (vI p1), some (vI p2), some (vI z1), some (vI 0), some (vI 0), none, none]) c76_10 rfl rfl ?_
  have lp245 : ∀ (n246 : Nat) (z243 : Int) (z244 : Int), (89478485 : Int) - z244 < (n246 : Int) → (-2147483648) ≤ z243 ∧ z243 ≤ 2147483647 → 0 ≤ z244 ∧ z244 ≤ 89478485 → MR (mex Ln xs) d 76 12 [some (.ref q0), some (vI p1), some (vI p2), some (vI z1), some (vI z243), some (vI z244), none, none] [] h Q := by
    intro n246
    induction n246 with
    | zero =>
      intro z243 z244 hm248 b249 b250
      exfalso; omega
    | succ n246 ih247 =>
      intro z243 z244 hm248 b249 b250
      refine st_iload c76_12 rfl ?_
      refine st_iload c76_14 rfl ?_
      refine st_icmp_ge c76_15 (by omega) (by omega) (fun k251 => ?_) (fun k252 => ?_)
      refine st_iload c76_76 rfl ?_
      refine st_ireturn c76_78 ?_
      exact hQ _ _ ⟨z243, rfl, by omega, rfl⟩
      refine st_aload c76_18 rfl ?_
      refine st_iload c76_19 rfl ?_
      refine st_iload c76_21 rfl ?_
      refine st_callt (as := [vI z244, vI p2]) c76_22 cm_75 hT hq0 fd_12_0 rfl rfl rfl rfl (by omega) (K75 hT q0 hq0 z244 (by omega) p2 (by omega) pre0 (d - 1) (by omega) _ (fun v h0 H => H)) (fun v1 h1 H => ?_)
      obtain ⟨z253, rfl, b254, rfl⟩ := H
      refine st_istore (L' := [some (.ref q0), some (vI p1), some (vI p2), some (vI z1), some (vI z243), some (vI z244), some (vI z253), none]) c76_25 rfl rfl ?_
      refine st_iload c76_27 rfl ?_
      refine st_iconst c76_29 ?_
      refine st_icmp_eq c76_30 (by omega) (by omega) (fun k255 => ?_) (fun k256 => ?_)
      refine st_iconst c76_55 ?_
      refine st_goto c76_56 ?_
      refine st_istore (L' := [some (.ref q0), some (vI p1), some (vI p2), some (vI z1), some (vI z243), some (vI z244), some (vI z253), some (vI 1)]) c76_60 rfl rfl ?_
      refine st_iload c76_62 rfl ?_
      refine st_if_eq c76_64 (by omega) (fun k257 => False.elim (by omega)) (fun k258 => ?_)
      refine st_iinc (L' := [some (.ref q0), some (vI p1), some (vI p2), some (vI z1), some (vI (z243 + 1)), some (vI z244), some (vI z253), some (vI 1)]) c76_67 rfl rfl rfl ?_
      refine st_iinc (L' := [some (.ref q0), some (vI p1), some (vI p2), some (vI z1), some (vI (z243 + 1)), some (vI (z244 + 1)), some (vI z253), some (vI 1)]) c76_70 rfl rfl rfl ?_
      refine st_goto c76_73 ?_
      have e260 : vI (z243 + 1) = vI (Int32.ofInt (z243 + 1)).toInt := by unfold vI; rw [Int32.ofInt_toInt]
      rw [e260]
      have b261 := to_lo (Int32.ofInt (z243 + 1))
      have b262 := to_hi (Int32.ofInt (z243 + 1))
      refine MR_weak (A := [some (.ref q0), some (vI p1), some (vI p2), some (vI z1), some (vI ((Int32.ofInt (z243 + 1)).toInt)), some (vI (z244 + 1)), none, none]) (Lle_s (Lle_s (Lle_s (Lle_s (Lle_s (Lle_s (Lle_n (Lle_n (Lle_0))))))))) ?_
      exact ih247 ((Int32.ofInt (z243 + 1)).toInt) (z244 + 1) (by omega) (by omega) (by omega)
      refine st_iload c76_33 rfl ?_
      refine st_iconst c76_35 ?_
      refine st_icmp_ne c76_36 (by omega) (by omega) (fun k263 => ?_) (fun k264 => ?_)
      refine st_iload c76_44 rfl ?_
      refine st_iconst c76_46 ?_
      refine st_icmp_ne c76_47 (by omega) (by omega) (fun k265 => ?_) (fun k266 => ?_)
      refine st_iconst c76_59 ?_
      refine st_istore (L' := [some (.ref q0), some (vI p1), some (vI p2), some (vI z1), some (vI z243), some (vI z244), some (vI z253), some (vI 0)]) c76_60 rfl rfl ?_
      refine st_iload c76_62 rfl ?_
      refine st_if_eq c76_64 (by omega) (fun k267 => ?_) (fun k268 => False.elim (by omega))
      refine st_iinc (L' := [some (.ref q0), some (vI p1), some (vI p2), some (vI z1), some (vI z243), some (vI (z244 + 1)), some (vI z253), some (vI 0)]) c76_70 rfl rfl rfl ?_
      refine st_goto c76_73 ?_
      refine MR_weak (A := [some (.ref q0), some (vI p1), some (vI p2), some (vI z1), some (vI z243), some (vI (z244 + 1)), none, none]) (Lle_s (Lle_s (Lle_s (Lle_s (Lle_s (Lle_s (Lle_n (Lle_n (Lle_0))))))))) ?_
      exact ih247 z243 (z244 + 1) (by omega) (by omega) (by omega)
      refine st_iload c76_50 rfl ?_
      refine st_iconst c76_51 ?_
      refine st_icmp_ne c76_52 (by omega) (by omega) (fun k269 => ?_) (fun k270 => ?_)
      refine st_iconst c76_59 ?_
      refine st_istore (L' := [some (.ref q0), some (vI p1), some (vI p2), some (vI z1), some (vI z243), some (vI z244), some (vI z253), some (vI 0)]) c76_60 rfl rfl ?_
      refine st_iload c76_62 rfl ?_
      refine st_if_eq c76_64 (by omega) (fun k271 => ?_) (fun k272 => False.elim (by omega))
      refine st_iinc (L' := [some (.ref q0), some (vI p1), some (vI p2), some (vI z1), some (vI z243), some (vI (z244 + 1)), some (vI z253), some (vI 0)]) c76_70 rfl rfl rfl ?_
      refine st_goto c76_73 ?_
      refine MR_weak (A := [some (.ref q0), some (vI p1), some (vI p2), some (vI z1), some (vI z243), some (vI (z244 + 1)), none, none]) (Lle_s (Lle_s (Lle_s (Lle_s (Lle_s (Lle_s (Lle_n (Lle_n (Lle_0))))))))) ?_
      exact ih247 z243 (z244 + 1) (by omega) (by omega) (by omega)
      refine st_iconst c76_55 ?_
      refine st_goto c76_56 ?_
      refine st_istore (L' := [some (.ref q0), some (vI p1), some (vI p2), some (vI z1), some (vI z243), some (vI z244), some (vI z253), some (vI 1)]) c76_60 rfl rfl ?_
      refine st_iload c76_62 rfl ?_
      refine st_if_eq c76_64 (by omega) (fun k273 => False.elim (by omega)) (fun k274 => ?_)
      refine st_iinc (L' := [some (.ref q0), some (vI p1), some (vI p2), some (vI z1), some (vI (z243 + 1)), some (vI z244), some (vI z253), some (vI 1)]) c76_67 rfl rfl rfl ?_
      refine st_iinc (L' := [some (.ref q0), some (vI p1), some (vI p2), some (vI z1), some (vI (z243 + 1)), some (vI (z244 + 1)), some (vI z253), some (vI 1)]) c76_70 rfl rfl rfl ?_
      refine st_goto c76_73 ?_
      have e276 : vI (z243 + 1) = vI (Int32.ofInt (z243 + 1)).toInt := by unfold vI; rw [Int32.ofInt_toInt]
      rw [e276]
      have b277 := to_lo (Int32.ofInt (z243 + 1))
      have b278 := to_hi (Int32.ofInt (z243 + 1))
      refine MR_weak (A := [some (.ref q0), some (vI p1), some (vI p2), some (vI z1), some (vI ((Int32.ofInt (z243 + 1)).toInt)), some (vI (z244 + 1)), none, none]) (Lle_s (Lle_s (Lle_s (Lle_s (Lle_s (Lle_s (Lle_n (Lle_n (Lle_0))))))))) ?_
      exact ih247 ((Int32.ofInt (z243 + 1)).toInt) (z244 + 1) (by omega) (by omega) (by omega)
      refine st_iload c76_39 rfl ?_
      refine st_iconst c76_40 ?_
      refine st_icmp_ne c76_41 (by omega) (by omega) (fun k279 => ?_) (fun k280 => ?_)
      refine st_iconst c76_55 ?_
      refine st_goto c76_56 ?_
      refine st_istore (L' := [some (.ref q0), some (vI p1), some (vI p2), some (vI z1), some (vI z243), some (vI z244), some (vI z253), some (vI 1)]) c76_60 rfl rfl ?_
      refine st_iload c76_62 rfl ?_
      refine st_if_eq c76_64 (by omega) (fun k281 => False.elim (by omega)) (fun k282 => ?_)
      refine st_iinc (L' := [some (.ref q0), some (vI p1), some (vI p2), some (vI z1), some (vI (z243 + 1)), some (vI z244), some (vI z253), some (vI 1)]) c76_67 rfl rfl rfl ?_
      refine st_iinc (L' := [some (.ref q0), some (vI p1), some (vI p2), some (vI z1), some (vI (z243 + 1)), some (vI (z244 + 1)), some (vI z253), some (vI 1)]) c76_70 rfl rfl rfl ?_
      refine st_goto c76_73 ?_
      have e284 : vI (z243 + 1) = vI (Int32.ofInt (z243 + 1)).toInt := by unfold vI; rw [Int32.ofInt_toInt]
      rw [e284]
      have b285 := to_lo (Int32.ofInt (z243 + 1))
      have b286 := to_hi (Int32.ofInt (z243 + 1))
      refine MR_weak (A := [some (.ref q0), some (vI p1), some (vI p2), some (vI z1), some (vI ((Int32.ofInt (z243 + 1)).toInt)), some (vI (z244 + 1)), none, none]) (Lle_s (Lle_s (Lle_s (Lle_s (Lle_s (Lle_s (Lle_n (Lle_n (Lle_0))))))))) ?_
      exact ih247 ((Int32.ofInt (z243 + 1)).toInt) (z244 + 1) (by omega) (by omega) (by omega)
      refine st_iload c76_44 rfl ?_
      refine st_iconst c76_46 ?_
      refine st_icmp_ne c76_47 (by omega) (by omega) (fun k287 => ?_) (fun k288 => False.elim (by omega))
      refine st_iconst c76_59 ?_
      refine st_istore (L' := [some (.ref q0), some (vI p1), some (vI p2), some (vI z1), some (vI z243), some (vI z244), some (vI z253), some (vI 0)]) c76_60 rfl rfl ?_
      refine st_iload c76_62 rfl ?_
      refine st_if_eq c76_64 (by omega) (fun k289 => ?_) (fun k290 => False.elim (by omega))
      refine st_iinc (L' := [some (.ref q0), some (vI p1), some (vI p2), some (vI z1), some (vI z243), some (vI (z244 + 1)), some (vI z253), some (vI 0)]) c76_70 rfl rfl rfl ?_
      refine st_goto c76_73 ?_
      refine MR_weak (A := [some (.ref q0), some (vI p1), some (vI p2), some (vI z1), some (vI z243), some (vI (z244 + 1)), none, none]) (Lle_s (Lle_s (Lle_s (Lle_s (Lle_s (Lle_s (Lle_n (Lle_n (Lle_0))))))))) ?_
      exact ih247 z243 (z244 + 1) (by omega) (by omega) (by omega)
  exact lp245 ((((89478485 : Int) - 0 : Int) + 1).toNat) 0 0 (by omega) (by omega) (by omega)
set_option maxHeartbeats 0 in
theorem K77 {Ln : Nat} {xs : Nat → Int32} {τ : List Nat} {h : List mE} {E : EP} (hT : TH E τ h) (q0 : Nat) (hq0 : ty τ q0 12) (p1 : Int) (hp1 : (-2147483648) ≤ p1 ∧ p1 ≤ 2147483647) (pre0 : I1 τ h) (d : Nat) (hd : 1 ≤ d) (Q : Option Value → List mE → Prop) (hQ : ∀ v h', (∃ z : Int, v = some (vI z) ∧ ((-2147483648) ≤ z ∧ z ≤ 2147483647) ∧ h = h') → Q v h') : MR (mex Ln xs) d 77 0 [some (.ref q0), some (vI p1), none, none] [] h Q := by
  refine st_aload c77_0 rfl ?_
  refine st_getN c77_1 hT hq0 fd_12_10 (u := 10) rfl (fun e2 => ?_) (fun r1 e3 t4 => ?_)
  refine st_ifnonnullN c77_4 ?_
  refine st_iconst c77_7 ?_
  refine st_ireturn c77_8 ?_
  exact hQ _ _ ⟨0, rfl, by omega, rfl⟩
  refine st_ifnonnullR c77_4 ?_
  refine st_aload c77_9 rfl ?_
  refine st_getNr c77_10 hT hq0 fd_12_10 e3 ?_
  refine st_getR c77_13 hT t4 fd_10_2 (u := 11) rfl (fun r5 e6 t7 => ?_)
  refine st_astore (L' := [some (.ref q0), some (vI p1), some (.ref r5), none]) c77_16 rfl rfl ?_
  refine st_aload c77_17 rfl ?_
  refine st_aload c77_18 rfl ?_
  refine st_aload c77_19 rfl ?_
  refine st_iload c77_20 rfl ?_
  refine st_callt (as := [vI p1]) c77_21 cm_73 hT hq0 fd_12_0 rfl rfl rfl rfl (by omega) (K73 hT q0 hq0 p1 (by omega) (d - 1) (by omega) _ (fun v h0 H => H)) (fun v1 h1 H => ?_)
  obtain ⟨z8, rfl, b9, rfl⟩ := H
  refine st_callt (as := [vI z8]) c77_24 cm_64 hT t7 fd_11_0 rfl rfl rfl rfl (by omega) (K64 hT r5 t7 z8 (by omega) pre0 (d - 1) (by omega) _ (fun v h0 H => H)) (fun v1 h1 H => ?_)
  obtain ⟨z10, rfl, b11, rfl⟩ := H
  refine st_callt (as := [vI z10]) c77_27 cm_59 hT t7 fd_11_0 rfl rfl rfl rfl (by omega) (K59 hT r5 t7 z10 (by omega) pre0 (d - 1) (by omega) _ (fun v h0 H => H)) (fun v1 h1 H => ?_)
  obtain ⟨z12, rfl, b13, rfl⟩ := H
  refine st_istore (L' := [some (.ref q0), some (vI p1), some (.ref r5), some (vI z12)]) c77_30 rfl rfl ?_
  refine st_iload c77_31 rfl ?_
  refine st_aload c77_32 rfl ?_
  refine st_aload c77_33 rfl ?_
  refine st_aload c77_34 rfl ?_
  refine st_getI c77_35 hT hq0 fd_12_11 (fun e14 e15 => ?_)
  refine st_callt (as := [vI (fI h q0 11)]) c77_38 cm_64 hT t7 fd_11_0 rfl rfl rfl rfl (by omega) (K64 hT r5 t7 (fI h q0 11) (by omega) pre0 (d - 1) (by omega) _ (fun v h0 H => H)) (fun v1 h1 H => ?_)
  obtain ⟨z16, rfl, b17, rfl⟩ := H
  refine st_callt (as := [vI z16]) c77_41 cm_59 hT t7 fd_11_0 rfl rfl rfl rfl (by omega) (K59 hT r5 t7 z16 (by omega) pre0 (d - 1) (by omega) _ (fun v h0 H => H)) (fun v1 h1 H => ?_)
  obtain ⟨z18, rfl, b19, rfl⟩ := H
  refine st_isub c77_44 ?_
  refine MR_wrap (fun w20 e21 e22 e23 => ?_)
  refine st_ireturn c77_45 ?_
  exact hQ _ _ ⟨w20, rfl, by omega, rfl⟩
set_option maxHeartbeats 0 in
theorem K78 {Ln : Nat} {xs : Nat → Int32} {τ : List Nat} {h : List mE} {E : EP} (hT : TH E τ h) (q0 : Nat) (hq0 : ty τ q0 12) (p1 : Int) (hp1 : (-2147483648) ≤ p1 ∧ p1 ≤ 2147483647) (d : Nat) (hd : 0 ≤ d) (Q : Option Value → List mE → Prop) (hQ : ∀ v h', ((v = some (vI 0) ∧ h = h') ∨ (v = some (vI 1) ∧ h = h')) → Q v h') : MR (mex Ln xs) d 78 0 [some (.ref q0), some (vI p1)] [] h Q := by
  refine st_iload c78_0 rfl ?_
  refine st_if_ne c78_1 (by omega) (fun k1 => ?_) (fun k2 => ?_)
  refine st_aload c78_26 rfl ?_
  refine st_getI c78_27 hT hq0 fd_12_9 (fun e3 e4 => ?_)
  refine st_iconst c78_30 ?_
  refine st_icmp_ne c78_31 (by omega) (by omega) (fun k5 => ?_) (fun k6 => ?_)
  refine st_iconst c78_56 ?_
  refine st_zreturn c78_57 (by omega) ?_
  exact hQ _ _ (Or.inl ⟨rfl, rfl⟩)
  refine st_aload c78_34 rfl ?_
  refine st_getN c78_35 hT hq0 fd_12_10 (u := 10) rfl (fun e8 => ?_) (fun r7 e9 t10 => ?_)
  refine st_ifnullN c78_38 ?_
  refine st_iconst c78_56 ?_
  refine st_zreturn c78_57 (by omega) ?_
  exact hQ _ _ (Or.inl ⟨rfl, rfl⟩)
  refine st_ifnullR c78_38 ?_
  refine st_aload c78_41 rfl ?_
  refine st_getNr c78_42 hT hq0 fd_12_10 e9 ?_
  refine st_getN c78_45 hT t10 fd_10_10 (u := 12) rfl (fun e12 => ?_) (fun r11 e13 t14 => ?_)
  refine st_aload c78_48 rfl ?_
  refine st_acmpRN_ne c78_49 ?_
  refine st_iconst c78_56 ?_
  refine st_zreturn c78_57 (by omega) ?_
  exact hQ _ _ (Or.inl ⟨rfl, rfl⟩)
  refine st_aload c78_48 rfl ?_
  refine st_acmp_ne c78_49 (ty_q t14) (ty_q hq0) (fun k15 => ?_) (fun k16 => ?_)
  refine st_iconst c78_56 ?_
  refine st_zreturn c78_57 (by omega) ?_
  exact hQ _ _ (Or.inl ⟨rfl, rfl⟩)
  refine st_iconst c78_52 ?_
  refine st_goto c78_53 ?_
  refine st_zreturn c78_57 (by omega) ?_
  exact hQ _ _ (Or.inr ⟨rfl, rfl⟩)
  refine st_aload c78_4 rfl ?_
  refine st_getI c78_5 hT hq0 fd_12_9 (fun e17 e18 => ?_)
  refine st_iconst c78_8 ?_
  refine st_icmp_eq c78_9 (by omega) (by omega) (fun k19 => ?_) (fun k20 => ?_)
  refine st_iconst c78_20 ?_
  refine st_goto c78_21 ?_
  refine st_zreturn c78_25 (by omega) ?_
  exact hQ _ _ (Or.inr ⟨rfl, rfl⟩)
  refine st_aload c78_12 rfl ?_
  refine st_getI c78_13 hT hq0 fd_12_9 (fun e21 e22 => ?_)
  refine st_iconst c78_16 ?_
  refine st_icmp_ne c78_17 (by omega) (by omega) (fun k23 => ?_) (fun k24 => ?_)
  refine st_iconst c78_24 ?_
  refine st_zreturn c78_25 (by omega) ?_
  exact hQ _ _ (Or.inl ⟨rfl, rfl⟩)
  refine st_iconst c78_20 ?_
  refine st_goto c78_21 ?_
  refine st_zreturn c78_25 (by omega) ?_
  exact hQ _ _ (Or.inr ⟨rfl, rfl⟩)
def W79m : List (Nat × Nat) := [(119, 0)]
set_option maxHeartbeats 0 in
theorem K79m {Ln : Nat} {xs : Nat → Int32} {τ : List Nat} {h : List mE} {E : EP} (hT : TH E τ h) (hS : Stb E W79m) (q0 : Nat) (hq0 : ty τ q0 12) (q1 : Nat) (hq1 : ty τ q1 119) (p2 : Int) (hp2 : (-2147483648) ≤ p2 ∧ p2 ≤ 2147483647) (p3 : Int) (hp3 : (-2147483648) ≤ p3 ∧ p3 ≤ 2147483647) (d : Nat) (hd : 1 ≤ d) (Q : Option Value → List mE → Prop) (hQ : ∀ v h', (∃ z : Int, v = some (vI z) ∧ ((-2) ≤ z ∧ z ≤ 1) ∧ TH E τ h' ∧ Fr τ W79m h h') → Q v h') : MR (mex Ln xs) d 79 0 [some (.ref q0), some (.ref q1), some (vI p2), some (vI p3)] [] h Q := by
  have hF := Fr_rf τ W79m h
  refine st_iload c79_0 rfl ?_
  refine st_if_lt c79_1 (by omega) (fun k1 => ?_) (fun k2 => ?_)
  refine st_iconst c79_24 ?_
  refine st_ireturn c79_26 ?_
  exact hQ _ _ ⟨(-2), rfl, by omega, hT, hF⟩
  refine st_iload c79_4 rfl ?_
  refine st_aload c79_5 rfl ?_
  refine st_alenC (z := 2) c79_6 hT hq1 ay_119 rfl rfl rfl ?_
  refine st_icmp_ge c79_7 (by omega) (by omega) (fun k3 => ?_) (fun k4 => ?_)
  refine st_iconst c79_24 ?_
  refine st_ireturn c79_26 ?_
  exact hQ _ _ ⟨(-2), rfl, by omega, hT, hF⟩
  refine st_aload c79_10 rfl ?_
  refine st_iload c79_11 rfl ?_
  refine st_iald c79_12 hT hq1 ay_119 (by omega) (fun e5 e6 => ?_)
  refine st_if_ge c79_13 (by omega) (fun k7 => ?_) (fun k8 => ?_)
  refine st_iconst c79_24 ?_
  refine st_ireturn c79_26 ?_
  exact hQ _ _ ⟨(-2), rfl, by omega, hT, hF⟩
  refine st_aload c79_16 rfl ?_
  refine st_iload c79_17 rfl ?_
  refine st_callt (as := [vI p2]) c79_18 cm_78 hT hq0 fd_12_0 rfl rfl rfl rfl (by omega) (K78 hT q0 hq0 p2 (by omega) (d - 1) (by omega) _ (fun v h0 H => H)) (fun v1 h1 H => ?_)
  rcases H with ⟨rfl, rfl⟩ | ⟨rfl, rfl⟩
  refine st_if_ne c79_21 (by omega) (fun k9 => False.elim (by omega)) (fun k10 => ?_)
  refine st_iconst c79_24 ?_
  refine st_ireturn c79_26 ?_
  exact hQ _ _ ⟨(-2), rfl, by omega, hT, hF⟩
  refine st_if_ne c79_21 (by omega) (fun k11 => ?_) (fun k12 => False.elim (by omega))
  refine st_aload c79_27 rfl ?_
  refine st_iload c79_28 rfl ?_
  refine st_iload c79_29 rfl ?_
  refine st_iast c79_30 hT hq1 ay_119 (by omega) (by omega) (by omega) (Ext_rf _) hS hF (by decide +kernel) (fun h13 hT14 hF15 hU16 => ?_)
  refine st_iconst c79_31 ?_
  refine st_ireturn c79_32 ?_
  exact hQ _ _ ⟨1, rfl, by omega, hT14, hF15⟩
def W79l : List (Nat × Nat) := [(120, 0)]
set_option maxHeartbeats 0 in
theorem K79l {Ln : Nat} {xs : Nat → Int32} {τ : List Nat} {h : List mE} {E : EP} (hT : TH E τ h) (hS : Stb E W79l) (q0 : Nat) (hq0 : ty τ q0 12) (q1 : Nat) (hq1 : ty τ q1 120) (p2 : Int) (hp2 : (-2147483648) ≤ p2 ∧ p2 ≤ 2147483647) (p3 : Int) (hp3 : (-2147483648) ≤ p3 ∧ p3 ≤ 2147483647) (d : Nat) (hd : 1 ≤ d) (Q : Option Value → List mE → Prop) (hQ : ∀ v h', (∃ z : Int, v = some (vI z) ∧ ((-2) ≤ z ∧ z ≤ 1) ∧ TH E τ h' ∧ Fr τ W79l h h') → Q v h') : MR (mex Ln xs) d 79 0 [some (.ref q0), some (.ref q1), some (vI p2), some (vI p3)] [] h Q := by
  have hF := Fr_rf τ W79l h
  refine st_iload c79_0 rfl ?_
  refine st_if_lt c79_1 (by omega) (fun k1 => ?_) (fun k2 => ?_)
  refine st_iconst c79_24 ?_
  refine st_ireturn c79_26 ?_
  exact hQ _ _ ⟨(-2), rfl, by omega, hT, hF⟩
  refine st_iload c79_4 rfl ?_
  refine st_aload c79_5 rfl ?_
  refine st_alenC (z := 2) c79_6 hT hq1 ay_120 rfl rfl rfl ?_
  refine st_icmp_ge c79_7 (by omega) (by omega) (fun k3 => ?_) (fun k4 => ?_)
  refine st_iconst c79_24 ?_
  refine st_ireturn c79_26 ?_
  exact hQ _ _ ⟨(-2), rfl, by omega, hT, hF⟩
  refine st_aload c79_10 rfl ?_
  refine st_iload c79_11 rfl ?_
  refine st_iald c79_12 hT hq1 ay_120 (by omega) (fun e5 e6 => ?_)
  refine st_if_ge c79_13 (by omega) (fun k7 => ?_) (fun k8 => ?_)
  refine st_iconst c79_24 ?_
  refine st_ireturn c79_26 ?_
  exact hQ _ _ ⟨(-2), rfl, by omega, hT, hF⟩
  refine st_aload c79_16 rfl ?_
  refine st_iload c79_17 rfl ?_
  refine st_callt (as := [vI p2]) c79_18 cm_78 hT hq0 fd_12_0 rfl rfl rfl rfl (by omega) (K78 hT q0 hq0 p2 (by omega) (d - 1) (by omega) _ (fun v h0 H => H)) (fun v1 h1 H => ?_)
  rcases H with ⟨rfl, rfl⟩ | ⟨rfl, rfl⟩
  refine st_if_ne c79_21 (by omega) (fun k9 => False.elim (by omega)) (fun k10 => ?_)
  refine st_iconst c79_24 ?_
  refine st_ireturn c79_26 ?_
  exact hQ _ _ ⟨(-2), rfl, by omega, hT, hF⟩
  refine st_if_ne c79_21 (by omega) (fun k11 => ?_) (fun k12 => False.elim (by omega))
  refine st_aload c79_27 rfl ?_
  refine st_iload c79_28 rfl ?_
  refine st_iload c79_29 rfl ?_
  refine st_iast c79_30 hT hq1 ay_120 (by omega) (by omega) (by omega) (Ext_rf _) hS hF (by decide +kernel) (fun h13 hT14 hF15 hU16 => ?_)
  refine st_iconst c79_31 ?_
  refine st_ireturn c79_32 ?_
  exact hQ _ _ ⟨1, rfl, by omega, hT14, hF15⟩
set_option maxHeartbeats 0 in
theorem K80 {Ln : Nat} {xs : Nat → Int32} {τ : List Nat} {h : List mE} {E : EP} (hT : TH E τ h) (q0 : Nat) (hq0 : ty τ q0 12) (d : Nat) (hd : 0 ≤ d) (Q : Option Value → List mE → Prop) (hQ : ∀ v h', (∃ z : Int, v = some (vI z) ∧ (0 ≤ z ∧ z ≤ 2147483647) ∧ h = h') → Q v h') : MR (mex Ln xs) d 80 0 [some (.ref q0)] [] h Q := by
  refine st_aload c80_0 rfl ?_
  refine st_getR c80_1 hT hq0 fd_12_14 (u := 119) rfl (fun r1 e2 t3 => ?_)
  refine st_iconst c80_4 ?_
  refine st_iald c80_5 hT t3 ay_119 (by omega) (fun e4 e5 => ?_)
  refine st_if_lt c80_6 (by omega) (fun k6 => ?_) (fun k7 => ?_)
  refine st_iconst c80_18 ?_
  refine st_goto c80_19 ?_
  refine st_ireturn c80_37 ?_
  exact hQ _ _ ⟨0, rfl, by omega, rfl⟩
  refine st_aload c80_9 rfl ?_
  refine st_getNr c80_10 hT hq0 fd_12_14 e2 ?_
  refine st_iconst c80_13 ?_
  refine st_iald c80_14 hT t3 ay_119 (by omega) (fun e8 e9 => ?_)
  refine st_if_ge c80_15 (by omega) (fun k10 => ?_) (fun k11 => ?_)
  refine st_aload c80_22 rfl ?_
  refine st_getNr c80_23 hT hq0 fd_12_14 e2 ?_
  refine st_iconst c80_26 ?_
  refine st_iald c80_27 hT t3 ay_119 (by omega) (fun e12 e13 => ?_)
  refine st_aload c80_28 rfl ?_
  refine st_getNr c80_29 hT hq0 fd_12_14 e2 ?_
  refine st_iconst c80_32 ?_
  refine st_iald c80_33 hT t3 ay_119 (by omega) (fun e14 e15 => ?_)
  refine st_iconst c80_34 ?_
  refine st_ixorw c80_35 (fun w16 e17 e18 => ?_)
  refine st_iandl c80_36 (by omega) (fun w19 e20 e21 => ?_)
  refine st_ireturn c80_37 ?_
  exact hQ _ _ ⟨w19, rfl, by omega, rfl⟩
  refine st_iconst c80_18 ?_
  refine st_goto c80_19 ?_
  refine st_ireturn c80_37 ?_
  exact hQ _ _ ⟨0, rfl, by omega, rfl⟩
set_option maxHeartbeats 0 in
theorem K81 {Ln : Nat} {xs : Nat → Int32} {τ : List Nat} {h : List mE} {E : EP} (hT : TH E τ h) (q0 : Nat) (hq0 : ty τ q0 12) (d : Nat) (hd : 1 ≤ d) (Q : Option Value → List mE → Prop) (hQ : ∀ v h', (∃ z : Int, v = some (vI z) ∧ ((-2147483648) ≤ z ∧ z ≤ 2147483647) ∧ h = h') → Q v h') : MR (mex Ln xs) d 81 0 [some (.ref q0), none, none, none] [] h Q := by
  refine st_aload c81_0 rfl ?_
  refine st_callt (as := []) c81_1 cm_80 hT hq0 fd_12_0 rfl rfl rfl rfl (by omega) (K80 hT q0 hq0 (d - 1) (by omega) _ (fun v h0 H => H)) (fun v1 h1 H => ?_)
  obtain ⟨z1, rfl, b2, rfl⟩ := H
  refine st_istore (L' := [some (.ref q0), some (vI z1), none, none]) c81_4 rfl rfl ?_
  refine st_iconst c81_5 ?_
  refine st_istore (L' := [some (.ref q0), some (vI z1), some (vI 0), none]) c81_6 rfl rfl ?_
  refine st_iconst c81_7 ?_
  refine st_istore (L' := [some (.ref q0), some (vI z1), some (vI 0), some (vI 0)]) c81_8 rfl rfl ?_
  have lp141 : ∀ (n142 : Nat) (z139 : Int) (z140 : Int), (16 : Int) - z140 < (n142 : Int) → (-2147483648) ≤ z139 ∧ z139 ≤ 2147483647 → 0 ≤ z140 ∧ z140 ≤ 16 → MR (mex Ln xs) d 81 9 [some (.ref q0), some (vI z1), some (vI z139), some (vI z140)] [] h Q := by
    intro n142
    induction n142 with
    | zero =>
      intro z139 z140 hm144 b145 b146
      exfalso; omega
    | succ n142 ih143 =>
      intro z139 z140 hm144 b145 b146
      refine st_iload c81_9 rfl ?_
      refine st_iconst c81_10 ?_
      refine st_icmp_ge c81_12 (by omega) (by omega) (fun k147 => ?_) (fun k148 => ?_)
      refine st_iload c81_52 rfl ?_
      refine st_ireturn c81_53 ?_
      exact hQ _ _ ⟨z139, rfl, by omega, rfl⟩
      refine st_aload c81_15 rfl ?_
      refine st_getN c81_16 hT hq0 fd_12_10 (u := 10) rfl (fun e150 => ?_) (fun r149 e151 t152 => ?_)
      refine st_ifnullN c81_19 ?_
      refine st_iload c81_52 rfl ?_
      refine st_ireturn c81_53 ?_
      exact hQ _ _ ⟨z139, rfl, by omega, rfl⟩
      refine st_ifnullR c81_19 ?_
      refine st_iload c81_22 rfl ?_
      refine st_iload c81_23 rfl ?_
      refine st_ishrw c81_24 (fun w153 e154 e155 => ?_)
      refine st_iconst c81_25 ?_
      refine st_iandr c81_26 (by omega) (fun w156 e157 e158 => ?_)
      refine st_iconst c81_27 ?_
      refine st_icmp_ne c81_28 (by omega) (by omega) (fun k159 => ?_) (fun k160 => ?_)
      refine st_iinc (L' := [some (.ref q0), some (vI z1), some (vI z139), some (vI (z140 + 1))]) c81_46 rfl rfl rfl ?_
      refine st_goto c81_49 ?_
      exact ih143 z139 (z140 + 1) (by omega) (by omega) (by omega)
      refine st_iload c81_31 rfl ?_
      refine st_aload c81_32 rfl ?_
      refine st_getNr c81_33 hT hq0 fd_12_10 e151 ?_
      refine st_getR c81_36 hT t152 fd_10_1 (u := 9) rfl (fun r161 e162 t163 => ?_)
      refine st_getR c81_39 hT t163 fd_9_6 (u := 112) rfl (fun r164 e165 t166 => ?_)
      refine st_iload c81_42 rfl ?_
      refine st_iald c81_43 hT t166 ay_112 (by omega) (fun e167 e168 => ?_)
      refine st_iadd c81_44 ?_
      refine MR_wrap (fun w169 e170 e171 e172 => ?_)
      refine st_istore (L' := [some (.ref q0), some (vI z1), some (vI w169), some (vI z140)]) c81_45 rfl rfl ?_
      refine st_iinc (L' := [some (.ref q0), some (vI z1), some (vI w169), some (vI (z140 + 1))]) c81_46 rfl rfl rfl ?_
      refine st_goto c81_49 ?_
      exact ih143 w169 (z140 + 1) (by omega) (by omega) (by omega)
  exact lp141 ((((16 : Int) - 0 : Int) + 1).toNat) 0 0 (by omega) (by omega) (by omega)
set_option maxHeartbeats 0 in
theorem K82 {Ln : Nat} {xs : Nat → Int32} {τ : List Nat} {h : List mE} {E : EP} (hT : TH E τ h) (q0 : Nat) (hq0 : ty τ q0 12) (d : Nat) (hd : 0 ≤ d) (Q : Option Value → List mE → Prop) (hQ : ∀ v h', (∃ z : Int, v = some (vI z) ∧ (0 ≤ z ∧ z ≤ 2147483647) ∧ h = h') → Q v h') : MR (mex Ln xs) d 82 0 [some (.ref q0)] [] h Q := by
  refine st_aload c82_0 rfl ?_
  refine st_getR c82_1 hT hq0 fd_12_15 (u := 120) rfl (fun r1 e2 t3 => ?_)
  refine st_iconst c82_4 ?_
  refine st_iald c82_5 hT t3 ay_120 (by omega) (fun e4 e5 => ?_)
  refine st_if_lt c82_6 (by omega) (fun k6 => ?_) (fun k7 => ?_)
  refine st_iconst c82_18 ?_
  refine st_goto c82_19 ?_
  refine st_ireturn c82_39 ?_
  exact hQ _ _ ⟨0, rfl, by omega, rfl⟩
  refine st_aload c82_9 rfl ?_
  refine st_getNr c82_10 hT hq0 fd_12_15 e2 ?_
  refine st_iconst c82_13 ?_
  refine st_iald c82_14 hT t3 ay_120 (by omega) (fun e8 e9 => ?_)
  refine st_if_ge c82_15 (by omega) (fun k10 => ?_) (fun k11 => ?_)
  refine st_iconst c82_22 ?_
  refine st_aload c82_23 rfl ?_
  refine st_getNr c82_24 hT hq0 fd_12_15 e2 ?_
  refine st_iconst c82_27 ?_
  refine st_iald c82_28 hT t3 ay_120 (by omega) (fun e12 e13 => ?_)
  refine st_aload c82_29 rfl ?_
  refine st_getNr c82_30 hT hq0 fd_12_15 e2 ?_
  refine st_iconst c82_33 ?_
  refine st_iald c82_34 hT t3 ay_120 (by omega) (fun e14 e15 => ?_)
  refine st_isub c82_35 ?_
  refine st_max c82_36 (by omega) (by omega) rfl (fun z16 e17 e18 e19 => ?_)
  refine st_ireturn c82_39 ?_
  exact hQ _ _ ⟨z16, rfl, by omega, rfl⟩
  refine st_iconst c82_18 ?_
  refine st_goto c82_19 ?_
  refine st_ireturn c82_39 ?_
  exact hQ _ _ ⟨0, rfl, by omega, rfl⟩
def W13 : List (Nat × Nat) := [(3, 3), (23, 0), (24, 0), (25, 0)]
set_option maxHeartbeats 0 in
theorem K13 {Ln : Nat} {xs : Nat → Int32} {τ : List Nat} {h : List mE} {E : EP} (hT : TH E τ h) (hS : Stb E W13) (p1 : Int) (hp1 : (-2147483648) ≤ p1 ∧ p1 ≤ 2147483647) (p2 : Int) (hp2 : (-2147483648) ≤ p2 ∧ p2 ≤ 2147483647) (p3 : Int) (hp3 : (-2147483648) ≤ p3 ∧ p3 ≤ 2147483647) (d : Nat) (hd : 0 ≤ d) (Q : Option Value → List mE → Prop) (hQ : ∀ v h', (∃ z : Int, v = some (vI z) ∧ ((-3) ≤ z ∧ z ≤ 300) ∧ ((fI h 39 3 ≤ 299 ∧ z = fI h 39 3 + 1 ∧ fI h' 39 3 = fI h 39 3 + 1) ∨ (300 ≤ fI h 39 3 ∧ z = -3 ∧ fI h' 39 3 = fI h 39 3)) ∧ TH E τ h' ∧ Fr τ W13 h h') → Q v h') : MR (mex Ln xs) d 13 0 [some (.ref 39), some (vI p1), some (vI p2), some (vI p3)] [] h Q := by
  have hF := Fr_rf τ W13 h
  refine st_aload c13_0 rfl ?_
  refine st_getI c13_1 hT (tf hT rfl rfl) fd_3_3 (fun e1 e2 => ?_)
  refine st_iconst c13_4 ?_
  refine st_icmp_lt c13_7 (by omega) (by omega) (fun k3 => ?_) (fun k4 => ?_)
  refine st_aload c13_13 rfl ?_
  refine st_getX (u := 40) c13_14 hT (tf hT rfl rfl) fd_3_0 rfl ?_
  refine st_aload c13_17 rfl ?_
  refine st_getI c13_18 hT (tf hT rfl rfl) fd_3_3 (fun e5 e6 => ?_)
  refine st_iload c13_21 rfl ?_
  refine st_iast c13_22 hT (tf hT rfl rfl) ay_23 (by omega) (by omega) (by omega) (Ext_rf _) hS hF (by decide +kernel) (fun h7 hT8 hF9 hU10 => ?_)
  refine st_aload c13_23 rfl ?_
  refine st_getX (u := 41) c13_24 hT8 (tf hT8 rfl rfl) fd_3_1 rfl ?_
  refine st_aload c13_27 rfl ?_
  refine st_getI c13_28 hT8 (tf hT8 rfl rfl) fd_3_3 (fun e11 e12 => ?_)
  have q13 : fI h7 39 3 = fI h 39 3 := AUp_fI hU10
  refine st_iload c13_31 rfl ?_
  refine st_iast c13_32 hT8 (tf hT8 rfl rfl) ay_24 (by omega) (by omega) (by omega) (Ext_rf _) hS hF9 (by decide +kernel) (fun h14 hT15 hF16 hU17 => ?_)
  refine st_aload c13_33 rfl ?_
  refine st_getX (u := 42) c13_34 hT15 (tf hT15 rfl rfl) fd_3_2 rfl ?_
  refine st_aload c13_37 rfl ?_
  refine st_getI c13_38 hT15 (tf hT15 rfl rfl) fd_3_3 (fun e18 e19 => ?_)
  have q20 : fI h14 39 3 = fI h7 39 3 := AUp_fI hU17
  refine st_iload c13_41 rfl ?_
  refine st_iast c13_42 hT15 (tf hT15 rfl rfl) ay_25 (by omega) (by omega) (by omega) (Ext_rf _) hS hF16 (by decide +kernel) (fun h21 hT22 hF23 hU24 => ?_)
  refine st_aload c13_43 rfl ?_
  refine st_dup c13_44 rfl ?_
  refine st_getI c13_45 hT22 (tf hT22 rfl rfl) fd_3_3 (fun e25 e26 => ?_)
  have q27 : fI h21 39 3 = fI h14 39 3 := AUp_fI hU24
  refine st_iconst c13_48 ?_
  refine st_iadd c13_49 ?_
  refine st_putI c13_50 hT22 (tf hT22 rfl rfl) fd_3_3 (by omega) (by omega) (Ext_rf _) hS hF23 (by decide +kernel) (fun h28 hT29 hF30 hU31 => ?_)
  refine st_aload c13_53 rfl ?_
  refine st_getI c13_54 hT29 (tf hT29 rfl rfl) fd_3_3 (fun e32 e33 => ?_)
  have q34 : fI h28 39 3 = (fI h21 39 3) + 1 := FUp_fI hU31 (by omega) (by omega)
  refine st_ireturn c13_57 ?_
  exact hQ _ _ ⟨fI h28 39 3, rfl, by omega, by omega, hT29, hF30⟩
  refine st_iconst c13_10 ?_
  refine st_ireturn c13_12 ?_
  exact hQ _ _ ⟨(-3), rfl, by omega, by omega, hT, hF⟩
set_option maxHeartbeats 0 in
theorem K14 {Ln : Nat} {xs : Nat → Int32} {τ : List Nat} {h : List mE} {E : EP} (hT : TH E τ h) (q1 : Nat) (hq1 : ty τ q1 10) (p2 : Int) (hp2 : 0 ≤ p2 ∧ p2 ≤ 299) (d : Nat) (hd : 0 ≤ d) (Q : Option Value → List mE → Prop) (hQ : ∀ v h', ((v = some (vI 0) ∧ h = h') ∨ (v = some (vI 1) ∧ h = h')) → Q v h') : MR (mex Ln xs) d 14 0 [some (.ref 39), some (.ref q1), some (vI p2)] [] h Q := by
  refine st_aload c14_0 rfl ?_
  refine st_getX (u := 40) c14_1 hT (tf hT rfl rfl) fd_3_0 rfl ?_
  refine st_iload c14_4 rfl ?_
  refine st_iald c14_5 hT (tf hT rfl rfl) ay_23 (by omega) (fun e1 e2 => ?_)
  refine st_aload c14_6 rfl ?_
  refine st_getI c14_7 hT hq1 fd_10_0 (fun e3 e4 => ?_)
  refine st_icmp_ne c14_10 (by omega) (by omega) (fun k5 => ?_) (fun k6 => ?_)
  refine st_iconst c14_43 ?_
  refine st_zreturn c14_44 (by omega) ?_
  exact hQ _ _ (Or.inl ⟨rfl, rfl⟩)
  refine st_aload c14_13 rfl ?_
  refine st_getX (u := 42) c14_14 hT (tf hT rfl rfl) fd_3_2 rfl ?_
  refine st_iload c14_17 rfl ?_
  refine st_iald c14_18 hT (tf hT rfl rfl) ay_25 (by omega) (fun e7 e8 => ?_)
  refine st_aload c14_19 rfl ?_
  refine st_getI c14_20 hT hq1 fd_10_7 (fun e9 e10 => ?_)
  refine st_icmp_lt c14_23 (by omega) (by omega) (fun k11 => ?_) (fun k12 => ?_)
  refine st_iconst c14_43 ?_
  refine st_zreturn c14_44 (by omega) ?_
  exact hQ _ _ (Or.inl ⟨rfl, rfl⟩)
  refine st_aload c14_26 rfl ?_
  refine st_getX (u := 42) c14_27 hT (tf hT rfl rfl) fd_3_2 rfl ?_
  refine st_iload c14_30 rfl ?_
  refine st_iald c14_31 hT (tf hT rfl rfl) ay_25 (by omega) (fun e13 e14 => ?_)
  refine st_aload c14_32 rfl ?_
  refine st_getI c14_33 hT hq1 fd_10_12 (fun e15 e16 => ?_)
  refine st_icmp_gt c14_36 (by omega) (by omega) (fun k17 => ?_) (fun k18 => ?_)
  refine st_iconst c14_43 ?_
  refine st_zreturn c14_44 (by omega) ?_
  exact hQ _ _ (Or.inl ⟨rfl, rfl⟩)
  refine st_iconst c14_39 ?_
  refine st_goto c14_40 ?_
  refine st_zreturn c14_44 (by omega) ?_
  exact hQ _ _ (Or.inr ⟨rfl, rfl⟩)
set_option maxHeartbeats 0 in
theorem K15 {Ln : Nat} {xs : Nat → Int32} {τ : List Nat} {h : List mE} {E : EP} (hT : TH E τ h) (q1 : Nat) (hq1 : ty τ q1 10) (d : Nat) (hd : 1 ≤ d) (Q : Option Value → List mE → Prop) (hQ : ∀ v h', (∃ z : Int, v = some (vI z) ∧ (0 ≤ z ∧ z ≤ 300) ∧ h = h') → Q v h') : MR (mex Ln xs) d 15 0 [some (.ref 39), some (.ref q1), none] [] h Q := by
  refine st_iconst c15_0 ?_
  refine st_istore (L' := [some (.ref 39), some (.ref q1), some (vI 0)]) c15_1 rfl rfl ?_
  have lp62 : ∀ (n63 : Nat) (z61 : Int), (300 : Int) - z61 < (n63 : Int) → 0 ≤ z61 ∧ z61 ≤ 300 → MR (mex Ln xs) d 15 2 [some (.ref 39), some (.ref q1), some (vI z61)] [] h Q := by
    intro n63
    induction n63 with
    | zero =>
      intro z61 hm65 b66
      exfalso; omega
    | succ n63 ih64 =>
      intro z61 hm65 b66
      refine st_iload c15_2 rfl ?_
      refine st_aload c15_3 rfl ?_
      refine st_getI c15_4 hT (tf hT rfl rfl) fd_3_3 (fun e67 e68 => ?_)
      refine st_icmp_ge c15_7 (by omega) (by omega) (fun k69 => ?_) (fun k70 => ?_)
      refine st_aload c15_40 rfl ?_
      refine st_getI c15_41 hT (tf hT rfl rfl) fd_3_3 (fun e71 e72 => ?_)
      refine st_ireturn c15_44 ?_
      exact hQ _ _ ⟨fI h 39 3, rfl, by omega, rfl⟩
      refine st_aload c15_10 rfl ?_
      refine st_aload c15_11 rfl ?_
      refine st_iload c15_12 rfl ?_
      refine st_callt (as := [.ref q1, vI z61]) c15_13 cm_14 hT (tf hT rfl rfl) fd_3_0 rfl rfl rfl rfl (by omega) (K14 hT q1 hq1 z61 (by omega) (d - 1) (by omega) _ (fun v h0 H => H)) (fun v1 h1 H => ?_)
      rcases H with ⟨rfl, rfl⟩ | ⟨rfl, rfl⟩
      refine st_if_eq c15_16 (by omega) (fun k73 => ?_) (fun k74 => False.elim (by omega))
      refine st_iinc (L' := [some (.ref 39), some (.ref q1), some (vI (z61 + 1))]) c15_34 rfl rfl rfl ?_
      refine st_goto c15_37 ?_
      exact ih64 (z61 + 1) (by omega) (by omega)
      refine st_if_eq c15_16 (by omega) (fun k75 => False.elim (by omega)) (fun k76 => ?_)
      refine st_aload c15_19 rfl ?_
      refine st_getX (u := 41) c15_20 hT (tf hT rfl rfl) fd_3_1 rfl ?_
      refine st_iload c15_23 rfl ?_
      refine st_iald c15_24 hT (tf hT rfl rfl) ay_24 (by omega) (fun e77 e78 => ?_)
      refine st_aload c15_25 rfl ?_
      refine st_getI c15_26 hT hq1 fd_10_11 (fun e79 e80 => ?_)
      refine st_icmp_eq c15_29 (by omega) (by omega) (fun k81 => ?_) (fun k82 => ?_)
      refine st_iinc (L' := [some (.ref 39), some (.ref q1), some (vI (z61 + 1))]) c15_34 rfl rfl rfl ?_
      refine st_goto c15_37 ?_
      exact ih64 (z61 + 1) (by omega) (by omega)
      refine st_iload c15_32 rfl ?_
      refine st_ireturn c15_33 ?_
      exact hQ _ _ ⟨z61, rfl, by omega, rfl⟩
  exact lp62 ((((300 : Int) - 0 : Int) + 1).toNat) 0 (by omega) (by omega)
set_option maxHeartbeats 0 in
theorem K16 {Ln : Nat} {xs : Nat → Int32} {τ : List Nat} {h : List mE} {E : EP} (hT : TH E τ h) (q1 : Nat) (hq1 : ty τ q1 10) (d : Nat) (hd : 2 ≤ d) (Q : Option Value → List mE → Prop) (hQ : ∀ v h', (∃ z : Int, v = some (vI z) ∧ ((-2147483648) ≤ z ∧ z ≤ 2147483647) ∧ h = h') → Q v h') : MR (mex Ln xs) d 16 0 [some (.ref 39), some (.ref q1), none] [] h Q := by
  refine st_aload c16_0 rfl ?_
  refine st_aload c16_1 rfl ?_
  refine st_callt (as := [.ref q1]) c16_2 cm_15 hT (tf hT rfl rfl) fd_3_0 rfl rfl rfl rfl (by omega) (K15 hT q1 hq1 (d - 1) (by omega) _ (fun v h0 H => H)) (fun v1 h1 H => ?_)
  obtain ⟨z1, rfl, b2, rfl⟩ := H
  refine st_istore (L' := [some (.ref 39), some (.ref q1), some (vI z1)]) c16_5 rfl rfl ?_
  refine st_iload c16_6 rfl ?_
  refine st_aload c16_7 rfl ?_
  refine st_getI c16_8 hT (tf hT rfl rfl) fd_3_3 (fun e3 e4 => ?_)
  refine st_icmp_ge c16_11 (by omega) (by omega) (fun k5 => ?_) (fun k6 => ?_)
  refine st_aload c16_23 rfl ?_
  refine st_getI c16_24 hT hq1 fd_10_12 (fun e7 e8 => ?_)
  refine st_ireturn c16_27 ?_
  exact hQ _ _ ⟨fI h q1 12, rfl, by omega, rfl⟩
  refine st_aload c16_14 rfl ?_
  refine st_getX (u := 42) c16_15 hT (tf hT rfl rfl) fd_3_2 rfl ?_
  refine st_iload c16_18 rfl ?_
  refine st_iald c16_19 hT (tf hT rfl rfl) ay_25 (by omega) (fun e9 e10 => ?_)
  refine st_goto c16_20 ?_
  refine st_ireturn c16_27 ?_
  exact hQ _ _ ⟨aI h 42 z1, rfl, by omega, rfl⟩
set_option maxHeartbeats 0 in
theorem K17 {Ln : Nat} {xs : Nat → Int32} {τ : List Nat} {h : List mE} {E : EP} (hT : TH E τ h) (q1 : Nat) (hq1 : ty τ q1 10) (d : Nat) (hd : 2 ≤ d) (Q : Option Value → List mE → Prop) (hQ : ∀ v h', (∃ z : Int, v = some (vI z) ∧ ((-2147483648) ≤ z ∧ z ≤ 2147483647) ∧ h = h') → Q v h') : MR (mex Ln xs) d 17 0 [some (.ref 39), some (.ref q1), none] [] h Q := by
  refine st_aload c17_0 rfl ?_
  refine st_aload c17_1 rfl ?_
  refine st_callt (as := [.ref q1]) c17_2 cm_15 hT (tf hT rfl rfl) fd_3_0 rfl rfl rfl rfl (by omega) (K15 hT q1 hq1 (d - 1) (by omega) _ (fun v h0 H => H)) (fun v1 h1 H => ?_)
  obtain ⟨z1, rfl, b2, rfl⟩ := H
  refine st_iconst c17_5 ?_
  refine st_isub c17_6 ?_
  refine st_istore (L' := [some (.ref 39), some (.ref q1), some (vI (z1 - 1))]) c17_7 rfl rfl ?_
  have lp11 : ∀ (n12 : Nat) (z10 : Int), (z10 : Int) - (-1) < (n12 : Int) → (-1) ≤ z10 ∧ z10 ≤ 299 → MR (mex Ln xs) d 17 8 [some (.ref 39), some (.ref q1), some (vI z10)] [] h Q := by
    intro n12
    induction n12 with
    | zero =>
      intro z10 hm14 b15
      exfalso; omega
    | succ n12 ih13 =>
      intro z10 hm14 b15
      refine st_iload c17_8 rfl ?_
      refine st_if_lt c17_9 (by omega) (fun k16 => ?_) (fun k17 => ?_)
      refine st_aload c17_34 rfl ?_
      refine st_getI c17_35 hT hq1 fd_10_7 (fun e18 e19 => ?_)
      refine st_ireturn c17_38 ?_
      exact hQ _ _ ⟨fI h q1 7, rfl, by omega, rfl⟩
      refine st_aload c17_12 rfl ?_
      refine st_aload c17_13 rfl ?_
      refine st_iload c17_14 rfl ?_
      refine st_callt (as := [.ref q1, vI z10]) c17_15 cm_14 hT (tf hT rfl rfl) fd_3_0 rfl rfl rfl rfl (by omega) (K14 hT q1 hq1 z10 (by omega) (d - 1) (by omega) _ (fun v h0 H => H)) (fun v1 h1 H => ?_)
      rcases H with ⟨rfl, rfl⟩ | ⟨rfl, rfl⟩
      refine st_if_eq c17_18 (by omega) (fun k20 => ?_) (fun k21 => False.elim (by omega))
      refine st_iinc (L' := [some (.ref 39), some (.ref q1), some (vI (z10 + (-1)))]) c17_28 rfl rfl rfl ?_
      refine st_goto c17_31 ?_
      exact ih13 (z10 + (-1)) (by omega) (by omega)
      refine st_if_eq c17_18 (by omega) (fun k22 => False.elim (by omega)) (fun k23 => ?_)
      refine st_aload c17_21 rfl ?_
      refine st_getX (u := 42) c17_22 hT (tf hT rfl rfl) fd_3_2 rfl ?_
      refine st_iload c17_25 rfl ?_
      refine st_iald c17_26 hT (tf hT rfl rfl) ay_25 (by omega) (fun e24 e25 => ?_)
      refine st_ireturn c17_27 ?_
      exact hQ _ _ ⟨aI h 42 z10, rfl, by omega, rfl⟩
  exact lp11 (((((z1 - 1) : Int) - (-1) : Int) + 1).toNat) (z1 - 1) (by omega) (by omega)
def W18 : List (Nat × Nat) := [(3, 7), (26, 0), (27, 0), (28, 0)]
set_option maxHeartbeats 0 in
theorem K18 {Ln : Nat} {xs : Nat → Int32} {τ : List Nat} {h : List mE} {E : EP} (hT : TH E τ h) (hS : Stb E W18) (p1 : Int) (hp1 : (-2147483648) ≤ p1 ∧ p1 ≤ 2147483647) (p2 : Int) (hp2 : (-2147483648) ≤ p2 ∧ p2 ≤ 2147483647) (d : Nat) (hd : 0 ≤ d) (Q : Option Value → List mE → Prop) (hQ : ∀ v h', ((v = some (vI 0) ∧ TH E τ h' ∧ Fr τ W18 h h') ∨ (v = some (vI 1) ∧ TH E τ h' ∧ Fr τ W18 h h')) → Q v h') : MR (mex Ln xs) d 18 0 [some (.ref 39), some (vI p1), some (vI p2)] [] h Q := by
  have hF := Fr_rf τ W18 h
  refine st_aload c18_0 rfl ?_
  refine st_getI c18_1 hT (tf hT rfl rfl) fd_3_7 (fun e1 e2 => ?_)
  refine st_iconst c18_4 ?_
  refine st_icmp_lt c18_7 (by omega) (by omega) (fun k3 => ?_) (fun k4 => ?_)
  refine st_aload c18_12 rfl ?_
  refine st_getX (u := 43) c18_13 hT (tf hT rfl rfl) fd_3_4 rfl ?_
  refine st_aload c18_16 rfl ?_
  refine st_getI c18_17 hT (tf hT rfl rfl) fd_3_7 (fun e5 e6 => ?_)
  refine st_iload c18_20 rfl ?_
  refine st_iast c18_21 hT (tf hT rfl rfl) ay_26 (by omega) (by omega) (by omega) (Ext_rf _) hS hF (by decide +kernel) (fun h7 hT8 hF9 hU10 => ?_)
  refine st_aload c18_22 rfl ?_
  refine st_getX (u := 44) c18_23 hT8 (tf hT8 rfl rfl) fd_3_5 rfl ?_
  refine st_aload c18_26 rfl ?_
  refine st_getI c18_27 hT8 (tf hT8 rfl rfl) fd_3_7 (fun e11 e12 => ?_)
  have q13 : fI h7 39 7 = fI h 39 7 := AUp_fI hU10
  refine st_iload c18_30 rfl ?_
  refine st_iast c18_31 hT8 (tf hT8 rfl rfl) ay_27 (by omega) (by omega) (by omega) (Ext_rf _) hS hF9 (by decide +kernel) (fun h14 hT15 hF16 hU17 => ?_)
  refine st_aload c18_32 rfl ?_
  refine st_getX (u := 45) c18_33 hT15 (tf hT15 rfl rfl) fd_3_6 rfl ?_
  refine st_aload c18_36 rfl ?_
  refine st_getI c18_37 hT15 (tf hT15 rfl rfl) fd_3_7 (fun e18 e19 => ?_)
  have q20 : fI h14 39 7 = fI h7 39 7 := AUp_fI hU17
  refine st_iconst c18_40 ?_
  refine st_iast c18_41 hT15 (tf hT15 rfl rfl) ay_28 (by omega) (by omega) (by omega) (Ext_rf _) hS hF16 (by decide +kernel) (fun h21 hT22 hF23 hU24 => ?_)
  refine st_aload c18_42 rfl ?_
  refine st_dup c18_43 rfl ?_
  refine st_getI c18_44 hT22 (tf hT22 rfl rfl) fd_3_7 (fun e25 e26 => ?_)
  have q27 : fI h21 39 7 = fI h14 39 7 := AUp_fI hU24
  refine st_iconst c18_47 ?_
  refine st_iadd c18_48 ?_
  refine st_putI c18_49 hT22 (tf hT22 rfl rfl) fd_3_7 (by omega) (by omega) (Ext_rf _) hS hF23 (by decide +kernel) (fun h28 hT29 hF30 hU31 => ?_)
  refine st_iconst c18_52 ?_
  refine st_zreturn c18_53 (by omega) ?_
  exact hQ _ _ (Or.inr ⟨rfl, hT29, hF30⟩)
  refine st_iconst c18_10 ?_
  refine st_zreturn c18_11 (by omega) ?_
  exact hQ _ _ (Or.inl ⟨rfl, hT, hF⟩)
def W19 : List (Nat × Nat) := [(28, 0)]
set_option maxHeartbeats 0 in
theorem K19 {Ln : Nat} {xs : Nat → Int32} {τ : List Nat} {h : List mE} {E : EP} (hT : TH E τ h) (hS : Stb E W19) (p1 : Int) (hp1 : (-2147483648) ≤ p1 ∧ p1 ≤ 2147483647) (p2 : Int) (hp2 : (-2147483648) ≤ p2 ∧ p2 ≤ 2147483647) (d : Nat) (hd : 0 ≤ d) (Q : Option Value → List mE → Prop) (hQ : ∀ v h', (v = none ∧ TH E τ h' ∧ Fr τ W19 h h') → Q v h') : MR (mex Ln xs) d 19 0 [some (.ref 39), some (vI p1), some (vI p2), none] [] h Q := by
  have hF := Fr_rf τ W19 h
  refine st_iconst c19_0 ?_
  refine st_istore (L' := [some (.ref 39), some (vI p1), some (vI p2), some (vI 0)]) c19_1 rfl rfl ?_
  have lp98 : ∀ (n99 : Nat) (z93 : Int) (h94 : List mE), (200 : Int) - z93 < (n99 : Int) → 0 ≤ z93 ∧ z93 ≤ 200 → TH E τ h94 → Fr τ W19 h h94 → Fr τ [(28, 0)] h h94 → MR (mex Ln xs) d 19 2 [some (.ref 39), some (vI p1), some (vI p2), some (vI z93)] [] h94 Q := by
    intro n99
    induction n99 with
    | zero =>
      intro z93 h94 hm101 b102 hT95 hF96 hL97
      exfalso; omega
    | succ n99 ih100 =>
      intro z93 h94 hm101 b102 hT95 hF96 hL97
      refine st_iload c19_2 rfl ?_
      refine st_aload c19_3 rfl ?_
      refine st_getI c19_4 hT95 (tf hT95 rfl rfl) fd_3_7 (fun e103 e104 => ?_)
      have q105 : fI h94 39 7 = fI h 39 7 := Fr_fI hL97 (tf hT rfl rfl) (by decide +kernel)
      refine st_icmp_ge c19_7 (by omega) (by omega) (fun k106 => ?_) (fun k107 => ?_)
      refine st_return c19_42 ?_
      exact hQ _ _ ⟨rfl, hT95, hF96⟩
      refine st_aload c19_10 rfl ?_
      refine st_getX (u := 43) c19_11 hT95 (tf hT95 rfl rfl) fd_3_4 rfl ?_
      refine st_iload c19_14 rfl ?_
      refine st_iald c19_15 hT95 (tf hT95 rfl rfl) ay_26 (by omega) (fun e108 e109 => ?_)
      have q110 : aI h94 43 z93 = aI h 43 z93 := Fr_aI hL97 (tf hT rfl rfl) (by decide +kernel) z93
      refine st_iload c19_16 rfl ?_
      refine st_icmp_ne c19_17 (by omega) (by omega) (fun k111 => ?_) (fun k112 => ?_)
      refine st_iinc (L' := [some (.ref 39), some (vI p1), some (vI p2), some (vI (z93 + 1))]) c19_36 rfl rfl rfl ?_
      refine st_goto c19_39 ?_
      exact ih100 (z93 + 1) h94 (by omega) (by omega) hT95 hF96 hL97
      refine st_aload c19_20 rfl ?_
      refine st_getX (u := 45) c19_21 hT95 (tf hT95 rfl rfl) fd_3_6 rfl ?_
      refine st_iload c19_24 rfl ?_
      refine st_iald c19_25 hT95 (tf hT95 rfl rfl) ay_28 (by omega) (fun e113 e114 => ?_)
      refine st_if_ge c19_26 (by omega) (fun k115 => ?_) (fun k116 => ?_)
      refine st_iinc (L' := [some (.ref 39), some (vI p1), some (vI p2), some (vI (z93 + 1))]) c19_36 rfl rfl rfl ?_
      refine st_goto c19_39 ?_
      exact ih100 (z93 + 1) h94 (by omega) (by omega) hT95 hF96 hL97
      refine st_aload c19_29 rfl ?_
      refine st_getX (u := 45) c19_30 hT95 (tf hT95 rfl rfl) fd_3_6 rfl ?_
      refine st_iload c19_33 rfl ?_
      refine st_iload c19_34 rfl ?_
      refine st_iast c19_35 hT95 (tf hT95 rfl rfl) ay_28 (by omega) (by omega) (by omega) (Ext_rf _) hS hF96 (by decide +kernel) (fun h117 hT118 hF119 hU120 => ?_)
      refine st_iinc (L' := [some (.ref 39), some (vI p1), some (vI p2), some (vI (z93 + 1))]) c19_36 rfl rfl rfl ?_
      refine st_goto c19_39 ?_
      exact ih100 (z93 + 1) h117 (by omega) (by omega) hT118 hF119 (AUp_Fr hL97 hU120 (fun u hu => by rw [ty_1 hu (tf hT118 rfl rfl)]; decide))
  exact lp98 ((((200 : Int) - 0 : Int) + 1).toNat) 0 h (by omega) (by omega) hT hF (Fr_rf _ _ _)
set_option maxHeartbeats 0 in
theorem K20 {Ln : Nat} {xs : Nat → Int32} {τ : List Nat} {h : List mE} {E : EP} (hT : TH E τ h) (p1 : Int) (hp1 : (-2147483648) ≤ p1 ∧ p1 ≤ 2147483647) (p2 : Int) (hp2 : (-2147483648) ≤ p2 ∧ p2 ≤ 2147483647) (p3 : Int) (hp3 : (-2147483648) ≤ p3 ∧ p3 ≤ 2147483647) (d : Nat) (hd : 0 ≤ d) (Q : Option Value → List mE → Prop) (hQ : ∀ v h', (∃ z : Int, v = some (vI z) ∧ ((-2147483648) ≤ z ∧ z ≤ 2147483647) ∧ h = h') → Q v h') : MR (mex Ln xs) d 20 0 [some (.ref 39), some (vI p1), some (vI p2), some (vI p3), none, none, none] [] h Q := by
  refine st_iconst c20_0 ?_
  refine st_istore (L' := [some (.ref 39), some (vI p1), some (vI p2), some (vI p3), some (vI 0), none, none]) c20_1 rfl rfl ?_
  refine st_iconst c20_3 ?_
  refine st_istore (L' := [some (.ref 39), some (vI p1), some (vI p2), some (vI p3), some (vI 0), some (vI 0), none]) c20_4 rfl rfl ?_
  have lp219 : ∀ (n220 : Nat) (z217 : Int) (z218 : Int), (200 : Int) - z218 < (n220 : Int) → (-2147483648) ≤ z217 ∧ z217 ≤ 2147483647 → 0 ≤ z218 ∧ z218 ≤ 200 → MR (mex Ln xs) d 20 6 [some (.ref 39), some (vI p1), some (vI p2), some (vI p3), some (vI z217), some (vI z218), none] [] h Q := by
    intro n220
    induction n220 with
    | zero =>
      intro z217 z218 hm222 b223 b224
      exfalso; omega
    | succ n220 ih221 =>
      intro z217 z218 hm222 b223 b224
      refine st_iload c20_6 rfl ?_
      refine st_aload c20_8 rfl ?_
      refine st_getI c20_9 hT (tf hT rfl rfl) fd_3_7 (fun e225 e226 => ?_)
      refine st_icmp_ge c20_12 (by omega) (by omega) (fun k227 => ?_) (fun k228 => ?_)
      refine st_iload c20_82 rfl ?_
      refine st_ireturn c20_84 ?_
      exact hQ _ _ ⟨z217, rfl, by omega, rfl⟩
      refine st_aload c20_15 rfl ?_
      refine st_getX (u := 43) c20_16 hT (tf hT rfl rfl) fd_3_4 rfl ?_
      refine st_iload c20_19 rfl ?_
      refine st_iald c20_21 hT (tf hT rfl rfl) ay_26 (by omega) (fun e229 e230 => ?_)
      refine st_iload c20_22 rfl ?_
      refine st_icmp_ne c20_23 (by omega) (by omega) (fun k231 => ?_) (fun k232 => ?_)
      refine st_iinc (L' := [some (.ref 39), some (vI p1), some (vI p2), some (vI p3), some (vI z217), some (vI (z218 + 1)), none]) c20_76 rfl rfl rfl ?_
      refine st_goto c20_79 ?_
      exact ih221 z217 (z218 + 1) (by omega) (by omega) (by omega)
      refine st_aload c20_26 rfl ?_
      refine st_getX (u := 45) c20_27 hT (tf hT rfl rfl) fd_3_6 rfl ?_
      refine st_iload c20_30 rfl ?_
      refine st_iald c20_32 hT (tf hT rfl rfl) ay_28 (by omega) (fun e233 e234 => ?_)
      refine st_if_ge c20_33 (by omega) (fun k235 => ?_) (fun k236 => ?_)
      refine st_iload c20_40 rfl ?_
      refine st_aload c20_41 rfl ?_
      refine st_getX (u := 45) c20_42 hT (tf hT rfl rfl) fd_3_6 rfl ?_
      refine st_iload c20_45 rfl ?_
      refine st_iald c20_47 hT (tf hT rfl rfl) ay_28 (by omega) (fun e237 e238 => ?_)
      refine st_min c20_48 (by omega) (by omega) rfl (fun z239 e240 e241 e242 => ?_)
      refine st_istore (L' := [some (.ref 39), some (vI p1), some (vI p2), some (vI p3), some (vI z217), some (vI z218), some (vI z239)]) c20_51 rfl rfl ?_
      refine st_iload c20_53 rfl ?_
      refine st_iconst c20_55 ?_
      refine st_iload c20_56 rfl ?_
      refine st_iload c20_58 rfl ?_
      refine st_aload c20_59 rfl ?_
      refine st_getX (u := 44) c20_60 hT (tf hT rfl rfl) fd_3_5 rfl ?_
      refine st_iload c20_63 rfl ?_
      refine st_iald c20_65 hT (tf hT rfl rfl) ay_27 (by omega) (fun e243 e244 => ?_)
      refine st_max c20_66 (by omega) (by omega) rfl (fun z245 e246 e247 e248 => ?_)
      refine st_isub c20_69 ?_
      refine MR_wrap (fun w249 e250 e251 e252 => ?_)
      refine st_max c20_70 (by omega) (by omega) rfl (fun z253 e254 e255 e256 => ?_)
      refine st_iadd c20_73 ?_
      refine MR_wrap (fun w257 e258 e259 e260 => ?_)
      refine st_istore (L' := [some (.ref 39), some (vI p1), some (vI p2), some (vI p3), some (vI w257), some (vI z218), some (vI z239)]) c20_74 rfl rfl ?_
      refine st_iinc (L' := [some (.ref 39), some (vI p1), some (vI p2), some (vI p3), some (vI w257), some (vI (z218 + 1)), some (vI z239)]) c20_76 rfl rfl rfl ?_
      refine st_goto c20_79 ?_
      refine MR_weak (A := [some (.ref 39), some (vI p1), some (vI p2), some (vI p3), some (vI w257), some (vI (z218 + 1)), none]) (Lle_s (Lle_s (Lle_s (Lle_s (Lle_s (Lle_s (Lle_n (Lle_0)))))))) ?_
      exact ih221 w257 (z218 + 1) (by omega) (by omega) (by omega)
      refine st_iload c20_36 rfl ?_
      refine st_goto c20_37 ?_
      refine st_istore (L' := [some (.ref 39), some (vI p1), some (vI p2), some (vI p3), some (vI z217), some (vI z218), some (vI p3)]) c20_51 rfl rfl ?_
      refine st_iload c20_53 rfl ?_
      refine st_iconst c20_55 ?_
      refine st_iload c20_56 rfl ?_
      refine st_iload c20_58 rfl ?_
      refine st_aload c20_59 rfl ?_
      refine st_getX (u := 44) c20_60 hT (tf hT rfl rfl) fd_3_5 rfl ?_
      refine st_iload c20_63 rfl ?_
      refine st_iald c20_65 hT (tf hT rfl rfl) ay_27 (by omega) (fun e261 e262 => ?_)
      refine st_max c20_66 (by omega) (by omega) rfl (fun z263 e264 e265 e266 => ?_)
      refine st_isub c20_69 ?_
      refine MR_wrap (fun w267 e268 e269 e270 => ?_)
      refine st_max c20_70 (by omega) (by omega) rfl (fun z271 e272 e273 e274 => ?_)
      refine st_iadd c20_73 ?_
      refine MR_wrap (fun w275 e276 e277 e278 => ?_)
      refine st_istore (L' := [some (.ref 39), some (vI p1), some (vI p2), some (vI p3), some (vI w275), some (vI z218), some (vI p3)]) c20_74 rfl rfl ?_
      refine st_iinc (L' := [some (.ref 39), some (vI p1), some (vI p2), some (vI p3), some (vI w275), some (vI (z218 + 1)), some (vI p3)]) c20_76 rfl rfl rfl ?_
      refine st_goto c20_79 ?_
      refine MR_weak (A := [some (.ref 39), some (vI p1), some (vI p2), some (vI p3), some (vI w275), some (vI (z218 + 1)), none]) (Lle_s (Lle_s (Lle_s (Lle_s (Lle_s (Lle_s (Lle_n (Lle_0)))))))) ?_
      exact ih221 w275 (z218 + 1) (by omega) (by omega) (by omega)
  exact lp219 ((((200 : Int) - 0 : Int) + 1).toNat) 0 0 (by omega) (by omega) (by omega)
set_option maxHeartbeats 0 in
theorem K49 {Ln : Nat} {xs : Nat → Int32} {τ : List Nat} {h : List mE} {E : EP} (hT : TH E τ h) (q1 : Nat) (hq1 : ty τ q1 12) (d : Nat) (hd : 0 ≤ d) (Q : Option Value → List mE → Prop) (hQ : ∀ v h', ((v = some (vI 0) ∧ h = h') ∨ (v = some (vI 1) ∧ h = h')) → Q v h') : MR (mex Ln xs) d 49 0 [some (.ref 46), some (.ref q1), none] [] h Q := by
  refine st_iconst c49_0 ?_
  refine st_istore (L' := [some (.ref 46), some (.ref q1), some (vI 0)]) c49_1 rfl rfl ?_
  have lp57 : ∀ (n58 : Nat) (z56 : Int), (6 : Int) - z56 < (n58 : Int) → 0 ≤ z56 ∧ z56 ≤ 6 → MR (mex Ln xs) d 49 2 [some (.ref 46), some (.ref q1), some (vI z56)] [] h Q := by
    intro n58
    induction n58 with
    | zero =>
      intro z56 hm60 b61
      exfalso; omega
    | succ n58 ih59 =>
      intro z56 hm60 b61
      refine st_iload c49_2 rfl ?_
      refine st_aload c49_3 rfl ?_
      refine st_getI c49_4 hT (tf hT rfl rfl) fd_4_1 (fun e62 e63 => ?_)
      refine st_icmp_ge c49_7 (by omega) (by omega) (fun k64 => ?_) (fun k65 => ?_)
      refine st_iconst c49_28 ?_
      refine st_zreturn c49_29 (by omega) ?_
      exact hQ _ _ (Or.inl ⟨rfl, rfl⟩)
      refine st_aload c49_10 rfl ?_
      refine st_getX (u := 47) c49_11 hT (tf hT rfl rfl) fd_4_0 rfl ?_
      refine st_iload c49_14 rfl ?_
      refine st_aald c49_15 hT (tf hT rfl rfl) ay_29 rfl (u := 12) rfl (by omega) (fun e67 => ?_) (fun r66 e68 t69 => ?_)
      refine st_aload c49_16 rfl ?_
      refine st_acmpRN_ne c49_17 ?_
      refine st_iinc (L' := [some (.ref 46), some (.ref q1), some (vI (z56 + 1))]) c49_22 rfl rfl rfl ?_
      refine st_goto c49_25 ?_
      exact ih59 (z56 + 1) (by omega) (by omega)
      refine st_aload c49_16 rfl ?_
      refine st_acmp_ne c49_17 (ty_q t69) (ty_q hq1) (fun k70 => ?_) (fun k71 => ?_)
      refine st_iinc (L' := [some (.ref 46), some (.ref q1), some (vI (z56 + 1))]) c49_22 rfl rfl rfl ?_
      refine st_goto c49_25 ?_
      exact ih59 (z56 + 1) (by omega) (by omega)
      refine st_iconst c49_20 ?_
      refine st_zreturn c49_21 (by omega) ?_
      exact hQ _ _ (Or.inr ⟨rfl, rfl⟩)
  exact lp57 ((((6 : Int) - 0 : Int) + 1).toNat) 0 (by omega) (by omega)
def W50 : List (Nat × Nat) := [(4, 1), (29, 0)]
set_option maxHeartbeats 0 in
theorem K50 {Ln : Nat} {xs : Nat → Int32} {τ : List Nat} {h : List mE} {E : EP} (hT : TH E τ h) (hS : Stb E W50) (q1 : Nat) (hq1 : ty τ q1 12) (d : Nat) (hd : 1 ≤ d) (Q : Option Value → List mE → Prop) (hQ : ∀ v h', (∃ z : Int, v = some (vI z) ∧ ((-3) ≤ z ∧ z ≤ 6) ∧ TH E τ h' ∧ Fr τ W50 h h') → Q v h') : MR (mex Ln xs) d 50 0 [some (.ref 46), some (.ref q1)] [] h Q := by
  have hF := Fr_rf τ W50 h
  refine st_aload c50_0 rfl ?_
  refine st_getI c50_1 hT hq1 fd_12_9 (fun e1 e2 => ?_)
  refine st_if_ne c50_4 (by omega) (fun k3 => ?_) (fun k4 => ?_)
  refine st_iconst c50_15 ?_
  refine st_ireturn c50_17 ?_
  exact hQ _ _ ⟨(-2), rfl, by omega, hT, hF⟩
  refine st_aload c50_7 rfl ?_
  refine st_aload c50_8 rfl ?_
  refine st_callt (as := [.ref q1]) c50_9 cm_49 hT (tf hT rfl rfl) fd_4_0 rfl rfl rfl rfl (by omega) (K49 hT q1 hq1 (d - 1) (by omega) _ (fun v h0 H => H)) (fun v1 h1 H => ?_)
  rcases H with ⟨rfl, rfl⟩ | ⟨rfl, rfl⟩
  refine st_if_eq c50_12 (by omega) (fun k5 => ?_) (fun k6 => False.elim (by omega))
  refine st_aload c50_18 rfl ?_
  refine st_getI c50_19 hT (tf hT rfl rfl) fd_4_1 (fun e7 e8 => ?_)
  refine st_iconst c50_22 ?_
  refine st_icmp_lt c50_24 (by omega) (by omega) (fun k9 => ?_) (fun k10 => ?_)
  refine st_aload c50_30 rfl ?_
  refine st_getX (u := 47) c50_31 hT (tf hT rfl rfl) fd_4_0 rfl ?_
  refine st_aload c50_34 rfl ?_
  refine st_getI c50_35 hT (tf hT rfl rfl) fd_4_1 (fun e11 e12 => ?_)
  refine st_aload c50_38 rfl ?_
  refine st_aast c50_39 hT (tf hT rfl rfl) ay_29 hq1 rfl fd_12_0 rfl (by omega) (Ext_rf _) hS hF (by decide +kernel) (fun h13 hT14 hF15 hU16 => ?_)
  refine st_aload c50_40 rfl ?_
  refine st_dup c50_41 rfl ?_
  refine st_getI c50_42 hT14 (tf hT14 rfl rfl) fd_4_1 (fun e17 e18 => ?_)
  have q19 : fI h13 46 1 = fI h 46 1 := OUp_fI hU16
  refine st_iconst c50_45 ?_
  refine st_iadd c50_46 ?_
  refine st_putI c50_47 hT14 (tf hT14 rfl rfl) fd_4_1 (by omega) (by omega) (Ext_rf _) hS hF15 (by decide +kernel) (fun h20 hT21 hF22 hU23 => ?_)
  refine st_aload c50_50 rfl ?_
  refine st_getI c50_51 hT21 (tf hT21 rfl rfl) fd_4_1 (fun e24 e25 => ?_)
  have q26 : fI h20 46 1 = (fI h13 46 1) + 1 := FUp_fI hU23 (by omega) (by omega)
  refine st_ireturn c50_54 ?_
  exact hQ _ _ ⟨fI h20 46 1, rfl, by omega, hT21, hF22⟩
  refine st_iconst c50_27 ?_
  refine st_ireturn c50_29 ?_
  exact hQ _ _ ⟨(-3), rfl, by omega, hT, hF⟩
  refine st_if_eq c50_12 (by omega) (fun k27 => False.elim (by omega)) (fun k28 => ?_)
  refine st_iconst c50_15 ?_
  refine st_ireturn c50_17 ?_
  exact hQ _ _ ⟨(-2), rfl, by omega, hT, hF⟩
def W290 : List (Nat × Nat) := [(30, 0)]
set_option maxHeartbeats 0 in
theorem K290 {Ln : Nat} {xs : Nat → Int32} {τ : List Nat} {h : List mE} {E : EP} (hT : TH E τ h) (hS : Stb E W290) (p1 : Int64) (d : Nat) (hd : 0 ≤ d) (Q : Option Value → List mE → Prop) (hQ : ∀ v h', (v = none ∧ TH E τ h' ∧ Fr τ W290 h h') → Q v h') : MR (mex Ln xs) d 290 0 [some (.ref 48), some (.long p1), none, none, none] [] h Q := by
  have hF := Fr_rf τ W290 h
  refine st_iconst c290_0 ?_
  refine st_istore (L' := [some (.ref 48), some (.long p1), none, some (vI 0), none]) c290_1 rfl rfl ?_
  refine st_aload c290_2 rfl ?_
  refine st_alenC (z := 64) c290_3 hT (tf hT rfl rfl) ay_30 rfl rfl rfl ?_
  refine st_istore (L' := [some (.ref 48), some (.long p1), none, some (vI 0), some (vI 64)]) c290_4 rfl rfl ?_
  have lp50 : ∀ (n51 : Nat) (z45 : Int) (h46 : List mE), (64 : Int) - z45 < (n51 : Int) → 0 ≤ z45 ∧ z45 ≤ 64 → TH E τ h46 → Fr τ W290 h h46 → Fr τ [(30, 0)] h h46 → MR (mex Ln xs) d 290 6 [some (.ref 48), some (.long p1), none, some (vI z45), some (vI 64)] [] h46 Q := by
    intro n51
    induction n51 with
    | zero =>
      intro z45 h46 hm53 b54 hT47 hF48 hL49
      exfalso; omega
    | succ n51 ih52 =>
      intro z45 h46 hm53 b54 hT47 hF48 hL49
      refine st_iload c290_6 rfl ?_
      refine st_iload c290_7 rfl ?_
      refine st_icmp_ge c290_9 (by omega) (by omega) (fun k55 => ?_) (fun k56 => ?_)
      refine st_return c290_22 ?_
      exact hQ _ _ ⟨rfl, hT47, hF48⟩
      refine st_aload c290_12 rfl ?_
      refine st_iload c290_13 rfl ?_
      refine st_lload c290_14 rfl ?_
      refine st_jast c290_15 hT47 (tf hT47 rfl rfl) ay_30 (by omega) hS hF48 (fun h57 hT58 hF59 hU60 => ?_)
      refine st_iinc (L' := [some (.ref 48), some (.long p1), none, some (vI (z45 + 1)), some (vI 64)]) c290_16 rfl rfl rfl ?_
      refine st_goto c290_19 ?_
      exact ih52 (z45 + 1) h57 (by omega) (by omega) hT58 hF59 (JUp_Fr hL49 hU60)
  exact lp50 ((((64 : Int) - 0 : Int) + 1).toNat) 0 h (by omega) (by omega) hT hF (Fr_rf _ _ _)
def W51 : List (Nat × Nat) := [(30, 0)]
set_option maxHeartbeats 0 in
theorem K51 {Ln : Nat} {xs : Nat → Int32} {τ : List Nat} {h : List mE} {E : EP} (hT : TH E τ h) (hS : Stb E W51) (d : Nat) (hd : 1 ≤ d) (Q : Option Value → List mE → Prop) (hQ : ∀ v h', (v = none ∧ TH E τ h' ∧ Fr τ W51 h h') → Q v h') : MR (mex Ln xs) d 51 0 [some (.ref 46)] [] h Q := by
  have hF := Fr_rf τ W51 h
  refine st_aload c51_0 rfl ?_
  refine st_getX (u := 48) c51_1 hT (tf hT rfl rfl) fd_4_3 rfl ?_
  refine st_lconst c51_4 ?_
  refine st_calls (as := [.ref 48, .long (Int64.ofInt 4000000000000000000)]) c51_7 cm_290 rfl rfl rfl rfl (by omega) (K290 hT (Stb_mono hS (by decide +kernel)) (Int64.ofInt 4000000000000000000) (d - 1) (by omega) _ (fun v h0 H => H)) (fun v1 h1 H => ?_)
  obtain ⟨rfl, hT2, hF3⟩ := H
  have hF4 := Fr_cp hF hF3 (by decide +kernel : Wsub W290 W51 = true)
  refine st_aload c51_10 rfl ?_
  refine st_getX (u := 48) c51_11 hT2 (tf hT2 rfl rfl) fd_4_3 rfl ?_
  refine st_iconst c51_14 ?_
  refine st_lconst c51_15 ?_
  refine st_jast c51_16 hT2 (tf hT2 rfl rfl) ay_30 (by omega) hS hF4 (fun h5 hT6 hF7 hU8 => ?_)
  refine st_return c51_17 ?_
  exact hQ _ _ ⟨rfl, hT6, hF7⟩
set_option maxHeartbeats 0 in
theorem K53 {Ln : Nat} {xs : Nat → Int32} {τ : List Nat} {h : List mE} {E : EP} (hT : TH E τ h) (q0 : Nat) (hq0 : ty τ q0 12) (p1 : Int) (hp1 : 0 ≤ p1 ∧ p1 ≤ 5) (q2 : Nat) (hq2 : ty τ q2 10) (p3 : Int) (hp3 : (-2147483648) ≤ p3 ∧ p3 ≤ 2147483647) (pre0 : I1 τ h) (d : Nat) (hd : 5 ≤ d) (Q : Option Value → List mE → Prop) (hQ : ∀ v h', (∃ w : Int64, v = some (.long w) ∧ h = h') → Q v h') : MR (mex Ln xs) d 53 0 [some (.ref q0), some (vI p1), some (.ref q2), some (vI p3), some (.ref 6), none, none] [] h Q := by
  refine st_aload c53_0 rfl ?_
  refine st_ifnullR c53_1 ?_
  refine st_aload c53_4 rfl ?_
  refine st_getI c53_5 hT hq0 fd_12_9 (fun e1 e2 => ?_)
  refine st_if_ne c53_8 (by omega) (fun k3 => ?_) (fun k4 => ?_)
  refine st_lconst c53_22 ?_
  refine st_lreturn c53_25 ?_
  exact hQ _ _ ⟨_, rfl, rfl⟩
  refine st_aload c53_11 rfl ?_
  refine st_aload c53_12 rfl ?_
  refine st_iload c53_13 rfl ?_
  refine st_aload c53_14 rfl ?_
  refine st_callt (as := [.ref q2, vI p3, .ref 6]) c53_16 cm_67 hT hq0 fd_12_0 rfl rfl rfl rfl (by omega) (K67 hT q0 hq0 q2 hq2 p3 (by omega) pre0 (d - 1) (by omega) _ (fun v h0 H => H)) (fun v1 h1 H => ?_)
  obtain ⟨z5, rfl, b6, rfl⟩ := H
  refine st_if_eq c53_19 (by omega) (fun k7 => ?_) (fun k8 => ?_)
  refine st_lconst c53_26 ?_
  refine st_aload c53_29 rfl ?_
  refine st_aload c53_31 rfl ?_
  refine st_getI c53_32 hT hq2 fd_10_4 (fun e9 e10 => ?_)
  refine st_aload c53_35 rfl ?_
  refine st_getI c53_36 hT hq0 fd_12_7 (fun e11 e12 => ?_)
  refine st_callt (as := [vI (fI h q2 4), vI (fI h q0 7)]) c53_39 cm_89 hT (tf hT rfl rfl) fd_2_0 rfl rfl rfl rfl (by omega) (K89 hT (fI h q2 4) (by omega) (fI h q0 7) (by omega) (d - 1) (by omega) _ (fun v h0 H => H)) (fun v1 h1 H => ?_)
  obtain ⟨z14, rfl, b15, pf13, rfl⟩ := H
  refine st_i2l c53_42 (fun w16 => ?_)
  refine st_lmul c53_43 (fun w17 => ?_)
  refine st_getstatic c53_44 rfl ?_
  refine st_iload c53_47 rfl ?_
  refine st_dig c53_48 (by omega) (fun w18 e19 => ?_)
  refine st_aload c53_49 rfl ?_
  refine st_getI c53_50 hT hq2 fd_10_0 (fun e20 e21 => ?_)
  refine st_i2l c53_53 (fun w22 => ?_)
  refine st_lmul c53_54 (fun w23 => ?_)
  refine st_ladd c53_55 (fun w24 => ?_)
  refine st_lstore (L' := [some (.ref q0), some (vI p1), some (.ref q2), some (vI p3), some (.ref 6), some (.long w24), none]) c53_56 rfl rfl ?_
  refine st_aload c53_58 rfl ?_
  refine st_getR c53_59 hT hq2 fd_10_1 (u := 9) rfl (fun r25 e26 t27 => ?_)
  refine st_aload c53_62 rfl ?_
  refine st_getR c53_63 hT hq0 fd_12_5 (u := 9) rfl (fun r28 e29 t30 => ?_)
  refine st_acmp_ne c53_66 (ty_q t27) (ty_q t30) (fun k31 => ?_) (fun k32 => ?_)
  refine st_lload c53_74 rfl ?_
  refine st_lconst c53_76 ?_
  refine st_ladd c53_79 (fun w33 => ?_)
  refine st_lreturn c53_80 ?_
  exact hQ _ _ ⟨_, rfl, rfl⟩
  refine st_lload c53_69 rfl ?_
  refine st_goto c53_71 ?_
  refine st_lreturn c53_80 ?_
  exact hQ _ _ ⟨_, rfl, rfl⟩
  refine st_lconst c53_22 ?_
  refine st_lreturn c53_25 ?_
  exact hQ _ _ ⟨_, rfl, rfl⟩
set_option maxHeartbeats 0 in
theorem K53n {Ln : Nat} {xs : Nat → Int32} {τ : List Nat} {h : List mE} {E : EP} (hT : TH E τ h) (p1 : Int) (hp1 : 0 ≤ p1 ∧ p1 ≤ 5) (q2 : Nat) (hq2 : ty τ q2 10) (p3 : Int) (hp3 : (-2147483648) ≤ p3 ∧ p3 ≤ 2147483647) (pre0 : I1 τ h) (d : Nat) (hd : 0 ≤ d) (Q : Option Value → List mE → Prop) (hQ : ∀ v h', (∃ w : Int64, v = some (.long w) ∧ h = h') → Q v h') : MR (mex Ln xs) d 53 0 [some .null, some (vI p1), some (.ref q2), some (vI p3), some (.ref 6), none, none] [] h Q := by
  refine st_aloadN c53_0 rfl ?_
  refine st_ifnullN c53_1 ?_
  refine st_lconst c53_22 ?_
  refine st_lreturn c53_25 ?_
  exact hQ _ _ ⟨_, rfl, rfl⟩
def W52 : List (Nat × Nat) := [(30, 0), (31, 0)]
set_option maxHeartbeats 0 in
theorem K52 {Ln : Nat} {xs : Nat → Int32} {τ : List Nat} {h : List mE} {E : EP} (hT : TH E τ h) (hS : Stb E W52) (q1 : Nat) (hq1 : ty τ q1 10) (p2 : Int) (hp2 : (-2147483648) ≤ p2 ∧ p2 ≤ 2147483647) (pre0 : I1 τ h) (d : Nat) (hd : 6 ≤ d) (Q : Option Value → List mE → Prop) (hQ : ∀ v h', (v = none ∧ TH E τ h' ∧ Fr τ W52 h h') → Q v h') : MR (mex Ln xs) d 52 0 [some (.ref 46), some (.ref q1), some (vI p2), some (.ref 6), none, none, none, none] [] h Q := by
  have hF := Fr_rf τ W52 h
  refine st_iconst c52_0 ?_
  refine st_istore (L' := [some (.ref 46), some (.ref q1), some (vI p2), some (.ref 6), some (vI 0), none, none, none]) c52_1 rfl rfl ?_
  refine st_iconst c52_3 ?_
  refine st_istore (L' := [some (.ref 46), some (.ref q1), some (vI p2), some (.ref 6), some (vI 0), some (vI 0), none, none]) c52_4 rfl rfl ?_
  have lp212 : ∀ (n213 : Nat) (z206 : Int) (z207 : Int) (h208 : List mE), (6 : Int) - z207 < (n213 : Int) → 0 ≤ z206 ∧ z206 ≤ 1 → 0 ≤ z207 ∧ z207 ≤ 6 → TH E τ h208 → Fr τ W52 h h208 → Fr τ [(31, 0)] h h208 → MR (mex Ln xs) d 52 6 [some (.ref 46), some (.ref q1), some (vI p2), some (.ref 6), some (vI z206), some (vI z207), none, none] [] h208 Q := by
    intro n213
    induction n213 with
    | zero =>
      intro z206 z207 h208 hm215 b216 b217 hT209 hF210 hL211
      exfalso; omega
    | succ n213 ih214 =>
      intro z206 z207 h208 hm215 b216 b217 hT209 hF210 hL211
      refine st_iload c52_6 rfl ?_
      refine st_aload c52_8 rfl ?_
      refine st_getI c52_9 hT209 (tf hT209 rfl rfl) fd_4_1 (fun e218 e219 => ?_)
      have q220 : fI h208 46 1 = fI h 46 1 := Fr_fI hL211 (tf hT rfl rfl) (by decide +kernel)
      refine st_icmp_ge c52_12 (by omega) (by omega) (fun k221 => ?_) (fun k222 => ?_)
      refine st_iconst c52_69 ?_
      refine st_aload c52_70 rfl ?_
      refine st_getI c52_71 hT209 (tf hT209 rfl rfl) fd_4_1 (fun e223 e224 => ?_)
      have q225 : fI h208 46 1 = fI h 46 1 := Fr_fI hL211 (tf hT rfl rfl) (by decide +kernel)
      refine st_ishl1 c52_74 (by omega) (fun e226 e227 => ?_)
      refine st_iconst c52_75 ?_
      refine st_isub c52_76 ?_
      refine st_istore (L' := [some (.ref 46), some (.ref q1), some (vI p2), some (.ref 6), some (vI z206), some (vI ((P2 (fI h208 46 1)) - 1)), none, none]) c52_77 rfl rfl ?_
      have lp492 : ∀ (n493 : Nat) (z487 : Int) (h488 : List mE), (z487 : Int) - 0 < (n493 : Int) → 0 ≤ z487 ∧ z487 ≤ 63 → TH E τ h488 → Fr τ W52 h h488 → Fr τ [(30, 0)] h208 h488 → MR (mex Ln xs) d 52 79 [some (.ref 46), none, none, none, some (vI z206), some (vI z487), none, none] [] h488 Q := by
        intro n493
        induction n493 with
        | zero =>
          intro z487 h488 hm495 b496 hT489 hF490 hL491
          exfalso; omega
        | succ n493 ih494 =>
          intro z487 h488 hm495 b496 hT489 hF490 hL491
          refine st_iload c52_79 rfl ?_
          refine st_if_eq c52_81 (by omega) (fun k497 => ?_) (fun k498 => ?_)
          refine st_return c52_191 ?_
          exact hQ _ _ ⟨rfl, hT489, hF490⟩
          refine st_iload c52_84 rfl ?_
          refine st_if_le c52_86 (by omega) (fun k499 => ?_) (fun k500 => ?_)
          refine st_return c52_191 ?_
          exact hQ _ _ ⟨rfl, hT489, hF490⟩
          refine st_iconst c52_89 ?_
          refine st_istore (L' := [some (.ref 46), none, none, none, some (vI z206), some (vI z487), some (vI 0), none]) c52_90 rfl rfl ?_
          have lp711 : ∀ (n712 : Nat) (z706 : Int) (h707 : List mE), (6 : Int) - z706 < (n712 : Int) → 0 ≤ z706 ∧ z706 ≤ 6 → TH E τ h707 → Fr τ W52 h h707 → Fr τ [(30, 0)] h488 h707 → MR (mex Ln xs) d 52 92 [some (.ref 46), none, none, none, some (vI z206), some (vI z487), some (vI z706), none] [] h707 Q := by
            intro n712
            induction n712 with
            | zero =>
              intro z706 h707 hm714 b715 hT708 hF709 hL710
              exfalso; omega
            | succ n712 ih713 =>
              intro z706 h707 hm714 b715 hT708 hF709 hL710
              refine st_iload c52_92 rfl ?_
              refine st_aload c52_94 rfl ?_
              refine st_getI c52_95 hT708 (tf hT708 rfl rfl) fd_4_1 (fun e716 e717 => ?_)
              have q718 : fI h707 46 1 = fI h208 46 1 := (Fr_fI hL710 (tf hT489 rfl rfl) (by decide +kernel)).trans (Fr_fI hL491 (tf hT209 rfl rfl) (by decide +kernel))
              refine st_icmp_ge c52_98 (by omega) (by omega) (fun k719 => ?_) (fun k720 => ?_)
              refine st_iinc (L' := [some (.ref 46), none, none, none, some (vI z206), some (vI (z487 + (-1))), some (vI z706), none]) c52_185 rfl rfl rfl ?_
              refine st_goto c52_188 ?_
              refine MR_weak (A := [some (.ref 46), none, none, none, some (vI z206), some (vI (z487 + (-1))), none, none]) (Lle_s (Lle_s (Lle_s (Lle_s (Lle_s (Lle_s (Lle_n (Lle_s (Lle_0))))))))) ?_
              exact ih494 (z487 + (-1)) h707 (by omega) (by omega) hT708 hF709 (Fr_cp hL491 hL710 (by decide +kernel))
              refine st_iload c52_101 rfl ?_
              refine st_iconst c52_103 ?_
              refine st_iload c52_104 rfl ?_
              refine st_ishl1 c52_106 (by omega) (fun e721 e722 => ?_)
              refine st_iconst c52_107 ?_
              refine st_ixorw c52_108 (fun w723 e724 e725 => ?_)
              refine st_iandl c52_109 (by omega) (fun w726 e727 e728 => ?_)
              refine st_istore (L' := [some (.ref 46), none, none, none, some (vI z206), some (vI z487), some (vI z706), some (vI w726)]) c52_110 rfl rfl ?_
              refine st_iload c52_112 rfl ?_
              refine st_iload c52_114 rfl ?_
              refine st_icmp_eq c52_116 (by omega) (by omega) (fun k729 => ?_) (fun k730 => ?_)
              refine st_iinc (L' := [some (.ref 46), none, none, none, some (vI z206), some (vI z487), some (vI (z706 + 1)), some (vI w726)]) c52_179 rfl rfl rfl ?_
              refine st_goto c52_182 ?_
              refine MR_weak (A := [some (.ref 46), none, none, none, some (vI z206), some (vI z487), some (vI (z706 + 1)), none]) (Lle_s (Lle_s (Lle_s (Lle_s (Lle_s (Lle_s (Lle_s (Lle_n (Lle_0))))))))) ?_
              exact ih713 (z706 + 1) h707 (by omega) (by omega) hT708 hF709 hL710
              refine st_aload c52_119 rfl ?_
              refine st_getX (u := 49) c52_120 hT708 (tf hT708 rfl rfl) fd_4_4 rfl ?_
              refine st_iload c52_123 rfl ?_
              refine st_jald c52_125 hT708 (tf hT708 rfl rfl) ay_31 (by omega) (fun w731 => ?_)
              refine st_lconst c52_126 ?_
              refine st_lcmp c52_129 (fun w732 e733 e734 => ?_)
              refine st_if_ge c52_130 (by omega) (fun k735 => ?_) (fun k736 => ?_)
              refine st_iinc (L' := [some (.ref 46), none, none, none, some (vI z206), some (vI z487), some (vI (z706 + 1)), some (vI w726)]) c52_179 rfl rfl rfl ?_
              refine st_goto c52_182 ?_
              refine MR_weak (A := [some (.ref 46), none, none, none, some (vI z206), some (vI z487), some (vI (z706 + 1)), none]) (Lle_s (Lle_s (Lle_s (Lle_s (Lle_s (Lle_s (Lle_s (Lle_n (Lle_0))))))))) ?_
              exact ih713 (z706 + 1) h707 (by omega) (by omega) hT708 hF709 hL710
              refine st_aload c52_133 rfl ?_
              refine st_getX (u := 48) c52_134 hT708 (tf hT708 rfl rfl) fd_4_3 rfl ?_
              refine st_iload c52_137 rfl ?_
              refine st_jald c52_139 hT708 (tf hT708 rfl rfl) ay_30 (by omega) (fun w737 => ?_)
              refine st_lconst c52_140 ?_
              refine st_lcmp c52_143 (fun w738 e739 e740 => ?_)
              refine st_if_ge c52_144 (by omega) (fun k741 => ?_) (fun k742 => ?_)
              refine st_iinc (L' := [some (.ref 46), none, none, none, some (vI z206), some (vI z487), some (vI (z706 + 1)), some (vI w726)]) c52_179 rfl rfl rfl ?_
              refine st_goto c52_182 ?_
              refine MR_weak (A := [some (.ref 46), none, none, none, some (vI z206), some (vI z487), some (vI (z706 + 1)), none]) (Lle_s (Lle_s (Lle_s (Lle_s (Lle_s (Lle_s (Lle_s (Lle_n (Lle_0))))))))) ?_
              exact ih713 (z706 + 1) h707 (by omega) (by omega) hT708 hF709 hL710
              refine st_aload c52_147 rfl ?_
              refine st_getX (u := 48) c52_148 hT708 (tf hT708 rfl rfl) fd_4_3 rfl ?_
              refine st_iload c52_151 rfl ?_
              refine st_aload c52_153 rfl ?_
              refine st_getX (u := 48) c52_154 hT708 (tf hT708 rfl rfl) fd_4_3 rfl ?_
              refine st_iload c52_157 rfl ?_
              refine st_jald c52_159 hT708 (tf hT708 rfl rfl) ay_30 (by omega) (fun w743 => ?_)
              refine st_aload c52_160 rfl ?_
              refine st_getX (u := 48) c52_161 hT708 (tf hT708 rfl rfl) fd_4_3 rfl ?_
              refine st_iload c52_164 rfl ?_
              refine st_jald c52_166 hT708 (tf hT708 rfl rfl) ay_30 (by omega) (fun w744 => ?_)
              refine st_aload c52_167 rfl ?_
              refine st_getX (u := 49) c52_168 hT708 (tf hT708 rfl rfl) fd_4_4 rfl ?_
              refine st_iload c52_171 rfl ?_
              refine st_jald c52_173 hT708 (tf hT708 rfl rfl) ay_31 (by omega) (fun w745 => ?_)
              refine st_ladd c52_174 (fun w746 => ?_)
              refine st_lmin c52_175 rfl (fun w747 => ?_)
              refine st_jast c52_178 hT708 (tf hT708 rfl rfl) ay_30 (by omega) hS hF709 (fun h748 hT749 hF750 hU751 => ?_)
              refine st_iinc (L' := [some (.ref 46), none, none, none, some (vI z206), some (vI z487), some (vI (z706 + 1)), some (vI w726)]) c52_179 rfl rfl rfl ?_
              refine st_goto c52_182 ?_
              refine MR_weak (A := [some (.ref 46), none, none, none, some (vI z206), some (vI z487), some (vI (z706 + 1)), none]) (Lle_s (Lle_s (Lle_s (Lle_s (Lle_s (Lle_s (Lle_s (Lle_n (Lle_0))))))))) ?_
              exact ih713 (z706 + 1) h748 (by omega) (by omega) hT749 hF750 (JUp_Fr hL710 hU751)
          exact lp711 ((((6 : Int) - 0 : Int) + 1).toNat) 0 h488 (by omega) (by omega) hT489 hF490 (Fr_rf _ _ _)
      refine MR_weak (A := [some (.ref 46), none, none, none, some (vI z206), some (vI ((P2 (fI h208 46 1)) - 1)), none, none]) (Lle_s (Lle_n (Lle_n (Lle_n (Lle_s (Lle_s (Lle_s (Lle_s (Lle_0))))))))) ?_
      exact lp492 ((((((P2 (fI h208 46 1)) - 1) : Int) - 0 : Int) + 1).toNat) ((P2 (fI h208 46 1)) - 1) h208 (by omega) (by omega) hT209 hF210 (Fr_rf _ _ _)
      refine st_aload c52_15 rfl ?_
      refine st_getX (u := 49) c52_16 hT209 (tf hT209 rfl rfl) fd_4_4 rfl ?_
      refine st_iload c52_19 rfl ?_
      refine st_aload c52_21 rfl ?_
      refine st_getX (u := 47) c52_22 hT209 (tf hT209 rfl rfl) fd_4_0 rfl ?_
      refine st_iload c52_25 rfl ?_
      refine st_aald c52_27 hT209 (tf hT209 rfl rfl) ay_29 rfl (u := 12) rfl (by omega) (fun e753 => ?_) (fun r752 e754 t755 => ?_)
      refine st_iload c52_28 rfl ?_
      refine st_aload c52_30 rfl ?_
      refine st_iload c52_31 rfl ?_
      refine st_aload c52_32 rfl ?_
      refine st_calls (as := [.null, vI z207, .ref q1, vI p2, .ref 6]) c52_33 cm_53 rfl rfl rfl rfl (by omega) (K53n hT209 z207 (by omega) q1 hq1 p2 (by omega) (I1_fr pre0 hT hF210 (by decide +kernel)) (d - 1) (by omega) _ (fun v h0 H => H)) (fun v1 h1 H => ?_)
      obtain ⟨w756, rfl, rfl⟩ := H
      refine st_jast c52_36 hT209 (tf hT209 rfl rfl) ay_31 (by omega) hS hF210 (fun h757 hT758 hF759 hU760 => ?_)
      refine st_iload c52_37 rfl ?_
      refine st_if_ne c52_39 (by omega) (fun k761 => ?_) (fun k762 => ?_)
      refine st_iconst c52_56 ?_
      refine st_goto c52_57 ?_
      refine st_istore (L' := [some (.ref 46), some (.ref q1), some (vI p2), some (.ref 6), some (vI 1), some (vI z207), none, none]) c52_61 rfl rfl ?_
      refine st_iinc (L' := [some (.ref 46), some (.ref q1), some (vI p2), some (.ref 6), some (vI 1), some (vI (z207 + 1)), none, none]) c52_63 rfl rfl rfl ?_
      refine st_goto c52_66 ?_
      exact ih214 1 (z207 + 1) h757 (by omega) (by omega) (by omega) hT758 hF759 (JUp_Fr hL211 hU760)
      refine st_aload c52_42 rfl ?_
      refine st_getX (u := 49) c52_43 hT758 (tf hT758 rfl rfl) fd_4_4 rfl ?_
      refine st_iload c52_46 rfl ?_
      refine st_jald c52_48 hT758 (tf hT758 rfl rfl) ay_31 (by omega) (fun w763 => ?_)
      refine st_lconst c52_49 ?_
      refine st_lcmp c52_52 (fun w764 e765 e766 => ?_)
      refine st_if_ge c52_53 (by omega) (fun k767 => ?_) (fun k768 => ?_)
      refine st_iconst c52_60 ?_
      refine st_istore (L' := [some (.ref 46), some (.ref q1), some (vI p2), some (.ref 6), some (vI 0), some (vI z207), none, none]) c52_61 rfl rfl ?_
      refine st_iinc (L' := [some (.ref 46), some (.ref q1), some (vI p2), some (.ref 6), some (vI 0), some (vI (z207 + 1)), none, none]) c52_63 rfl rfl rfl ?_
      refine st_goto c52_66 ?_
      exact ih214 0 (z207 + 1) h757 (by omega) (by omega) (by omega) hT758 hF759 (JUp_Fr hL211 hU760)
      refine st_iconst c52_56 ?_
      refine st_goto c52_57 ?_
      refine st_istore (L' := [some (.ref 46), some (.ref q1), some (vI p2), some (.ref 6), some (vI 1), some (vI z207), none, none]) c52_61 rfl rfl ?_
      refine st_iinc (L' := [some (.ref 46), some (.ref q1), some (vI p2), some (.ref 6), some (vI 1), some (vI (z207 + 1)), none, none]) c52_63 rfl rfl rfl ?_
      refine st_goto c52_66 ?_
      exact ih214 1 (z207 + 1) h757 (by omega) (by omega) (by omega) hT758 hF759 (JUp_Fr hL211 hU760)
      refine st_iload c52_28 rfl ?_
      refine st_aload c52_30 rfl ?_
      refine st_iload c52_31 rfl ?_
      refine st_aload c52_32 rfl ?_
      refine st_calls (as := [.ref r752, vI z207, .ref q1, vI p2, .ref 6]) c52_33 cm_53 rfl rfl rfl rfl (by omega) (K53 hT209 r752 t755 z207 (by omega) q1 hq1 p2 (by omega) (I1_fr pre0 hT hF210 (by decide +kernel)) (d - 1) (by omega) _ (fun v h0 H => H)) (fun v1 h1 H => ?_)
      obtain ⟨w769, rfl, rfl⟩ := H
      refine st_jast c52_36 hT209 (tf hT209 rfl rfl) ay_31 (by omega) hS hF210 (fun h770 hT771 hF772 hU773 => ?_)
      refine st_iload c52_37 rfl ?_
      refine st_if_ne c52_39 (by omega) (fun k774 => ?_) (fun k775 => ?_)
      refine st_iconst c52_56 ?_
      refine st_goto c52_57 ?_
      refine st_istore (L' := [some (.ref 46), some (.ref q1), some (vI p2), some (.ref 6), some (vI 1), some (vI z207), none, none]) c52_61 rfl rfl ?_
      refine st_iinc (L' := [some (.ref 46), some (.ref q1), some (vI p2), some (.ref 6), some (vI 1), some (vI (z207 + 1)), none, none]) c52_63 rfl rfl rfl ?_
      refine st_goto c52_66 ?_
      exact ih214 1 (z207 + 1) h770 (by omega) (by omega) (by omega) hT771 hF772 (JUp_Fr hL211 hU773)
      refine st_aload c52_42 rfl ?_
      refine st_getX (u := 49) c52_43 hT771 (tf hT771 rfl rfl) fd_4_4 rfl ?_
      refine st_iload c52_46 rfl ?_
      refine st_jald c52_48 hT771 (tf hT771 rfl rfl) ay_31 (by omega) (fun w776 => ?_)
      refine st_lconst c52_49 ?_
      refine st_lcmp c52_52 (fun w777 e778 e779 => ?_)
      refine st_if_ge c52_53 (by omega) (fun k780 => ?_) (fun k781 => ?_)
      refine st_iconst c52_60 ?_
      refine st_istore (L' := [some (.ref 46), some (.ref q1), some (vI p2), some (.ref 6), some (vI 0), some (vI z207), none, none]) c52_61 rfl rfl ?_
      refine st_iinc (L' := [some (.ref 46), some (.ref q1), some (vI p2), some (.ref 6), some (vI 0), some (vI (z207 + 1)), none, none]) c52_63 rfl rfl rfl ?_
      refine st_goto c52_66 ?_
      exact ih214 0 (z207 + 1) h770 (by omega) (by omega) (by omega) hT771 hF772 (JUp_Fr hL211 hU773)
      refine st_iconst c52_56 ?_
      refine st_goto c52_57 ?_
      refine st_istore (L' := [some (.ref 46), some (.ref q1), some (vI p2), some (.ref 6), some (vI 1), some (vI z207), none, none]) c52_61 rfl rfl ?_
      refine st_iinc (L' := [some (.ref 46), some (.ref q1), some (vI p2), some (.ref 6), some (vI 1), some (vI (z207 + 1)), none, none]) c52_63 rfl rfl rfl ?_
      refine st_goto c52_66 ?_
      exact ih214 1 (z207 + 1) h770 (by omega) (by omega) (by omega) hT771 hF772 (JUp_Fr hL211 hU773)
  exact lp212 ((((6 : Int) - 0 : Int) + 1).toNat) 0 0 h (by omega) (by omega) (by omega) hT hF (Fr_rf _ _ _)
set_option maxHeartbeats 0 in
theorem K54 {Ln : Nat} {xs : Nat → Int32} {τ : List Nat} {h : List mE} {E : EP} (hT : TH E τ h) (d : Nat) (hd : 0 ≤ d) (Q : Option Value → List mE → Prop) (hQ : ∀ v h', (∃ w : Int64, v = some (.long w) ∧ h = h') → Q v h') : MR (mex Ln xs) d 54 0 [some (.ref 46), none, none, none, none, none, none] [] h Q := by
  refine st_lconst c54_0 ?_
  refine st_lstore (L' := [some (.ref 46), some (.long (Int64.ofInt 4000000000000000000)), none, none, none, none, none]) c54_3 rfl rfl ?_
  refine st_iconst c54_4 ?_
  refine st_istore (L' := [some (.ref 46), some (.long (Int64.ofInt 4000000000000000000)), none, some (vI 0), none, none, none]) c54_5 rfl rfl ?_
  have lp1116 : ∀ (n1117 : Nat) (w1114 : Int64) (z1115 : Int), (64 : Int) - z1115 < (n1117 : Int) → 0 ≤ z1115 ∧ z1115 ≤ 64 → MR (mex Ln xs) d 54 6 [some (.ref 46), some (.long w1114), none, some (vI z1115), none, none, none] [] h Q := by
    intro n1117
    induction n1117 with
    | zero =>
      intro w1114 z1115 hm1119 b1120
      exfalso; omega
    | succ n1117 ih1118 =>
      intro w1114 z1115 hm1119 b1120
      refine st_iload c54_6 rfl ?_
      refine st_iconst c54_7 ?_
      refine st_aload c54_8 rfl ?_
      refine st_getI c54_9 hT (tf hT rfl rfl) fd_4_1 (fun e1121 e1122 => ?_)
      refine st_ishl1 c54_12 (by omega) (fun e1123 e1124 => ?_)
      refine st_icmp_ge c54_13 (by omega) (by omega) (fun k1125 => ?_) (fun k1126 => ?_)
      refine st_lload c54_92 rfl ?_
      refine st_lreturn c54_93 ?_
      exact hQ _ _ ⟨_, rfl, rfl⟩
      refine st_aload c54_16 rfl ?_
      refine st_getX (u := 48) c54_17 hT (tf hT rfl rfl) fd_4_3 rfl ?_
      refine st_iload c54_20 rfl ?_
      refine st_jald c54_21 hT (tf hT rfl rfl) ay_30 (by omega) (fun w1127 => ?_)
      refine st_lstore (L' := [some (.ref 46), some (.long w1114), none, some (vI z1115), some (.long w1127), none, none]) c54_22 rfl rfl ?_
      refine st_iconst c54_24 ?_
      refine st_istore (L' := [some (.ref 46), some (.long w1114), none, some (vI z1115), some (.long w1127), none, some (vI 0)]) c54_25 rfl rfl ?_
      have lp1250 : ∀ (n1251 : Nat) (w1248 : Int64) (z1249 : Int), (6 : Int) - z1249 < (n1251 : Int) → 0 ≤ z1249 ∧ z1249 ≤ 6 → MR (mex Ln xs) d 54 27 [some (.ref 46), some (.long w1114), none, some (vI z1115), some (.long w1248), none, some (vI z1249)] [] h Q := by
        intro n1251
        induction n1251 with
        | zero =>
          intro w1248 z1249 hm1253 b1254
          exfalso; omega
        | succ n1251 ih1252 =>
          intro w1248 z1249 hm1253 b1254
          refine st_iload c54_27 rfl ?_
          refine st_aload c54_29 rfl ?_
          refine st_getI c54_30 hT (tf hT rfl rfl) fd_4_1 (fun e1255 e1256 => ?_)
          refine st_icmp_ge c54_33 (by omega) (by omega) (fun k1257 => ?_) (fun k1258 => ?_)
          refine st_lload c54_79 rfl ?_
          refine st_lload c54_80 rfl ?_
          refine st_lmin c54_82 rfl (fun w1259 => ?_)
          refine st_lstore (L' := [some (.ref 46), some (.long w1259), none, some (vI z1115), some (.long w1248), none, some (vI z1249)]) c54_85 rfl rfl ?_
          refine st_iinc (L' := [some (.ref 46), some (.long w1259), none, some (vI (z1115 + 1)), some (.long w1248), none, some (vI z1249)]) c54_86 rfl rfl rfl ?_
          refine st_goto c54_89 ?_
          refine MR_weak (A := [some (.ref 46), some (.long w1259), none, some (vI (z1115 + 1)), none, none, none]) (Lle_s (Lle_s (Lle_s (Lle_s (Lle_n (Lle_s (Lle_n (Lle_0)))))))) ?_
          exact ih1118 w1259 (z1115 + 1) (by omega) (by omega)
          refine st_lload c54_36 rfl ?_
          refine st_lconst c54_38 ?_
          refine st_lcmp c54_41 (fun w1260 e1261 e1262 => ?_)
          refine st_if_ge c54_42 (by omega) (fun k1263 => ?_) (fun k1264 => ?_)
          refine st_lload c54_79 rfl ?_
          refine st_lload c54_80 rfl ?_
          refine st_lmin c54_82 rfl (fun w1265 => ?_)
          refine st_lstore (L' := [some (.ref 46), some (.long w1265), none, some (vI z1115), some (.long w1248), none, some (vI z1249)]) c54_85 rfl rfl ?_
          refine st_iinc (L' := [some (.ref 46), some (.long w1265), none, some (vI (z1115 + 1)), some (.long w1248), none, some (vI z1249)]) c54_86 rfl rfl rfl ?_
          refine st_goto c54_89 ?_
          refine MR_weak (A := [some (.ref 46), some (.long w1265), none, some (vI (z1115 + 1)), none, none, none]) (Lle_s (Lle_s (Lle_s (Lle_s (Lle_n (Lle_s (Lle_n (Lle_0)))))))) ?_
          exact ih1118 w1265 (z1115 + 1) (by omega) (by omega)
          refine st_iload c54_45 rfl ?_
          refine st_iload c54_46 rfl ?_
          refine st_ishrw c54_48 (fun w1266 e1267 e1268 => ?_)
          refine st_iconst c54_49 ?_
          refine st_iandr c54_50 (by omega) (fun w1269 e1270 e1271 => ?_)
          refine st_if_ne c54_51 (by omega) (fun k1272 => ?_) (fun k1273 => ?_)
          refine st_iinc (L' := [some (.ref 46), some (.long w1114), none, some (vI z1115), some (.long w1248), none, some (vI (z1249 + 1))]) c54_73 rfl rfl rfl ?_
          refine st_goto c54_76 ?_
          exact ih1252 w1248 (z1249 + 1) (by omega) (by omega)
          refine st_lload c54_54 rfl ?_
          refine st_lconst c54_56 ?_
          refine st_getstatic c54_59 rfl ?_
          refine st_iload c54_62 rfl ?_
          refine st_dig c54_64 (by omega) (fun w1274 e1275 => ?_)
          refine st_lconst c54_65 ?_
          refine st_lmul c54_68 (fun w1276 => ?_)
          refine st_ladd c54_69 (fun w1277 => ?_)
          refine st_ladd c54_70 (fun w1278 => ?_)
          refine st_lstore (L' := [some (.ref 46), some (.long w1114), none, some (vI z1115), some (.long w1278), none, some (vI z1249)]) c54_71 rfl rfl ?_
          refine st_iinc (L' := [some (.ref 46), some (.long w1114), none, some (vI z1115), some (.long w1278), none, some (vI (z1249 + 1))]) c54_73 rfl rfl rfl ?_
          refine st_goto c54_76 ?_
          exact ih1252 w1278 (z1249 + 1) (by omega) (by omega)
      exact lp1250 ((((6 : Int) - 0 : Int) + 1).toNat) w1127 0 (by omega) (by omega)
  exact lp1116 ((((64 : Int) - 0 : Int) + 1).toNat) (Int64.ofInt 4000000000000000000) 0 (by omega) (by omega)
def W55 : List (Nat × Nat) := [(4, 1), (4, 2), (10, 9), (12, 9), (12, 10), (29, 0)]
set_option maxHeartbeats 0 in
theorem K55 {Ln : Nat} {xs : Nat → Int32} {τ : List Nat} {h : List mE} {E : EP} (hT : TH E τ h) (hS : Stb E W55) (d : Nat) (hd : 2 ≤ d) (Q : Option Value → List mE → Prop) (hQ : ∀ v h', (∃ z : Int, v = some (vI z) ∧ ((-2147483648) ≤ z ∧ z ≤ 2147483647) ∧ TH E τ h' ∧ Fr τ W55 h h') → Q v h') : MR (mex Ln xs) d 55 0 [some (.ref 46), some (.ref 35), some (.ref 6), none, none, none, none, none, none] [] h Q := by
  have hF := Fr_rf τ W55 h
  refine st_aload c55_0 rfl ?_
  refine st_callt (as := []) c55_1 cm_54 hT (tf hT rfl rfl) fd_4_0 rfl rfl rfl rfl (by omega) (K54 hT (d - 1) (by omega) _ (fun v h0 H => H)) (fun v1 h1 H => ?_)
  obtain ⟨w1, rfl, rfl⟩ := H
  refine st_lconst c55_4 ?_
  refine st_lrem c55_7 (by decide) (fun w2 => ?_)
  refine st_lstore (L' := [some (.ref 46), some (.ref 35), some (.ref 6), some (.long w2), none, none, none, none, none]) c55_8 rfl rfl ?_
  refine st_iconst c55_9 ?_
  refine st_istore (L' := [some (.ref 46), some (.ref 35), some (.ref 6), some (.long w2), none, some (vI 0), none, none, none]) c55_10 rfl rfl ?_
  refine st_aload c55_12 rfl ?_
  refine st_iconst c55_13 ?_
  refine st_putI c55_14 hT (tf hT rfl rfl) fd_4_2 (by omega) (by omega) (Ext_rf _) hS hF (by decide +kernel) (fun h3 hT4 hF5 hU6 => ?_)
  refine st_iconst c55_17 ?_
  refine st_istore (L' := [some (.ref 46), some (.ref 35), some (.ref 6), some (.long w2), none, some (vI 0), some (vI 0), none, none]) c55_18 rfl rfl ?_
  have lp580 : ∀ (n581 : Nat) (z574 : Int) (z575 : Int) (h576 : List mE), (6 : Int) - z575 < (n581 : Int) → (-2147483648) ≤ z574 ∧ z574 ≤ 2147483647 → 0 ≤ z575 ∧ z575 ≤ 6 → TH E τ h576 → Fr τ W55 h h576 → Fr τ [(4, 2), (10, 9), (12, 9), (12, 10), (29, 0)] h3 h576 → MR (mex Ln xs) d 55 20 [some (.ref 46), some (.ref 35), some (.ref 6), some (.long w2), none, some (vI z574), some (vI z575), none, none] [] h576 Q := by
    intro n581
    induction n581 with
    | zero =>
      intro z574 z575 h576 hm583 b584 b585 hT577 hF578 hL579
      exfalso; omega
    | succ n581 ih582 =>
      intro z574 z575 h576 hm583 b584 b585 hT577 hF578 hL579
      refine st_iload c55_20 rfl ?_
      refine st_aload c55_22 rfl ?_
      refine st_getI c55_23 hT577 (tf hT577 rfl rfl) fd_4_1 (fun e586 e587 => ?_)
      have q588 : fI h576 46 1 = fI h 46 1 := (Fr_fI hL579 (tf hT4 rfl rfl) (by decide +kernel)).trans (FUp_fIne hU6 (fun z => absurd z.2 (by decide)))
      refine st_icmp_ge c55_26 (by omega) (by omega) (fun k589 => ?_) (fun k590 => ?_)
      refine st_aload c55_128 rfl ?_
      refine st_iconst c55_129 ?_
      refine st_putI c55_130 hT577 (tf hT577 rfl rfl) fd_4_1 (by omega) (by omega) (Ext_rf _) hS hF578 (by decide +kernel) (fun h591 hT592 hF593 hU594 => ?_)
      refine st_iload c55_133 rfl ?_
      refine st_ireturn c55_135 ?_
      exact hQ _ _ ⟨z574, rfl, by omega, hT592, hF593⟩
      refine st_aload c55_29 rfl ?_
      refine st_getX (u := 47) c55_30 hT577 (tf hT577 rfl rfl) fd_4_0 rfl ?_
      refine st_iload c55_33 rfl ?_
      refine st_aald c55_35 hT577 (tf hT577 rfl rfl) ay_29 rfl (u := 12) rfl (by omega) (fun e596 => ?_) (fun r595 e597 t598 => ?_)
      refine st_astoreN (L' := [some (.ref 46), some (.ref 35), some (.ref 6), some (.long w2), none, some (vI z574), some (vI z575), some .null, none]) c55_36 rfl rfl ?_
      refine st_lload c55_38 rfl ?_
      refine st_getstatic c55_39 rfl ?_
      refine st_iload c55_42 rfl ?_
      refine st_dig c55_44 (by omega) (fun w599 e600 => ?_)
      refine st_ldiv c55_45 e600 (fun w601 => ?_)
      refine st_lconst c55_46 ?_
      refine st_lrem c55_49 (by decide) (fun w602 => ?_)
      refine st_l2i c55_50 (fun w603 e604 e605 => ?_)
      refine st_istore (L' := [some (.ref 46), some (.ref 35), some (.ref 6), some (.long w2), none, some (vI z574), some (vI z575), some .null, some (vI w603)]) c55_51 rfl rfl ?_
      refine st_aloadN c55_53 rfl ?_
      refine st_ifnullN c55_55 ?_
      refine st_aload c55_114 rfl ?_
      refine st_getX (u := 47) c55_115 hT577 (tf hT577 rfl rfl) fd_4_0 rfl ?_
      refine st_iload c55_118 rfl ?_
      refine st_null c55_120 ?_
      refine st_aastN c55_121 hT577 (tf hT577 rfl rfl) ay_29 rfl (by omega) (Ext_rf _) hS hF578 (by decide +kernel) (fun h606 hT607 hF608 hU609 => ?_)
      refine st_iinc (L' := [some (.ref 46), some (.ref 35), some (.ref 6), some (.long w2), none, some (vI z574), some (vI (z575 + 1)), some .null, some (vI w603)]) c55_122 rfl rfl rfl ?_
      refine st_goto c55_125 ?_
      refine MR_weak (A := [some (.ref 46), some (.ref 35), some (.ref 6), some (.long w2), none, some (vI z574), some (vI (z575 + 1)), none, none]) (Lle_s (Lle_s (Lle_s (Lle_s (Lle_s (Lle_s (Lle_s (Lle_n (Lle_n (Lle_0)))))))))) ?_
      exact ih582 z574 (z575 + 1) h606 (by omega) (by omega) (by omega) hT607 hF608 (OUp_Fr hL579 hU609 (fun u hu => by rw [ty_1 hu (tf hT607 rfl rfl)]; decide))
      refine st_astore (L' := [some (.ref 46), some (.ref 35), some (.ref 6), some (.long w2), none, some (vI z574), some (vI z575), some (.ref r595), none]) c55_36 rfl rfl ?_
      refine st_lload c55_38 rfl ?_
      refine st_getstatic c55_39 rfl ?_
      refine st_iload c55_42 rfl ?_
      refine st_dig c55_44 (by omega) (fun w610 e611 => ?_)
      refine st_ldiv c55_45 e611 (fun w612 => ?_)
      refine st_lconst c55_46 ?_
      refine st_lrem c55_49 (by decide) (fun w613 => ?_)
      refine st_l2i c55_50 (fun w614 e615 e616 => ?_)
      refine st_istore (L' := [some (.ref 46), some (.ref 35), some (.ref 6), some (.long w2), none, some (vI z574), some (vI z575), some (.ref r595), some (vI w614)]) c55_51 rfl rfl ?_
      refine st_aload c55_53 rfl ?_
      refine st_ifnullR c55_55 ?_
      refine st_iload c55_58 rfl ?_
      refine st_if_lt c55_60 (by omega) (fun k617 => ?_) (fun k618 => ?_)
      refine st_aload c55_114 rfl ?_
      refine st_getX (u := 47) c55_115 hT577 (tf hT577 rfl rfl) fd_4_0 rfl ?_
      refine st_iload c55_118 rfl ?_
      refine st_null c55_120 ?_
      refine st_aastN c55_121 hT577 (tf hT577 rfl rfl) ay_29 rfl (by omega) (Ext_rf _) hS hF578 (by decide +kernel) (fun h619 hT620 hF621 hU622 => ?_)
      refine st_iinc (L' := [some (.ref 46), some (.ref 35), some (.ref 6), some (.long w2), none, some (vI z574), some (vI (z575 + 1)), some (.ref r595), some (vI w614)]) c55_122 rfl rfl rfl ?_
      refine st_goto c55_125 ?_
      refine MR_weak (A := [some (.ref 46), some (.ref 35), some (.ref 6), some (.long w2), none, some (vI z574), some (vI (z575 + 1)), none, none]) (Lle_s (Lle_s (Lle_s (Lle_s (Lle_s (Lle_s (Lle_s (Lle_n (Lle_n (Lle_0)))))))))) ?_
      exact ih582 z574 (z575 + 1) h619 (by omega) (by omega) (by omega) hT620 hF621 (OUp_Fr hL579 hU622 (fun u hu => by rw [ty_1 hu (tf hT620 rfl rfl)]; decide))
      refine st_iload c55_63 rfl ?_
      refine st_aload c55_65 rfl ?_
      refine st_alenC (z := 90) c55_66 hT577 (tf hT577 rfl rfl) ay_16 rfl rfl rfl ?_
      refine st_icmp_ge c55_67 (by omega) (by omega) (fun k623 => ?_) (fun k624 => ?_)
      refine st_aload c55_114 rfl ?_
      refine st_getX (u := 47) c55_115 hT577 (tf hT577 rfl rfl) fd_4_0 rfl ?_
      refine st_iload c55_118 rfl ?_
      refine st_null c55_120 ?_
      refine st_aastN c55_121 hT577 (tf hT577 rfl rfl) ay_29 rfl (by omega) (Ext_rf _) hS hF578 (by decide +kernel) (fun h625 hT626 hF627 hU628 => ?_)
      refine st_iinc (L' := [some (.ref 46), some (.ref 35), some (.ref 6), some (.long w2), none, some (vI z574), some (vI (z575 + 1)), some (.ref r595), some (vI w614)]) c55_122 rfl rfl rfl ?_
      refine st_goto c55_125 ?_
      refine MR_weak (A := [some (.ref 46), some (.ref 35), some (.ref 6), some (.long w2), none, some (vI z574), some (vI (z575 + 1)), none, none]) (Lle_s (Lle_s (Lle_s (Lle_s (Lle_s (Lle_s (Lle_s (Lle_n (Lle_n (Lle_0)))))))))) ?_
      exact ih582 z574 (z575 + 1) h625 (by omega) (by omega) (by omega) hT626 hF627 (OUp_Fr hL579 hU628 (fun u hu => by rw [ty_1 hu (tf hT626 rfl rfl)]; decide))
      refine st_aload c55_70 rfl ?_
      refine st_iload c55_71 rfl ?_
      refine st_aald c55_73 hT577 (tf hT577 rfl rfl) ay_16 rfl (u := 10) rfl (by omega) (fun e630 => ?_) (fun r629 e631 t632 => ?_)
      refine st_ifnullN c55_74 ?_
      refine st_aload c55_114 rfl ?_
      refine st_getX (u := 47) c55_115 hT577 (tf hT577 rfl rfl) fd_4_0 rfl ?_
      refine st_iload c55_118 rfl ?_
      refine st_null c55_120 ?_
      refine st_aastN c55_121 hT577 (tf hT577 rfl rfl) ay_29 rfl (by omega) (Ext_rf _) hS hF578 (by decide +kernel) (fun h633 hT634 hF635 hU636 => ?_)
      refine st_iinc (L' := [some (.ref 46), some (.ref 35), some (.ref 6), some (.long w2), none, some (vI z574), some (vI (z575 + 1)), some (.ref r595), some (vI w614)]) c55_122 rfl rfl rfl ?_
      refine st_goto c55_125 ?_
      refine MR_weak (A := [some (.ref 46), some (.ref 35), some (.ref 6), some (.long w2), none, some (vI z574), some (vI (z575 + 1)), none, none]) (Lle_s (Lle_s (Lle_s (Lle_s (Lle_s (Lle_s (Lle_s (Lle_n (Lle_n (Lle_0)))))))))) ?_
      exact ih582 z574 (z575 + 1) h633 (by omega) (by omega) (by omega) hT634 hF635 (OUp_Fr hL579 hU636 (fun u hu => by rw [ty_1 hu (tf hT634 rfl rfl)]; decide))
      refine st_ifnullR c55_74 ?_
      refine st_aload c55_77 rfl ?_
      refine st_aload c55_79 rfl ?_
      refine st_iload c55_80 rfl ?_
      refine st_aaldr c55_82 hT577 (tf hT577 rfl rfl) ay_16 rfl (by omega) e631 ?_
      refine st_callt (as := [.ref r629]) c55_83 cm_70 hT577 t598 fd_12_0 rfl rfl rfl rfl (by omega) (K70 hT577 (Stb_mono hS (by decide +kernel)) r595 t598 r629 t632 (d - 1) (by omega) _ (fun v h0 H => H)) (fun v1 h637 H => ?_)
      obtain ⟨rfl, hT638, hF639⟩ := H
      have hF640 := Fr_cp hF578 hF639 (by decide +kernel : Wsub W70 W55 = true)
      refine st_aload c55_86 rfl ?_
      refine st_dup c55_87 rfl ?_
      refine st_getI c55_88 hT638 (tf hT638 rfl rfl) fd_4_2 (fun e641 e642 => ?_)
      have q643 : fI h637 46 2 = fI h576 46 2 := Fr_fI hF639 (tf hT577 rfl rfl) (by decide +kernel)
      refine st_aload c55_91 rfl ?_
      refine st_aload c55_92 rfl ?_
      refine st_iload c55_93 rfl ?_
      refine st_aaldr c55_95 hT638 (tf hT638 rfl rfl) ay_16 rfl (by omega) ((Fr_aR hF639 (tf hT638 rfl rfl) (by decide +kernel) w614).trans (e631)) ?_
      refine st_getI c55_96 hT638 t632 fd_10_4 (fun e644 e645 => ?_)
      have q646 : fI h637 r629 4 = fI h r629 4 := (Fr_fI hF639 t632 (by decide +kernel)).trans ((Fr_fI hL579 t632 (by decide +kernel)).trans (FUp_fIne hU6 (fun z => absurd z.2 (by decide))))
      refine st_aload c55_99 rfl ?_
      refine st_getI c55_101 hT638 t598 fd_12_7 (fun e647 e648 => ?_)
      have q649 : fI h637 r595 7 = fI h r595 7 := (Fr_fI hF639 t598 (by decide +kernel)).trans ((Fr_fI hL579 t598 (by decide +kernel)).trans (FUp_fIne hU6 (fun z => absurd z.2 (by decide))))
      refine st_callt (as := [vI (fI h637 r629 4), vI (fI h637 r595 7)]) c55_104 cm_89 hT638 (tf hT638 rfl rfl) fd_2_0 rfl rfl rfl rfl (by omega) (K89 hT638 (fI h637 r629 4) (by omega) (fI h637 r595 7) (by omega) (d - 1) (by omega) _ (fun v h0 H => H)) (fun v1 h1 H => ?_)
      obtain ⟨z651, rfl, b652, pf650, rfl⟩ := H
      refine st_iadd c55_107 ?_
      refine MR_wrap (fun w653 e654 e655 e656 => ?_)
      refine st_putI c55_108 hT638 (tf hT638 rfl rfl) fd_4_2 (by omega) (by omega) (Ext_rf _) hS hF640 (by decide +kernel) (fun h657 hT658 hF659 hU660 => ?_)
      refine st_iinc (L' := [some (.ref 46), some (.ref 35), some (.ref 6), some (.long w2), none, some (vI (z574 + 1)), some (vI z575), some (.ref r595), some (vI w614)]) c55_111 rfl rfl rfl ?_
      refine st_aload c55_114 rfl ?_
      refine st_getX (u := 47) c55_115 hT658 (tf hT658 rfl rfl) fd_4_0 rfl ?_
      refine st_iload c55_118 rfl ?_
      refine st_null c55_120 ?_
      refine st_aastN c55_121 hT658 (tf hT658 rfl rfl) ay_29 rfl (by omega) (Ext_rf _) hS hF659 (by decide +kernel) (fun h661 hT662 hF663 hU664 => ?_)
      refine st_iinc (L' := [some (.ref 46), some (.ref 35), some (.ref 6), some (.long w2), none, some (vI (z574 + 1)), some (vI (z575 + 1)), some (.ref r595), some (vI w614)]) c55_122 rfl rfl rfl ?_
      refine st_goto c55_125 ?_
      have e666 : vI (z574 + 1) = vI (Int32.ofInt (z574 + 1)).toInt := by unfold vI; rw [Int32.ofInt_toInt]
      rw [e666]
      have b667 := to_lo (Int32.ofInt (z574 + 1))
      have b668 := to_hi (Int32.ofInt (z574 + 1))
      refine MR_weak (A := [some (.ref 46), some (.ref 35), some (.ref 6), some (.long w2), none, some (vI ((Int32.ofInt (z574 + 1)).toInt)), some (vI (z575 + 1)), none, none]) (Lle_s (Lle_s (Lle_s (Lle_s (Lle_s (Lle_s (Lle_s (Lle_n (Lle_n (Lle_0)))))))))) ?_
      exact ih582 ((Int32.ofInt (z574 + 1)).toInt) (z575 + 1) h661 (by omega) (by omega) (by omega) hT662 hF663 (OUp_Fr (FUp_Fr (Fr_cp hL579 hF639 (by decide +kernel)) hU660 (fun u hu => by rw [ty_1 hu (tf hT662 rfl rfl)]; decide)) hU664 (fun u hu => by rw [ty_1 hu (tf hT662 rfl rfl)]; decide))
  exact lp580 ((((6 : Int) - 0 : Int) + 1).toNat) 0 0 h3 (by omega) (by omega) (by omega) hT4 hF5 (Fr_rf _ _ _)
set_option maxHeartbeats 0 in
theorem K22 {Ln : Nat} {xs : Nat → Int32} {τ : List Nat} {h : List mE} {E : EP} (hT : TH E τ h) (q0 : Nat) (hq0 : ty τ q0 10) (d : Nat) (hd : 0 ≤ d) (Q : Option Value → List mE → Prop) (hQ : ∀ v h', ((v = some (vI 0) ∧ h = h') ∨ (v = some (vI 1) ∧ h = h')) → Q v h') : MR (mex Ln xs) d 22 0 [some (.ref q0)] [] h Q := by
  refine st_aload c22_0 rfl ?_
  refine st_ifnullR c22_1 ?_
  refine st_aload c22_4 rfl ?_
  refine st_getN c22_5 hT hq0 fd_10_9 (u := 12) rfl (fun e2 => ?_) (fun r1 e3 t4 => ?_)
  refine st_ifnullN c22_8 ?_
  refine st_iconst c22_26 ?_
  refine st_zreturn c22_27 (by omega) ?_
  exact hQ _ _ (Or.inl ⟨rfl, rfl⟩)
  refine st_ifnullR c22_8 ?_
  refine st_aload c22_11 rfl ?_
  refine st_getNr c22_12 hT hq0 fd_10_9 e3 ?_
  refine st_getI c22_15 hT t4 fd_12_9 (fun e5 e6 => ?_)
  refine st_iconst c22_18 ?_
  refine st_icmp_ne c22_19 (by omega) (by omega) (fun k7 => ?_) (fun k8 => ?_)
  refine st_iconst c22_26 ?_
  refine st_zreturn c22_27 (by omega) ?_
  exact hQ _ _ (Or.inl ⟨rfl, rfl⟩)
  refine st_iconst c22_22 ?_
  refine st_goto c22_23 ?_
  refine st_zreturn c22_27 (by omega) ?_
  exact hQ _ _ (Or.inr ⟨rfl, rfl⟩)
set_option maxHeartbeats 0 in
theorem K22n {Ln : Nat} {xs : Nat → Int32} {τ : List Nat} {h : List mE} {E : EP} (hT : TH E τ h) (d : Nat) (hd : 0 ≤ d) (Q : Option Value → List mE → Prop) (hQ : ∀ v h', ((v = some (vI 0) ∧ h = h') ∨ (v = some (vI 1) ∧ h = h')) → Q v h') : MR (mex Ln xs) d 22 0 [some .null] [] h Q := by
  refine st_aloadN c22_0 rfl ?_
  refine st_ifnullN c22_1 ?_
  refine st_iconst c22_26 ?_
  refine st_zreturn c22_27 (by omega) ?_
  exact hQ _ _ (Or.inl ⟨rfl, rfl⟩)
set_option maxHeartbeats 0 in
theorem K23 {Ln : Nat} {xs : Nat → Int32} {τ : List Nat} {h : List mE} {E : EP} (hT : TH E τ h) (q1 : Nat) (hq1 : ty τ q1 10) (d : Nat) (hd : 1 ≤ d) (Q : Option Value → List mE → Prop) (hQ : ∀ v h', ((v = some (vI 0) ∧ h = h') ∨ (v = some (vI 1) ∧ h = h')) → Q v h') : MR (mex Ln xs) d 23 0 [some (.ref 50), some (.ref q1), none] [] h Q := by
  refine st_iconst c23_0 ?_
  refine st_istore (L' := [some (.ref 50), some (.ref q1), some (vI 0)]) c23_1 rfl rfl ?_
  have lp87 : ∀ (n88 : Nat) (z86 : Int), (5 : Int) - z86 < (n88 : Int) → 0 ≤ z86 ∧ z86 ≤ 5 → MR (mex Ln xs) d 23 2 [some (.ref 50), some (.ref q1), some (vI z86)] [] h Q := by
    intro n88
    induction n88 with
    | zero =>
      intro z86 hm90 b91
      exfalso; omega
    | succ n88 ih89 =>
      intro z86 hm90 b91
      refine st_iload c23_2 rfl ?_
      refine st_aload c23_3 rfl ?_
      refine st_getI c23_4 hT (tf hT rfl rfl) fd_5_1 (fun e92 e93 => ?_)
      refine st_icmp_ge c23_7 (by omega) (by omega) (fun k94 => ?_) (fun k95 => ?_)
      refine st_aload c23_53 rfl ?_
      refine st_calls (as := [.ref q1]) c23_54 cm_22 rfl rfl rfl rfl (by omega) (K22 hT q1 hq1 (d - 1) (by omega) _ (fun v h0 H => H)) (fun v1 h1 H => ?_)
      rcases H with ⟨rfl, rfl⟩ | ⟨rfl, rfl⟩
      refine st_if_eq c23_57 (by omega) (fun k96 => ?_) (fun k97 => False.elim (by omega))
      refine st_iconst c23_71 ?_
      refine st_zreturn c23_72 (by omega) ?_
      exact hQ _ _ (Or.inl ⟨rfl, rfl⟩)
      refine st_if_eq c23_57 (by omega) (fun k98 => False.elim (by omega)) (fun k99 => ?_)
      refine st_aload c23_60 rfl ?_
      refine st_getI c23_61 hT hq1 fd_10_3 (fun e100 e101 => ?_)
      refine st_if_ne c23_64 (by omega) (fun k102 => ?_) (fun k103 => ?_)
      refine st_iconst c23_71 ?_
      refine st_zreturn c23_72 (by omega) ?_
      exact hQ _ _ (Or.inl ⟨rfl, rfl⟩)
      refine st_iconst c23_67 ?_
      refine st_goto c23_68 ?_
      refine st_zreturn c23_72 (by omega) ?_
      exact hQ _ _ (Or.inr ⟨rfl, rfl⟩)
      refine st_aload c23_10 rfl ?_
      refine st_getX (u := 51) c23_11 hT (tf hT rfl rfl) fd_5_0 rfl ?_
      refine st_iload c23_14 rfl ?_
      refine st_aald c23_15 hT (tf hT rfl rfl) ay_32 rfl (u := 10) rfl (by omega) (fun e105 => ?_) (fun r104 e106 t107 => ?_)
      refine st_aload c23_16 rfl ?_
      refine st_acmpRN_eq c23_17 ?_
      refine st_aload c23_20 rfl ?_
      refine st_getX (u := 51) c23_21 hT (tf hT rfl rfl) fd_5_0 rfl ?_
      refine st_iload c23_24 rfl ?_
      refine st_aaldn c23_25 hT (tf hT rfl rfl) ay_32 rfl (by omega) e105 ?_
      refine st_ifnullN c23_26 ?_
      refine st_iconst c23_45 ?_
      refine st_zreturn c23_46 (by omega) ?_
      exact hQ _ _ (Or.inl ⟨rfl, rfl⟩)
      refine st_aload c23_16 rfl ?_
      refine st_acmp_eq c23_17 (ty_q t107) (ty_q hq1) (fun k108 => ?_) (fun k109 => ?_)
      refine st_iconst c23_45 ?_
      refine st_zreturn c23_46 (by omega) ?_
      exact hQ _ _ (Or.inl ⟨rfl, rfl⟩)
      refine st_aload c23_20 rfl ?_
      refine st_getX (u := 51) c23_21 hT (tf hT rfl rfl) fd_5_0 rfl ?_
      refine st_iload c23_24 rfl ?_
      refine st_aaldr c23_25 hT (tf hT rfl rfl) ay_32 rfl (by omega) e106 ?_
      refine st_ifnullR c23_26 ?_
      refine st_aload c23_29 rfl ?_
      refine st_getX (u := 51) c23_30 hT (tf hT rfl rfl) fd_5_0 rfl ?_
      refine st_iload c23_33 rfl ?_
      refine st_aaldr c23_34 hT (tf hT rfl rfl) ay_32 rfl (by omega) e106 ?_
      refine st_getI c23_35 hT t107 fd_10_4 (fun e110 e111 => ?_)
      refine st_aload c23_38 rfl ?_
      refine st_getI c23_39 hT hq1 fd_10_4 (fun e112 e113 => ?_)
      refine st_icmp_eq c23_42 (by omega) (by omega) (fun k114 => ?_) (fun k115 => ?_)
      refine st_iinc (L' := [some (.ref 50), some (.ref q1), some (vI (z86 + 1))]) c23_47 rfl rfl rfl ?_
      refine st_goto c23_50 ?_
      exact ih89 (z86 + 1) (by omega) (by omega)
      refine st_iconst c23_45 ?_
      refine st_zreturn c23_46 (by omega) ?_
      exact hQ _ _ (Or.inl ⟨rfl, rfl⟩)
  exact lp87 ((((5 : Int) - 0 : Int) + 1).toNat) 0 (by omega) (by omega)
def W24 : List (Nat × Nat) := [(5, 1), (32, 0)]
set_option maxHeartbeats 0 in
theorem K24 {Ln : Nat} {xs : Nat → Int32} {τ : List Nat} {h : List mE} {E : EP} (hT : TH E τ h) (hS : Stb E W24) (q1 : Nat) (hq1 : ty τ q1 10) (d : Nat) (hd : 2 ≤ d) (Q : Option Value → List mE → Prop) (hQ : ∀ v h', (∃ z : Int, v = some (vI z) ∧ ((-3) ≤ z ∧ z ≤ 5) ∧ TH E τ h' ∧ Fr τ W24 h h') → Q v h') : MR (mex Ln xs) d 24 0 [some (.ref 50), some (.ref q1)] [] h Q := by
  have hF := Fr_rf τ W24 h
  refine st_aload c24_0 rfl ?_
  refine st_aload c24_1 rfl ?_
  refine st_callt (as := [.ref q1]) c24_2 cm_23 hT (tf hT rfl rfl) fd_5_0 rfl rfl rfl rfl (by omega) (K23 hT q1 hq1 (d - 1) (by omega) _ (fun v h0 H => H)) (fun v1 h1 H => ?_)
  rcases H with ⟨rfl, rfl⟩ | ⟨rfl, rfl⟩
  refine st_if_ne c24_5 (by omega) (fun k1 => False.elim (by omega)) (fun k2 => ?_)
  refine st_iconst c24_8 ?_
  refine st_ireturn c24_10 ?_
  exact hQ _ _ ⟨(-2), rfl, by omega, hT, hF⟩
  refine st_if_ne c24_5 (by omega) (fun k3 => ?_) (fun k4 => False.elim (by omega))
  refine st_aload c24_11 rfl ?_
  refine st_getI c24_12 hT (tf hT rfl rfl) fd_5_1 (fun e5 e6 => ?_)
  refine st_iconst c24_15 ?_
  refine st_icmp_lt c24_16 (by omega) (by omega) (fun k7 => ?_) (fun k8 => ?_)
  refine st_aload c24_22 rfl ?_
  refine st_getX (u := 51) c24_23 hT (tf hT rfl rfl) fd_5_0 rfl ?_
  refine st_aload c24_26 rfl ?_
  refine st_getI c24_27 hT (tf hT rfl rfl) fd_5_1 (fun e9 e10 => ?_)
  refine st_aload c24_30 rfl ?_
  refine st_aast c24_31 hT (tf hT rfl rfl) ay_32 hq1 rfl fd_10_0 rfl (by omega) (Ext_rf _) hS hF (by decide +kernel) (fun h11 hT12 hF13 hU14 => ?_)
  refine st_aload c24_32 rfl ?_
  refine st_dup c24_33 rfl ?_
  refine st_getI c24_34 hT12 (tf hT12 rfl rfl) fd_5_1 (fun e15 e16 => ?_)
  have q17 : fI h11 50 1 = fI h 50 1 := OUp_fI hU14
  refine st_iconst c24_37 ?_
  refine st_iadd c24_38 ?_
  refine st_putI c24_39 hT12 (tf hT12 rfl rfl) fd_5_1 (by omega) (by omega) (Ext_rf _) hS hF13 (by decide +kernel) (fun h18 hT19 hF20 hU21 => ?_)
  refine st_aload c24_42 rfl ?_
  refine st_getI c24_43 hT19 (tf hT19 rfl rfl) fd_5_1 (fun e22 e23 => ?_)
  have q24 : fI h18 50 1 = (fI h11 50 1) + 1 := FUp_fI hU21 (by omega) (by omega)
  refine st_ireturn c24_46 ?_
  exact hQ _ _ ⟨fI h18 50 1, rfl, by omega, hT19, hF20⟩
  refine st_iconst c24_19 ?_
  refine st_ireturn c24_21 ?_
  exact hQ _ _ ⟨(-3), rfl, by omega, hT, hF⟩
set_option maxHeartbeats 0 in
theorem K26 {Ln : Nat} {xs : Nat → Int32} {τ : List Nat} {h : List mE} {E : EP} (hT : TH E τ h) (p1 : Int) (hp1 : (-2147483648) ≤ p1 ∧ p1 ≤ 2147483647) (d : Nat) (hd : 0 ≤ d) (Q : Option Value → List mE → Prop) (hQ : ∀ v h', ((v = some .null ∧ h = h') ∨ (∃ r : Nat, v = some (.ref r) ∧ ty τ r 10 ∧ h = h')) → Q v h') : MR (mex Ln xs) d 26 0 [some (.ref 50), some (vI p1)] [] h Q := by
  refine st_iload c26_0 rfl ?_
  refine st_if_lt c26_1 (by omega) (fun k1 => ?_) (fun k2 => ?_)
  refine st_null c26_21 ?_
  refine st_areturnN c26_22 ?_
  exact hQ _ _ (Or.inl ⟨rfl, rfl⟩)
  refine st_iload c26_4 rfl ?_
  refine st_aload c26_5 rfl ?_
  refine st_getI c26_6 hT (tf hT rfl rfl) fd_5_3 (fun e3 e4 => ?_)
  refine st_icmp_ge c26_9 (by omega) (by omega) (fun k5 => ?_) (fun k6 => ?_)
  refine st_null c26_21 ?_
  refine st_areturnN c26_22 ?_
  exact hQ _ _ (Or.inl ⟨rfl, rfl⟩)
  refine st_aload c26_12 rfl ?_
  refine st_getX (u := 52) c26_13 hT (tf hT rfl rfl) fd_5_2 rfl ?_
  refine st_iload c26_16 rfl ?_
  refine st_aald c26_17 hT (tf hT rfl rfl) ay_33 rfl (u := 10) rfl (by omega) (fun e8 => ?_) (fun r7 e9 t10 => ?_)
  refine st_goto c26_18 ?_
  refine st_areturnN c26_22 ?_
  exact hQ _ _ (Or.inl ⟨rfl, rfl⟩)
  refine st_goto c26_18 ?_
  refine st_areturn c26_22 ?_
  exact hQ _ _ (Or.inr ⟨_, rfl, t10, rfl⟩)
def W27 : List (Nat × Nat) := [(5, 1), (32, 0)]
set_option maxHeartbeats 0 in
theorem K27 {Ln : Nat} {xs : Nat → Int32} {τ : List Nat} {h : List mE} {E : EP} (hT : TH E τ h) (hS : Stb E W27) (d : Nat) (hd : 1 ≤ d) (Q : Option Value → List mE → Prop) (hQ : ∀ v h', (v = none ∧ TH E τ h' ∧ Fr τ W27 h h') → Q v h') : MR (mex Ln xs) d 27 0 [some (.ref 50), none, none] [] h Q := by
  have hF := Fr_rf τ W27 h
  refine st_iconst c27_0 ?_
  refine st_istore (L' := [some (.ref 50), some (vI 0), none]) c27_1 rfl rfl ?_
  refine st_iconst c27_2 ?_
  refine st_istore (L' := [some (.ref 50), some (vI 0), some (vI 0)]) c27_3 rfl rfl ?_
  have lp131 : ∀ (n132 : Nat) (z125 : Int) (z126 : Int) (h127 : List mE), (5 : Int) - z126 < (n132 : Int) → 0 ≤ z125 ∧ z125 ≤ 5 → 0 ≤ z126 ∧ z126 ≤ 5 → z125 ≤ z126 → TH E τ h127 → Fr τ W27 h h127 → Fr τ [(32, 0)] h h127 → MR (mex Ln xs) d 27 4 [some (.ref 50), some (vI z125), some (vI z126)] [] h127 Q := by
    intro n132
    induction n132 with
    | zero =>
      intro z125 z126 h127 hm134 b135 b136 x137 hT128 hF129 hL130
      exfalso; omega
    | succ n132 ih133 =>
      intro z125 z126 h127 hm134 b135 b136 x137 hT128 hF129 hL130
      refine st_iload c27_4 rfl ?_
      refine st_aload c27_5 rfl ?_
      refine st_getI c27_6 hT128 (tf hT128 rfl rfl) fd_5_1 (fun e138 e139 => ?_)
      have q140 : fI h127 50 1 = fI h 50 1 := Fr_fI hL130 (tf hT rfl rfl) (by decide +kernel)
      refine st_icmp_ge c27_9 (by omega) (by omega) (fun k141 => ?_) (fun k142 => ?_)
      refine st_aload c27_45 rfl ?_
      refine st_iload c27_46 rfl ?_
      refine st_putI c27_47 hT128 (tf hT128 rfl rfl) fd_5_1 (by omega) (by omega) (Ext_rf _) hS hF129 (by decide +kernel) (fun h143 hT144 hF145 hU146 => ?_)
      refine st_return c27_50 ?_
      exact hQ _ _ ⟨rfl, hT144, hF145⟩
      refine st_aload c27_12 rfl ?_
      refine st_getX (u := 51) c27_13 hT128 (tf hT128 rfl rfl) fd_5_0 rfl ?_
      refine st_iload c27_16 rfl ?_
      refine st_aald c27_17 hT128 (tf hT128 rfl rfl) ay_32 rfl (u := 10) rfl (by omega) (fun e148 => ?_) (fun r147 e149 t150 => ?_)
      refine st_calls (as := [.null]) c27_18 cm_22 rfl rfl rfl rfl (by omega) (K22n hT128 (d - 1) (by omega) _ (fun v h0 H => H)) (fun v1 h1 H => ?_)
      rcases H with ⟨rfl, rfl⟩ | ⟨rfl, rfl⟩
      refine st_if_eq c27_21 (by omega) (fun k151 => ?_) (fun k152 => False.elim (by omega))
      refine st_iinc (L' := [some (.ref 50), some (vI z125), some (vI (z126 + 1))]) c27_39 rfl rfl rfl ?_
      refine st_goto c27_42 ?_
      exact ih133 z125 (z126 + 1) h127 (by omega) (by omega) (by omega) (by omega) hT128 hF129 hL130
      refine st_if_eq c27_21 (by omega) (fun k153 => False.elim (by omega)) (fun k154 => ?_)
      refine st_aload c27_24 rfl ?_
      refine st_getX (u := 51) c27_25 hT128 (tf hT128 rfl rfl) fd_5_0 rfl ?_
      refine st_iload c27_28 rfl ?_
      refine st_aload c27_29 rfl ?_
      refine st_getX (u := 51) c27_30 hT128 (tf hT128 rfl rfl) fd_5_0 rfl ?_
      refine st_iload c27_33 rfl ?_
      refine st_aaldn c27_34 hT128 (tf hT128 rfl rfl) ay_32 rfl (by omega) e148 ?_
      refine st_aastN c27_35 hT128 (tf hT128 rfl rfl) ay_32 rfl (by omega) (Ext_rf _) hS hF129 (by decide +kernel) (fun h155 hT156 hF157 hU158 => ?_)
      refine st_iinc (L' := [some (.ref 50), some (vI (z125 + 1)), some (vI z126)]) c27_36 rfl rfl rfl ?_
      refine st_iinc (L' := [some (.ref 50), some (vI (z125 + 1)), some (vI (z126 + 1))]) c27_39 rfl rfl rfl ?_
      refine st_goto c27_42 ?_
      exact ih133 (z125 + 1) (z126 + 1) h155 (by omega) (by omega) (by omega) (by omega) hT156 hF157 (OUp_Fr hL130 hU158 (fun u hu => by rw [ty_1 hu (tf hT156 rfl rfl)]; decide))
      refine st_calls (as := [.ref r147]) c27_18 cm_22 rfl rfl rfl rfl (by omega) (K22 hT128 r147 t150 (d - 1) (by omega) _ (fun v h0 H => H)) (fun v1 h1 H => ?_)
      rcases H with ⟨rfl, rfl⟩ | ⟨rfl, rfl⟩
      refine st_if_eq c27_21 (by omega) (fun k159 => ?_) (fun k160 => False.elim (by omega))
      refine st_iinc (L' := [some (.ref 50), some (vI z125), some (vI (z126 + 1))]) c27_39 rfl rfl rfl ?_
      refine st_goto c27_42 ?_
      exact ih133 z125 (z126 + 1) h127 (by omega) (by omega) (by omega) (by omega) hT128 hF129 hL130
      refine st_if_eq c27_21 (by omega) (fun k161 => False.elim (by omega)) (fun k162 => ?_)
      refine st_aload c27_24 rfl ?_
      refine st_getX (u := 51) c27_25 hT128 (tf hT128 rfl rfl) fd_5_0 rfl ?_
      refine st_iload c27_28 rfl ?_
      refine st_aload c27_29 rfl ?_
      refine st_getX (u := 51) c27_30 hT128 (tf hT128 rfl rfl) fd_5_0 rfl ?_
      refine st_iload c27_33 rfl ?_
      refine st_aaldr c27_34 hT128 (tf hT128 rfl rfl) ay_32 rfl (by omega) e149 ?_
      refine st_aast c27_35 hT128 (tf hT128 rfl rfl) ay_32 t150 rfl fd_10_0 rfl (by omega) (Ext_rf _) hS hF129 (by decide +kernel) (fun h163 hT164 hF165 hU166 => ?_)
      refine st_iinc (L' := [some (.ref 50), some (vI (z125 + 1)), some (vI z126)]) c27_36 rfl rfl rfl ?_
      refine st_iinc (L' := [some (.ref 50), some (vI (z125 + 1)), some (vI (z126 + 1))]) c27_39 rfl rfl rfl ?_
      refine st_goto c27_42 ?_
      exact ih133 (z125 + 1) (z126 + 1) h163 (by omega) (by omega) (by omega) (by omega) hT164 hF165 (OUp_Fr hL130 hU166 (fun u hu => by rw [ty_1 hu (tf hT164 rfl rfl)]; decide))
  exact lp131 ((((5 : Int) - 0 : Int) + 1).toNat) 0 0 h (by omega) (by omega) (by omega) (by omega) hT hF (Fr_rf _ _ _)
set_option maxHeartbeats 0 in
theorem K28 {Ln : Nat} {xs : Nat → Int32} {τ : List Nat} {h : List mE} {E : EP} (hT : TH E τ h) (p1 : Int) (hp1 : 0 ≤ p1 ∧ p1 ≤ 5) (d : Nat) (hd : 0 ≤ d) (Q : Option Value → List mE → Prop) (hQ : ∀ v h', (∃ z : Int, v = some (vI z) ∧ ((-2147483648) ≤ z ∧ z ≤ 2147483647) ∧ h = h') → Q v h') : MR (mex Ln xs) d 28 0 [some (.ref 50), some (vI p1), none, none] [] h Q := by
  refine st_iconst c28_0 ?_
  refine st_istore (L' := [some (.ref 50), some (vI p1), some (vI 0), none]) c28_1 rfl rfl ?_
  refine st_iconst c28_2 ?_
  refine st_istore (L' := [some (.ref 50), some (vI p1), some (vI 0), some (vI 0)]) c28_3 rfl rfl ?_
  have lp50 : ∀ (n51 : Nat) (z48 : Int) (z49 : Int), (5 : Int) - z49 < (n51 : Int) → (-2147483648) ≤ z48 ∧ z48 ≤ 2147483647 → 0 ≤ z49 ∧ z49 ≤ 5 → MR (mex Ln xs) d 28 4 [some (.ref 50), some (vI p1), some (vI z48), some (vI z49)] [] h Q := by
    intro n51
    induction n51 with
    | zero =>
      intro z48 z49 hm53 b54 b55
      exfalso; omega
    | succ n51 ih52 =>
      intro z48 z49 hm53 b54 b55
      refine st_iload c28_4 rfl ?_
      refine st_iload c28_5 rfl ?_
      refine st_icmp_ge c28_6 (by omega) (by omega) (fun k56 => ?_) (fun k57 => ?_)
      refine st_iload c28_43 rfl ?_
      refine st_ireturn c28_44 ?_
      exact hQ _ _ ⟨z48, rfl, by omega, rfl⟩
      refine st_iload c28_9 rfl ?_
      refine st_aload c28_10 rfl ?_
      refine st_getX (u := 51) c28_11 hT (tf hT rfl rfl) fd_5_0 rfl ?_
      refine st_iload c28_14 rfl ?_
      refine st_aald c28_15 hT (tf hT rfl rfl) ay_32 rfl (u := 10) rfl (by omega) (fun e59 => ?_) (fun r58 e60 t61 => ?_)
      refine st_ifnonnullN c28_16 ?_
      refine st_iconst c28_19 ?_
      refine st_goto c28_20 ?_
      refine st_iadd c28_35 ?_
      refine st_istore (L' := [some (.ref 50), some (vI p1), some (vI (z48 + 0)), some (vI z49)]) c28_36 rfl rfl ?_
      refine st_iinc (L' := [some (.ref 50), some (vI p1), some (vI (z48 + 0)), some (vI (z49 + 1))]) c28_37 rfl rfl rfl ?_
      refine st_goto c28_40 ?_
      exact ih52 (z48 + 0) (z49 + 1) (by omega) (by omega) (by omega)
      refine st_ifnonnullR c28_16 ?_
      refine st_aload c28_23 rfl ?_
      refine st_getX (u := 51) c28_24 hT (tf hT rfl rfl) fd_5_0 rfl ?_
      refine st_iload c28_27 rfl ?_
      refine st_aaldr c28_28 hT (tf hT rfl rfl) ay_32 rfl (by omega) e60 ?_
      refine st_getR c28_29 hT t61 fd_10_1 (u := 9) rfl (fun r62 e63 t64 => ?_)
      refine st_getI c28_32 hT t64 fd_9_1 (fun e65 e66 => ?_)
      refine st_iadd c28_35 ?_
      refine MR_wrap (fun w67 e68 e69 e70 => ?_)
      refine st_istore (L' := [some (.ref 50), some (vI p1), some (vI w67), some (vI z49)]) c28_36 rfl rfl ?_
      refine st_iinc (L' := [some (.ref 50), some (vI p1), some (vI w67), some (vI (z49 + 1))]) c28_37 rfl rfl rfl ?_
      refine st_goto c28_40 ?_
      exact ih52 w67 (z49 + 1) (by omega) (by omega) (by omega)
  exact lp50 ((((5 : Int) - 0 : Int) + 1).toNat) 0 0 (by omega) (by omega) (by omega)
def W29 : List (Nat × Nat) := [(32, 0)]
set_option maxHeartbeats 0 in
theorem K29 {Ln : Nat} {xs : Nat → Int32} {τ : List Nat} {h : List mE} {E : EP} (hT : TH E τ h) (hS : Stb E W29) (p1 : Int) (hp1 : 0 ≤ p1 ∧ p1 ≤ 5) (d : Nat) (hd : 0 ≤ d) (Q : Option Value → List mE → Prop) (hQ : ∀ v h', (v = none ∧ TH E τ h' ∧ Fr τ W29 h h') → Q v h') : MR (mex Ln xs) d 29 0 [some (.ref 50), some (vI p1), none, none, none, none] [] h Q := by
  have hF := Fr_rf τ W29 h
  refine st_iconst c29_0 ?_
  refine st_istore (L' := [some (.ref 50), some (vI p1), some (vI 1), none, none, none]) c29_1 rfl rfl ?_
  have lp354 : ∀ (n355 : Nat) (z349 : Int) (h350 : List mE), (5 : Int) - z349 < (n355 : Int) → 1 ≤ z349 ∧ z349 ≤ 5 → TH E τ h350 → Fr τ W29 h h350 → Fr τ [(32, 0)] h h350 → MR (mex Ln xs) d 29 2 [some (.ref 50), some (vI p1), some (vI z349), none, none, none] [] h350 Q := by
    intro n355
    induction n355 with
    | zero =>
      intro z349 h350 hm357 b358 hT351 hF352 hL353
      exfalso; omega
    | succ n355 ih356 =>
      intro z349 h350 hm357 b358 hT351 hF352 hL353
      refine st_iload c29_2 rfl ?_
      refine st_iload c29_3 rfl ?_
      refine st_icmp_ge c29_4 (by omega) (by omega) (fun k359 => ?_) (fun k360 => ?_)
      refine st_return c29_84 ?_
      exact hQ _ _ ⟨rfl, hT351, hF352⟩
      refine st_iload c29_7 rfl ?_
      refine st_istore (L' := [some (.ref 50), some (vI p1), some (vI z349), some (vI z349), none, none]) c29_8 rfl rfl ?_
      have lp436 : ∀ (n437 : Nat) (z431 : Int) (h432 : List mE), (z431 : Int) - 0 < (n437 : Int) → 0 ≤ z431 ∧ z431 ≤ 4 → TH E τ h432 → Fr τ W29 h h432 → Fr τ [(32, 0)] h350 h432 → MR (mex Ln xs) d 29 9 [some (.ref 50), some (vI p1), some (vI z349), some (vI z431), none, none] [] h432 Q := by
        intro n437
        induction n437 with
        | zero =>
          intro z431 h432 hm439 b440 hT433 hF434 hL435
          exfalso; omega
        | succ n437 ih438 =>
          intro z431 h432 hm439 b440 hT433 hF434 hL435
          refine st_iload c29_9 rfl ?_
          refine st_if_le c29_10 (by omega) (fun k441 => ?_) (fun k442 => ?_)
          refine st_iinc (L' := [some (.ref 50), some (vI p1), some (vI (z349 + 1)), some (vI z431), none, none]) c29_78 rfl rfl rfl ?_
          refine st_goto c29_81 ?_
          refine MR_weak (A := [some (.ref 50), some (vI p1), some (vI (z349 + 1)), none, none, none]) (Lle_s (Lle_s (Lle_s (Lle_n (Lle_s (Lle_s (Lle_0))))))) ?_
          exact ih356 (z349 + 1) h432 (by omega) (by omega) hT433 hF434 (Fr_cp hL353 hL435 (by decide +kernel))
          refine st_aload c29_13 rfl ?_
          refine st_getX (u := 51) c29_14 hT433 (tf hT433 rfl rfl) fd_5_0 rfl ?_
          refine st_iload c29_17 rfl ?_
          refine st_iconst c29_18 ?_
          refine st_isub c29_19 ?_
          refine st_aald c29_20 hT433 (tf hT433 rfl rfl) ay_32 rfl (u := 10) rfl (by omega) (fun e444 => ?_) (fun r443 e445 t446 => ?_)
          refine st_astoreN (L' := [some (.ref 50), some (vI p1), some (vI z349), some (vI z431), some .null, none]) c29_21 rfl rfl ?_
          refine st_aload c29_23 rfl ?_
          refine st_getX (u := 51) c29_24 hT433 (tf hT433 rfl rfl) fd_5_0 rfl ?_
          refine st_iload c29_27 rfl ?_
          refine st_aald c29_28 hT433 (tf hT433 rfl rfl) ay_32 rfl (u := 10) rfl (by omega) (fun e448 => ?_) (fun r447 e449 t450 => ?_)
          refine st_astoreN (L' := [some (.ref 50), some (vI p1), some (vI z349), some (vI z431), some .null, some .null]) c29_29 rfl rfl ?_
          refine st_aloadN c29_31 rfl ?_
          refine st_ifnullN c29_33 ?_
          refine st_iinc (L' := [some (.ref 50), some (vI p1), some (vI z349), some (vI (z431 + (-1))), some .null, some .null]) c29_72 rfl rfl rfl ?_
          refine st_goto c29_75 ?_
          refine MR_weak (A := [some (.ref 50), some (vI p1), some (vI z349), some (vI (z431 + (-1))), none, none]) (Lle_s (Lle_s (Lle_s (Lle_s (Lle_n (Lle_n (Lle_0))))))) ?_
          exact ih438 (z431 + (-1)) h432 (by omega) (by omega) hT433 hF434 hL435
          refine st_astore (L' := [some (.ref 50), some (vI p1), some (vI z349), some (vI z431), some .null, some (.ref r447)]) c29_29 rfl rfl ?_
          refine st_aloadN c29_31 rfl ?_
          refine st_ifnullN c29_33 ?_
          refine st_iinc (L' := [some (.ref 50), some (vI p1), some (vI z349), some (vI (z431 + (-1))), some .null, some (.ref r447)]) c29_72 rfl rfl rfl ?_
          refine st_goto c29_75 ?_
          refine MR_weak (A := [some (.ref 50), some (vI p1), some (vI z349), some (vI (z431 + (-1))), none, none]) (Lle_s (Lle_s (Lle_s (Lle_s (Lle_n (Lle_n (Lle_0))))))) ?_
          exact ih438 (z431 + (-1)) h432 (by omega) (by omega) hT433 hF434 hL435
          refine st_astore (L' := [some (.ref 50), some (vI p1), some (vI z349), some (vI z431), some (.ref r443), none]) c29_21 rfl rfl ?_
          refine st_aload c29_23 rfl ?_
          refine st_getX (u := 51) c29_24 hT433 (tf hT433 rfl rfl) fd_5_0 rfl ?_
          refine st_iload c29_27 rfl ?_
          refine st_aald c29_28 hT433 (tf hT433 rfl rfl) ay_32 rfl (u := 10) rfl (by omega) (fun e452 => ?_) (fun r451 e453 t454 => ?_)
          refine st_astoreN (L' := [some (.ref 50), some (vI p1), some (vI z349), some (vI z431), some (.ref r443), some .null]) c29_29 rfl rfl ?_
          refine st_aload c29_31 rfl ?_
          refine st_ifnullR c29_33 ?_
          refine st_aloadN c29_36 rfl ?_
          refine st_ifnullN c29_38 ?_
          refine st_iinc (L' := [some (.ref 50), some (vI p1), some (vI z349), some (vI (z431 + (-1))), some (.ref r443), some .null]) c29_72 rfl rfl rfl ?_
          refine st_goto c29_75 ?_
          refine MR_weak (A := [some (.ref 50), some (vI p1), some (vI z349), some (vI (z431 + (-1))), none, none]) (Lle_s (Lle_s (Lle_s (Lle_s (Lle_n (Lle_n (Lle_0))))))) ?_
          exact ih438 (z431 + (-1)) h432 (by omega) (by omega) hT433 hF434 hL435
          refine st_astore (L' := [some (.ref 50), some (vI p1), some (vI z349), some (vI z431), some (.ref r443), some (.ref r451)]) c29_29 rfl rfl ?_
          refine st_aload c29_31 rfl ?_
          refine st_ifnullR c29_33 ?_
          refine st_aload c29_36 rfl ?_
          refine st_ifnullR c29_38 ?_
          refine st_aload c29_41 rfl ?_
          refine st_getI c29_43 hT433 t446 fd_10_0 (fun e455 e456 => ?_)
          have q457 : fI h432 r443 0 = fI h r443 0 := (Fr_fI hL435 t446 (by decide +kernel)).trans (Fr_fI hL353 t446 (by decide +kernel))
          refine st_aload c29_46 rfl ?_
          refine st_getI c29_48 hT433 t454 fd_10_0 (fun e458 e459 => ?_)
          have q460 : fI h432 r451 0 = fI h r451 0 := (Fr_fI hL435 t454 (by decide +kernel)).trans (Fr_fI hL353 t454 (by decide +kernel))
          refine st_icmp_le c29_51 (by omega) (by omega) (fun k461 => ?_) (fun k462 => ?_)
          refine st_iinc (L' := [some (.ref 50), some (vI p1), some (vI z349), some (vI (z431 + (-1))), some (.ref r443), some (.ref r451)]) c29_72 rfl rfl rfl ?_
          refine st_goto c29_75 ?_
          refine MR_weak (A := [some (.ref 50), some (vI p1), some (vI z349), some (vI (z431 + (-1))), none, none]) (Lle_s (Lle_s (Lle_s (Lle_s (Lle_n (Lle_n (Lle_0))))))) ?_
          exact ih438 (z431 + (-1)) h432 (by omega) (by omega) hT433 hF434 hL435
          refine st_aload c29_54 rfl ?_
          refine st_getX (u := 51) c29_55 hT433 (tf hT433 rfl rfl) fd_5_0 rfl ?_
          refine st_iload c29_58 rfl ?_
          refine st_iconst c29_59 ?_
          refine st_isub c29_60 ?_
          refine st_aload c29_61 rfl ?_
          refine st_aast c29_63 hT433 (tf hT433 rfl rfl) ay_32 t454 rfl fd_10_0 rfl (by omega) (Ext_rf _) hS hF434 (by decide +kernel) (fun h463 hT464 hF465 hU466 => ?_)
          refine st_aload c29_64 rfl ?_
          refine st_getX (u := 51) c29_65 hT464 (tf hT464 rfl rfl) fd_5_0 rfl ?_
          refine st_iload c29_68 rfl ?_
          refine st_aload c29_69 rfl ?_
          refine st_aast c29_71 hT464 (tf hT464 rfl rfl) ay_32 t446 rfl fd_10_0 rfl (by omega) (Ext_rf _) hS hF465 (by decide +kernel) (fun h467 hT468 hF469 hU470 => ?_)
          refine st_iinc (L' := [some (.ref 50), some (vI p1), some (vI z349), some (vI (z431 + (-1))), some (.ref r443), some (.ref r451)]) c29_72 rfl rfl rfl ?_
          refine st_goto c29_75 ?_
          refine MR_weak (A := [some (.ref 50), some (vI p1), some (vI z349), some (vI (z431 + (-1))), none, none]) (Lle_s (Lle_s (Lle_s (Lle_s (Lle_n (Lle_n (Lle_0))))))) ?_
          exact ih438 (z431 + (-1)) h467 (by omega) (by omega) hT468 hF469 (OUp_Fr (OUp_Fr hL435 hU466 (fun u hu => by rw [ty_1 hu (tf hT468 rfl rfl)]; decide)) hU470 (fun u hu => by rw [ty_1 hu (tf hT468 rfl rfl)]; decide))
      exact lp436 ((((z349 : Int) - 0 : Int) + 1).toNat) z349 h350 (by omega) (by omega) hT351 hF352 (Fr_rf _ _ _)
  exact lp354 ((((5 : Int) - 1 : Int) + 1).toNat) 1 h (by omega) (by omega) hT hF (Fr_rf _ _ _)
set_option maxHeartbeats 0 in
theorem K31 {Ln : Nat} {xs : Nat → Int32} {τ : List Nat} {h : List mE} {E : EP} (hT : TH E τ h) (p1 : Int) (hp1 : (-2147483648) ≤ p1 ∧ p1 ≤ 2147483647) (d : Nat) (hd : 0 ≤ d) (Q : Option Value → List mE → Prop) (hQ : ∀ v h', (∃ z : Int, v = some (vI z) ∧ ((-2147483648) ≤ z ∧ z ≤ 2147483647) ∧ h = h') → Q v h') : MR (mex Ln xs) d 31 0 [some (.ref 50), some (vI p1), none] [] h Q := by
  refine st_iload c31_0 rfl ?_
  refine st_if_lt c31_1 (by omega) (fun k1 => ?_) (fun k2 => ?_)
  refine st_null c31_22 ?_
  refine st_astoreN (L' := [some (.ref 50), some (vI p1), some .null]) c31_23 rfl rfl ?_
  refine st_aloadN c31_24 rfl ?_
  refine st_ifnullN c31_25 ?_
  refine st_iconst c31_35 ?_
  refine st_goto c31_36 ?_
  refine st_ireturn c31_46 ?_
  exact hQ _ _ ⟨(-1), rfl, by omega, rfl⟩
  refine st_iload c31_4 rfl ?_
  refine st_aload c31_5 rfl ?_
  refine st_getX (u := 51) c31_6 hT (tf hT rfl rfl) fd_5_0 rfl ?_
  refine st_alenC (z := 5) c31_9 hT (tf hT rfl rfl) ay_32 rfl rfl rfl ?_
  refine st_icmp_ge c31_10 (by omega) (by omega) (fun k3 => ?_) (fun k4 => ?_)
  refine st_null c31_22 ?_
  refine st_astoreN (L' := [some (.ref 50), some (vI p1), some .null]) c31_23 rfl rfl ?_
  refine st_aloadN c31_24 rfl ?_
  refine st_ifnullN c31_25 ?_
  refine st_iconst c31_35 ?_
  refine st_goto c31_36 ?_
  refine st_ireturn c31_46 ?_
  exact hQ _ _ ⟨(-1), rfl, by omega, rfl⟩
  refine st_aload c31_13 rfl ?_
  refine st_getX (u := 51) c31_14 hT (tf hT rfl rfl) fd_5_0 rfl ?_
  refine st_iload c31_17 rfl ?_
  refine st_aald c31_18 hT (tf hT rfl rfl) ay_32 rfl (u := 10) rfl (by omega) (fun e6 => ?_) (fun r5 e7 t8 => ?_)
  refine st_goto c31_19 ?_
  refine st_astoreN (L' := [some (.ref 50), some (vI p1), some .null]) c31_23 rfl rfl ?_
  refine st_aloadN c31_24 rfl ?_
  refine st_ifnullN c31_25 ?_
  refine st_iconst c31_35 ?_
  refine st_goto c31_36 ?_
  refine st_ireturn c31_46 ?_
  exact hQ _ _ ⟨(-1), rfl, by omega, rfl⟩
  refine st_goto c31_19 ?_
  refine st_astore (L' := [some (.ref 50), some (vI p1), some (.ref r5)]) c31_23 rfl rfl ?_
  refine st_aload c31_24 rfl ?_
  refine st_ifnullR c31_25 ?_
  refine st_aload c31_28 rfl ?_
  refine st_getN c31_29 hT t8 fd_10_9 (u := 12) rfl (fun e10 => ?_) (fun r9 e11 t12 => ?_)
  refine st_ifnonnullN c31_32 ?_
  refine st_iconst c31_35 ?_
  refine st_goto c31_36 ?_
  refine st_ireturn c31_46 ?_
  exact hQ _ _ ⟨(-1), rfl, by omega, rfl⟩
  refine st_ifnonnullR c31_32 ?_
  refine st_aload c31_39 rfl ?_
  refine st_getNr c31_40 hT t8 fd_10_9 e11 ?_
  refine st_getI c31_43 hT t12 fd_12_7 (fun e13 e14 => ?_)
  refine st_ireturn c31_46 ?_
  exact hQ _ _ ⟨fI h r9 7, rfl, by omega, rfl⟩
set_option maxHeartbeats 0 in
theorem K30 {Ln : Nat} {xs : Nat → Int32} {τ : List Nat} {h : List mE} {E : EP} (hT : TH E τ h) (p2 : Int) (hp2 : (-2147483648) ≤ p2 ∧ p2 ≤ 2147483647) (p3 : Int) (hp3 : 0 ≤ p3 ∧ p3 ≤ 5) (d : Nat) (hd : 2 ≤ d) (Q : Option Value → List mE → Prop) (hQ : ∀ v h', (∃ z : Int, v = some (vI z) ∧ ((-2147483648) ≤ z ∧ z ≤ 2147483647) ∧ h = h') → Q v h') : MR (mex Ln xs) d 30 0 [some (.ref 50), some (.ref 6), some (vI p2), some (vI p3), none, none, none, none, none] [] h Q := by
  refine st_iload c30_0 rfl ?_
  refine st_istore (L' := [some (.ref 50), some (.ref 6), some (vI p2), some (vI p3), some (vI p2), none, none, none, none]) c30_1 rfl rfl ?_
  refine st_iconst c30_3 ?_
  refine st_istore (L' := [some (.ref 50), some (.ref 6), some (vI p2), some (vI p3), some (vI p2), some (vI 0), none, none, none]) c30_4 rfl rfl ?_
  refine st_iconst c30_6 ?_
  refine st_istore (L' := [some (.ref 50), some (.ref 6), some (vI p2), some (vI p3), some (vI p2), some (vI 0), some (vI 0), none, none]) c30_7 rfl rfl ?_
  have lp112 : ∀ (n113 : Nat) (z109 : Int) (z110 : Int) (z111 : Int), (6 : Int) - z111 < (n113 : Int) → (-2147483648) ≤ z109 ∧ z109 ≤ 2147483647 → (-2147483648) ≤ z110 ∧ z110 ≤ 2147483647 → 0 ≤ z111 ∧ z111 ≤ 6 → MR (mex Ln xs) d 30 9 [some (.ref 50), some (.ref 6), some (vI p2), some (vI p3), some (vI z109), some (vI z110), some (vI z111), none, none] [] h Q := by
    intro n113
    induction n113 with
    | zero =>
      intro z109 z110 z111 hm115 b116 b117 b118
      exfalso; omega
    | succ n113 ih114 =>
      intro z109 z110 z111 hm115 b116 b117 b118
      refine st_iload c30_9 rfl ?_
      refine st_iload c30_11 rfl ?_
      refine st_icmp_gt c30_12 (by omega) (by omega) (fun k119 => ?_) (fun k120 => ?_)
      refine st_iload c30_72 rfl ?_
      refine st_ireturn c30_74 ?_
      exact hQ _ _ ⟨z110, rfl, by omega, rfl⟩
      refine st_iload c30_15 rfl ?_
      refine st_iload c30_17 rfl ?_
      refine st_icmp_ge c30_18 (by omega) (by omega) (fun k121 => ?_) (fun k122 => ?_)
      refine st_iload c30_35 rfl ?_
      refine st_istore (L' := [some (.ref 50), some (.ref 6), some (vI p2), some (vI p3), some (vI z109), some (vI z110), some (vI z111), some (vI p2), none]) c30_36 rfl rfl ?_
      refine st_aload c30_38 rfl ?_
      refine st_iload c30_39 rfl ?_
      refine st_iload c30_41 rfl ?_
      refine st_callt (as := [vI z109, vI p2]) c30_43 cm_89 hT (tf hT rfl rfl) fd_2_0 rfl rfl rfl rfl (by omega) (K89 hT z109 (by omega) p2 (by omega) (d - 1) (by omega) _ (fun v h0 H => H)) (fun v1 h1 H => ?_)
      obtain ⟨z124, rfl, b125, pf123, rfl⟩ := H
      refine st_istore (L' := [some (.ref 50), some (.ref 6), some (vI p2), some (vI p3), some (vI z109), some (vI z110), some (vI z111), some (vI p2), some (vI z124)]) c30_46 rfl rfl ?_
      refine st_iload c30_48 rfl ?_
      refine st_if_ge c30_50 (by omega) (fun k126 => ?_) (fun k127 => ?_)
      refine st_iload c30_55 rfl ?_
      refine st_iload c30_57 rfl ?_
      refine st_iadd c30_59 ?_
      refine MR_wrap (fun w128 e129 e130 e131 => ?_)
      refine st_istore (L' := [some (.ref 50), some (.ref 6), some (vI p2), some (vI p3), some (vI z109), some (vI w128), some (vI z111), some (vI p2), some (vI z124)]) c30_60 rfl rfl ?_
      refine st_iload c30_62 rfl ?_
      refine st_istore (L' := [some (.ref 50), some (.ref 6), some (vI p2), some (vI p3), some (vI p2), some (vI w128), some (vI z111), some (vI p2), some (vI z124)]) c30_64 rfl rfl ?_
      refine st_iinc (L' := [some (.ref 50), some (.ref 6), some (vI p2), some (vI p3), some (vI p2), some (vI w128), some (vI (z111 + 1)), some (vI p2), some (vI z124)]) c30_66 rfl rfl rfl ?_
      refine st_goto c30_69 ?_
      refine MR_weak (A := [some (.ref 50), some (.ref 6), some (vI p2), some (vI p3), some (vI p2), some (vI w128), some (vI (z111 + 1)), none, none]) (Lle_s (Lle_s (Lle_s (Lle_s (Lle_s (Lle_s (Lle_s (Lle_n (Lle_n (Lle_0)))))))))) ?_
      exact ih114 p2 w128 (z111 + 1) (by omega) (by omega) (by omega) (by omega)
      refine st_iconst c30_53 ?_
      refine st_ireturn c30_54 ?_
      exact hQ _ _ ⟨(-1), rfl, by omega, rfl⟩
      refine st_aload c30_21 rfl ?_
      refine st_aload c30_22 rfl ?_
      refine st_getX (u := 53) c30_23 hT (tf hT rfl rfl) fd_5_4 rfl ?_
      refine st_iload c30_26 rfl ?_
      refine st_iald c30_28 hT (tf hT rfl rfl) ay_34 (by omega) (fun e132 e133 => ?_)
      refine st_callt (as := [vI (aI h 53 z111)]) c30_29 cm_31 hT (tf hT rfl rfl) fd_5_0 rfl rfl rfl rfl (by omega) (K31 hT (aI h 53 z111) (by omega) (d - 1) (by omega) _ (fun v h0 H => H)) (fun v1 h1 H => ?_)
      obtain ⟨z134, rfl, b135, rfl⟩ := H
      refine st_goto c30_32 ?_
      refine st_istore (L' := [some (.ref 50), some (.ref 6), some (vI p2), some (vI p3), some (vI z109), some (vI z110), some (vI z111), some (vI z134), none]) c30_36 rfl rfl ?_
      refine st_aload c30_38 rfl ?_
      refine st_iload c30_39 rfl ?_
      refine st_iload c30_41 rfl ?_
      refine st_callt (as := [vI z109, vI z134]) c30_43 cm_89 hT (tf hT rfl rfl) fd_2_0 rfl rfl rfl rfl (by omega) (K89 hT z109 (by omega) z134 (by omega) (d - 1) (by omega) _ (fun v h0 H => H)) (fun v1 h1 H => ?_)
      obtain ⟨z137, rfl, b138, pf136, rfl⟩ := H
      refine st_istore (L' := [some (.ref 50), some (.ref 6), some (vI p2), some (vI p3), some (vI z109), some (vI z110), some (vI z111), some (vI z134), some (vI z137)]) c30_46 rfl rfl ?_
      refine st_iload c30_48 rfl ?_
      refine st_if_ge c30_50 (by omega) (fun k139 => ?_) (fun k140 => ?_)
      refine st_iload c30_55 rfl ?_
      refine st_iload c30_57 rfl ?_
      refine st_iadd c30_59 ?_
      refine MR_wrap (fun w141 e142 e143 e144 => ?_)
      refine st_istore (L' := [some (.ref 50), some (.ref 6), some (vI p2), some (vI p3), some (vI z109), some (vI w141), some (vI z111), some (vI z134), some (vI z137)]) c30_60 rfl rfl ?_
      refine st_iload c30_62 rfl ?_
      refine st_istore (L' := [some (.ref 50), some (.ref 6), some (vI p2), some (vI p3), some (vI z134), some (vI w141), some (vI z111), some (vI z134), some (vI z137)]) c30_64 rfl rfl ?_
      refine st_iinc (L' := [some (.ref 50), some (.ref 6), some (vI p2), some (vI p3), some (vI z134), some (vI w141), some (vI (z111 + 1)), some (vI z134), some (vI z137)]) c30_66 rfl rfl rfl ?_
      refine st_goto c30_69 ?_
      refine MR_weak (A := [some (.ref 50), some (.ref 6), some (vI p2), some (vI p3), some (vI z134), some (vI w141), some (vI (z111 + 1)), none, none]) (Lle_s (Lle_s (Lle_s (Lle_s (Lle_s (Lle_s (Lle_s (Lle_n (Lle_n (Lle_0)))))))))) ?_
      exact ih114 z134 w141 (z111 + 1) (by omega) (by omega) (by omega) (by omega)
      refine st_iconst c30_53 ?_
      refine st_ireturn c30_54 ?_
      exact hQ _ _ ⟨(-1), rfl, by omega, rfl⟩
  exact lp112 ((((6 : Int) - 0 : Int) + 1).toNat) p2 0 0 (by omega) (by omega) (by omega) (by omega)
def W32 : List (Nat × Nat) := [(5, 3), (33, 0)]
set_option maxHeartbeats 0 in
theorem K32 {Ln : Nat} {xs : Nat → Int32} {τ : List Nat} {h : List mE} {E : EP} (hT : TH E τ h) (hS : Stb E W32) (p1 : Int) (hp1 : 0 ≤ p1 ∧ p1 ≤ 5) (d : Nat) (hd : 0 ≤ d) (Q : Option Value → List mE → Prop) (hQ : ∀ v h', (v = none ∧ TH E τ h' ∧ Fr τ W32 h h') → Q v h') : MR (mex Ln xs) d 32 0 [some (.ref 50), some (vI p1), none] [] h Q := by
  have hF := Fr_rf τ W32 h
  refine st_iconst c32_0 ?_
  refine st_istore (L' := [some (.ref 50), some (vI p1), some (vI 0)]) c32_1 rfl rfl ?_
  have lp72 : ∀ (n73 : Nat) (z67 : Int) (h68 : List mE), (5 : Int) - z67 < (n73 : Int) → 0 ≤ z67 ∧ z67 ≤ 5 → TH E τ h68 → Fr τ W32 h h68 → Fr τ [(33, 0)] h h68 → MR (mex Ln xs) d 32 2 [some (.ref 50), some (vI p1), some (vI z67)] [] h68 Q := by
    intro n73
    induction n73 with
    | zero =>
      intro z67 h68 hm75 b76 hT69 hF70 hL71
      exfalso; omega
    | succ n73 ih74 =>
      intro z67 h68 hm75 b76 hT69 hF70 hL71
      refine st_iload c32_2 rfl ?_
      refine st_iload c32_3 rfl ?_
      refine st_icmp_ge c32_4 (by omega) (by omega) (fun k77 => ?_) (fun k78 => ?_)
      refine st_aload c32_30 rfl ?_
      refine st_iload c32_31 rfl ?_
      refine st_putI c32_32 hT69 (tf hT69 rfl rfl) fd_5_3 (by omega) (by omega) (Ext_rf _) hS hF70 (by decide +kernel) (fun h79 hT80 hF81 hU82 => ?_)
      refine st_return c32_35 ?_
      exact hQ _ _ ⟨rfl, hT80, hF81⟩
      refine st_aload c32_7 rfl ?_
      refine st_getX (u := 52) c32_8 hT69 (tf hT69 rfl rfl) fd_5_2 rfl ?_
      refine st_iload c32_11 rfl ?_
      refine st_aload c32_12 rfl ?_
      refine st_getX (u := 51) c32_13 hT69 (tf hT69 rfl rfl) fd_5_0 rfl ?_
      refine st_aload c32_16 rfl ?_
      refine st_getX (u := 53) c32_17 hT69 (tf hT69 rfl rfl) fd_5_4 rfl ?_
      refine st_iload c32_20 rfl ?_
      refine st_iald c32_21 hT69 (tf hT69 rfl rfl) ay_34 (by omega) (fun e83 e84 => ?_)
      have q85 : aI h68 53 z67 = aI h 53 z67 := Fr_aI hL71 (tf hT rfl rfl) (by decide +kernel) z67
      refine st_aald c32_22 hT69 (tf hT69 rfl rfl) ay_32 rfl (u := 10) rfl (by omega) (fun e87 => ?_) (fun r86 e88 t89 => ?_)
      refine st_aastN c32_23 hT69 (tf hT69 rfl rfl) ay_33 rfl (by omega) (Ext_rf _) hS hF70 (by decide +kernel) (fun h90 hT91 hF92 hU93 => ?_)
      refine st_iinc (L' := [some (.ref 50), some (vI p1), some (vI (z67 + 1))]) c32_24 rfl rfl rfl ?_
      refine st_goto c32_27 ?_
      exact ih74 (z67 + 1) h90 (by omega) (by omega) hT91 hF92 (OUp_Fr hL71 hU93 (fun u hu => by rw [ty_1 hu (tf hT91 rfl rfl)]; decide))
      refine st_aast c32_23 hT69 (tf hT69 rfl rfl) ay_33 t89 rfl fd_10_0 rfl (by omega) (Ext_rf _) hS hF70 (by decide +kernel) (fun h94 hT95 hF96 hU97 => ?_)
      refine st_iinc (L' := [some (.ref 50), some (vI p1), some (vI (z67 + 1))]) c32_24 rfl rfl rfl ?_
      refine st_goto c32_27 ?_
      exact ih74 (z67 + 1) h94 (by omega) (by omega) hT95 hF96 (OUp_Fr hL71 hU97 (fun u hu => by rw [ty_1 hu (tf hT95 rfl rfl)]; decide))
  exact lp72 ((((5 : Int) - 0 : Int) + 1).toNat) 0 h (by omega) (by omega) hT hF (Fr_rf _ _ _)
def W34 : List (Nat × Nat) := [(34, 0)]
set_option maxHeartbeats 0 in
theorem K34 {Ln : Nat} {xs : Nat → Int32} {τ : List Nat} {h : List mE} {E : EP} (hT : TH E τ h) (hS : Stb E W34) (p1 : Int) (hp1 : 0 ≤ p1 ∧ p1 ≤ 4) (p2 : Int) (hp2 : 0 ≤ p2 ∧ p2 ≤ 4) (d : Nat) (hd : 0 ≤ d) (Q : Option Value → List mE → Prop) (hQ : ∀ v h', (v = none ∧ TH E τ h' ∧ Fr τ W34 h h') → Q v h') : MR (mex Ln xs) d 34 0 [some (.ref 50), some (vI p1), some (vI p2), none] [] h Q := by
  have hF := Fr_rf τ W34 h
  refine st_aload c34_0 rfl ?_
  refine st_getX (u := 53) c34_1 hT (tf hT rfl rfl) fd_5_4 rfl ?_
  refine st_iload c34_4 rfl ?_
  refine st_iald c34_5 hT (tf hT rfl rfl) ay_34 (by omega) (fun e1 e2 => ?_)
  refine st_istore (L' := [some (.ref 50), some (vI p1), some (vI p2), some (vI (aI h 53 p1))]) c34_6 rfl rfl ?_
  refine st_aload c34_7 rfl ?_
  refine st_getX (u := 53) c34_8 hT (tf hT rfl rfl) fd_5_4 rfl ?_
  refine st_iload c34_11 rfl ?_
  refine st_aload c34_12 rfl ?_
  refine st_getX (u := 53) c34_13 hT (tf hT rfl rfl) fd_5_4 rfl ?_
  refine st_iload c34_16 rfl ?_
  refine st_iald c34_17 hT (tf hT rfl rfl) ay_34 (by omega) (fun e3 e4 => ?_)
  refine st_iast c34_18 hT (tf hT rfl rfl) ay_34 (by omega) (by omega) (by omega) (Ext_rf _) hS hF (by decide +kernel) (fun h5 hT6 hF7 hU8 => ?_)
  refine st_aload c34_19 rfl ?_
  refine st_getX (u := 53) c34_20 hT6 (tf hT6 rfl rfl) fd_5_4 rfl ?_
  refine st_iload c34_23 rfl ?_
  refine st_iload c34_24 rfl ?_
  refine st_iast c34_25 hT6 (tf hT6 rfl rfl) ay_34 (by omega) (by omega) (by omega) (Ext_rf _) hS hF7 (by decide +kernel) (fun h9 hT10 hF11 hU12 => ?_)
  refine st_return c34_26 ?_
  exact hQ _ _ ⟨rfl, hT10, hF11⟩
def W33 : List (Nat × Nat) := [(34, 0)]
set_option maxHeartbeats 0 in
theorem K33 {Ln : Nat} {xs : Nat → Int32} {τ : List Nat} {h : List mE} {E : EP} (hT : TH E τ h) (hS : Stb E W33) (p1 : Int) (hp1 : 1 ≤ p1 ∧ p1 ≤ 5) (d : Nat) (hd : 1 ≤ d) (Q : Option Value → List mE → Prop) (hQ : ∀ v h', ((v = some (vI 0) ∧ TH E τ h' ∧ Fr τ W33 h h') ∨ (v = some (vI 1) ∧ TH E τ h' ∧ Fr τ W33 h h')) → Q v h') : MR (mex Ln xs) d 33 0 [some (.ref 50), some (vI p1), none, none, none, none] [] h Q := by
  have hF := Fr_rf τ W33 h
  refine st_iload c33_0 rfl ?_
  refine st_iconst c33_1 ?_
  refine st_isub c33_2 ?_
  refine st_istore (L' := [some (.ref 50), some (vI p1), some (vI (p1 - 2)), none, none, none]) c33_3 rfl rfl ?_
  have lp11 : ∀ (n12 : Nat) (z10 : Int), (z10 : Int) - (-1) < (n12 : Int) → (-1) ≤ z10 ∧ z10 ≤ 3 → MR (mex Ln xs) d 33 4 [some (.ref 50), some (vI p1), some (vI z10), none, none, none] [] h Q := by
    intro n12
    induction n12 with
    | zero =>
      intro z10 hm14 b15
      exfalso; omega
    | succ n12 ih13 =>
      intro z10 hm14 b15
      refine st_iload c33_4 rfl ?_
      refine st_if_lt c33_5 (by omega) (fun k16 => ?_) (fun k17 => ?_)
      refine st_iload c33_31 rfl ?_
      refine st_if_ge c33_32 (by omega) (fun k18 => False.elim (by omega)) (fun k19 => ?_)
      refine st_iconst c33_35 ?_
      refine st_zreturn c33_36 (by omega) ?_
      exact hQ _ _ (Or.inl ⟨rfl, hT, hF⟩)
      refine st_aload c33_8 rfl ?_
      refine st_getX (u := 53) c33_9 hT (tf hT rfl rfl) fd_5_4 rfl ?_
      refine st_iload c33_12 rfl ?_
      refine st_iald c33_13 hT (tf hT rfl rfl) ay_34 (by omega) (fun e20 e21 => ?_)
      refine st_aload c33_14 rfl ?_
      refine st_getX (u := 53) c33_15 hT (tf hT rfl rfl) fd_5_4 rfl ?_
      refine st_iload c33_18 rfl ?_
      refine st_iconst c33_19 ?_
      refine st_iadd c33_20 ?_
      refine st_iald c33_21 hT (tf hT rfl rfl) ay_34 (by omega) (fun e22 e23 => ?_)
      refine st_icmp_le c33_22 (by omega) (by omega) (fun k24 => ?_) (fun k25 => ?_)
      refine st_iload c33_31 rfl ?_
      refine st_if_ge c33_32 (by omega) (fun k26 => ?_) (fun k27 => False.elim (by omega))
      refine st_iload c33_37 rfl ?_
      refine st_iconst c33_38 ?_
      refine st_isub c33_39 ?_
      refine st_istore (L' := [some (.ref 50), some (vI p1), some (vI z10), some (vI (p1 - 1)), none, none]) c33_40 rfl rfl ?_
      have lp38 : ∀ (n39 : Nat) (z37 : Int), (z37 : Int) - 0 < (n39 : Int) → 0 ≤ z37 ∧ z37 ≤ 4 → MR (mex Ln xs) d 33 41 [some (.ref 50), some (vI p1), some (vI z10), some (vI z37), none, none] [] h Q := by
        intro n39
        induction n39 with
        | zero =>
          intro z37 hm41 b42
          exfalso; omega
        | succ n39 ih40 =>
          intro z37 hm41 b42
          refine st_iload c33_41 rfl ?_
          refine st_iload c33_42 rfl ?_
          refine st_icmp_le c33_43 (by omega) (by omega) (fun k43 => ?_) (fun k44 => ?_)
          refine st_aload c33_67 rfl ?_
          refine st_iload c33_68 rfl ?_
          refine st_iload c33_69 rfl ?_
          refine st_callt (as := [vI z10, vI z37]) c33_70 cm_34 hT (tf hT rfl rfl) fd_5_0 rfl rfl rfl rfl (by omega) (K34 hT (Stb_mono hS (by decide +kernel)) z10 (by omega) z37 (by omega) (d - 1) (by omega) _ (fun v h0 H => H)) (fun v1 h45 H => ?_)
          obtain ⟨rfl, hT46, hF47⟩ := H
          have hF48 := Fr_cp hF hF47 (by decide +kernel : Wsub W34 W33 = true)
          refine st_iload c33_73 rfl ?_
          refine st_iconst c33_74 ?_
          refine st_iadd c33_75 ?_
          refine st_istore (L' := [some (.ref 50), some (vI p1), some (vI z10), some (vI z37), some (vI (z10 + 1)), none]) c33_76 rfl rfl ?_
          refine st_iload c33_78 rfl ?_
          refine st_iconst c33_79 ?_
          refine st_isub c33_80 ?_
          refine st_istore (L' := [some (.ref 50), some (vI p1), some (vI z10), some (vI z37), some (vI (z10 + 1)), some (vI (p1 - 1))]) c33_81 rfl rfl ?_
          have lp67 : ∀ (n68 : Nat) (z61 : Int) (z62 : Int) (h63 : List mE), (4 : Int) - z61 < (n68 : Int) → 1 ≤ z61 ∧ z61 ≤ 4 → 0 ≤ z62 ∧ z62 ≤ 4 → TH E τ h63 → Fr τ W33 h h63 → Fr τ [(34, 0)] h45 h63 → MR (mex Ln xs) d 33 83 [some (.ref 50), none, none, none, some (vI z61), some (vI z62)] [] h63 Q := by
            intro n68
            induction n68 with
            | zero =>
              intro z61 z62 h63 hm70 b71 b72 hT64 hF65 hL66
              exfalso; omega
            | succ n68 ih69 =>
              intro z61 z62 h63 hm70 b71 b72 hT64 hF65 hL66
              refine st_iload c33_83 rfl ?_
              refine st_iload c33_85 rfl ?_
              refine st_icmp_ge c33_87 (by omega) (by omega) (fun k73 => ?_) (fun k74 => ?_)
              refine st_iconst c33_107 ?_
              refine st_zreturn c33_108 (by omega) ?_
              exact hQ _ _ (Or.inr ⟨rfl, hT64, hF65⟩)
              refine st_aload c33_90 rfl ?_
              refine st_iload c33_91 rfl ?_
              refine st_iload c33_93 rfl ?_
              refine st_callt (as := [vI z61, vI z62]) c33_95 cm_34 hT64 (tf hT64 rfl rfl) fd_5_0 rfl rfl rfl rfl (by omega) (K34 hT64 (Stb_mono hS (by decide +kernel)) z61 (by omega) z62 (by omega) (d - 1) (by omega) _ (fun v h0 H => H)) (fun v1 h75 H => ?_)
              obtain ⟨rfl, hT76, hF77⟩ := H
              have hF78 := Fr_cp hF65 hF77 (by decide +kernel : Wsub W34 W33 = true)
              refine st_iinc (L' := [some (.ref 50), none, none, none, some (vI (z61 + 1)), some (vI z62)]) c33_98 rfl rfl rfl ?_
              refine st_iinc (L' := [some (.ref 50), none, none, none, some (vI (z61 + 1)), some (vI (z62 + (-1)))]) c33_101 rfl rfl rfl ?_
              refine st_goto c33_104 ?_
              exact ih69 (z61 + 1) (z62 + (-1)) h75 (by omega) (by omega) (by omega) hT76 hF78 (Fr_cp hL66 hF77 (by decide +kernel))
          refine MR_weak (A := [some (.ref 50), none, none, none, some (vI (z10 + 1)), some (vI (p1 - 1))]) (Lle_s (Lle_n (Lle_n (Lle_n (Lle_s (Lle_s (Lle_0))))))) ?_
          exact lp67 ((((4 : Int) - (z10 + 1) : Int) + 1).toNat) (z10 + 1) (p1 - 1) h45 (by omega) (by omega) (by omega) hT46 hF48 (Fr_rf _ _ _)
          refine st_aload c33_46 rfl ?_
          refine st_getX (u := 53) c33_47 hT (tf hT rfl rfl) fd_5_4 rfl ?_
          refine st_iload c33_50 rfl ?_
          refine st_iald c33_51 hT (tf hT rfl rfl) ay_34 (by omega) (fun e79 e80 => ?_)
          refine st_aload c33_52 rfl ?_
          refine st_getX (u := 53) c33_53 hT (tf hT rfl rfl) fd_5_4 rfl ?_
          refine st_iload c33_56 rfl ?_
          refine st_iald c33_57 hT (tf hT rfl rfl) ay_34 (by omega) (fun e81 e82 => ?_)
          refine st_icmp_ge c33_58 (by omega) (by omega) (fun k83 => ?_) (fun k84 => ?_)
          refine st_aload c33_67 rfl ?_
          refine st_iload c33_68 rfl ?_
          refine st_iload c33_69 rfl ?_
          refine st_callt (as := [vI z10, vI z37]) c33_70 cm_34 hT (tf hT rfl rfl) fd_5_0 rfl rfl rfl rfl (by omega) (K34 hT (Stb_mono hS (by decide +kernel)) z10 (by omega) z37 (by omega) (d - 1) (by omega) _ (fun v h0 H => H)) (fun v1 h85 H => ?_)
          obtain ⟨rfl, hT86, hF87⟩ := H
          have hF88 := Fr_cp hF hF87 (by decide +kernel : Wsub W34 W33 = true)
          refine st_iload c33_73 rfl ?_
          refine st_iconst c33_74 ?_
          refine st_iadd c33_75 ?_
          refine st_istore (L' := [some (.ref 50), some (vI p1), some (vI z10), some (vI z37), some (vI (z10 + 1)), none]) c33_76 rfl rfl ?_
          refine st_iload c33_78 rfl ?_
          refine st_iconst c33_79 ?_
          refine st_isub c33_80 ?_
          refine st_istore (L' := [some (.ref 50), some (vI p1), some (vI z10), some (vI z37), some (vI (z10 + 1)), some (vI (p1 - 1))]) c33_81 rfl rfl ?_
          have lp107 : ∀ (n108 : Nat) (z101 : Int) (z102 : Int) (h103 : List mE), (4 : Int) - z101 < (n108 : Int) → 1 ≤ z101 ∧ z101 ≤ 4 → 0 ≤ z102 ∧ z102 ≤ 4 → TH E τ h103 → Fr τ W33 h h103 → Fr τ [(34, 0)] h85 h103 → MR (mex Ln xs) d 33 83 [some (.ref 50), none, none, none, some (vI z101), some (vI z102)] [] h103 Q := by
            intro n108
            induction n108 with
            | zero =>
              intro z101 z102 h103 hm110 b111 b112 hT104 hF105 hL106
              exfalso; omega
            | succ n108 ih109 =>
              intro z101 z102 h103 hm110 b111 b112 hT104 hF105 hL106
              refine st_iload c33_83 rfl ?_
              refine st_iload c33_85 rfl ?_
              refine st_icmp_ge c33_87 (by omega) (by omega) (fun k113 => ?_) (fun k114 => ?_)
              refine st_iconst c33_107 ?_
              refine st_zreturn c33_108 (by omega) ?_
              exact hQ _ _ (Or.inr ⟨rfl, hT104, hF105⟩)
              refine st_aload c33_90 rfl ?_
              refine st_iload c33_91 rfl ?_
              refine st_iload c33_93 rfl ?_
              refine st_callt (as := [vI z101, vI z102]) c33_95 cm_34 hT104 (tf hT104 rfl rfl) fd_5_0 rfl rfl rfl rfl (by omega) (K34 hT104 (Stb_mono hS (by decide +kernel)) z101 (by omega) z102 (by omega) (d - 1) (by omega) _ (fun v h0 H => H)) (fun v1 h115 H => ?_)
              obtain ⟨rfl, hT116, hF117⟩ := H
              have hF118 := Fr_cp hF105 hF117 (by decide +kernel : Wsub W34 W33 = true)
              refine st_iinc (L' := [some (.ref 50), none, none, none, some (vI (z101 + 1)), some (vI z102)]) c33_98 rfl rfl rfl ?_
              refine st_iinc (L' := [some (.ref 50), none, none, none, some (vI (z101 + 1)), some (vI (z102 + (-1)))]) c33_101 rfl rfl rfl ?_
              refine st_goto c33_104 ?_
              exact ih109 (z101 + 1) (z102 + (-1)) h115 (by omega) (by omega) (by omega) hT116 hF118 (Fr_cp hL106 hF117 (by decide +kernel))
          refine MR_weak (A := [some (.ref 50), none, none, none, some (vI (z10 + 1)), some (vI (p1 - 1))]) (Lle_s (Lle_n (Lle_n (Lle_n (Lle_s (Lle_s (Lle_0))))))) ?_
          exact lp107 ((((4 : Int) - (z10 + 1) : Int) + 1).toNat) (z10 + 1) (p1 - 1) h85 (by omega) (by omega) (by omega) hT86 hF88 (Fr_rf _ _ _)
          refine st_iinc (L' := [some (.ref 50), some (vI p1), some (vI z10), some (vI (z37 + (-1))), none, none]) c33_61 rfl rfl rfl ?_
          refine st_goto c33_64 ?_
          exact ih40 (z37 + (-1)) (by omega) (by omega)
      exact lp38 (((((p1 - 1) : Int) - 0 : Int) + 1).toNat) (p1 - 1) (by omega) (by omega)
      refine st_iinc (L' := [some (.ref 50), some (vI p1), some (vI (z10 + (-1))), none, none, none]) c33_25 rfl rfl rfl ?_
      refine st_goto c33_28 ?_
      exact ih13 (z10 + (-1)) (by omega) (by omega)
  exact lp11 (((((p1 - 2) : Int) - (-1) : Int) + 1).toNat) (p1 - 2) (by omega) (by omega)
def W25 : List (Nat × Nat) := [(5, 1), (5, 3), (32, 0), (33, 0), (34, 0)]
set_option maxHeartbeats 0 in
theorem K25 {Ln : Nat} {xs : Nat → Int32} {τ : List Nat} {h : List mE} {E : EP} (hT : TH E τ h) (hS : Stb E W25) (d : Nat) (hd : 3 ≤ d) (Q : Option Value → List mE → Prop) (hQ : ∀ v h', (∃ z : Int, v = some (vI z) ∧ ((-4) ≤ z ∧ z ≤ 2147483647) ∧ TH E τ h' ∧ Fr τ W25 h h') → Q v h') : MR (mex Ln xs) d 25 0 [some (.ref 50), some (.ref 6), none, none, none, none, none, none] [] h Q := by
  have hF := Fr_rf τ W25 h
  refine st_aload c25_0 rfl ?_
  refine st_callt (as := []) c25_1 cm_27 hT (tf hT rfl rfl) fd_5_0 rfl rfl rfl rfl (by omega) (K27 hT (Stb_mono hS (by decide +kernel)) (d - 1) (by omega) _ (fun v h0 H => H)) (fun v1 h1 H => ?_)
  obtain ⟨rfl, hT2, hF3⟩ := H
  have hF4 := Fr_cp hF hF3 (by decide +kernel : Wsub W27 W25 = true)
  refine st_aload c25_4 rfl ?_
  refine st_getI c25_5 hT2 (tf hT2 rfl rfl) fd_5_1 (fun e5 e6 => ?_)
  refine st_istore (L' := [some (.ref 50), some (.ref 6), some (vI (fI h1 50 1)), none, none, none, none, none]) c25_8 rfl rfl ?_
  refine st_aload c25_9 rfl ?_
  refine st_iconst c25_10 ?_
  refine st_putI c25_11 hT2 (tf hT2 rfl rfl) fd_5_1 (by omega) (by omega) (Ext_rf _) hS hF4 (by decide +kernel) (fun h7 hT8 hF9 hU10 => ?_)
  refine st_iload c25_14 rfl ?_
  refine st_if_eq c25_15 (by omega) (fun k11 => ?_) (fun k12 => ?_)
  refine st_iconst c25_27 ?_
  refine st_ireturn c25_29 ?_
  exact hQ _ _ ⟨(-2), rfl, by omega, hT8, hF9⟩
  refine st_aload c25_18 rfl ?_
  refine st_getX (u := 51) c25_19 hT8 (tf hT8 rfl rfl) fd_5_0 rfl ?_
  refine st_iconst c25_22 ?_
  refine st_aald c25_23 hT8 (tf hT8 rfl rfl) ay_32 rfl (u := 10) rfl (by omega) (fun e14 => ?_) (fun r13 e15 t16 => ?_)
  refine st_ifnonnullN c25_24 ?_
  refine st_iconst c25_27 ?_
  refine st_ireturn c25_29 ?_
  exact hQ _ _ ⟨(-2), rfl, by omega, hT8, hF9⟩
  refine st_ifnonnullR c25_24 ?_
  refine st_aload c25_30 rfl ?_
  refine st_iload c25_31 rfl ?_
  refine st_callt (as := [vI (fI h1 50 1)]) c25_32 cm_28 hT8 (tf hT8 rfl rfl) fd_5_0 rfl rfl rfl rfl (by omega) (K28 hT8 (fI h1 50 1) (by omega) (d - 1) (by omega) _ (fun v h0 H => H)) (fun v1 h1 H => ?_)
  obtain ⟨z17, rfl, b18, rfl⟩ := H
  refine st_iconst c25_35 ?_
  refine st_icmp_le c25_38 (by omega) (by omega) (fun k19 => ?_) (fun k20 => ?_)
  refine st_aload c25_44 rfl ?_
  refine st_getX (u := 51) c25_45 hT8 (tf hT8 rfl rfl) fd_5_0 rfl ?_
  refine st_iconst c25_48 ?_
  refine st_aaldr c25_49 hT8 (tf hT8 rfl rfl) ay_32 rfl (by omega) e15 ?_
  refine st_getI c25_50 hT8 t16 fd_10_4 (fun e21 e22 => ?_)
  have q23 : fI h7 r13 4 = fI h r13 4 := (FUp_fIne hU10 (fun z => absurd z.2 (by decide))).trans (Fr_fI hF3 t16 (by decide +kernel))
  refine st_istore (L' := [some (.ref 50), some (.ref 6), some (vI (fI h1 50 1)), some (vI (fI h7 r13 4)), none, none, none, none]) c25_53 rfl rfl ?_
  refine st_aload c25_54 rfl ?_
  refine st_iload c25_55 rfl ?_
  refine st_callt (as := [vI (fI h1 50 1)]) c25_56 cm_29 hT8 (tf hT8 rfl rfl) fd_5_0 rfl rfl rfl rfl (by omega) (K29 hT8 (Stb_mono hS (by decide +kernel)) (fI h1 50 1) (by omega) (d - 1) (by omega) _ (fun v h0 H => H)) (fun v1 h24 H => ?_)
  obtain ⟨rfl, hT25, hF26⟩ := H
  have hF27 := Fr_cp hF9 hF26 (by decide +kernel : Wsub W29 W25 = true)
  refine st_iconst c25_59 ?_
  refine st_istore (L' := [some (.ref 50), some (.ref 6), some (vI (fI h1 50 1)), some (vI (fI h7 r13 4)), some (vI (-1)), none, none, none]) c25_60 rfl rfl ?_
  refine st_iconst c25_62 ?_
  refine st_istore (L' := [some (.ref 50), some (.ref 6), some (vI (fI h1 50 1)), some (vI (fI h7 r13 4)), some (vI (-1)), some (vI 0), none, none]) c25_63 rfl rfl ?_
  have lp88 : ∀ (n89 : Nat) (z83 : Int) (h84 : List mE), (5 : Int) - z83 < (n89 : Int) → 0 ≤ z83 ∧ z83 ≤ 5 → TH E τ h84 → Fr τ W25 h h84 → Fr τ [(34, 0)] h24 h84 → MR (mex Ln xs) d 25 65 [some (.ref 50), some (.ref 6), some (vI (fI h1 50 1)), some (vI (fI h7 r13 4)), some (vI (-1)), some (vI z83), none, none] [] h84 Q := by
    intro n89
    induction n89 with
    | zero =>
      intro z83 h84 hm91 b92 hT85 hF86 hL87
      exfalso; omega
    | succ n89 ih90 =>
      intro z83 h84 hm91 b92 hT85 hF86 hL87
      refine st_iload c25_65 rfl ?_
      refine st_iload c25_67 rfl ?_
      refine st_icmp_ge c25_68 (by omega) (by omega) (fun k93 => ?_) (fun k94 => ?_)
      refine st_iconst c25_86 ?_
      refine st_istore (L' := [some (.ref 50), some (.ref 6), some (vI (fI h1 50 1)), some (vI (fI h7 r13 4)), some (vI (-1)), some (vI 1), none, none]) c25_87 rfl rfl ?_
      refine st_iconst c25_89 ?_
      refine st_istore (L' := [some (.ref 50), some (.ref 6), some (vI (fI h1 50 1)), some (vI (fI h7 r13 4)), some (vI (-1)), some (vI 1), some (vI 0), none]) c25_90 rfl rfl ?_
      have lp415 : ∀ (n416 : Nat) (z408 : Int) (z409 : Int) (z410 : Int) (h411 : List mE), (120 : Int) - z410 < (n416 : Int) → (-1) ≤ z408 ∧ z408 ≤ 2147483647 → 0 ≤ z409 ∧ z409 ≤ 1 → 0 ≤ z410 ∧ z410 ≤ 120 → TH E τ h411 → Fr τ W25 h h411 → Fr τ [(5, 3), (33, 0), (34, 0)] h84 h411 → MR (mex Ln xs) d 25 92 [some (.ref 50), some (.ref 6), some (vI (fI h1 50 1)), some (vI (fI h7 r13 4)), some (vI z408), some (vI z409), some (vI z410), none] [] h411 Q := by
        intro n416
        induction n416 with
        | zero =>
          intro z408 z409 z410 h411 hm418 b419 b420 b421 hT412 hF413 hL414
          exfalso; omega
        | succ n416 ih417 =>
          intro z408 z409 z410 h411 hm418 b419 b420 b421 hT412 hF413 hL414
          refine st_iload c25_92 rfl ?_
          refine st_if_eq c25_94 (by omega) (fun k422 => ?_) (fun k423 => ?_)
          refine st_iload c25_152 rfl ?_
          refine st_if_ge c25_154 (by omega) (fun k424 => ?_) (fun k425 => ?_)
          refine st_iload c25_162 rfl ?_
          refine st_ireturn c25_164 ?_
          exact hQ _ _ ⟨z408, rfl, by omega, hT412, hF413⟩
          refine st_iconst c25_157 ?_
          refine st_goto c25_159 ?_
          refine st_ireturn c25_164 ?_
          exact hQ _ _ ⟨(-3), rfl, by omega, hT412, hF413⟩
          refine st_iload c25_97 rfl ?_
          refine st_iconst c25_99 ?_
          refine st_icmp_ge c25_101 (by omega) (by omega) (fun k426 => ?_) (fun k427 => ?_)
          refine st_iload c25_152 rfl ?_
          refine st_if_ge c25_154 (by omega) (fun k428 => ?_) (fun k429 => ?_)
          refine st_iload c25_162 rfl ?_
          refine st_ireturn c25_164 ?_
          exact hQ _ _ ⟨z408, rfl, by omega, hT412, hF413⟩
          refine st_iconst c25_157 ?_
          refine st_goto c25_159 ?_
          refine st_ireturn c25_164 ?_
          exact hQ _ _ ⟨(-3), rfl, by omega, hT412, hF413⟩
          refine st_aload c25_104 rfl ?_
          refine st_aload c25_105 rfl ?_
          refine st_iload c25_106 rfl ?_
          refine st_iload c25_107 rfl ?_
          refine st_callt (as := [.ref 6, vI (fI h7 r13 4), vI (fI h1 50 1)]) c25_108 cm_30 hT412 (tf hT412 rfl rfl) fd_5_0 rfl rfl rfl rfl (by omega) (K30 hT412 (fI h7 r13 4) (by omega) (fI h1 50 1) (by omega) (d - 1) (by omega) _ (fun v h0 H => H)) (fun v1 h1 H => ?_)
          obtain ⟨z430, rfl, b431, rfl⟩ := H
          refine st_istore (L' := [some (.ref 50), some (.ref 6), some (vI (fI h1 50 1)), some (vI (fI h7 r13 4)), some (vI z408), some (vI z409), some (vI z410), some (vI z430)]) c25_111 rfl rfl ?_
          refine st_iload c25_113 rfl ?_
          refine st_if_lt c25_115 (by omega) (fun k432 => ?_) (fun k433 => ?_)
          refine st_aload c25_139 rfl ?_
          refine st_iload c25_140 rfl ?_
          refine st_callt (as := [vI (fI h1 50 1)]) c25_141 cm_33 hT412 (tf hT412 rfl rfl) fd_5_0 rfl rfl rfl rfl (by omega) (K33 hT412 (Stb_mono hS (by decide +kernel)) (fI h1 50 1) (by omega) (d - 1) (by omega) _ (fun v h0 H => H)) (fun v1 h434 H => ?_)
          rcases H with ⟨rfl, hT435, hF436⟩ | ⟨rfl, hT435, hF436⟩
          have hF437 := Fr_cp hF413 hF436 (by decide +kernel : Wsub W33 W25 = true)
          refine st_istore (L' := [some (.ref 50), some (.ref 6), some (vI (fI h1 50 1)), some (vI (fI h7 r13 4)), some (vI z408), some (vI 0), some (vI z410), some (vI z430)]) c25_144 rfl rfl ?_
          refine st_iinc (L' := [some (.ref 50), some (.ref 6), some (vI (fI h1 50 1)), some (vI (fI h7 r13 4)), some (vI z408), some (vI 0), some (vI (z410 + 1)), some (vI z430)]) c25_146 rfl rfl rfl ?_
          refine st_goto c25_149 ?_
          refine MR_weak (A := [some (.ref 50), some (.ref 6), some (vI (fI h1 50 1)), some (vI (fI h7 r13 4)), some (vI z408), some (vI 0), some (vI (z410 + 1)), none]) (Lle_s (Lle_s (Lle_s (Lle_s (Lle_s (Lle_s (Lle_s (Lle_n (Lle_0))))))))) ?_
          exact ih417 z408 0 (z410 + 1) h434 (by omega) (by omega) (by omega) (by omega) hT435 hF437 (Fr_cp hL414 hF436 (by decide +kernel))
          have hF438 := Fr_cp hF413 hF436 (by decide +kernel : Wsub W33 W25 = true)
          refine st_istore (L' := [some (.ref 50), some (.ref 6), some (vI (fI h1 50 1)), some (vI (fI h7 r13 4)), some (vI z408), some (vI 1), some (vI z410), some (vI z430)]) c25_144 rfl rfl ?_
          refine st_iinc (L' := [some (.ref 50), some (.ref 6), some (vI (fI h1 50 1)), some (vI (fI h7 r13 4)), some (vI z408), some (vI 1), some (vI (z410 + 1)), some (vI z430)]) c25_146 rfl rfl rfl ?_
          refine st_goto c25_149 ?_
          refine MR_weak (A := [some (.ref 50), some (.ref 6), some (vI (fI h1 50 1)), some (vI (fI h7 r13 4)), some (vI z408), some (vI 1), some (vI (z410 + 1)), none]) (Lle_s (Lle_s (Lle_s (Lle_s (Lle_s (Lle_s (Lle_s (Lle_n (Lle_0))))))))) ?_
          exact ih417 z408 1 (z410 + 1) h434 (by omega) (by omega) (by omega) (by omega) hT435 hF438 (Fr_cp hL414 hF436 (by decide +kernel))
          refine st_iload c25_118 rfl ?_
          refine st_if_lt c25_120 (by omega) (fun k439 => ?_) (fun k440 => ?_)
          refine st_iload c25_130 rfl ?_
          refine st_istore (L' := [some (.ref 50), some (.ref 6), some (vI (fI h1 50 1)), some (vI (fI h7 r13 4)), some (vI z430), some (vI z409), some (vI z410), some (vI z430)]) c25_132 rfl rfl ?_
          refine st_aload c25_134 rfl ?_
          refine st_iload c25_135 rfl ?_
          refine st_callt (as := [vI (fI h1 50 1)]) c25_136 cm_32 hT412 (tf hT412 rfl rfl) fd_5_0 rfl rfl rfl rfl (by omega) (K32 hT412 (Stb_mono hS (by decide +kernel)) (fI h1 50 1) (by omega) (d - 1) (by omega) _ (fun v h0 H => H)) (fun v1 h441 H => ?_)
          obtain ⟨rfl, hT442, hF443⟩ := H
          have hF444 := Fr_cp hF413 hF443 (by decide +kernel : Wsub W32 W25 = true)
          refine st_aload c25_139 rfl ?_
          refine st_iload c25_140 rfl ?_
          refine st_callt (as := [vI (fI h1 50 1)]) c25_141 cm_33 hT442 (tf hT442 rfl rfl) fd_5_0 rfl rfl rfl rfl (by omega) (K33 hT442 (Stb_mono hS (by decide +kernel)) (fI h1 50 1) (by omega) (d - 1) (by omega) _ (fun v h0 H => H)) (fun v1 h445 H => ?_)
          rcases H with ⟨rfl, hT446, hF447⟩ | ⟨rfl, hT446, hF447⟩
          have hF448 := Fr_cp hF444 hF447 (by decide +kernel : Wsub W33 W25 = true)
          refine st_istore (L' := [some (.ref 50), some (.ref 6), some (vI (fI h1 50 1)), some (vI (fI h7 r13 4)), some (vI z430), some (vI 0), some (vI z410), some (vI z430)]) c25_144 rfl rfl ?_
          refine st_iinc (L' := [some (.ref 50), some (.ref 6), some (vI (fI h1 50 1)), some (vI (fI h7 r13 4)), some (vI z430), some (vI 0), some (vI (z410 + 1)), some (vI z430)]) c25_146 rfl rfl rfl ?_
          refine st_goto c25_149 ?_
          refine MR_weak (A := [some (.ref 50), some (.ref 6), some (vI (fI h1 50 1)), some (vI (fI h7 r13 4)), some (vI z430), some (vI 0), some (vI (z410 + 1)), none]) (Lle_s (Lle_s (Lle_s (Lle_s (Lle_s (Lle_s (Lle_s (Lle_n (Lle_0))))))))) ?_
          exact ih417 z430 0 (z410 + 1) h445 (by omega) (by omega) (by omega) (by omega) hT446 hF448 (Fr_cp (Fr_cp hL414 hF443 (by decide +kernel)) hF447 (by decide +kernel))
          have hF449 := Fr_cp hF444 hF447 (by decide +kernel : Wsub W33 W25 = true)
          refine st_istore (L' := [some (.ref 50), some (.ref 6), some (vI (fI h1 50 1)), some (vI (fI h7 r13 4)), some (vI z430), some (vI 1), some (vI z410), some (vI z430)]) c25_144 rfl rfl ?_
          refine st_iinc (L' := [some (.ref 50), some (.ref 6), some (vI (fI h1 50 1)), some (vI (fI h7 r13 4)), some (vI z430), some (vI 1), some (vI (z410 + 1)), some (vI z430)]) c25_146 rfl rfl rfl ?_
          refine st_goto c25_149 ?_
          refine MR_weak (A := [some (.ref 50), some (.ref 6), some (vI (fI h1 50 1)), some (vI (fI h7 r13 4)), some (vI z430), some (vI 1), some (vI (z410 + 1)), none]) (Lle_s (Lle_s (Lle_s (Lle_s (Lle_s (Lle_s (Lle_s (Lle_n (Lle_0))))))))) ?_
          exact ih417 z430 1 (z410 + 1) h445 (by omega) (by omega) (by omega) (by omega) hT446 hF449 (Fr_cp (Fr_cp hL414 hF443 (by decide +kernel)) hF447 (by decide +kernel))
          refine st_iload c25_123 rfl ?_
          refine st_iload c25_125 rfl ?_
          refine st_icmp_ge c25_127 (by omega) (by omega) (fun k450 => ?_) (fun k451 => ?_)
          refine st_aload c25_139 rfl ?_
          refine st_iload c25_140 rfl ?_
          refine st_callt (as := [vI (fI h1 50 1)]) c25_141 cm_33 hT412 (tf hT412 rfl rfl) fd_5_0 rfl rfl rfl rfl (by omega) (K33 hT412 (Stb_mono hS (by decide +kernel)) (fI h1 50 1) (by omega) (d - 1) (by omega) _ (fun v h0 H => H)) (fun v1 h452 H => ?_)
          rcases H with ⟨rfl, hT453, hF454⟩ | ⟨rfl, hT453, hF454⟩
          have hF455 := Fr_cp hF413 hF454 (by decide +kernel : Wsub W33 W25 = true)
          refine st_istore (L' := [some (.ref 50), some (.ref 6), some (vI (fI h1 50 1)), some (vI (fI h7 r13 4)), some (vI z408), some (vI 0), some (vI z410), some (vI z430)]) c25_144 rfl rfl ?_
          refine st_iinc (L' := [some (.ref 50), some (.ref 6), some (vI (fI h1 50 1)), some (vI (fI h7 r13 4)), some (vI z408), some (vI 0), some (vI (z410 + 1)), some (vI z430)]) c25_146 rfl rfl rfl ?_
          refine st_goto c25_149 ?_
          refine MR_weak (A := [some (.ref 50), some (.ref 6), some (vI (fI h1 50 1)), some (vI (fI h7 r13 4)), some (vI z408), some (vI 0), some (vI (z410 + 1)), none]) (Lle_s (Lle_s (Lle_s (Lle_s (Lle_s (Lle_s (Lle_s (Lle_n (Lle_0))))))))) ?_
          exact ih417 z408 0 (z410 + 1) h452 (by omega) (by omega) (by omega) (by omega) hT453 hF455 (Fr_cp hL414 hF454 (by decide +kernel))
          have hF456 := Fr_cp hF413 hF454 (by decide +kernel : Wsub W33 W25 = true)
          refine st_istore (L' := [some (.ref 50), some (.ref 6), some (vI (fI h1 50 1)), some (vI (fI h7 r13 4)), some (vI z408), some (vI 1), some (vI z410), some (vI z430)]) c25_144 rfl rfl ?_
          refine st_iinc (L' := [some (.ref 50), some (.ref 6), some (vI (fI h1 50 1)), some (vI (fI h7 r13 4)), some (vI z408), some (vI 1), some (vI (z410 + 1)), some (vI z430)]) c25_146 rfl rfl rfl ?_
          refine st_goto c25_149 ?_
          refine MR_weak (A := [some (.ref 50), some (.ref 6), some (vI (fI h1 50 1)), some (vI (fI h7 r13 4)), some (vI z408), some (vI 1), some (vI (z410 + 1)), none]) (Lle_s (Lle_s (Lle_s (Lle_s (Lle_s (Lle_s (Lle_s (Lle_n (Lle_0))))))))) ?_
          exact ih417 z408 1 (z410 + 1) h452 (by omega) (by omega) (by omega) (by omega) hT453 hF456 (Fr_cp hL414 hF454 (by decide +kernel))
          refine st_iload c25_130 rfl ?_
          refine st_istore (L' := [some (.ref 50), some (.ref 6), some (vI (fI h1 50 1)), some (vI (fI h7 r13 4)), some (vI z430), some (vI z409), some (vI z410), some (vI z430)]) c25_132 rfl rfl ?_
          refine st_aload c25_134 rfl ?_
          refine st_iload c25_135 rfl ?_
          refine st_callt (as := [vI (fI h1 50 1)]) c25_136 cm_32 hT412 (tf hT412 rfl rfl) fd_5_0 rfl rfl rfl rfl (by omega) (K32 hT412 (Stb_mono hS (by decide +kernel)) (fI h1 50 1) (by omega) (d - 1) (by omega) _ (fun v h0 H => H)) (fun v1 h457 H => ?_)
          obtain ⟨rfl, hT458, hF459⟩ := H
          have hF460 := Fr_cp hF413 hF459 (by decide +kernel : Wsub W32 W25 = true)
          refine st_aload c25_139 rfl ?_
          refine st_iload c25_140 rfl ?_
          refine st_callt (as := [vI (fI h1 50 1)]) c25_141 cm_33 hT458 (tf hT458 rfl rfl) fd_5_0 rfl rfl rfl rfl (by omega) (K33 hT458 (Stb_mono hS (by decide +kernel)) (fI h1 50 1) (by omega) (d - 1) (by omega) _ (fun v h0 H => H)) (fun v1 h461 H => ?_)
          rcases H with ⟨rfl, hT462, hF463⟩ | ⟨rfl, hT462, hF463⟩
          have hF464 := Fr_cp hF460 hF463 (by decide +kernel : Wsub W33 W25 = true)
          refine st_istore (L' := [some (.ref 50), some (.ref 6), some (vI (fI h1 50 1)), some (vI (fI h7 r13 4)), some (vI z430), some (vI 0), some (vI z410), some (vI z430)]) c25_144 rfl rfl ?_
          refine st_iinc (L' := [some (.ref 50), some (.ref 6), some (vI (fI h1 50 1)), some (vI (fI h7 r13 4)), some (vI z430), some (vI 0), some (vI (z410 + 1)), some (vI z430)]) c25_146 rfl rfl rfl ?_
          refine st_goto c25_149 ?_
          refine MR_weak (A := [some (.ref 50), some (.ref 6), some (vI (fI h1 50 1)), some (vI (fI h7 r13 4)), some (vI z430), some (vI 0), some (vI (z410 + 1)), none]) (Lle_s (Lle_s (Lle_s (Lle_s (Lle_s (Lle_s (Lle_s (Lle_n (Lle_0))))))))) ?_
          exact ih417 z430 0 (z410 + 1) h461 (by omega) (by omega) (by omega) (by omega) hT462 hF464 (Fr_cp (Fr_cp hL414 hF459 (by decide +kernel)) hF463 (by decide +kernel))
          have hF465 := Fr_cp hF460 hF463 (by decide +kernel : Wsub W33 W25 = true)
          refine st_istore (L' := [some (.ref 50), some (.ref 6), some (vI (fI h1 50 1)), some (vI (fI h7 r13 4)), some (vI z430), some (vI 1), some (vI z410), some (vI z430)]) c25_144 rfl rfl ?_
          refine st_iinc (L' := [some (.ref 50), some (.ref 6), some (vI (fI h1 50 1)), some (vI (fI h7 r13 4)), some (vI z430), some (vI 1), some (vI (z410 + 1)), some (vI z430)]) c25_146 rfl rfl rfl ?_
          refine st_goto c25_149 ?_
          refine MR_weak (A := [some (.ref 50), some (.ref 6), some (vI (fI h1 50 1)), some (vI (fI h7 r13 4)), some (vI z430), some (vI 1), some (vI (z410 + 1)), none]) (Lle_s (Lle_s (Lle_s (Lle_s (Lle_s (Lle_s (Lle_s (Lle_n (Lle_0))))))))) ?_
          exact ih417 z430 1 (z410 + 1) h461 (by omega) (by omega) (by omega) (by omega) hT462 hF465 (Fr_cp (Fr_cp hL414 hF459 (by decide +kernel)) hF463 (by decide +kernel))
      exact lp415 ((((120 : Int) - 0 : Int) + 1).toNat) (-1) 1 0 h84 (by omega) (by omega) (by omega) (by omega) hT85 hF86 (Fr_rf _ _ _)
      refine st_aload c25_71 rfl ?_
      refine st_getX (u := 53) c25_72 hT85 (tf hT85 rfl rfl) fd_5_4 rfl ?_
      refine st_iload c25_75 rfl ?_
      refine st_iload c25_77 rfl ?_
      refine st_iast c25_79 hT85 (tf hT85 rfl rfl) ay_34 (by omega) (by omega) (by omega) (Ext_rf _) hS hF86 (by decide +kernel) (fun h466 hT467 hF468 hU469 => ?_)
      refine st_iinc (L' := [some (.ref 50), some (.ref 6), some (vI (fI h1 50 1)), some (vI (fI h7 r13 4)), some (vI (-1)), some (vI (z83 + 1)), none, none]) c25_80 rfl rfl rfl ?_
      refine st_goto c25_83 ?_
      exact ih90 (z83 + 1) h466 (by omega) (by omega) hT467 hF468 (AUp_Fr hL87 hU469 (fun u hu => by rw [ty_1 hu (tf hT467 rfl rfl)]; decide))
  exact lp88 ((((5 : Int) - 0 : Int) + 1).toNat) 0 h24 (by omega) (by omega) hT25 hF27 (Fr_rf _ _ _)
  refine st_iconst c25_41 ?_
  refine st_ireturn c25_43 ?_
  exact hQ _ _ ⟨(-4), rfl, by omega, hT8, hF9⟩
set_option maxHeartbeats 0 in
theorem K92 {Ln : Nat} {xs : Nat → Int32} {τ : List Nat} {h : List mE} {E : EP} (hT : TH E τ h) (d : Nat) (hd : 0 ≤ d) (Q : Option Value → List mE → Prop) (hQ : ∀ v h', ((v = some (vI 0) ∧ (181 ≤ fI h 54 1) ∧ h = h') ∨ (v = some (vI 1) ∧ (fI h 54 1≤180) ∧ h = h')) → Q v h') : MR (mex Ln xs) d 92 0 [some (.ref 54)] [] h Q := by
  refine st_aload c92_0 rfl ?_
  refine st_getI c92_1 hT (tf hT rfl rfl) fd_6_1 (fun e1 e2 => ?_)
  refine st_iconst c92_4 ?_
  refine st_iadd c92_6 ?_
  refine st_iconst c92_7 ?_
  refine st_icmp_gt c92_10 (by omega) (by omega) (fun k3 => ?_) (fun k4 => ?_)
  refine st_iconst c92_17 ?_
  refine st_zreturn c92_18 (by omega) ?_
  exact hQ _ _ (Or.inl ⟨rfl, by omega, rfl⟩)
  refine st_iconst c92_13 ?_
  refine st_goto c92_14 ?_
  refine st_zreturn c92_18 (by omega) ?_
  exact hQ _ _ (Or.inr ⟨rfl, by omega, rfl⟩)
def W93 : List (Nat × Nat) := [(6, 1), (35, 0)]
set_option maxHeartbeats 0 in
theorem K93 {Ln : Nat} {xs : Nat → Int32} {τ : List Nat} {h : List mE} {E : EP} (hT : TH E τ h) (hS : Stb E W93) (p1 : Int) (hp1 : (-2147483648) ≤ p1 ∧ p1 ≤ 2147483647) (d : Nat) (hd : 0 ≤ d) (Q : Option Value → List mE → Prop) (hQ : ∀ v h', (v = none ∧ (PApp h h' p1) ∧ TH E τ h' ∧ Fr τ W93 h h') → Q v h') : MR (mex Ln xs) d 93 0 [some (.ref 54), some (vI p1), none] [] h Q := by
  have hF := Fr_rf τ W93 h
  have e0 := fI_bd (q := 54) hT (tf hT rfl rfl) fd_6_1
  refine st_iconst c93_0 ?_
  refine st_istore (L' := [some (.ref 54), some (vI p1), some (vI 24)]) c93_2 rfl rfl ?_
  have lp131 : ∀ (n132 : Nat) (z126 : Int) (h127 : List mE), (z126 : Int) - (-8) < (n132 : Int) → (-8) ≤ z126 ∧ z126 ≤ 24 → AIn h h127 p1 → 8 * (fI h127 54 1 - fI h 54 1) = 24 - z126 → TH E τ h127 → Fr τ W93 h h127 → Fr τ [(6, 1), (35, 0)] h h127 → MR (mex Ln xs) d 93 3 [some (.ref 54), some (vI p1), some (vI z126)] [] h127 Q := by
    intro n132
    induction n132 with
    | zero =>
      intro z126 h127 hm134 b135 x136 x137 hT128 hF129 hL130
      exfalso; omega
    | succ n132 ih133 =>
      intro z126 h127 hm134 b135 x136 x137 hT128 hF129 hL130
      have e138 := fI_bd (q := 54) hT128 (tf hT128 rfl rfl) fd_6_1
      refine st_iload c93_3 rfl ?_
      refine st_if_lt c93_4 (by omega) (fun k139 => ?_) (fun k140 => ?_)
      refine st_return c93_49 ?_
      exact hQ _ _ ⟨rfl, PApp_of x136 (fun _ => by omega), hT128, hF129⟩
      refine st_aload c93_7 rfl ?_
      refine st_getI c93_8 hT128 (tf hT128 rfl rfl) fd_6_1 (fun e141 e142 => ?_)
      refine st_iconst c93_11 ?_
      refine st_icmp_ge c93_14 (by omega) (by omega) (fun k143 => ?_) (fun k144 => ?_)
      refine st_return c93_49 ?_
      exact hQ _ _ ⟨rfl, PApp_of x136 (fun _ => by omega), hT128, hF129⟩
      refine st_aload c93_17 rfl ?_
      refine st_getX (u := 55) c93_18 hT128 (tf hT128 rfl rfl) fd_6_0 rfl ?_
      refine st_aload c93_21 rfl ?_
      refine st_getI c93_22 hT128 (tf hT128 rfl rfl) fd_6_1 (fun e145 e146 => ?_)
      refine st_iload c93_25 rfl ?_
      refine st_iload c93_26 rfl ?_
      refine st_iushrx c93_27 ?_
      refine st_iconst c93_28 ?_
      refine st_iandx c93_31 ?_
      have e147 := AND_bd (USH p1 z126)
      refine st_iast c93_32 hT128 (tf hT128 rfl rfl) ay_35 (by omega) (by omega) (by omega) (Ext_rf _) hS hF129 (by decide +kernel) (fun h148 hT149 hF150 hU151 => ?_)
      refine st_aload c93_33 rfl ?_
      refine st_dup c93_34 rfl ?_
      refine st_getI c93_35 hT149 (tf hT149 rfl rfl) fd_6_1 (fun e152 e153 => ?_)
      have q154 : fI h148 54 1 = fI h127 54 1 := AUp_fI hU151
      refine st_iconst c93_38 ?_
      refine st_iadd c93_39 ?_
      refine st_putI c93_40 hT149 (tf hT149 rfl rfl) fd_6_1 (by omega) (by omega) (Ext_rf _) hS hF150 (by decide +kernel) (fun h155 hT156 hF157 hU158 => ?_)
      refine st_iinc (L' := [some (.ref 54), some (vI p1), some (vI (z126 + (-8)))]) c93_43 rfl rfl rfl ?_
      refine st_goto c93_46 ?_
      have e159 := fI_bd (q := 54) hT156 (tf hT156 rfl rfl) fd_6_1
      have q160 : fI h155 54 1 = (fI h148 54 1) + 1 := FUp_fI hU158 (by omega) (by omega)
      have bq161 := bt_1 (v := p1) (k := z126 / 8) (by omega) (by omega)
      rw [show 8 * (z126 / 8) = z126 from by omega] at bq161
      have bq162 : z126 / 8 = 3 - (fI h127 54 1 - fI h 54 1) := by omega
      rw [bq162] at bq161
      exact ih133 (z126 + (-8)) h155 (by omega) (by omega) (AIn_s x136 hU151 (by omega) hU158 (by omega) bq161 (by omega) (by omega)) (by omega) hT156 hF157 (FUp_Fr (AUp_Fr hL130 hU151 (fun u hu => by rw [ty_1 hu (tf hT156 rfl rfl)]; decide)) hU158 (fun u hu => by rw [ty_1 hu (tf hT156 rfl rfl)]; decide))
  have e163 := fI_bd (q := 54) hT (tf hT rfl rfl) fd_6_1
  exact lp131 ((((24 : Int) - (-8) : Int) + 1).toNat) 24 h (by omega) (by omega) AIn_0 (by omega) hT hF (Fr_rf _ _ _)
set_option maxHeartbeats 0 in
theorem K97 {Ln : Nat} {xs : Nat → Int32} {τ : List Nat} {h : List mE} {E : EP} (hT : TH E τ h) (p1 : Int) (hp1 : (-2147483648) ≤ p1 ∧ p1 ≤ 2147483647) (d : Nat) (hd : 0 ≤ d) (Q : Option Value → List mE → Prop) (hQ : ∀ v h', ((v = some (vI 0) ∧ (p1 < 0 ∨ fI h 54 1 ≤ p1 ∨ aI h 55 p1 < 97 ∨ 122 < aI h 55 p1) ∧ h = h') ∨ (v = some (vI 1) ∧ (0≤p1) ∧ (p1<fI h 54 1) ∧ (p1≤199) ∧ (97 ≤ aI h 55 p1 ∧ aI h 55 p1 ≤ 122) ∧ h = h')) → Q v h') : MR (mex Ln xs) d 97 0 [some (.ref 54), some (vI p1)] [] h Q := by
  refine st_iload c97_0 rfl ?_
  refine st_if_lt c97_1 (by omega) (fun k1 => ?_) (fun k2 => ?_)
  refine st_iconst c97_45 ?_
  refine st_zreturn c97_46 (by omega) ?_
  exact hQ _ _ (Or.inl ⟨rfl, by omega, rfl⟩)
  refine st_iload c97_4 rfl ?_
  refine st_aload c97_5 rfl ?_
  refine st_getI c97_6 hT (tf hT rfl rfl) fd_6_1 (fun e3 e4 => ?_)
  refine st_icmp_ge c97_9 (by omega) (by omega) (fun k5 => ?_) (fun k6 => ?_)
  refine st_iconst c97_45 ?_
  refine st_zreturn c97_46 (by omega) ?_
  exact hQ _ _ (Or.inl ⟨rfl, by omega, rfl⟩)
  refine st_iload c97_12 rfl ?_
  refine st_iconst c97_13 ?_
  refine st_icmp_ge c97_16 (by omega) (by omega) (fun k7 => False.elim (by omega)) (fun k8 => ?_)
  refine st_aload c97_19 rfl ?_
  refine st_getX (u := 55) c97_20 hT (tf hT rfl rfl) fd_6_0 rfl ?_
  refine st_iload c97_23 rfl ?_
  refine st_iald c97_24 hT (tf hT rfl rfl) ay_35 (by omega) (fun e9 e10 => ?_)
  refine st_iconst c97_25 ?_
  refine st_icmp_lt c97_27 (by omega) (by omega) (fun k11 => ?_) (fun k12 => ?_)
  refine st_iconst c97_45 ?_
  refine st_zreturn c97_46 (by omega) ?_
  exact hQ _ _ (Or.inl ⟨rfl, by omega, rfl⟩)
  refine st_aload c97_30 rfl ?_
  refine st_getX (u := 55) c97_31 hT (tf hT rfl rfl) fd_6_0 rfl ?_
  refine st_iload c97_34 rfl ?_
  refine st_iald c97_35 hT (tf hT rfl rfl) ay_35 (by omega) (fun e13 e14 => ?_)
  refine st_iconst c97_36 ?_
  refine st_icmp_gt c97_38 (by omega) (by omega) (fun k15 => ?_) (fun k16 => ?_)
  refine st_iconst c97_45 ?_
  refine st_zreturn c97_46 (by omega) ?_
  exact hQ _ _ (Or.inl ⟨rfl, by omega, rfl⟩)
  refine st_iconst c97_41 ?_
  refine st_goto c97_42 ?_
  refine st_zreturn c97_46 (by omega) ?_
  exact hQ _ _ (Or.inr ⟨rfl, by omega, by omega, by omega, by omega, rfl⟩)
set_option maxHeartbeats 0 in
theorem K98 {Ln : Nat} {xs : Nat → Int32} {τ : List Nat} {h : List mE} {E : EP} (hT : TH E τ h) (p1 : Int) (hp1 : (-2147483648) ≤ p1 ∧ p1 ≤ 2147483647) (d : Nat) (hd : 0 ≤ d) (Q : Option Value → List mE → Prop) (hQ : ∀ v h', ((v = some (vI 0) ∧ (p1 < 0 ∨ fI h 54 1 ≤ p1 ∨ aI h 55 p1 < 48 ∨ 57 < aI h 55 p1) ∧ h = h') ∨ (v = some (vI 1) ∧ (0≤p1) ∧ (p1<fI h 54 1) ∧ (p1≤199) ∧ (48 ≤ aI h 55 p1 ∧ aI h 55 p1 ≤ 57) ∧ h = h')) → Q v h') : MR (mex Ln xs) d 98 0 [some (.ref 54), some (vI p1)] [] h Q := by
  refine st_iload c98_0 rfl ?_
  refine st_if_lt c98_1 (by omega) (fun k1 => ?_) (fun k2 => ?_)
  refine st_iconst c98_45 ?_
  refine st_zreturn c98_46 (by omega) ?_
  exact hQ _ _ (Or.inl ⟨rfl, by omega, rfl⟩)
  refine st_iload c98_4 rfl ?_
  refine st_aload c98_5 rfl ?_
  refine st_getI c98_6 hT (tf hT rfl rfl) fd_6_1 (fun e3 e4 => ?_)
  refine st_icmp_ge c98_9 (by omega) (by omega) (fun k5 => ?_) (fun k6 => ?_)
  refine st_iconst c98_45 ?_
  refine st_zreturn c98_46 (by omega) ?_
  exact hQ _ _ (Or.inl ⟨rfl, by omega, rfl⟩)
  refine st_iload c98_12 rfl ?_
  refine st_iconst c98_13 ?_
  refine st_icmp_ge c98_16 (by omega) (by omega) (fun k7 => False.elim (by omega)) (fun k8 => ?_)
  refine st_aload c98_19 rfl ?_
  refine st_getX (u := 55) c98_20 hT (tf hT rfl rfl) fd_6_0 rfl ?_
  refine st_iload c98_23 rfl ?_
  refine st_iald c98_24 hT (tf hT rfl rfl) ay_35 (by omega) (fun e9 e10 => ?_)
  refine st_iconst c98_25 ?_
  refine st_icmp_lt c98_27 (by omega) (by omega) (fun k11 => ?_) (fun k12 => ?_)
  refine st_iconst c98_45 ?_
  refine st_zreturn c98_46 (by omega) ?_
  exact hQ _ _ (Or.inl ⟨rfl, by omega, rfl⟩)
  refine st_aload c98_30 rfl ?_
  refine st_getX (u := 55) c98_31 hT (tf hT rfl rfl) fd_6_0 rfl ?_
  refine st_iload c98_34 rfl ?_
  refine st_iald c98_35 hT (tf hT rfl rfl) ay_35 (by omega) (fun e13 e14 => ?_)
  refine st_iconst c98_36 ?_
  refine st_icmp_gt c98_38 (by omega) (by omega) (fun k15 => ?_) (fun k16 => ?_)
  refine st_iconst c98_45 ?_
  refine st_zreturn c98_46 (by omega) ?_
  exact hQ _ _ (Or.inl ⟨rfl, by omega, rfl⟩)
  refine st_iconst c98_41 ?_
  refine st_goto c98_42 ?_
  refine st_zreturn c98_46 (by omega) ?_
  exact hQ _ _ (Or.inr ⟨rfl, by omega, by omega, by omega, by omega, rfl⟩)
def W99 : List (Nat × Nat) := [(6, 5), (36, 0), (37, 0), (38, 0)]
set_option maxHeartbeats 0 in
theorem K99 {Ln : Nat} {xs : Nat → Int32} {τ : List Nat} {h : List mE} {E : EP} (hT : TH E τ h) (hS : Stb E W99) (p1 : Int) (hp1 : (-2147483648) ≤ p1 ∧ p1 ≤ 2147483647) (p2 : Int) (hp2 : (-2147483648) ≤ p2 ∧ p2 ≤ 2147483647) (p3 : Int) (hp3 : (-2147483648) ≤ p3 ∧ p3 ≤ 2147483647) (d : Nat) (hd : 0 ≤ d) (Q : Option Value → List mE → Prop) (hQ : ∀ v h', (v = none ∧ ((201 ≤ fI h 54 5 ∧ fI h' 54 5 = fI h 54 5) ∨ (fI h 54 5 ≤ 200 ∧ fI h' 54 5 = fI h 54 5 + 1)) ∧ (PAT h h' p1 p3) ∧ TH E τ h' ∧ Fr τ W99 h h') → Q v h') : MR (mex Ln xs) d 99 0 [some (.ref 54), some (vI p1), some (vI p2), some (vI p3)] [] h Q := by
  have hF := Fr_rf τ W99 h
  refine st_aload c99_0 rfl ?_
  refine st_getI c99_1 hT (tf hT rfl rfl) fd_6_5 (fun e1 e2 => ?_)
  refine st_aload c99_4 rfl ?_
  refine st_getX (u := 56) c99_5 hT (tf hT rfl rfl) fd_6_2 rfl ?_
  refine st_alenC (z := 201) c99_8 hT (tf hT rfl rfl) ay_36 rfl rfl rfl ?_
  refine st_icmp_ge c99_9 (by omega) (by omega) (fun k3 => ?_) (fun k4 => ?_)
  refine st_return c99_52 ?_
  exact hQ _ _ ⟨rfl, by omega, fun _ => by omega, hT, hF⟩
  refine st_aload c99_12 rfl ?_
  refine st_getX (u := 56) c99_13 hT (tf hT rfl rfl) fd_6_2 rfl ?_
  refine st_aload c99_16 rfl ?_
  refine st_getI c99_17 hT (tf hT rfl rfl) fd_6_5 (fun e5 e6 => ?_)
  refine st_iload c99_20 rfl ?_
  refine st_iast c99_21 hT (tf hT rfl rfl) ay_36 (by omega) (by omega) (by omega) (Ext_rf _) hS hF (by decide +kernel) (fun h7 hT8 hF9 hU10 => ?_)
  refine st_aload c99_22 rfl ?_
  refine st_getX (u := 57) c99_23 hT8 (tf hT8 rfl rfl) fd_6_3 rfl ?_
  refine st_aload c99_26 rfl ?_
  refine st_getI c99_27 hT8 (tf hT8 rfl rfl) fd_6_5 (fun e11 e12 => ?_)
  have q13 : fI h7 54 5 = fI h 54 5 := AUp_fI hU10
  refine st_iload c99_30 rfl ?_
  refine st_iast c99_31 hT8 (tf hT8 rfl rfl) ay_37 (by omega) (by omega) (by omega) (Ext_rf _) hS hF9 (by decide +kernel) (fun h14 hT15 hF16 hU17 => ?_)
  refine st_aload c99_32 rfl ?_
  refine st_getX (u := 58) c99_33 hT15 (tf hT15 rfl rfl) fd_6_4 rfl ?_
  refine st_aload c99_36 rfl ?_
  refine st_getI c99_37 hT15 (tf hT15 rfl rfl) fd_6_5 (fun e18 e19 => ?_)
  have q20 : fI h14 54 5 = fI h7 54 5 := AUp_fI hU17
  refine st_iload c99_40 rfl ?_
  refine st_iast c99_41 hT15 (tf hT15 rfl rfl) ay_38 (by omega) (by omega) (by omega) (Ext_rf _) hS hF16 (by decide +kernel) (fun h21 hT22 hF23 hU24 => ?_)
  refine st_aload c99_42 rfl ?_
  refine st_dup c99_43 rfl ?_
  refine st_getI c99_44 hT22 (tf hT22 rfl rfl) fd_6_5 (fun e25 e26 => ?_)
  have q27 : fI h21 54 5 = fI h14 54 5 := AUp_fI hU24
  refine st_iconst c99_47 ?_
  refine st_iadd c99_48 ?_
  refine st_putI c99_49 hT22 (tf hT22 rfl rfl) fd_6_5 (by omega) (by omega) (Ext_rf _) hS hF23 (by decide +kernel) (fun h28 hT29 hF30 hU31 => ?_)
  refine st_return c99_52 ?_
  have e32 := fI_bd (q := 54) hT29 (tf hT29 rfl rfl) fd_6_5
  have q33 : fI h28 54 5 = (fI h21 54 5) + 1 := FUp_fI hU31 (by omega) (by omega)
  have st34 : Set1 56 h h28 (fI h 54 5) p1 := fun i a => by
    rw [(FUp_aI hU31 i : aI h28 56 i = aI h21 56 i)]
    rw [(AUp_aIne hU24 (by decide) i : aI h21 56 i = aI h14 56 i)]
    rw [(AUp_aIne hU17 (by decide) i : aI h14 56 i = aI h7 56 i)]
    rw [AUp_aI (j := i) hU10 (by omega) (by omega) (by omega) a]
    all_goals exact if_cg (by omega) (by omega)
  have st35 : Set1 58 h h28 (fI h 54 5) p3 := fun i a => by
    rw [(FUp_aI hU31 i : aI h28 58 i = aI h21 58 i)]
    rw [AUp_aI (j := i) hU24 (by omega) (by omega) (by omega) a]
    rw [(AUp_aIne hU17 (by decide) i : aI h14 58 i = aI h7 58 i)]
    rw [(AUp_aIne hU10 (by decide) i : aI h7 58 i = aI h 58 i)]
    all_goals exact if_cg (by omega) (by omega)
  exact hQ _ _ ⟨rfl, by omega, fun _ => ⟨by omega, st34, st35⟩, hT29, hF30⟩
set_option maxHeartbeats 0 in
theorem K100 {Ln : Nat} {xs : Nat → Int32} {τ : List Nat} {h : List mE} {E : EP} (hT : TH E τ h) (p1 : Int) (hp1 : (-2147483648) ≤ p1 ∧ p1 ≤ 2147483647) (p2 : Int) (hp2 : (-2147483648) ≤ p2 ∧ p2 ≤ 2147483647) (d : Nat) (hd : 1 ≤ d) (Q : Option Value → List mE → Prop) (hQ : ∀ v h', (∃ z : Int, v = some (vI z) ∧ ((-2147483648) ≤ z ∧ z ≤ 2147483647) ∧ h = h') → Q v h') : MR (mex Ln xs) d 100 0 [some (.ref 54), some (vI p1), some (vI p2), none, none] [] h Q := by
  refine st_iconst c100_0 ?_
  refine st_istore (L' := [some (.ref 54), some (vI p1), some (vI p2), some (vI 0), none]) c100_1 rfl rfl ?_
  refine st_iload c100_2 rfl ?_
  refine st_istore (L' := [some (.ref 54), some (vI p1), some (vI p2), some (vI 0), some (vI p1)]) c100_3 rfl rfl ?_
  have lp63 : ∀ (n64 : Nat) (z61 : Int) (z62 : Int), (2147483647 : Int) - z62 < (n64 : Int) → (-2147483648) ≤ z61 ∧ z61 ≤ 2147483647 → (-2147483648) ≤ z62 ∧ z62 ≤ 2147483647 → MR (mex Ln xs) d 100 5 [some (.ref 54), none, some (vI p2), some (vI z61), some (vI z62)] [] h Q := by
    intro n64
    induction n64 with
    | zero =>
      intro z61 z62 hm66 b67 b68
      exfalso; omega
    | succ n64 ih65 =>
      intro z61 z62 hm66 b67 b68
      refine st_iload c100_5 rfl ?_
      refine st_iload c100_7 rfl ?_
      refine st_icmp_ge c100_8 (by omega) (by omega) (fun k69 => ?_) (fun k70 => ?_)
      refine st_iload c100_42 rfl ?_
      refine st_ireturn c100_43 ?_
      exact hQ _ _ ⟨z61, rfl, by omega, rfl⟩
      refine st_aload c100_11 rfl ?_
      refine st_iload c100_12 rfl ?_
      have e71 := fI_bd (q := 54) hT (tf hT rfl rfl) fd_6_1
      refine st_callt (as := [vI z62]) c100_14 cm_98 hT (tf hT rfl rfl) fd_6_0 rfl rfl rfl rfl (by omega) (K98 hT z62 (by omega) (d - 1) (by omega) _ (fun v h0 H => H)) (fun v1 h1 H => ?_)
      rcases H with ⟨rfl, pf72, rfl⟩ | ⟨rfl, pf73, pf74, pf75, pf76, rfl⟩
      refine st_if_eq c100_17 (by omega) (fun k77 => ?_) (fun k78 => False.elim (by omega))
      refine st_iload c100_42 rfl ?_
      refine st_ireturn c100_43 ?_
      exact hQ _ _ ⟨z61, rfl, by omega, rfl⟩
      refine st_if_eq c100_17 (by omega) (fun k79 => False.elim (by omega)) (fun k80 => ?_)
      refine st_iconst c100_20 ?_
      refine st_iload c100_22 rfl ?_
      refine st_imul c100_23 ?_
      refine MR_wrap (fun w81 e82 e83 e84 => ?_)
      refine st_aload c100_24 rfl ?_
      refine st_getX (u := 55) c100_25 hT (tf hT rfl rfl) fd_6_0 rfl ?_
      refine st_iload c100_28 rfl ?_
      refine st_iald c100_30 hT (tf hT rfl rfl) ay_35 (by omega) (fun e85 e86 => ?_)
      refine st_iadd c100_31 ?_
      refine MR_wrap (fun w87 e88 e89 e90 => ?_)
      refine st_iconst c100_32 ?_
      refine st_isub c100_34 ?_
      refine MR_wrap (fun w91 e92 e93 e94 => ?_)
      refine st_istore (L' := [some (.ref 54), none, some (vI p2), some (vI w91), some (vI z62)]) c100_35 rfl rfl ?_
      refine st_iinc (L' := [some (.ref 54), none, some (vI p2), some (vI w91), some (vI (z62 + 1))]) c100_36 rfl rfl rfl ?_
      refine st_goto c100_39 ?_
      exact ih65 w91 (z62 + 1) (by omega) (by omega) (by omega)
  refine MR_weak (A := [some (.ref 54), none, some (vI p2), some (vI 0), some (vI p1)]) (Lle_s (Lle_n (Lle_s (Lle_s (Lle_s (Lle_0)))))) ?_
  exact lp63 ((((2147483647 : Int) - p1 : Int) + 1).toNat) 0 p1 (by omega) (by omega) (by omega)
set_option maxHeartbeats 0 in
theorem K101 {Ln : Nat} {xs : Nat → Int32} {τ : List Nat} {h : List mE} {E : EP} (hT : TH E τ h) (p1 : Int) (hp1 : (-2147483648) ≤ p1 ∧ p1 ≤ 2147483647) (p2 : Int) (hp2 : (-2147483648) ≤ p2 ∧ p2 ≤ 2147483647) (pre0 : RunI (fun i => isL (aI h 55 i)) p1 p2) (pre1 : 0≤p1) (pre2 : p1≤p2) (pre3 : p2≤fI h 54 1) (d : Nat) (hd : 1 ≤ d) (Q : Option Value → List mE → Prop) (hQ : ∀ v h', (∃ z : Int, v = some (vI z) ∧ (0 ≤ z ∧ z ≤ 102) ∧ (WS (aI h 55) p1 p2 z) ∧ h = h') → Q v h') : MR (mex Ln xs) d 101 0 [some (.ref 54), some (vI p1), some (vI p2), none, none, none, none, none] [] h Q := by
  have e1 := fI_bd (q := 54) hT (tf hT rfl rfl) fd_6_1
  refine st_iconst c101_0 ?_
  refine st_istore (L' := [some (.ref 54), some (vI p1), some (vI p2), some (vI 0), none, none, none, none]) c101_1 rfl rfl ?_
  refine st_iload c101_2 rfl ?_
  refine st_istore (L' := [some (.ref 54), some (vI p1), some (vI p2), some (vI 0), some (vI p1), none, none, none]) c101_3 rfl rfl ?_
  refine st_iconst c101_5 ?_
  refine st_istore (L' := [some (.ref 54), some (vI p1), some (vI p2), some (vI 0), some (vI p1), some (vI 1), none, none]) c101_6 rfl rfl ?_
  refine st_iconst c101_8 ?_
  refine st_istore (L' := [some (.ref 54), some (vI p1), some (vI p2), some (vI 0), some (vI p1), some (vI 1), some (vI 0), none]) c101_9 rfl rfl ?_
  have lp230 : ∀ (n231 : Nat) (z226 : Int) (z227 : Int) (z228 : Int) (z229 : Int), (94 : Int) - z229 < (n231 : Int) → 0 ≤ z226 ∧ z226 ≤ 94 → 0 ≤ z227 ∧ z227 ≤ 200 → 0 ≤ z228 ∧ z228 ≤ 1 → 0 ≤ z229 ∧ z229 ≤ 94 → WI (aI h 55) p1 p2 z229 z226 z227 z228 → z226 ≤ z229 → MR (mex Ln xs) d 101 11 [some (.ref 54), some (vI p1), some (vI p2), some (vI z226), some (vI z227), some (vI z228), some (vI z229), none] [] h Q := by
    intro n231
    induction n231 with
    | zero =>
      intro z226 z227 z228 z229 hm233 b234 b235 b236 b237 x238 x239
      exfalso; omega
    | succ n231 ih232 =>
      intro z226 z227 z228 z229 hm233 b234 b235 b236 b237 x238 x239
      refine st_iload c101_11 rfl ?_
      refine st_text c101_13 ?_
      refine st_slen c101_15 rfl ?_
      refine st_icmp_ge c101_18 (by omega) (by omega) (fun k240 => ?_) (fun k241 => ?_)
      refine st_iconst c101_109 ?_
      refine st_ireturn c101_111 ?_
      exact hQ _ _ ⟨102, rfl, by omega, WI_end x238 (by omega), rfl⟩
      refine st_text c101_21 ?_
      refine st_iload c101_23 rfl ?_
      refine st_char c101_25 (by omega) rfl (fun e242 e243 => ?_)
      refine st_istore (L' := [some (.ref 54), some (vI p1), some (vI p2), some (vI z226), some (vI z227), some (vI z228), some (vI z229), some (vI ((mTxt.getD z229.toNat 0).toInt))]) c101_28 rfl rfl ?_
      refine st_iload c101_30 rfl ?_
      refine st_iconst c101_32 ?_
      refine st_icmp_ne c101_34 (by omega) (by omega) (fun k244 => ?_) (fun k245 => ?_)
      refine st_iload c101_62 rfl ?_
      refine st_if_eq c101_64 (by omega) (fun k246 => ?_) (fun k247 => ?_)
      refine st_iconst c101_100 ?_
      refine st_istore (L' := [some (.ref 54), some (vI p1), some (vI p2), some (vI z226), some (vI z227), some (vI 0), some (vI z229), some (vI ((mTxt.getD z229.toNat 0).toInt))]) c101_101 rfl rfl ?_
      refine st_iinc (L' := [some (.ref 54), some (vI p1), some (vI p2), some (vI z226), some (vI z227), some (vI 0), some (vI (z229 + 1)), some (vI ((mTxt.getD z229.toNat 0).toInt))]) c101_103 rfl rfl rfl ?_
      refine st_goto c101_106 ?_
      refine MR_weak (A := [some (.ref 54), some (vI p1), some (vI p2), some (vI z226), some (vI z227), some (vI 0), some (vI (z229 + 1)), none]) (Lle_s (Lle_s (Lle_s (Lle_s (Lle_s (Lle_s (Lle_s (Lle_n (Lle_0))))))))) ?_
      exact ih232 z226 z227 0 (z229 + 1) (by omega) (by omega) (by omega) (by omega) (by omega) (WI_no x238 (by omega) (by omega) (by omega) (by omega)) (by omega)
      refine st_iload c101_67 rfl ?_
      refine st_iload c101_69 rfl ?_
      refine st_icmp_ge c101_70 (by omega) (by omega) (fun k248 => ?_) (fun k249 => ?_)
      refine st_iconst c101_100 ?_
      refine st_istore (L' := [some (.ref 54), some (vI p1), some (vI p2), some (vI z226), some (vI z227), some (vI 0), some (vI z229), some (vI ((mTxt.getD z229.toNat 0).toInt))]) c101_101 rfl rfl ?_
      refine st_iinc (L' := [some (.ref 54), some (vI p1), some (vI p2), some (vI z226), some (vI z227), some (vI 0), some (vI (z229 + 1)), some (vI ((mTxt.getD z229.toNat 0).toInt))]) c101_103 rfl rfl rfl ?_
      refine st_goto c101_106 ?_
      refine MR_weak (A := [some (.ref 54), some (vI p1), some (vI p2), some (vI z226), some (vI z227), some (vI 0), some (vI (z229 + 1)), none]) (Lle_s (Lle_s (Lle_s (Lle_s (Lle_s (Lle_s (Lle_s (Lle_n (Lle_0))))))))) ?_
      exact ih232 z226 z227 0 (z229 + 1) (by omega) (by omega) (by omega) (by omega) (by omega) (WI_no x238 (by omega) (by omega) (by omega) (by omega)) (by omega)
      refine st_aload c101_73 rfl ?_
      refine st_iload c101_74 rfl ?_
      have e250 := fI_bd (q := 54) hT (tf hT rfl rfl) fd_6_1
      refine st_callt (as := [vI z227]) c101_76 cm_97 hT (tf hT rfl rfl) fd_6_0 rfl rfl rfl rfl (by omega) (K97 hT z227 (by omega) (d - 1) (by omega) _ (fun v h0 H => H)) (fun v1 h1 H => ?_)
      rcases H with ⟨rfl, pf251, rfl⟩ | ⟨rfl, pf252, pf253, pf254, pf255, rfl⟩
      refine st_if_eq c101_79 (by omega) (fun k256 => ?_) (fun k257 => False.elim (by omega))
      refine st_iconst c101_100 ?_
      refine st_istore (L' := [some (.ref 54), some (vI p1), some (vI p2), some (vI z226), some (vI z227), some (vI 0), some (vI z229), some (vI ((mTxt.getD z229.toNat 0).toInt))]) c101_101 rfl rfl ?_
      refine st_iinc (L' := [some (.ref 54), some (vI p1), some (vI p2), some (vI z226), some (vI z227), some (vI 0), some (vI (z229 + 1)), some (vI ((mTxt.getD z229.toNat 0).toInt))]) c101_103 rfl rfl rfl ?_
      refine st_goto c101_106 ?_
      refine MR_weak (A := [some (.ref 54), some (vI p1), some (vI p2), some (vI z226), some (vI z227), some (vI 0), some (vI (z229 + 1)), none]) (Lle_s (Lle_s (Lle_s (Lle_s (Lle_s (Lle_s (Lle_s (Lle_n (Lle_0))))))))) ?_
      exact ih232 z226 z227 0 (z229 + 1) (by omega) (by omega) (by omega) (by omega) (by omega) (WI_no x238 (by omega) (by omega) (by omega) (by omega)) (by omega)
      refine st_if_eq c101_79 (by omega) (fun k258 => False.elim (by omega)) (fun k259 => ?_)
      refine st_aload c101_82 rfl ?_
      refine st_getX (u := 55) c101_83 hT (tf hT rfl rfl) fd_6_0 rfl ?_
      refine st_iload c101_86 rfl ?_
      refine st_iald c101_88 hT (tf hT rfl rfl) ay_35 (by omega) (fun e260 e261 => ?_)
      refine st_iload c101_89 rfl ?_
      refine st_icmp_ne c101_91 (by omega) (by omega) (fun k262 => ?_) (fun k263 => ?_)
      refine st_iconst c101_100 ?_
      refine st_istore (L' := [some (.ref 54), some (vI p1), some (vI p2), some (vI z226), some (vI z227), some (vI 0), some (vI z229), some (vI ((mTxt.getD z229.toNat 0).toInt))]) c101_101 rfl rfl ?_
      refine st_iinc (L' := [some (.ref 54), some (vI p1), some (vI p2), some (vI z226), some (vI z227), some (vI 0), some (vI (z229 + 1)), some (vI ((mTxt.getD z229.toNat 0).toInt))]) c101_103 rfl rfl rfl ?_
      refine st_goto c101_106 ?_
      refine MR_weak (A := [some (.ref 54), some (vI p1), some (vI p2), some (vI z226), some (vI z227), some (vI 0), some (vI (z229 + 1)), none]) (Lle_s (Lle_s (Lle_s (Lle_s (Lle_s (Lle_s (Lle_s (Lle_n (Lle_0))))))))) ?_
      exact ih232 z226 z227 0 (z229 + 1) (by omega) (by omega) (by omega) (by omega) (by omega) (WI_no x238 (by omega) (by omega) (by omega) (by omega)) (by omega)
      refine st_iinc (L' := [some (.ref 54), some (vI p1), some (vI p2), some (vI z226), some (vI (z227 + 1)), some (vI z228), some (vI z229), some (vI ((mTxt.getD z229.toNat 0).toInt))]) c101_94 rfl rfl rfl ?_
      refine st_goto c101_97 ?_
      refine st_iinc (L' := [some (.ref 54), some (vI p1), some (vI p2), some (vI z226), some (vI (z227 + 1)), some (vI z228), some (vI (z229 + 1)), some (vI ((mTxt.getD z229.toNat 0).toInt))]) c101_103 rfl rfl rfl ?_
      refine st_goto c101_106 ?_
      refine MR_weak (A := [some (.ref 54), some (vI p1), some (vI p2), some (vI z226), some (vI (z227 + 1)), some (vI z228), some (vI (z229 + 1)), none]) (Lle_s (Lle_s (Lle_s (Lle_s (Lle_s (Lle_s (Lle_s (Lle_n (Lle_0))))))))) ?_
      exact ih232 z226 (z227 + 1) z228 (z229 + 1) (by omega) (by omega) (by omega) (by omega) (by omega) (WI_let x238 (by omega) (by omega) (by omega) (by omega) (by omega)) (by omega)
      refine st_iload c101_37 rfl ?_
      refine st_if_eq c101_39 (by omega) (fun k264 => ?_) (fun k265 => ?_)
      refine st_iinc (L' := [some (.ref 54), some (vI p1), some (vI p2), some (vI (z226 + 1)), some (vI z227), some (vI z228), some (vI z229), some (vI ((mTxt.getD z229.toNat 0).toInt))]) c101_50 rfl rfl rfl ?_
      refine st_iload c101_53 rfl ?_
      refine st_istore (L' := [some (.ref 54), some (vI p1), some (vI p2), some (vI (z226 + 1)), some (vI p1), some (vI z228), some (vI z229), some (vI ((mTxt.getD z229.toNat 0).toInt))]) c101_54 rfl rfl ?_
      refine st_iconst c101_56 ?_
      refine st_istore (L' := [some (.ref 54), some (vI p1), some (vI p2), some (vI (z226 + 1)), some (vI p1), some (vI 1), some (vI z229), some (vI ((mTxt.getD z229.toNat 0).toInt))]) c101_57 rfl rfl ?_
      refine st_goto c101_59 ?_
      refine st_iinc (L' := [some (.ref 54), some (vI p1), some (vI p2), some (vI (z226 + 1)), some (vI p1), some (vI 1), some (vI (z229 + 1)), some (vI ((mTxt.getD z229.toNat 0).toInt))]) c101_103 rfl rfl rfl ?_
      refine st_goto c101_106 ?_
      refine MR_weak (A := [some (.ref 54), some (vI p1), some (vI p2), some (vI (z226 + 1)), some (vI p1), some (vI 1), some (vI (z229 + 1)), none]) (Lle_s (Lle_s (Lle_s (Lle_s (Lle_s (Lle_s (Lle_s (Lle_n (Lle_0))))))))) ?_
      exact ih232 (z226 + 1) p1 1 (z229 + 1) (by omega) (by omega) (by omega) (by omega) (by omega) (WI_sp x238 (by omega) (by omega) (by omega) (by omega)) (by omega)
      refine st_iload c101_42 rfl ?_
      refine st_iload c101_44 rfl ?_
      refine st_icmp_ne c101_45 (by omega) (by omega) (fun k266 => ?_) (fun k267 => ?_)
      refine st_iinc (L' := [some (.ref 54), some (vI p1), some (vI p2), some (vI (z226 + 1)), some (vI z227), some (vI z228), some (vI z229), some (vI ((mTxt.getD z229.toNat 0).toInt))]) c101_50 rfl rfl rfl ?_
      refine st_iload c101_53 rfl ?_
      refine st_istore (L' := [some (.ref 54), some (vI p1), some (vI p2), some (vI (z226 + 1)), some (vI p1), some (vI z228), some (vI z229), some (vI ((mTxt.getD z229.toNat 0).toInt))]) c101_54 rfl rfl ?_
      refine st_iconst c101_56 ?_
      refine st_istore (L' := [some (.ref 54), some (vI p1), some (vI p2), some (vI (z226 + 1)), some (vI p1), some (vI 1), some (vI z229), some (vI ((mTxt.getD z229.toNat 0).toInt))]) c101_57 rfl rfl ?_
      refine st_goto c101_59 ?_
      refine st_iinc (L' := [some (.ref 54), some (vI p1), some (vI p2), some (vI (z226 + 1)), some (vI p1), some (vI 1), some (vI (z229 + 1)), some (vI ((mTxt.getD z229.toNat 0).toInt))]) c101_103 rfl rfl rfl ?_
      refine st_goto c101_106 ?_
      refine MR_weak (A := [some (.ref 54), some (vI p1), some (vI p2), some (vI (z226 + 1)), some (vI p1), some (vI 1), some (vI (z229 + 1)), none]) (Lle_s (Lle_s (Lle_s (Lle_s (Lle_s (Lle_s (Lle_s (Lle_n (Lle_0))))))))) ?_
      exact ih232 (z226 + 1) p1 1 (z229 + 1) (by omega) (by omega) (by omega) (by omega) (by omega) (WI_sp x238 (by omega) (by omega) (by omega) (by omega)) (by omega)
      refine st_iload c101_48 rfl ?_
      refine st_ireturn c101_49 ?_
      exact hQ _ _ ⟨z226, rfl, by omega, WI_ret x238 (by omega) (by omega) (by omega) (by omega) (by omega), rfl⟩
  exact lp230 ((((94 : Int) - 0 : Int) + 1).toNat) 0 p1 1 0 (by omega) (by omega) (by omega) (by omega) (by omega) WI_0 (by omega)
def W96 : List (Nat × Nat) := [(6, 5), (36, 0), (37, 0), (38, 0)]
set_option maxHeartbeats 0 in
theorem K96 {Ln : Nat} {xs : Nat → Int32} {τ : List Nat} {h : List mE} {E : EP} (hT : TH E τ h) (hS : Stb E W96) (d : Nat) (hd : 2 ≤ d) (Q : Option Value → List mE → Prop) (hQ : ∀ v h', (v = none ∧ (TB (cS (aI h 55) (fI h 54 1)) (cF (aI h 55) (fI h 54 1)) h') ∧ TH E τ h' ∧ Fr τ W96 h h') → Q v h') : MR (mex Ln xs) d 96 0 [some (.ref 54), none, none, none] [] h Q := by
  have hF := Fr_rf τ W96 h
  refine st_aload c96_0 rfl ?_
  refine st_iconst c96_1 ?_
  refine st_putI c96_2 hT (tf hT rfl rfl) fd_6_5 (by omega) (by omega) (Ext_rf _) hS hF (by decide +kernel) (fun h1 hT2 hF3 hU4 => ?_)
  refine st_iconst c96_5 ?_
  refine st_istore (L' := [some (.ref 54), some (vI 0), none, none]) c96_6 rfl rfl ?_
  refine st_iconst c96_7 ?_
  refine st_istore (L' := [some (.ref 54), some (vI 0), some (vI 0), none]) c96_8 rfl rfl ?_
  have lp1486 : ∀ (n1487 : Nat) (z1480 : Int) (z1481 : Int) (h1482 : List mE), (200 : Int) - z1481 < (n1487 : Int) → 0 ≤ z1480 ∧ z1480 ≤ 200 → 0 ≤ z1481 ∧ z1481 ≤ 200 → CTi (aI h 55) (fI h 54 1) h1482 z1480 → z1481 ≤ z1480 → z1480 ≤ fI h1482 54 1 → fI h1482 54 5 ≤ z1480 → TH E τ h1482 → Fr τ W96 h h1482 → Fr τ [(6, 5), (36, 0), (37, 0), (38, 0)] h1 h1482 → MR (mex Ln xs) d 96 9 [some (.ref 54), some (vI z1480), some (vI z1481), none] [] h1482 Q := by
    intro n1487
    induction n1487 with
    | zero =>
      intro z1480 z1481 h1482 hm1489 b1490 b1491 x1492 x1493 x1494 x1495 hT1483 hF1484 hL1485
      exfalso; omega
    | succ n1487 ih1488 =>
      intro z1480 z1481 h1482 hm1489 b1490 b1491 x1492 x1493 x1494 x1495 hT1483 hF1484 hL1485
      have e1496 := fI_bd (q := 54) hT1483 (tf hT1483 rfl rfl) fd_6_1
      have q1497 : fI h1482 54 1 = fI h 54 1 := (Fr_fI hL1485 (tf hT2 rfl rfl) (by decide +kernel)).trans (FUp_fIne hU4 (fun z => absurd z.2 (by decide)))
      have e1498 := fI_bd (q := 54) hT1483 (tf hT1483 rfl rfl) fd_6_5
      refine st_iload c96_9 rfl ?_
      refine st_iconst c96_10 ?_
      refine st_icmp_ge c96_13 (by omega) (by omega) (fun k1499 => ?_) (fun k1500 => ?_)
      refine st_aload c96_167 rfl ?_
      refine st_iconst c96_168 ?_
      refine st_iconst c96_170 ?_
      refine st_aload c96_171 rfl ?_
      refine st_getI c96_172 hT1483 (tf hT1483 rfl rfl) fd_6_1 (fun e1501 e1502 => ?_)
      have q1503 : fI h1482 54 1 = fI h 54 1 := (Fr_fI hL1485 (tf hT2 rfl rfl) (by decide +kernel)).trans (FUp_fIne hU4 (fun z => absurd z.2 (by decide)))
      refine st_callt (as := [vI 101, vI 0, vI (fI h1482 54 1)]) c96_175 cm_99 hT1483 (tf hT1483 rfl rfl) fd_6_0 rfl rfl rfl rfl (by omega) (K99 hT1483 (Stb_mono hS (by decide +kernel)) 101 (by omega) 0 (by omega) (fI h1482 54 1) (by omega) (d - 1) (by omega) _ (fun v h0 H => H)) (fun v1 h1504 H => ?_)
      obtain ⟨rfl, pf1507, pf1508, hT1505, hF1506⟩ := H
      have hF1509 := Fr_cp hF1484 hF1506 (by decide +kernel : Wsub W99 W96 = true)
      have e1510 := fI_bd (q := 54) hT1505 (tf hT1505 rfl rfl) fd_6_5
      refine st_return c96_178 ?_
      have e1511 := fI_bd (q := 54) hT1505 (tf hT1505 rfl rfl) fd_6_1
      have q1512 : fI h1504 54 1 = fI h1482 54 1 := Fr_fI hF1506 (tf hT1483 rfl rfl) (by decide +kernel)
      have pn1513 := pf1508
      rw [show fI h1482 54 1 = fI h 54 1 from by omega] at pn1513
      exact hQ _ _ ⟨rfl, CT_end (fun i => (aI_bd hT (tf (q := 55) (t := 35) hT rfl rfl) ay_35 i).1) x1492 (by omega) (by omega) (by omega) pn1513 (by omega), hT1505, hF1509⟩
      refine st_iload c96_16 rfl ?_
      refine st_aload c96_17 rfl ?_
      refine st_getI c96_18 hT1483 (tf hT1483 rfl rfl) fd_6_1 (fun e1514 e1515 => ?_)
      have q1516 : fI h1482 54 1 = fI h 54 1 := (Fr_fI hL1485 (tf hT2 rfl rfl) (by decide +kernel)).trans (FUp_fIne hU4 (fun z => absurd z.2 (by decide)))
      refine st_icmp_ge c96_21 (by omega) (by omega) (fun k1517 => ?_) (fun k1518 => ?_)
      refine st_aload c96_167 rfl ?_
      refine st_iconst c96_168 ?_
      refine st_iconst c96_170 ?_
      refine st_aload c96_171 rfl ?_
      refine st_getI c96_172 hT1483 (tf hT1483 rfl rfl) fd_6_1 (fun e1519 e1520 => ?_)
      have q1521 : fI h1482 54 1 = fI h 54 1 := (Fr_fI hL1485 (tf hT2 rfl rfl) (by decide +kernel)).trans (FUp_fIne hU4 (fun z => absurd z.2 (by decide)))
      refine st_callt (as := [vI 101, vI 0, vI (fI h1482 54 1)]) c96_175 cm_99 hT1483 (tf hT1483 rfl rfl) fd_6_0 rfl rfl rfl rfl (by omega) (K99 hT1483 (Stb_mono hS (by decide +kernel)) 101 (by omega) 0 (by omega) (fI h1482 54 1) (by omega) (d - 1) (by omega) _ (fun v h0 H => H)) (fun v1 h1522 H => ?_)
      obtain ⟨rfl, pf1525, pf1526, hT1523, hF1524⟩ := H
      have hF1527 := Fr_cp hF1484 hF1524 (by decide +kernel : Wsub W99 W96 = true)
      have e1528 := fI_bd (q := 54) hT1523 (tf hT1523 rfl rfl) fd_6_5
      refine st_return c96_178 ?_
      have e1529 := fI_bd (q := 54) hT1523 (tf hT1523 rfl rfl) fd_6_1
      have q1530 : fI h1522 54 1 = fI h1482 54 1 := Fr_fI hF1524 (tf hT1483 rfl rfl) (by decide +kernel)
      have pn1531 := pf1526
      rw [show fI h1482 54 1 = fI h 54 1 from by omega] at pn1531
      exact hQ _ _ ⟨rfl, CT_end (fun i => (aI_bd hT (tf (q := 55) (t := 35) hT rfl rfl) ay_35 i).1) x1492 (by omega) (by omega) (by omega) pn1531 (by omega), hT1523, hF1527⟩
      refine st_iload c96_24 rfl ?_
      refine st_iconst c96_25 ?_
      refine st_iadd c96_26 ?_
      refine st_istore (L' := [some (.ref 54), some (vI z1480), some (vI z1481), some (vI (z1480 + 1))]) c96_27 rfl rfl ?_
      refine st_aload c96_28 rfl ?_
      refine st_iload c96_29 rfl ?_
      refine st_callt (as := [vI z1480]) c96_30 cm_97 hT1483 (tf hT1483 rfl rfl) fd_6_0 rfl rfl rfl rfl (by omega) (K97 hT1483 z1480 (by omega) (d - 1) (by omega) _ (fun v h0 H => H)) (fun v1 h1 H => ?_)
      rcases H with ⟨rfl, pf1532, rfl⟩ | ⟨rfl, pf1533, pf1534, pf1535, pf1536, rfl⟩
      refine st_if_eq c96_33 (by omega) (fun k1537 => ?_) (fun k1538 => False.elim (by omega))
      refine st_aload c96_73 rfl ?_
      refine st_iload c96_74 rfl ?_
      refine st_callt (as := [vI z1480]) c96_75 cm_98 hT1483 (tf hT1483 rfl rfl) fd_6_0 rfl rfl rfl rfl (by omega) (K98 hT1483 z1480 (by omega) (d - 1) (by omega) _ (fun v h0 H => H)) (fun v1 h1 H => ?_)
      rcases H with ⟨rfl, pf1539, rfl⟩ | ⟨rfl, pf1540, pf1541, pf1542, pf1543, rfl⟩
      refine st_if_eq c96_78 (by omega) (fun k1544 => ?_) (fun k1545 => False.elim (by omega))
      refine st_aload c96_132 rfl ?_
      refine st_getX (u := 55) c96_133 hT1483 (tf hT1483 rfl rfl) fd_6_0 rfl ?_
      refine st_iload c96_136 rfl ?_
      refine st_iald c96_137 hT1483 (tf hT1483 rfl rfl) ay_35 (by omega) (fun e1546 e1547 => ?_)
      have q1548 : aI h1482 55 z1480 = aI h 55 z1480 := (Fr_aI hL1485 (tf hT2 rfl rfl) (by decide +kernel) z1480).trans (FUp_aI hU4 z1480)
      refine st_iconst c96_138 ?_
      refine st_icmp_eq c96_140 (by omega) (by omega) (fun k1549 => ?_) (fun k1550 => ?_)
      refine st_iload c96_159 rfl ?_
      refine st_istore (L' := [some (.ref 54), some (vI (z1480 + 1)), some (vI z1481), some (vI (z1480 + 1))]) c96_160 rfl rfl ?_
      refine st_iinc (L' := [some (.ref 54), some (vI (z1480 + 1)), some (vI (z1481 + 1)), some (vI (z1480 + 1))]) c96_161 rfl rfl rfl ?_
      refine st_goto c96_164 ?_
      refine MR_weak (A := [some (.ref 54), some (vI (z1480 + 1)), some (vI (z1481 + 1)), none]) (Lle_s (Lle_s (Lle_s (Lle_n (Lle_0))))) ?_
      have ef1551 : aI h1482 55 z1480 = aI h 55 z1480 := by
        rw [(Fr_aI hL1485 (tf hT2 rfl rfl) (by decide +kernel) z1480 : aI h1482 55 z1480 = aI h1 55 z1480)]
        rw [(FUp_aI hU4 z1480 : aI h1 55 z1480 = aI h 55 z1480)]
      exact ih1488 (z1480 + 1) (z1481 + 1) h1482 (by omega) (by omega) (by omega) (CT_blank x1492 (by omega) (by omega)) (by omega) (by omega) (by omega) hT1483 hF1484 hL1485
      refine st_aload c96_143 rfl ?_
      refine st_iconst c96_144 ?_
      refine st_aload c96_147 rfl ?_
      refine st_getX (u := 55) c96_148 hT1483 (tf hT1483 rfl rfl) fd_6_0 rfl ?_
      refine st_iload c96_151 rfl ?_
      refine st_iald c96_152 hT1483 (tf hT1483 rfl rfl) ay_35 (by omega) (fun e1552 e1553 => ?_)
      have q1554 : aI h1482 55 z1480 = aI h 55 z1480 := (Fr_aI hL1485 (tf hT2 rfl rfl) (by decide +kernel) z1480).trans (FUp_aI hU4 z1480)
      refine st_iadd c96_153 ?_
      refine st_iconst c96_154 ?_
      refine st_iload c96_155 rfl ?_
      refine st_callt (as := [vI (1000 + (aI h1482 55 z1480)), vI 0, vI z1480]) c96_156 cm_99 hT1483 (tf hT1483 rfl rfl) fd_6_0 rfl rfl rfl rfl (by omega) (K99 hT1483 (Stb_mono hS (by decide +kernel)) (1000 + (aI h1482 55 z1480)) (by omega) 0 (by omega) z1480 (by omega) (d - 1) (by omega) _ (fun v h0 H => H)) (fun v1 h1555 H => ?_)
      obtain ⟨rfl, pf1558, pf1559, hT1556, hF1557⟩ := H
      have hF1560 := Fr_cp hF1484 hF1557 (by decide +kernel : Wsub W99 W96 = true)
      have e1561 := fI_bd (q := 54) hT1556 (tf hT1556 rfl rfl) fd_6_5
      refine st_iload c96_159 rfl ?_
      refine st_istore (L' := [some (.ref 54), some (vI (z1480 + 1)), some (vI z1481), some (vI (z1480 + 1))]) c96_160 rfl rfl ?_
      refine st_iinc (L' := [some (.ref 54), some (vI (z1480 + 1)), some (vI (z1481 + 1)), some (vI (z1480 + 1))]) c96_161 rfl rfl rfl ?_
      refine st_goto c96_164 ?_
      refine MR_weak (A := [some (.ref 54), some (vI (z1480 + 1)), some (vI (z1481 + 1)), none]) (Lle_s (Lle_s (Lle_s (Lle_n (Lle_0))))) ?_
      have e1562 := fI_bd (q := 54) hT1556 (tf hT1556 rfl rfl) fd_6_1
      have q1563 : fI h1555 54 1 = fI h1482 54 1 := Fr_fI hF1557 (tf hT1483 rfl rfl) (by decide +kernel)
      have ef1564 : aI h1482 55 z1480 = aI h 55 z1480 := by
        rw [(Fr_aI hL1485 (tf hT2 rfl rfl) (by decide +kernel) z1480 : aI h1482 55 z1480 = aI h1 55 z1480)]
        rw [(FUp_aI hU4 z1480 : aI h1 55 z1480 = aI h 55 z1480)]
      exact ih1488 (z1480 + 1) (z1481 + 1) h1555 (by omega) (by omega) (by omega) (CT_add (fun i => (aI_bd hT (tf (q := 55) (t := 35) hT rfl rfl) ay_35 i).1) x1492 (by omega) (by omega) (by omega) (by omega) (Or.inr (Or.inr ⟨by intro k; have k : (97 : Int) ≤ aI h 55 z1480 ∧ aI h 55 z1480 ≤ 122 := k; omega, by intro k; have k : (48 : Int) ≤ aI h 55 z1480 ∧ aI h 55 z1480 ≤ 57 := k; omega, by omega, by omega⟩)) pf1559) (by omega) (by omega) (by omega) hT1556 hF1560 (Fr_cp hL1485 hF1557 (by decide +kernel))
      refine st_if_eq c96_78 (by omega) (fun k1565 => False.elim (by omega)) (fun k1566 => ?_)
      have lp1583 : ∀ (n1584 : Nat) (z1582 : Int), (200 : Int) - z1582 < (n1584 : Int) → 1 ≤ z1582 ∧ z1582 ≤ 200 → z1582 ≤ fI h1482 54 1 → RunI (fun i => isD (aI h 55 i)) z1480 z1582 → z1480+1 ≤ z1582 → MR (mex Ln xs) d 96 81 [some (.ref 54), some (vI z1480), some (vI z1481), some (vI z1582)] [] h1482 Q := by
        intro n1584
        induction n1584 with
        | zero =>
          intro z1582 hm1586 b1587 x1588 x1589 x1590
          exfalso; omega
        | succ n1584 ih1585 =>
          intro z1582 hm1586 b1587 x1588 x1589 x1590
          refine st_iload c96_81 rfl ?_
          refine st_aload c96_82 rfl ?_
          refine st_getI c96_83 hT1483 (tf hT1483 rfl rfl) fd_6_1 (fun e1591 e1592 => ?_)
          have q1593 : fI h1482 54 1 = fI h 54 1 := (Fr_fI hL1485 (tf hT2 rfl rfl) (by decide +kernel)).trans (FUp_fIne hU4 (fun z => absurd z.2 (by decide)))
          refine st_icmp_ge c96_86 (by omega) (by omega) (fun k1594 => ?_) (fun k1595 => ?_)
          refine st_aload c96_103 rfl ?_
          refine st_iload c96_104 rfl ?_
          refine st_iload c96_105 rfl ?_
          refine st_isub c96_106 ?_
          refine st_iconst c96_107 ?_
          refine st_icmp_le c96_109 (by omega) (by omega) (fun k1596 => ?_) (fun k1597 => ?_)
          refine st_iconst c96_117 ?_
          refine st_aload c96_119 rfl ?_
          refine st_iload c96_120 rfl ?_
          refine st_iload c96_121 rfl ?_
          refine st_callt (as := [vI z1480, vI z1582]) c96_122 cm_100 hT1483 (tf hT1483 rfl rfl) fd_6_0 rfl rfl rfl rfl (by omega) (K100 hT1483 z1480 (by omega) z1582 (by omega) (d - 1) (by omega) _ (fun v h0 H => H)) (fun v1 h1 H => ?_)
          obtain ⟨z1598, rfl, b1599, rfl⟩ := H
          refine st_iload c96_125 rfl ?_
          refine st_callt (as := [vI 100, vI z1598, vI z1480]) c96_126 cm_99 hT1483 (tf hT1483 rfl rfl) fd_6_0 rfl rfl rfl rfl (by omega) (K99 hT1483 (Stb_mono hS (by decide +kernel)) 100 (by omega) z1598 (by omega) z1480 (by omega) (d - 1) (by omega) _ (fun v h0 H => H)) (fun v1 h1600 H => ?_)
          obtain ⟨rfl, pf1603, pf1604, hT1601, hF1602⟩ := H
          have hF1605 := Fr_cp hF1484 hF1602 (by decide +kernel : Wsub W99 W96 = true)
          have e1606 := fI_bd (q := 54) hT1601 (tf hT1601 rfl rfl) fd_6_5
          refine st_goto c96_129 ?_
          refine st_iload c96_159 rfl ?_
          refine st_istore (L' := [some (.ref 54), some (vI z1582), some (vI z1481), some (vI z1582)]) c96_160 rfl rfl ?_
          refine st_iinc (L' := [some (.ref 54), some (vI z1582), some (vI (z1481 + 1)), some (vI z1582)]) c96_161 rfl rfl rfl ?_
          refine st_goto c96_164 ?_
          refine MR_weak (A := [some (.ref 54), some (vI z1582), some (vI (z1481 + 1)), none]) (Lle_s (Lle_s (Lle_s (Lle_n (Lle_0))))) ?_
          have e1607 := fI_bd (q := 54) hT1601 (tf hT1601 rfl rfl) fd_6_1
          have q1608 : fI h1600 54 1 = fI h1482 54 1 := Fr_fI hF1602 (tf hT1483 rfl rfl) (by decide +kernel)
          have ef1609 : aI h1482 55 z1480 = aI h 55 z1480 := by
            rw [(Fr_aI hL1485 (tf hT2 rfl rfl) (by decide +kernel) z1480 : aI h1482 55 z1480 = aI h1 55 z1480)]
            rw [(FUp_aI hU4 z1480 : aI h1 55 z1480 = aI h 55 z1480)]
          have ef1610 : aI h1482 55 z1582 = aI h 55 z1582 := by
            rw [(Fr_aI hL1485 (tf hT2 rfl rfl) (by decide +kernel) z1582 : aI h1482 55 z1582 = aI h1 55 z1582)]
            rw [(FUp_aI hU4 z1582 : aI h1 55 z1582 = aI h 55 z1582)]
          have rn1611 : Run1 (fun i => isD (aI h 55 i)) (fI h 54 1) z1480 z1582 := ⟨by omega, by omega, x1589, by
            by_cases c : z1582 = fI h 54 1
            · exact Or.inl c
            · exact Or.inr (by intro k; have k : (48 : Int) ≤ aI h 55 z1582 ∧ aI h 55 z1582 ≤ 57 := k; omega)⟩
          have ef1612 : aI h1482 55 z1480 = aI h 55 z1480 := by
            rw [(Fr_aI hL1485 (tf hT2 rfl rfl) (by decide +kernel) z1480 : aI h1482 55 z1480 = aI h1 55 z1480)]
            rw [(FUp_aI hU4 z1480 : aI h1 55 z1480 = aI h 55 z1480)]
          exact ih1488 z1582 (z1481 + 1) h1600 (by omega) (by omega) (by omega) (CT_add (fun i => (aI_bd hT (tf (q := 55) (t := 35) hT rfl rfl) ay_35 i).1) x1492 (by omega) (by omega) (by omega) (by omega) (Or.inr (Or.inl ⟨(show 48 ≤ aI h 55 z1480 ∧ aI h 55 z1480 ≤ 57 by omega), rn1611, by omega⟩)) pf1604) (by omega) (by omega) (by omega) hT1601 hF1605 (Fr_cp hL1485 hF1602 (by decide +kernel))
          refine st_iconst c96_112 ?_
          refine st_goto c96_114 ?_
          refine st_aload c96_119 rfl ?_
          refine st_iload c96_120 rfl ?_
          refine st_iload c96_121 rfl ?_
          refine st_callt (as := [vI z1480, vI z1582]) c96_122 cm_100 hT1483 (tf hT1483 rfl rfl) fd_6_0 rfl rfl rfl rfl (by omega) (K100 hT1483 z1480 (by omega) z1582 (by omega) (d - 1) (by omega) _ (fun v h0 H => H)) (fun v1 h1 H => ?_)
          obtain ⟨z1613, rfl, b1614, rfl⟩ := H
          refine st_iload c96_125 rfl ?_
          refine st_callt (as := [vI 102, vI z1613, vI z1480]) c96_126 cm_99 hT1483 (tf hT1483 rfl rfl) fd_6_0 rfl rfl rfl rfl (by omega) (K99 hT1483 (Stb_mono hS (by decide +kernel)) 102 (by omega) z1613 (by omega) z1480 (by omega) (d - 1) (by omega) _ (fun v h0 H => H)) (fun v1 h1615 H => ?_)
          obtain ⟨rfl, pf1618, pf1619, hT1616, hF1617⟩ := H
          have hF1620 := Fr_cp hF1484 hF1617 (by decide +kernel : Wsub W99 W96 = true)
          have e1621 := fI_bd (q := 54) hT1616 (tf hT1616 rfl rfl) fd_6_5
          refine st_goto c96_129 ?_
          refine st_iload c96_159 rfl ?_
          refine st_istore (L' := [some (.ref 54), some (vI z1582), some (vI z1481), some (vI z1582)]) c96_160 rfl rfl ?_
          refine st_iinc (L' := [some (.ref 54), some (vI z1582), some (vI (z1481 + 1)), some (vI z1582)]) c96_161 rfl rfl rfl ?_
          refine st_goto c96_164 ?_
          refine MR_weak (A := [some (.ref 54), some (vI z1582), some (vI (z1481 + 1)), none]) (Lle_s (Lle_s (Lle_s (Lle_n (Lle_0))))) ?_
          have e1622 := fI_bd (q := 54) hT1616 (tf hT1616 rfl rfl) fd_6_1
          have q1623 : fI h1615 54 1 = fI h1482 54 1 := Fr_fI hF1617 (tf hT1483 rfl rfl) (by decide +kernel)
          have ef1624 : aI h1482 55 z1480 = aI h 55 z1480 := by
            rw [(Fr_aI hL1485 (tf hT2 rfl rfl) (by decide +kernel) z1480 : aI h1482 55 z1480 = aI h1 55 z1480)]
            rw [(FUp_aI hU4 z1480 : aI h1 55 z1480 = aI h 55 z1480)]
          have ef1625 : aI h1482 55 z1582 = aI h 55 z1582 := by
            rw [(Fr_aI hL1485 (tf hT2 rfl rfl) (by decide +kernel) z1582 : aI h1482 55 z1582 = aI h1 55 z1582)]
            rw [(FUp_aI hU4 z1582 : aI h1 55 z1582 = aI h 55 z1582)]
          have rn1626 : Run1 (fun i => isD (aI h 55 i)) (fI h 54 1) z1480 z1582 := ⟨by omega, by omega, x1589, by
            by_cases c : z1582 = fI h 54 1
            · exact Or.inl c
            · exact Or.inr (by intro k; have k : (48 : Int) ≤ aI h 55 z1582 ∧ aI h 55 z1582 ≤ 57 := k; omega)⟩
          have ef1627 : aI h1482 55 z1480 = aI h 55 z1480 := by
            rw [(Fr_aI hL1485 (tf hT2 rfl rfl) (by decide +kernel) z1480 : aI h1482 55 z1480 = aI h1 55 z1480)]
            rw [(FUp_aI hU4 z1480 : aI h1 55 z1480 = aI h 55 z1480)]
          exact ih1488 z1582 (z1481 + 1) h1615 (by omega) (by omega) (by omega) (CT_add (fun i => (aI_bd hT (tf (q := 55) (t := 35) hT rfl rfl) ay_35 i).1) x1492 (by omega) (by omega) (by omega) (by omega) (Or.inr (Or.inl ⟨(show 48 ≤ aI h 55 z1480 ∧ aI h 55 z1480 ≤ 57 by omega), rn1626, by omega⟩)) pf1619) (by omega) (by omega) (by omega) hT1616 hF1620 (Fr_cp hL1485 hF1617 (by decide +kernel))
          refine st_aload c96_89 rfl ?_
          refine st_iload c96_90 rfl ?_
          refine st_callt (as := [vI z1582]) c96_91 cm_98 hT1483 (tf hT1483 rfl rfl) fd_6_0 rfl rfl rfl rfl (by omega) (K98 hT1483 z1582 (by omega) (d - 1) (by omega) _ (fun v h0 H => H)) (fun v1 h1 H => ?_)
          rcases H with ⟨rfl, pf1628, rfl⟩ | ⟨rfl, pf1629, pf1630, pf1631, pf1632, rfl⟩
          refine st_if_eq c96_94 (by omega) (fun k1633 => ?_) (fun k1634 => False.elim (by omega))
          refine st_aload c96_103 rfl ?_
          refine st_iload c96_104 rfl ?_
          refine st_iload c96_105 rfl ?_
          refine st_isub c96_106 ?_
          refine st_iconst c96_107 ?_
          refine st_icmp_le c96_109 (by omega) (by omega) (fun k1635 => ?_) (fun k1636 => ?_)
          refine st_iconst c96_117 ?_
          refine st_aload c96_119 rfl ?_
          refine st_iload c96_120 rfl ?_
          refine st_iload c96_121 rfl ?_
          refine st_callt (as := [vI z1480, vI z1582]) c96_122 cm_100 hT1483 (tf hT1483 rfl rfl) fd_6_0 rfl rfl rfl rfl (by omega) (K100 hT1483 z1480 (by omega) z1582 (by omega) (d - 1) (by omega) _ (fun v h0 H => H)) (fun v1 h1 H => ?_)
          obtain ⟨z1637, rfl, b1638, rfl⟩ := H
          refine st_iload c96_125 rfl ?_
          refine st_callt (as := [vI 100, vI z1637, vI z1480]) c96_126 cm_99 hT1483 (tf hT1483 rfl rfl) fd_6_0 rfl rfl rfl rfl (by omega) (K99 hT1483 (Stb_mono hS (by decide +kernel)) 100 (by omega) z1637 (by omega) z1480 (by omega) (d - 1) (by omega) _ (fun v h0 H => H)) (fun v1 h1639 H => ?_)
          obtain ⟨rfl, pf1642, pf1643, hT1640, hF1641⟩ := H
          have hF1644 := Fr_cp hF1484 hF1641 (by decide +kernel : Wsub W99 W96 = true)
          have e1645 := fI_bd (q := 54) hT1640 (tf hT1640 rfl rfl) fd_6_5
          refine st_goto c96_129 ?_
          refine st_iload c96_159 rfl ?_
          refine st_istore (L' := [some (.ref 54), some (vI z1582), some (vI z1481), some (vI z1582)]) c96_160 rfl rfl ?_
          refine st_iinc (L' := [some (.ref 54), some (vI z1582), some (vI (z1481 + 1)), some (vI z1582)]) c96_161 rfl rfl rfl ?_
          refine st_goto c96_164 ?_
          refine MR_weak (A := [some (.ref 54), some (vI z1582), some (vI (z1481 + 1)), none]) (Lle_s (Lle_s (Lle_s (Lle_n (Lle_0))))) ?_
          have e1646 := fI_bd (q := 54) hT1640 (tf hT1640 rfl rfl) fd_6_1
          have q1647 : fI h1639 54 1 = fI h1482 54 1 := Fr_fI hF1641 (tf hT1483 rfl rfl) (by decide +kernel)
          have ef1648 : aI h1482 55 z1480 = aI h 55 z1480 := by
            rw [(Fr_aI hL1485 (tf hT2 rfl rfl) (by decide +kernel) z1480 : aI h1482 55 z1480 = aI h1 55 z1480)]
            rw [(FUp_aI hU4 z1480 : aI h1 55 z1480 = aI h 55 z1480)]
          have ef1649 : aI h1482 55 z1582 = aI h 55 z1582 := by
            rw [(Fr_aI hL1485 (tf hT2 rfl rfl) (by decide +kernel) z1582 : aI h1482 55 z1582 = aI h1 55 z1582)]
            rw [(FUp_aI hU4 z1582 : aI h1 55 z1582 = aI h 55 z1582)]
          have rn1650 : Run1 (fun i => isD (aI h 55 i)) (fI h 54 1) z1480 z1582 := ⟨by omega, by omega, x1589, by
            by_cases c : z1582 = fI h 54 1
            · exact Or.inl c
            · exact Or.inr (by intro k; have k : (48 : Int) ≤ aI h 55 z1582 ∧ aI h 55 z1582 ≤ 57 := k; omega)⟩
          have ef1651 : aI h1482 55 z1480 = aI h 55 z1480 := by
            rw [(Fr_aI hL1485 (tf hT2 rfl rfl) (by decide +kernel) z1480 : aI h1482 55 z1480 = aI h1 55 z1480)]
            rw [(FUp_aI hU4 z1480 : aI h1 55 z1480 = aI h 55 z1480)]
          exact ih1488 z1582 (z1481 + 1) h1639 (by omega) (by omega) (by omega) (CT_add (fun i => (aI_bd hT (tf (q := 55) (t := 35) hT rfl rfl) ay_35 i).1) x1492 (by omega) (by omega) (by omega) (by omega) (Or.inr (Or.inl ⟨(show 48 ≤ aI h 55 z1480 ∧ aI h 55 z1480 ≤ 57 by omega), rn1650, by omega⟩)) pf1643) (by omega) (by omega) (by omega) hT1640 hF1644 (Fr_cp hL1485 hF1641 (by decide +kernel))
          refine st_iconst c96_112 ?_
          refine st_goto c96_114 ?_
          refine st_aload c96_119 rfl ?_
          refine st_iload c96_120 rfl ?_
          refine st_iload c96_121 rfl ?_
          refine st_callt (as := [vI z1480, vI z1582]) c96_122 cm_100 hT1483 (tf hT1483 rfl rfl) fd_6_0 rfl rfl rfl rfl (by omega) (K100 hT1483 z1480 (by omega) z1582 (by omega) (d - 1) (by omega) _ (fun v h0 H => H)) (fun v1 h1 H => ?_)
          obtain ⟨z1652, rfl, b1653, rfl⟩ := H
          refine st_iload c96_125 rfl ?_
          refine st_callt (as := [vI 102, vI z1652, vI z1480]) c96_126 cm_99 hT1483 (tf hT1483 rfl rfl) fd_6_0 rfl rfl rfl rfl (by omega) (K99 hT1483 (Stb_mono hS (by decide +kernel)) 102 (by omega) z1652 (by omega) z1480 (by omega) (d - 1) (by omega) _ (fun v h0 H => H)) (fun v1 h1654 H => ?_)
          obtain ⟨rfl, pf1657, pf1658, hT1655, hF1656⟩ := H
          have hF1659 := Fr_cp hF1484 hF1656 (by decide +kernel : Wsub W99 W96 = true)
          have e1660 := fI_bd (q := 54) hT1655 (tf hT1655 rfl rfl) fd_6_5
          refine st_goto c96_129 ?_
          refine st_iload c96_159 rfl ?_
          refine st_istore (L' := [some (.ref 54), some (vI z1582), some (vI z1481), some (vI z1582)]) c96_160 rfl rfl ?_
          refine st_iinc (L' := [some (.ref 54), some (vI z1582), some (vI (z1481 + 1)), some (vI z1582)]) c96_161 rfl rfl rfl ?_
          refine st_goto c96_164 ?_
          refine MR_weak (A := [some (.ref 54), some (vI z1582), some (vI (z1481 + 1)), none]) (Lle_s (Lle_s (Lle_s (Lle_n (Lle_0))))) ?_
          have e1661 := fI_bd (q := 54) hT1655 (tf hT1655 rfl rfl) fd_6_1
          have q1662 : fI h1654 54 1 = fI h1482 54 1 := Fr_fI hF1656 (tf hT1483 rfl rfl) (by decide +kernel)
          have ef1663 : aI h1482 55 z1480 = aI h 55 z1480 := by
            rw [(Fr_aI hL1485 (tf hT2 rfl rfl) (by decide +kernel) z1480 : aI h1482 55 z1480 = aI h1 55 z1480)]
            rw [(FUp_aI hU4 z1480 : aI h1 55 z1480 = aI h 55 z1480)]
          have ef1664 : aI h1482 55 z1582 = aI h 55 z1582 := by
            rw [(Fr_aI hL1485 (tf hT2 rfl rfl) (by decide +kernel) z1582 : aI h1482 55 z1582 = aI h1 55 z1582)]
            rw [(FUp_aI hU4 z1582 : aI h1 55 z1582 = aI h 55 z1582)]
          have rn1665 : Run1 (fun i => isD (aI h 55 i)) (fI h 54 1) z1480 z1582 := ⟨by omega, by omega, x1589, by
            by_cases c : z1582 = fI h 54 1
            · exact Or.inl c
            · exact Or.inr (by intro k; have k : (48 : Int) ≤ aI h 55 z1582 ∧ aI h 55 z1582 ≤ 57 := k; omega)⟩
          have ef1666 : aI h1482 55 z1480 = aI h 55 z1480 := by
            rw [(Fr_aI hL1485 (tf hT2 rfl rfl) (by decide +kernel) z1480 : aI h1482 55 z1480 = aI h1 55 z1480)]
            rw [(FUp_aI hU4 z1480 : aI h1 55 z1480 = aI h 55 z1480)]
          exact ih1488 z1582 (z1481 + 1) h1654 (by omega) (by omega) (by omega) (CT_add (fun i => (aI_bd hT (tf (q := 55) (t := 35) hT rfl rfl) ay_35 i).1) x1492 (by omega) (by omega) (by omega) (by omega) (Or.inr (Or.inl ⟨(show 48 ≤ aI h 55 z1480 ∧ aI h 55 z1480 ≤ 57 by omega), rn1665, by omega⟩)) pf1658) (by omega) (by omega) (by omega) hT1655 hF1659 (Fr_cp hL1485 hF1656 (by decide +kernel))
          refine st_if_eq c96_94 (by omega) (fun k1667 => False.elim (by omega)) (fun k1668 => ?_)
          refine st_iinc (L' := [some (.ref 54), some (vI z1480), some (vI z1481), some (vI (z1582 + 1))]) c96_97 rfl rfl rfl ?_
          refine st_goto c96_100 ?_
          have ef1669 : aI h1482 55 z1582 = aI h 55 z1582 := by
            rw [(Fr_aI hL1485 (tf hT2 rfl rfl) (by decide +kernel) z1582 : aI h1482 55 z1582 = aI h1 55 z1582)]
            rw [(FUp_aI hU4 z1582 : aI h1 55 z1582 = aI h 55 z1582)]
          exact ih1585 (z1582 + 1) (by omega) (by omega) (by omega) (RunI_s (P := (fun i => isD (aI h 55 i))) x1589 (show 48 ≤ aI h 55 z1582 ∧ aI h 55 z1582 ≤ 57 by omega)) (by omega)
      have ef1670 : aI h1482 55 z1480 = aI h 55 z1480 := by
        rw [(Fr_aI hL1485 (tf hT2 rfl rfl) (by decide +kernel) z1480 : aI h1482 55 z1480 = aI h1 55 z1480)]
        rw [(FUp_aI hU4 z1480 : aI h1 55 z1480 = aI h 55 z1480)]
      exact lp1583 ((((200 : Int) - (z1480 + 1) : Int) + 1).toNat) (z1480 + 1) (by omega) (by omega) (by omega) (RunI_1 (P := (fun i => isD (aI h 55 i))) (show 48 ≤ aI h 55 z1480 ∧ aI h 55 z1480 ≤ 57 by omega)) (by omega)
      refine st_if_eq c96_33 (by omega) (fun k1671 => False.elim (by omega)) (fun k1672 => ?_)
      have lp1689 : ∀ (n1690 : Nat) (z1688 : Int), (200 : Int) - z1688 < (n1690 : Int) → 1 ≤ z1688 ∧ z1688 ≤ 200 → z1688 ≤ fI h1482 54 1 → RunI (fun i => isL (aI h 55 i)) z1480 z1688 → z1480+1 ≤ z1688 → MR (mex Ln xs) d 96 36 [some (.ref 54), some (vI z1480), some (vI z1481), some (vI z1688)] [] h1482 Q := by
        intro n1690
        induction n1690 with
        | zero =>
          intro z1688 hm1692 b1693 x1694 x1695 x1696
          exfalso; omega
        | succ n1690 ih1691 =>
          intro z1688 hm1692 b1693 x1694 x1695 x1696
          refine st_iload c96_36 rfl ?_
          refine st_aload c96_37 rfl ?_
          refine st_getI c96_38 hT1483 (tf hT1483 rfl rfl) fd_6_1 (fun e1697 e1698 => ?_)
          have q1699 : fI h1482 54 1 = fI h 54 1 := (Fr_fI hL1485 (tf hT2 rfl rfl) (by decide +kernel)).trans (FUp_fIne hU4 (fun z => absurd z.2 (by decide)))
          refine st_icmp_ge c96_41 (by omega) (by omega) (fun k1700 => ?_) (fun k1701 => ?_)
          refine st_aload c96_58 rfl ?_
          refine st_aload c96_59 rfl ?_
          refine st_iload c96_60 rfl ?_
          refine st_iload c96_61 rfl ?_
          have fe1702 : aI h1482 55 = aI h 55 := funext (fun i => by
            rw [(Fr_aI hL1485 (tf hT2 rfl rfl) (by decide +kernel) i : aI h1482 55 i = aI h1 55 i)]
            rw [(FUp_aI hU4 i : aI h1 55 i = aI h 55 i)])
          have rl1703 : RunI (fun i => isL (aI h1482 55 i)) z1480 z1688 := by rw [fe1702]; exact x1695
          refine st_callt (as := [vI z1480, vI z1688]) c96_62 cm_101 hT1483 (tf hT1483 rfl rfl) fd_6_0 rfl rfl rfl rfl (by omega) (K101 hT1483 z1480 (by omega) z1688 (by omega) rl1703 (by omega) (by omega) (by omega) (d - 1) (by omega) _ (fun v h0 H => H)) (fun v1 h1 H => ?_)
          obtain ⟨z1705, rfl, b1706, pf1704, rfl⟩ := H
          refine st_iconst c96_65 ?_
          refine st_iload c96_66 rfl ?_
          refine st_callt (as := [vI z1705, vI 0, vI z1480]) c96_67 cm_99 hT1483 (tf hT1483 rfl rfl) fd_6_0 rfl rfl rfl rfl (by omega) (K99 hT1483 (Stb_mono hS (by decide +kernel)) z1705 (by omega) 0 (by omega) z1480 (by omega) (d - 1) (by omega) _ (fun v h0 H => H)) (fun v1 h1707 H => ?_)
          obtain ⟨rfl, pf1710, pf1711, hT1708, hF1709⟩ := H
          have hF1712 := Fr_cp hF1484 hF1709 (by decide +kernel : Wsub W99 W96 = true)
          have e1713 := fI_bd (q := 54) hT1708 (tf hT1708 rfl rfl) fd_6_5
          refine st_goto c96_70 ?_
          refine st_iload c96_159 rfl ?_
          refine st_istore (L' := [some (.ref 54), some (vI z1688), some (vI z1481), some (vI z1688)]) c96_160 rfl rfl ?_
          refine st_iinc (L' := [some (.ref 54), some (vI z1688), some (vI (z1481 + 1)), some (vI z1688)]) c96_161 rfl rfl rfl ?_
          refine st_goto c96_164 ?_
          refine MR_weak (A := [some (.ref 54), some (vI z1688), some (vI (z1481 + 1)), none]) (Lle_s (Lle_s (Lle_s (Lle_n (Lle_0))))) ?_
          have e1714 := fI_bd (q := 54) hT1708 (tf hT1708 rfl rfl) fd_6_1
          have q1715 : fI h1707 54 1 = fI h1482 54 1 := Fr_fI hF1709 (tf hT1483 rfl rfl) (by decide +kernel)
          have ef1716 : aI h1482 55 z1480 = aI h 55 z1480 := by
            rw [(Fr_aI hL1485 (tf hT2 rfl rfl) (by decide +kernel) z1480 : aI h1482 55 z1480 = aI h1 55 z1480)]
            rw [(FUp_aI hU4 z1480 : aI h1 55 z1480 = aI h 55 z1480)]
          have ef1717 : aI h1482 55 z1688 = aI h 55 z1688 := by
            rw [(Fr_aI hL1485 (tf hT2 rfl rfl) (by decide +kernel) z1688 : aI h1482 55 z1688 = aI h1 55 z1688)]
            rw [(FUp_aI hU4 z1688 : aI h1 55 z1688 = aI h 55 z1688)]
          have rn1718 : Run1 (fun i => isL (aI h 55 i)) (fI h 54 1) z1480 z1688 := ⟨by omega, by omega, x1695, by
            by_cases c : z1688 = fI h 54 1
            · exact Or.inl c
            · exact Or.inr (by intro k; have k : (97 : Int) ≤ aI h 55 z1688 ∧ aI h 55 z1688 ≤ 122 := k; omega)⟩
          have ef1719 : aI h1482 55 z1480 = aI h 55 z1480 := by
            rw [(Fr_aI hL1485 (tf hT2 rfl rfl) (by decide +kernel) z1480 : aI h1482 55 z1480 = aI h1 55 z1480)]
            rw [(FUp_aI hU4 z1480 : aI h1 55 z1480 = aI h 55 z1480)]
          have fe1720 : aI h1482 55 = aI h 55 := funext (fun i => by
            rw [(Fr_aI hL1485 (tf hT2 rfl rfl) (by decide +kernel) i : aI h1482 55 i = aI h1 55 i)]
            rw [(FUp_aI hU4 i : aI h1 55 i = aI h 55 i)])
          have ws1721 := pf1704
          rw [fe1720] at ws1721
          exact ih1488 z1688 (z1481 + 1) h1707 (by omega) (by omega) (by omega) (CT_add (fun i => (aI_bd hT (tf (q := 55) (t := 35) hT rfl rfl) ay_35 i).1) x1492 (by omega) (by omega) (by omega) (by omega) (Or.inl ⟨(show 97 ≤ aI h 55 z1480 ∧ aI h 55 z1480 ≤ 122 by omega), rn1718, ws1721⟩) pf1711) (by omega) (by omega) (by omega) hT1708 hF1712 (Fr_cp hL1485 hF1709 (by decide +kernel))
          refine st_aload c96_44 rfl ?_
          refine st_iload c96_45 rfl ?_
          refine st_callt (as := [vI z1688]) c96_46 cm_97 hT1483 (tf hT1483 rfl rfl) fd_6_0 rfl rfl rfl rfl (by omega) (K97 hT1483 z1688 (by omega) (d - 1) (by omega) _ (fun v h0 H => H)) (fun v1 h1 H => ?_)
          rcases H with ⟨rfl, pf1722, rfl⟩ | ⟨rfl, pf1723, pf1724, pf1725, pf1726, rfl⟩
          refine st_if_eq c96_49 (by omega) (fun k1727 => ?_) (fun k1728 => False.elim (by omega))
          refine st_aload c96_58 rfl ?_
          refine st_aload c96_59 rfl ?_
          refine st_iload c96_60 rfl ?_
          refine st_iload c96_61 rfl ?_
          have fe1729 : aI h1482 55 = aI h 55 := funext (fun i => by
            rw [(Fr_aI hL1485 (tf hT2 rfl rfl) (by decide +kernel) i : aI h1482 55 i = aI h1 55 i)]
            rw [(FUp_aI hU4 i : aI h1 55 i = aI h 55 i)])
          have rl1730 : RunI (fun i => isL (aI h1482 55 i)) z1480 z1688 := by rw [fe1729]; exact x1695
          refine st_callt (as := [vI z1480, vI z1688]) c96_62 cm_101 hT1483 (tf hT1483 rfl rfl) fd_6_0 rfl rfl rfl rfl (by omega) (K101 hT1483 z1480 (by omega) z1688 (by omega) rl1730 (by omega) (by omega) (by omega) (d - 1) (by omega) _ (fun v h0 H => H)) (fun v1 h1 H => ?_)
          obtain ⟨z1732, rfl, b1733, pf1731, rfl⟩ := H
          refine st_iconst c96_65 ?_
          refine st_iload c96_66 rfl ?_
          refine st_callt (as := [vI z1732, vI 0, vI z1480]) c96_67 cm_99 hT1483 (tf hT1483 rfl rfl) fd_6_0 rfl rfl rfl rfl (by omega) (K99 hT1483 (Stb_mono hS (by decide +kernel)) z1732 (by omega) 0 (by omega) z1480 (by omega) (d - 1) (by omega) _ (fun v h0 H => H)) (fun v1 h1734 H => ?_)
          obtain ⟨rfl, pf1737, pf1738, hT1735, hF1736⟩ := H
          have hF1739 := Fr_cp hF1484 hF1736 (by decide +kernel : Wsub W99 W96 = true)
          have e1740 := fI_bd (q := 54) hT1735 (tf hT1735 rfl rfl) fd_6_5
          refine st_goto c96_70 ?_
          refine st_iload c96_159 rfl ?_
          refine st_istore (L' := [some (.ref 54), some (vI z1688), some (vI z1481), some (vI z1688)]) c96_160 rfl rfl ?_
          refine st_iinc (L' := [some (.ref 54), some (vI z1688), some (vI (z1481 + 1)), some (vI z1688)]) c96_161 rfl rfl rfl ?_
          refine st_goto c96_164 ?_
          refine MR_weak (A := [some (.ref 54), some (vI z1688), some (vI (z1481 + 1)), none]) (Lle_s (Lle_s (Lle_s (Lle_n (Lle_0))))) ?_
          have e1741 := fI_bd (q := 54) hT1735 (tf hT1735 rfl rfl) fd_6_1
          have q1742 : fI h1734 54 1 = fI h1482 54 1 := Fr_fI hF1736 (tf hT1483 rfl rfl) (by decide +kernel)
          have ef1743 : aI h1482 55 z1480 = aI h 55 z1480 := by
            rw [(Fr_aI hL1485 (tf hT2 rfl rfl) (by decide +kernel) z1480 : aI h1482 55 z1480 = aI h1 55 z1480)]
            rw [(FUp_aI hU4 z1480 : aI h1 55 z1480 = aI h 55 z1480)]
          have ef1744 : aI h1482 55 z1688 = aI h 55 z1688 := by
            rw [(Fr_aI hL1485 (tf hT2 rfl rfl) (by decide +kernel) z1688 : aI h1482 55 z1688 = aI h1 55 z1688)]
            rw [(FUp_aI hU4 z1688 : aI h1 55 z1688 = aI h 55 z1688)]
          have rn1745 : Run1 (fun i => isL (aI h 55 i)) (fI h 54 1) z1480 z1688 := ⟨by omega, by omega, x1695, by
            by_cases c : z1688 = fI h 54 1
            · exact Or.inl c
            · exact Or.inr (by intro k; have k : (97 : Int) ≤ aI h 55 z1688 ∧ aI h 55 z1688 ≤ 122 := k; omega)⟩
          have ef1746 : aI h1482 55 z1480 = aI h 55 z1480 := by
            rw [(Fr_aI hL1485 (tf hT2 rfl rfl) (by decide +kernel) z1480 : aI h1482 55 z1480 = aI h1 55 z1480)]
            rw [(FUp_aI hU4 z1480 : aI h1 55 z1480 = aI h 55 z1480)]
          have fe1747 : aI h1482 55 = aI h 55 := funext (fun i => by
            rw [(Fr_aI hL1485 (tf hT2 rfl rfl) (by decide +kernel) i : aI h1482 55 i = aI h1 55 i)]
            rw [(FUp_aI hU4 i : aI h1 55 i = aI h 55 i)])
          have ws1748 := pf1731
          rw [fe1747] at ws1748
          exact ih1488 z1688 (z1481 + 1) h1734 (by omega) (by omega) (by omega) (CT_add (fun i => (aI_bd hT (tf (q := 55) (t := 35) hT rfl rfl) ay_35 i).1) x1492 (by omega) (by omega) (by omega) (by omega) (Or.inl ⟨(show 97 ≤ aI h 55 z1480 ∧ aI h 55 z1480 ≤ 122 by omega), rn1745, ws1748⟩) pf1738) (by omega) (by omega) (by omega) hT1735 hF1739 (Fr_cp hL1485 hF1736 (by decide +kernel))
          refine st_if_eq c96_49 (by omega) (fun k1749 => False.elim (by omega)) (fun k1750 => ?_)
          refine st_iinc (L' := [some (.ref 54), some (vI z1480), some (vI z1481), some (vI (z1688 + 1))]) c96_52 rfl rfl rfl ?_
          refine st_goto c96_55 ?_
          have ef1751 : aI h1482 55 z1688 = aI h 55 z1688 := by
            rw [(Fr_aI hL1485 (tf hT2 rfl rfl) (by decide +kernel) z1688 : aI h1482 55 z1688 = aI h1 55 z1688)]
            rw [(FUp_aI hU4 z1688 : aI h1 55 z1688 = aI h 55 z1688)]
          exact ih1691 (z1688 + 1) (by omega) (by omega) (by omega) (RunI_s (P := (fun i => isL (aI h 55 i))) x1695 (show 97 ≤ aI h 55 z1688 ∧ aI h 55 z1688 ≤ 122 by omega)) (by omega)
      have ef1752 : aI h1482 55 z1480 = aI h 55 z1480 := by
        rw [(Fr_aI hL1485 (tf hT2 rfl rfl) (by decide +kernel) z1480 : aI h1482 55 z1480 = aI h1 55 z1480)]
        rw [(FUp_aI hU4 z1480 : aI h1 55 z1480 = aI h 55 z1480)]
      exact lp1689 ((((200 : Int) - (z1480 + 1) : Int) + 1).toNat) (z1480 + 1) (by omega) (by omega) (by omega) (RunI_1 (P := (fun i => isL (aI h 55 i))) (show 97 ≤ aI h 55 z1480 ∧ aI h 55 z1480 ≤ 122 by omega)) (by omega)
  have e1753 := fI_bd (q := 54) hT2 (tf hT2 rfl rfl) fd_6_1
  have q1754 : fI h1 54 1 = fI h 54 1 := FUp_fIne hU4 (fun z => absurd z.2 (by decide))
  have e1755 := fI_bd (q := 54) hT2 (tf hT2 rfl rfl) fd_6_5
  have q1756 : fI h1 54 5 = 0 := FUp_fI hU4 (by omega) (by omega)
  exact lp1486 ((((200 : Int) - 0 : Int) + 1).toNat) 0 0 h1 (by omega) (by omega) (by omega) (CT_0 (by omega) (by omega)) (by omega) (by omega) (by omega) hT2 hF3 (Fr_rf _ _ _)
set_option maxHeartbeats 0 in
theorem K102 {S F : Int → Int} {Ln : Nat} {xs : Nat → Int32} {τ : List Nat} {h : List mE} {E : EP} (hT : TH E τ h) (pre0 : TB S F h) (d : Nat) (hd : 0 ≤ d) (Q : Option Value → List mE → Prop) (hQ : ∀ v h', (∃ z : Int, v = some (vI z) ∧ ((-2147483648) ≤ z ∧ z ≤ 2147483647) ∧ (z = 101 ∨ (fI h 54 6 < fI h 54 5 ∧ fI h 54 6 < 201)) ∧ (z = S (fI h 54 6)) ∧ h = h') → Q v h') : MR (mex Ln xs) d 102 0 [some (.ref 54)] [] h Q := by
  have e0 := fI_bd (q := 54) hT (tf hT rfl rfl) fd_6_6
  have tb := TB_at pre0 (a := fI h 54 6) e0.1
  refine st_aload c102_0 rfl ?_
  refine st_getI c102_1 hT (tf hT rfl rfl) fd_6_6 (fun e1 e2 => ?_)
  refine st_if_lt c102_4 (by omega) (fun k3 => False.elim (by omega)) (fun k4 => ?_)
  refine st_aload c102_7 rfl ?_
  refine st_getI c102_8 hT (tf hT rfl rfl) fd_6_6 (fun e5 e6 => ?_)
  refine st_aload c102_11 rfl ?_
  refine st_getI c102_12 hT (tf hT rfl rfl) fd_6_5 (fun e7 e8 => ?_)
  refine st_icmp_ge c102_15 (by omega) (by omega) (fun k9 => ?_) (fun k10 => ?_)
  refine st_iconst c102_30 ?_
  refine st_ireturn c102_32 ?_
  exact hQ _ _ ⟨101, rfl, by omega, by omega, by omega, rfl⟩
  refine st_aload c102_18 rfl ?_
  refine st_getX (u := 56) c102_19 hT (tf hT rfl rfl) fd_6_2 rfl ?_
  refine st_aload c102_22 rfl ?_
  refine st_getI c102_23 hT (tf hT rfl rfl) fd_6_6 (fun e11 e12 => ?_)
  refine st_iald c102_26 hT (tf hT rfl rfl) ay_36 (by omega) (fun e13 e14 => ?_)
  refine st_goto c102_27 ?_
  refine st_ireturn c102_32 ?_
  exact hQ _ _ ⟨aI h 56 (fI h 54 6), rfl, by omega, by omega, by omega, rfl⟩
def W103a : List (Nat × Nat) := [(6, 6)]
set_option maxHeartbeats 0 in
theorem K103a {S F : Int → Int} {Ln : Nat} {xs : Nat → Int32} {τ : List Nat} {h : List mE} {E : EP} (hT : TH E τ h) (hS : Stb E W103a) (p1 : Int) (hp1 : 0 ≤ p1 ∧ p1 ≤ 100) (pre0 : TB S F h) (d : Nat) (hd : 1 ≤ d) (Q : Option Value → List mE → Prop) (hQ : ∀ v h', ((v = some (vI 0) ∧ (0 ≤ fI h 54 7 ∨ S (fI h 54 6) ≠ p1) ∧ (fI h' 54 6=fI h 54 6) ∧ (fI h' 54 7=fI h 54 7) ∧ TH E τ h' ∧ Fr τ W103a h h') ∨ (v = some (vI 1) ∧ (S (fI h 54 6) = p1) ∧ (fI h 54 7 < 0) ∧ (fI h' 54 6=fI h 54 6+1) ∧ (fI h' 54 7=fI h 54 7) ∧ TH E τ h' ∧ Fr τ W103a h h')) → Q v h') : MR (mex Ln xs) d 103 0 [some (.ref 54), some (vI p1)] [] h Q := by
  have hF := Fr_rf τ W103a h
  have e0 := fI_bd (q := 54) hT (tf hT rfl rfl) fd_6_6
  have tb := TB_at pre0 (a := fI h 54 6) e0.1
  refine st_aload c103_0 rfl ?_
  refine st_getI c103_1 hT (tf hT rfl rfl) fd_6_7 (fun e1 e2 => ?_)
  refine st_if_ge c103_4 (by omega) (fun k3 => ?_) (fun k4 => ?_)
  refine st_iconst c103_15 ?_
  refine st_zreturn c103_16 (by omega) ?_
  have e5 := fI_bd (q := 54) hT (tf hT rfl rfl) fd_6_6
  exact hQ _ _ (Or.inl ⟨rfl, by omega, by omega, by omega, hT, hF⟩)
  refine st_aload c103_7 rfl ?_
  have e6 := fI_bd (q := 54) hT (tf hT rfl rfl) fd_6_6
  have e7 := fI_bd (q := 54) hT (tf hT rfl rfl) fd_6_5
  refine st_callt (as := []) c103_8 cm_102 hT (tf hT rfl rfl) fd_6_0 rfl rfl rfl rfl (by omega) (K102 hT pre0 (d - 1) (by omega) _ (fun v h0 H => H)) (fun v1 h1 H => ?_)
  obtain ⟨z10, rfl, b11, pf8, pf9, rfl⟩ := H
  refine st_iload c103_11 rfl ?_
  refine st_icmp_eq c103_12 (by omega) (by omega) (fun k12 => ?_) (fun k13 => ?_)
  refine st_aload c103_17 rfl ?_
  refine st_dup c103_18 rfl ?_
  refine st_getI c103_19 hT (tf hT rfl rfl) fd_6_6 (fun e14 e15 => ?_)
  refine st_iconst c103_22 ?_
  refine st_iadd c103_23 ?_
  refine st_putI c103_24 hT (tf hT rfl rfl) fd_6_6 (by omega) (by omega) (Ext_rf _) hS hF (by decide +kernel) (fun h16 hT17 hF18 hU19 => ?_)
  refine st_iconst c103_27 ?_
  refine st_zreturn c103_28 (by omega) ?_
  have e20 := fI_bd (q := 54) hT17 (tf hT17 rfl rfl) fd_6_6
  have q21 : fI h16 54 6 = (fI h 54 6) + 1 := FUp_fI hU19 (by omega) (by omega)
  have e22 := fI_bd (q := 54) hT17 (tf hT17 rfl rfl) fd_6_7
  have q23 : fI h16 54 7 = fI h 54 7 := FUp_fIne hU19 (fun z => absurd z.2 (by decide))
  exact hQ _ _ (Or.inr ⟨rfl, by omega, by omega, by omega, by omega, hT17, hF18⟩)
  refine st_iconst c103_15 ?_
  refine st_zreturn c103_16 (by omega) ?_
  exact hQ _ _ (Or.inl ⟨rfl, by omega, by omega, by omega, hT, hF⟩)
def W103b : List (Nat × Nat) := [(6, 6)]
set_option maxHeartbeats 0 in
theorem K103b {S F : Int → Int} {Ln : Nat} {xs : Nat → Int32} {τ : List Nat} {h : List mE} {E : EP} (hT : TH E τ h) (hS : Stb E W103b) (p1 : Int) (hp1 : 102 ≤ p1 ∧ p1 ≤ 2000) (pre0 : TB S F h) (d : Nat) (hd : 1 ≤ d) (Q : Option Value → List mE → Prop) (hQ : ∀ v h', ((v = some (vI 0) ∧ (0 ≤ fI h 54 7 ∨ S (fI h 54 6) ≠ p1) ∧ (fI h' 54 6=fI h 54 6) ∧ (fI h' 54 7=fI h 54 7) ∧ TH E τ h' ∧ Fr τ W103b h h') ∨ (v = some (vI 1) ∧ (S (fI h 54 6) = p1) ∧ (fI h 54 7 < 0) ∧ (fI h' 54 6=fI h 54 6+1) ∧ (fI h' 54 7=fI h 54 7) ∧ TH E τ h' ∧ Fr τ W103b h h')) → Q v h') : MR (mex Ln xs) d 103 0 [some (.ref 54), some (vI p1)] [] h Q := by
  have hF := Fr_rf τ W103b h
  have e0 := fI_bd (q := 54) hT (tf hT rfl rfl) fd_6_6
  have tb := TB_at pre0 (a := fI h 54 6) e0.1
  refine st_aload c103_0 rfl ?_
  refine st_getI c103_1 hT (tf hT rfl rfl) fd_6_7 (fun e1 e2 => ?_)
  refine st_if_ge c103_4 (by omega) (fun k3 => ?_) (fun k4 => ?_)
  refine st_iconst c103_15 ?_
  refine st_zreturn c103_16 (by omega) ?_
  have e5 := fI_bd (q := 54) hT (tf hT rfl rfl) fd_6_6
  exact hQ _ _ (Or.inl ⟨rfl, by omega, by omega, by omega, hT, hF⟩)
  refine st_aload c103_7 rfl ?_
  have e6 := fI_bd (q := 54) hT (tf hT rfl rfl) fd_6_6
  have e7 := fI_bd (q := 54) hT (tf hT rfl rfl) fd_6_5
  refine st_callt (as := []) c103_8 cm_102 hT (tf hT rfl rfl) fd_6_0 rfl rfl rfl rfl (by omega) (K102 hT pre0 (d - 1) (by omega) _ (fun v h0 H => H)) (fun v1 h1 H => ?_)
  obtain ⟨z10, rfl, b11, pf8, pf9, rfl⟩ := H
  refine st_iload c103_11 rfl ?_
  refine st_icmp_eq c103_12 (by omega) (by omega) (fun k12 => ?_) (fun k13 => ?_)
  refine st_aload c103_17 rfl ?_
  refine st_dup c103_18 rfl ?_
  refine st_getI c103_19 hT (tf hT rfl rfl) fd_6_6 (fun e14 e15 => ?_)
  refine st_iconst c103_22 ?_
  refine st_iadd c103_23 ?_
  refine st_putI c103_24 hT (tf hT rfl rfl) fd_6_6 (by omega) (by omega) (Ext_rf _) hS hF (by decide +kernel) (fun h16 hT17 hF18 hU19 => ?_)
  refine st_iconst c103_27 ?_
  refine st_zreturn c103_28 (by omega) ?_
  have e20 := fI_bd (q := 54) hT17 (tf hT17 rfl rfl) fd_6_6
  have q21 : fI h16 54 6 = (fI h 54 6) + 1 := FUp_fI hU19 (by omega) (by omega)
  have e22 := fI_bd (q := 54) hT17 (tf hT17 rfl rfl) fd_6_7
  have q23 : fI h16 54 7 = fI h 54 7 := FUp_fIne hU19 (fun z => absurd z.2 (by decide))
  exact hQ _ _ (Or.inr ⟨rfl, by omega, by omega, by omega, by omega, hT17, hF18⟩)
  refine st_iconst c103_15 ?_
  refine st_zreturn c103_16 (by omega) ?_
  exact hQ _ _ (Or.inl ⟨rfl, by omega, by omega, by omega, hT, hF⟩)
def W105 : List (Nat × Nat) := [(6, 7)]
set_option maxHeartbeats 0 in
theorem K105 {S F : Int → Int} {Ln : Nat} {xs : Nat → Int32} {τ : List Nat} {h : List mE} {E : EP} (hT : TH E τ h) (hS : Stb E W105) (pre0 : TB S F h) (d : Nat) (hd : 0 ≤ d) (Q : Option Value → List mE → Prop) (hQ : ∀ v h', (v = none ∧ (0≤fI h' 54 7) ∧ (FL F h h') ∧ TH E τ h' ∧ Fr τ W105 h h') → Q v h') : MR (mex Ln xs) d 105 0 [some (.ref 54)] [] h Q := by
  have hF := Fr_rf τ W105 h
  have e0 := fI_bd (q := 54) hT (tf hT rfl rfl) fd_6_6
  have tb := TB_at pre0 (a := fI h 54 6) e0.1
  refine st_aload c105_0 rfl ?_
  refine st_getI c105_1 hT (tf hT rfl rfl) fd_6_7 (fun e1 e2 => ?_)
  refine st_if_ge c105_4 (by omega) (fun k3 => ?_) (fun k4 => ?_)
  refine st_return c105_45 ?_
  have e5 := fI_bd (q := 54) hT (tf hT rfl rfl) fd_6_6
  exact hQ _ _ ⟨rfl, by omega, ⟨by omega, by omega⟩, hT, hF⟩
  refine st_aload c105_7 rfl ?_
  refine st_aload c105_8 rfl ?_
  refine st_getI c105_9 hT (tf hT rfl rfl) fd_6_6 (fun e6 e7 => ?_)
  refine st_if_lt c105_12 (by omega) (fun k8 => False.elim (by omega)) (fun k9 => ?_)
  refine st_aload c105_15 rfl ?_
  refine st_getI c105_16 hT (tf hT rfl rfl) fd_6_6 (fun e10 e11 => ?_)
  refine st_aload c105_19 rfl ?_
  refine st_getI c105_20 hT (tf hT rfl rfl) fd_6_5 (fun e12 e13 => ?_)
  refine st_icmp_ge c105_23 (by omega) (by omega) (fun k14 => ?_) (fun k15 => ?_)
  refine st_aload c105_38 rfl ?_
  refine st_getI c105_39 hT (tf hT rfl rfl) fd_6_1 (fun e16 e17 => ?_)
  refine st_putI c105_42 hT (tf hT rfl rfl) fd_6_7 (by omega) (by omega) (Ext_rf _) hS hF (by decide +kernel) (fun h18 hT19 hF20 hU21 => ?_)
  refine st_return c105_45 ?_
  have e22 := fI_bd (q := 54) hT19 (tf hT19 rfl rfl) fd_6_7
  have q23 : fI h18 54 7 = fI h 54 1 := FUp_fI hU21 (by omega) (by omega)
  have e24 := fI_bd (q := 54) hT19 (tf hT19 rfl rfl) fd_6_6
  have q25 : fI h18 54 6 = fI h 54 6 := FUp_fIne hU21 (fun z => absurd z.2 (by decide))
  exact hQ _ _ ⟨rfl, by omega, ⟨by omega, by omega⟩, hT19, hF20⟩
  refine st_aload c105_26 rfl ?_
  refine st_getX (u := 58) c105_27 hT (tf hT rfl rfl) fd_6_4 rfl ?_
  refine st_aload c105_30 rfl ?_
  refine st_getI c105_31 hT (tf hT rfl rfl) fd_6_6 (fun e26 e27 => ?_)
  refine st_iald c105_34 hT (tf hT rfl rfl) ay_38 (by omega) (fun e28 e29 => ?_)
  refine st_goto c105_35 ?_
  refine st_putI c105_42 hT (tf hT rfl rfl) fd_6_7 (by omega) (by omega) (Ext_rf _) hS hF (by decide +kernel) (fun h30 hT31 hF32 hU33 => ?_)
  refine st_return c105_45 ?_
  have e34 := fI_bd (q := 54) hT31 (tf hT31 rfl rfl) fd_6_7
  have q35 : fI h30 54 7 = aI h 58 (fI h 54 6) := FUp_fI hU33 (by omega) (by omega)
  have e36 := fI_bd (q := 54) hT31 (tf hT31 rfl rfl) fd_6_6
  have q37 : fI h30 54 6 = fI h 54 6 := FUp_fIne hU33 (fun z => absurd z.2 (by decide))
  exact hQ _ _ ⟨rfl, by omega, ⟨by omega, by omega⟩, hT31, hF32⟩
def W104a : List (Nat × Nat) := [(6, 6), (6, 7)]
set_option maxHeartbeats 0 in
theorem K104a {S F : Int → Int} {Ln : Nat} {xs : Nat → Int32} {τ : List Nat} {h : List mE} {E : EP} (hT : TH E τ h) (hS : Stb E W104a) (p1 : Int) (hp1 : 0 ≤ p1 ∧ p1 ≤ 100) (pre0 : TB S F h) (d : Nat) (hd : 1 ≤ d) (Q : Option Value → List mE → Prop) (hQ : ∀ v h', (v = none ∧ (fI h 54 7 < 0 ∨ 0 ≤ fI h' 54 7) ∧ (fI h 54 6 ≤ fI h' 54 6) ∧ (ND S F p1 h h') ∧ TH E τ h' ∧ Fr τ W104a h h') → Q v h') : MR (mex Ln xs) d 104 0 [some (.ref 54), some (vI p1)] [] h Q := by
  have hF := Fr_rf τ W104a h
  have e0 := fI_bd (q := 54) hT (tf hT rfl rfl) fd_6_6
  have tb := TB_at pre0 (a := fI h 54 6) e0.1
  refine st_aload c104_0 rfl ?_
  have e1 := fI_bd (q := 54) hT (tf hT rfl rfl) fd_6_6
  have e2 := fI_bd (q := 54) hT (tf hT rfl rfl) fd_6_5
  refine st_callt (as := []) c104_1 cm_102 hT (tf hT rfl rfl) fd_6_0 rfl rfl rfl rfl (by omega) (K102 hT pre0 (d - 1) (by omega) _ (fun v h0 H => H)) (fun v1 h1 H => ?_)
  obtain ⟨z5, rfl, b6, pf3, pf4, rfl⟩ := H
  refine st_iload c104_4 rfl ?_
  refine st_icmp_ne c104_5 (by omega) (by omega) (fun k7 => ?_) (fun k8 => ?_)
  refine st_aload c104_21 rfl ?_
  refine st_callt (as := []) c104_22 cm_105 hT (tf hT rfl rfl) fd_6_0 rfl rfl rfl rfl (by omega) (K105 hT (Stb_mono hS (by decide +kernel)) pre0 (d - 1) (by omega) _ (fun v h0 H => H)) (fun v1 h9 H => ?_)
  obtain ⟨rfl, pf12, pf13, hT10, hF11⟩ := H
  have hF14 := Fr_cp hF hF11 (by decide +kernel : Wsub W105 W104a = true)
  have e15 := fI_bd (q := 54) hT10 (tf hT10 rfl rfl) fd_6_7
  refine st_return c104_25 ?_
  have e16 := fI_bd (q := 54) hT10 (tf hT10 rfl rfl) fd_6_6
  have q17 : fI h9 54 6 = fI h 54 6 := Fr_fI hF11 (tf hT rfl rfl) (by decide +kernel)
  exact hQ _ _ ⟨rfl, by omega, by omega, Or.inr ⟨by omega, pf13⟩, hT10, hF14⟩
  refine st_aload c104_8 rfl ?_
  refine st_dup c104_9 rfl ?_
  refine st_getI c104_10 hT (tf hT rfl rfl) fd_6_6 (fun e18 e19 => ?_)
  refine st_iconst c104_13 ?_
  refine st_iadd c104_14 ?_
  refine st_putI c104_15 hT (tf hT rfl rfl) fd_6_6 (by omega) (by omega) (Ext_rf _) hS hF (by decide +kernel) (fun h20 hT21 hF22 hU23 => ?_)
  refine st_goto c104_18 ?_
  refine st_return c104_25 ?_
  have e24 := fI_bd (q := 54) hT21 (tf hT21 rfl rfl) fd_6_7
  have q25 : fI h20 54 7 = fI h 54 7 := FUp_fIne hU23 (fun z => absurd z.2 (by decide))
  have e26 := fI_bd (q := 54) hT21 (tf hT21 rfl rfl) fd_6_6
  have q27 : fI h20 54 6 = (fI h 54 6) + 1 := FUp_fI hU23 (by omega) (by omega)
  exact hQ _ _ ⟨rfl, by omega, by omega, Or.inl ⟨by omega, by omega, by omega⟩, hT21, hF22⟩
def W104b : List (Nat × Nat) := [(6, 6), (6, 7)]
set_option maxHeartbeats 0 in
theorem K104b {S F : Int → Int} {Ln : Nat} {xs : Nat → Int32} {τ : List Nat} {h : List mE} {E : EP} (hT : TH E τ h) (hS : Stb E W104b) (p1 : Int) (hp1 : 102 ≤ p1 ∧ p1 ≤ 2000) (pre0 : TB S F h) (d : Nat) (hd : 1 ≤ d) (Q : Option Value → List mE → Prop) (hQ : ∀ v h', (v = none ∧ (fI h 54 7 < 0 ∨ 0 ≤ fI h' 54 7) ∧ (fI h 54 6 ≤ fI h' 54 6) ∧ (ND S F p1 h h') ∧ TH E τ h' ∧ Fr τ W104b h h') → Q v h') : MR (mex Ln xs) d 104 0 [some (.ref 54), some (vI p1)] [] h Q := by
  have hF := Fr_rf τ W104b h
  have e0 := fI_bd (q := 54) hT (tf hT rfl rfl) fd_6_6
  have tb := TB_at pre0 (a := fI h 54 6) e0.1
  refine st_aload c104_0 rfl ?_
  have e1 := fI_bd (q := 54) hT (tf hT rfl rfl) fd_6_6
  have e2 := fI_bd (q := 54) hT (tf hT rfl rfl) fd_6_5
  refine st_callt (as := []) c104_1 cm_102 hT (tf hT rfl rfl) fd_6_0 rfl rfl rfl rfl (by omega) (K102 hT pre0 (d - 1) (by omega) _ (fun v h0 H => H)) (fun v1 h1 H => ?_)
  obtain ⟨z5, rfl, b6, pf3, pf4, rfl⟩ := H
  refine st_iload c104_4 rfl ?_
  refine st_icmp_ne c104_5 (by omega) (by omega) (fun k7 => ?_) (fun k8 => ?_)
  refine st_aload c104_21 rfl ?_
  refine st_callt (as := []) c104_22 cm_105 hT (tf hT rfl rfl) fd_6_0 rfl rfl rfl rfl (by omega) (K105 hT (Stb_mono hS (by decide +kernel)) pre0 (d - 1) (by omega) _ (fun v h0 H => H)) (fun v1 h9 H => ?_)
  obtain ⟨rfl, pf12, pf13, hT10, hF11⟩ := H
  have hF14 := Fr_cp hF hF11 (by decide +kernel : Wsub W105 W104b = true)
  have e15 := fI_bd (q := 54) hT10 (tf hT10 rfl rfl) fd_6_7
  refine st_return c104_25 ?_
  have e16 := fI_bd (q := 54) hT10 (tf hT10 rfl rfl) fd_6_6
  have q17 : fI h9 54 6 = fI h 54 6 := Fr_fI hF11 (tf hT rfl rfl) (by decide +kernel)
  exact hQ _ _ ⟨rfl, by omega, by omega, Or.inr ⟨by omega, pf13⟩, hT10, hF14⟩
  refine st_aload c104_8 rfl ?_
  refine st_dup c104_9 rfl ?_
  refine st_getI c104_10 hT (tf hT rfl rfl) fd_6_6 (fun e18 e19 => ?_)
  refine st_iconst c104_13 ?_
  refine st_iadd c104_14 ?_
  refine st_putI c104_15 hT (tf hT rfl rfl) fd_6_6 (by omega) (by omega) (Ext_rf _) hS hF (by decide +kernel) (fun h20 hT21 hF22 hU23 => ?_)
  refine st_goto c104_18 ?_
  refine st_return c104_25 ?_
  have e24 := fI_bd (q := 54) hT21 (tf hT21 rfl rfl) fd_6_7
  have q25 : fI h20 54 7 = fI h 54 7 := FUp_fIne hU23 (fun z => absurd z.2 (by decide))
  have e26 := fI_bd (q := 54) hT21 (tf hT21 rfl rfl) fd_6_6
  have q27 : fI h20 54 6 = (fI h 54 6) + 1 := FUp_fI hU23 (by omega) (by omega)
  exact hQ _ _ ⟨rfl, by omega, by omega, Or.inl ⟨by omega, by omega, by omega⟩, hT21, hF22⟩
def W106 : List (Nat × Nat) := [(6, 6), (6, 7)]
set_option maxHeartbeats 0 in
theorem K106 {S F : Int → Int} {Ln : Nat} {xs : Nat → Int32} {τ : List Nat} {h : List mE} {E : EP} (hT : TH E τ h) (hS : Stb E W106) (pre0 : TB S F h) (d : Nat) (hd : 1 ≤ d) (Q : Option Value → List mE → Prop) (hQ : ∀ v h', (∃ z : Int, v = some (vI z) ∧ ((-2147483648) ≤ z ∧ z ≤ 2147483647) ∧ (0 ≤ fI h' 54 7 ∨ fI h 54 6 + 1 ≤ fI h' 54 6) ∧ (fI h 54 7 < 0 ∨ 0 ≤ fI h' 54 7) ∧ (ND S F 100 h h') ∧ TH E τ h' ∧ Fr τ W106 h h') → Q v h') : MR (mex Ln xs) d 106 0 [some (.ref 54)] [] h Q := by
  have hF := Fr_rf τ W106 h
  have e0 := fI_bd (q := 54) hT (tf hT rfl rfl) fd_6_6
  have tb := TB_at pre0 (a := fI h 54 6) e0.1
  refine st_aload c106_0 rfl ?_
  have e1 := fI_bd (q := 54) hT (tf hT rfl rfl) fd_6_6
  have e2 := fI_bd (q := 54) hT (tf hT rfl rfl) fd_6_5
  refine st_callt (as := []) c106_1 cm_102 hT (tf hT rfl rfl) fd_6_0 rfl rfl rfl rfl (by omega) (K102 hT pre0 (d - 1) (by omega) _ (fun v h0 H => H)) (fun v1 h1 H => ?_)
  obtain ⟨z5, rfl, b6, pf3, pf4, rfl⟩ := H
  refine st_iconst c106_4 ?_
  refine st_icmp_ne c106_6 (by omega) (by omega) (fun k7 => ?_) (fun k8 => ?_)
  refine st_aload c106_21 rfl ?_
  refine st_callt (as := []) c106_22 cm_105 hT (tf hT rfl rfl) fd_6_0 rfl rfl rfl rfl (by omega) (K105 hT (Stb_mono hS (by decide +kernel)) pre0 (d - 1) (by omega) _ (fun v h0 H => H)) (fun v1 h9 H => ?_)
  obtain ⟨rfl, pf12, pf13, hT10, hF11⟩ := H
  have hF14 := Fr_cp hF hF11 (by decide +kernel : Wsub W105 W106 = true)
  have e15 := fI_bd (q := 54) hT10 (tf hT10 rfl rfl) fd_6_7
  refine st_iconst c106_25 ?_
  refine st_ireturn c106_26 ?_
  have e16 := fI_bd (q := 54) hT10 (tf hT10 rfl rfl) fd_6_6
  have q17 : fI h9 54 6 = fI h 54 6 := Fr_fI hF11 (tf hT rfl rfl) (by decide +kernel)
  exact hQ _ _ ⟨0, rfl, by omega, by omega, by omega, Or.inr ⟨by omega, pf13⟩, hT10, hF14⟩
  refine st_aload c106_9 rfl ?_
  refine st_getI c106_10 hT (tf hT rfl rfl) fd_6_6 (fun e18 e19 => ?_)
  refine st_aload c106_13 rfl ?_
  refine st_getX (u := 57) c106_14 hT (tf hT rfl rfl) fd_6_3 rfl ?_
  refine st_alenC (z := 201) c106_17 hT (tf hT rfl rfl) ay_37 rfl rfl rfl ?_
  refine st_icmp_lt c106_18 (by omega) (by omega) (fun k20 => ?_) (fun k21 => ?_)
  refine st_aload c106_27 rfl ?_
  refine st_dup c106_28 rfl ?_
  refine st_getI c106_29 hT (tf hT rfl rfl) fd_6_6 (fun e22 e23 => ?_)
  refine st_iconst c106_32 ?_
  refine st_iadd c106_33 ?_
  refine st_putI c106_34 hT (tf hT rfl rfl) fd_6_6 (by omega) (by omega) (Ext_rf _) hS hF (by decide +kernel) (fun h24 hT25 hF26 hU27 => ?_)
  refine st_aload c106_37 rfl ?_
  refine st_getX (u := 57) c106_38 hT25 (tf hT25 rfl rfl) fd_6_3 rfl ?_
  refine st_aload c106_41 rfl ?_
  refine st_getI c106_42 hT25 (tf hT25 rfl rfl) fd_6_6 (fun e28 e29 => ?_)
  have q30 : fI h24 54 6 = (fI h 54 6) + 1 := FUp_fI hU27 (by omega) (by omega)
  refine st_iconst c106_45 ?_
  refine st_isub c106_46 ?_
  refine st_iald c106_47 hT25 (tf hT25 rfl rfl) ay_37 (by omega) (fun e31 e32 => ?_)
  have q33 : aI h24 57 ((fI h24 54 6) - 1) = aI h 57 ((fI h24 54 6) - 1) := FUp_aI hU27 ((fI h24 54 6) - 1)
  refine st_ireturn c106_48 ?_
  have e34 := fI_bd (q := 54) hT25 (tf hT25 rfl rfl) fd_6_7
  have q35 : fI h24 54 7 = fI h 54 7 := FUp_fIne hU27 (fun z => absurd z.2 (by decide))
  exact hQ _ _ ⟨aI h24 57 ((fI h24 54 6) - 1), rfl, by omega, by omega, by omega, Or.inl ⟨by omega, by omega, by omega⟩, hT25, hF26⟩
  refine st_aload c106_21 rfl ?_
  refine st_callt (as := []) c106_22 cm_105 hT (tf hT rfl rfl) fd_6_0 rfl rfl rfl rfl (by omega) (K105 hT (Stb_mono hS (by decide +kernel)) pre0 (d - 1) (by omega) _ (fun v h0 H => H)) (fun v1 h36 H => ?_)
  obtain ⟨rfl, pf39, pf40, hT37, hF38⟩ := H
  have hF41 := Fr_cp hF hF38 (by decide +kernel : Wsub W105 W106 = true)
  have e42 := fI_bd (q := 54) hT37 (tf hT37 rfl rfl) fd_6_7
  refine st_iconst c106_25 ?_
  refine st_ireturn c106_26 ?_
  have e43 := fI_bd (q := 54) hT37 (tf hT37 rfl rfl) fd_6_6
  have q44 : fI h36 54 6 = fI h 54 6 := Fr_fI hF38 (tf hT rfl rfl) (by decide +kernel)
  exact hQ _ _ ⟨0, rfl, by omega, by omega, by omega, Or.inr ⟨by omega, pf40⟩, hT37, hF41⟩
def W107 : List (Nat × Nat) := [(6, 9), (39, 0)]
set_option maxHeartbeats 0 in
theorem K107 {Ln : Nat} {xs : Nat → Int32} {τ : List Nat} {h : List mE} {E : EP} (hT : TH E τ h) (hS : Stb E W107) (p1 : Int) (hp1 : (-2147483648) ≤ p1 ∧ p1 ≤ 2147483647) (d : Nat) (hd : 0 ≤ d) (Q : Option Value → List mE → Prop) (hQ : ∀ v h', (v = none ∧ (fI h 54 9≤fI h' 54 9) ∧ (fI h 54 9 = 800 ∨ fI h' 54 9 = fI h 54 9 + 1) ∧ (fI h' 54 9 = fI h 54 9 + 1 ∨ fI h' 54 9 = 800) ∧ (∀ i : Int, 0 ≤ i → i < fI h 54 9 → aI h' 59 i = aI h 59 i) ∧ TH E τ h' ∧ Fr τ W107 h h') → Q v h') : MR (mex Ln xs) d 107 0 [some (.ref 54), some (vI p1)] [] h Q := by
  have hF := Fr_rf τ W107 h
  refine st_aload c107_0 rfl ?_
  refine st_getI c107_1 hT (tf hT rfl rfl) fd_6_9 (fun e1 e2 => ?_)
  refine st_aload c107_4 rfl ?_
  refine st_getX (u := 59) c107_5 hT (tf hT rfl rfl) fd_6_8 rfl ?_
  refine st_alenC (z := 800) c107_8 hT (tf hT rfl rfl) ay_39 rfl rfl rfl ?_
  refine st_icmp_ge c107_9 (by omega) (by omega) (fun k3 => ?_) (fun k4 => ?_)
  refine st_return c107_32 ?_
  have fr5 : ∀ i : Int, 0 ≤ i → i < fI h 54 9 → aI h 59 i = aI h 59 i := fun i a b => rfl
  exact hQ _ _ ⟨rfl, by omega, by omega, by omega, fr5, hT, hF⟩
  refine st_aload c107_12 rfl ?_
  refine st_getX (u := 59) c107_13 hT (tf hT rfl rfl) fd_6_8 rfl ?_
  refine st_aload c107_16 rfl ?_
  refine st_getI c107_17 hT (tf hT rfl rfl) fd_6_9 (fun e6 e7 => ?_)
  refine st_iload c107_20 rfl ?_
  refine st_iast c107_21 hT (tf hT rfl rfl) ay_39 (by omega) (by omega) (by omega) (Ext_rf _) hS hF (by decide +kernel) (fun h8 hT9 hF10 hU11 => ?_)
  refine st_aload c107_22 rfl ?_
  refine st_dup c107_23 rfl ?_
  refine st_getI c107_24 hT9 (tf hT9 rfl rfl) fd_6_9 (fun e12 e13 => ?_)
  have q14 : fI h8 54 9 = fI h 54 9 := AUp_fI hU11
  refine st_iconst c107_27 ?_
  refine st_iadd c107_28 ?_
  refine st_putI c107_29 hT9 (tf hT9 rfl rfl) fd_6_9 (by omega) (by omega) (Ext_rf _) hS hF10 (by decide +kernel) (fun h15 hT16 hF17 hU18 => ?_)
  refine st_return c107_32 ?_
  have e19 := fI_bd (q := 54) hT16 (tf hT16 rfl rfl) fd_6_9
  have q20 : fI h15 54 9 = (fI h8 54 9) + 1 := FUp_fI hU18 (by omega) (by omega)
  have fr21 : ∀ i : Int, 0 ≤ i → i < fI h 54 9 → aI h15 59 i = aI h 59 i := fun i a b => ((FUp_aI hU18 i)).trans (((AUp_aI hU11 (by omega) (by omega) (by omega) a).trans (if_neg (by omega))))
  exact hQ _ _ ⟨rfl, by omega, by omega, by omega, fr21, hT16, hF17⟩
