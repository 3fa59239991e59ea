/-! THE LAW'S LOOP -/
def LR (h : List mE) : Prop := fI h 6 3 = fI h 64 2 ∧ fI h 4 0 = fI h 64 1 ∧ fI h 4 5 = fI h 64 7 ∧ fI h 4 10 = fI h 64 45 ∧ fI h 4 12 = fI h 64 48 ∧ fI h 4 7 = fI h 64 15 ∧ fI h 39 3 = fI h 64 41 ∧ fI h 54 1 = fI h 64 77 ∧ fI h 60 1 = fI h 64 78
def LI (τ : List Nat) (h : List mE) : Prop := TH Tr τ h ∧ I1 τ h ∧ I2 τ h ∧ I3 h ∧ I4 h ∧ I6 h ∧ I8 h ∧ I9 h ∧ IA h ∧ IB h ∧ IC h ∧ ID h ∧ IE h ∧ (fI h 64 32 ≤ fI h 64 15 + fI h 64 33) ∧ LR h
def RO (τ : List Nat) (n : Nat) : Prop := ∃ acc : List Nat, τ = tau0 ++ acc ∧ acc.length ≤ 6 * n ∧ acc.all dyT = true
theorem RO_add {τ ts : List Nat} {n : Nat} (h : RO τ n) (hg : gsT ts = true) : RO (τ ++ ts) (n + 1) := by
  obtain ⟨acc, rfl, h1, h2⟩ := h
  simp only [gsT, Bool.and_eq_true] at hg
  have h3 := Nat.le_of_ble_eq_true hg.1
  refine ⟨acc ++ ts, by rw [List.append_assoc], by rw [List.length_append]; omega, by rw [List.all_append, h2, hg.2]; rfl⟩
theorem RO_mono {τ : List Nat} {n k : Nat} (h : RO τ n) (hk : n ≤ k) : RO τ k := by
  obtain ⟨acc, e, h1, h2⟩ := h
  exact ⟨acc, e, by omega, h2⟩
set_option maxHeartbeats 0 in
theorem law_loop {Ln : Nat} {xs : Nat → Int32} (hLn : (Ln : Int) ≤ 3072) : ∀ (n k : Nat) (τ : List Nat) (h : List mE) (hL : LI τ h) (hR : RO τ k) (i : Int) (hi : i = 6 * (k : Int)) (hn : (Ln : Int) < 6 * (k : Int) + 6 * (n : Int) + 6) (hk : k ≤ 512) (d : Nat) (hd : 91 ≤ d), MR (mex Ln xs) d 292 18 [some (.ref 0), some (.ref 4), some (.ref 64), some (vI i)] [] h (fun v h' => v = some (vI 1) ∧ ∃ τ' : List Nat, TH Tr τ' h' ∧ RO τ' 512) := by
  intro n
  induction n with
  | zero =>
    intro k τ h hL hR i hi hn hk d hd
    refine st_iload c292_18 rfl ?_
    refine st_aload c292_19 rfl ?_
    refine st_xlen c292_20 hLn ?_
    refine st_iconst c292_21 ?_
    refine st_isub c292_23 ?_
    refine st_icmp_gt c292_24 (by omega) (by omega) (fun k1 => ?_) (fun k2 => False.elim (by omega))
    refine st_iconst c292_1870 ?_
    refine st_zreturn c292_1871 (by omega) ?_
    exact ⟨rfl, τ, hL.1, RO_mono hR hk⟩
  | succ n ih =>
    intro k τ h hL hR i hi hn hk d hd
    refine st_iload c292_18 rfl ?_
    refine st_aload c292_19 rfl ?_
    refine st_xlen c292_20 hLn ?_
    refine st_iconst c292_21 ?_
    refine st_isub c292_23 ?_
    refine st_icmp_gt c292_24 (by omega) (by omega) (fun k1 => ?_) (fun k2 => ?_)
    · refine st_iconst c292_1870 ?_
      refine st_zreturn c292_1871 (by omega) ?_
      exact ⟨rfl, τ, hL.1, RO_mono hR hk⟩
    · obtain ⟨hT, i1, i2, i3, i4, i6, i8, i9, iA, iB, iC, iD, iE, i5, hr⟩ := hL
      have tail : ∀ (τ' : List Nat) (h' : List mE), (∃ ts : List Nat, τ' = τ ++ ts ∧ gsT ts = true) → TH Tr τ' h' → I1 τ' h' → I2 τ' h' → I3 h' → I4 h' → I6 h' → I8 h' → I9 h' → IA h' → IB h' → IC h' → ID h' → IE h' → (fI h' 64 32 ≤ fI h' 64 15 + fI h' 64 33) → LR h' → MR (mex Ln xs) d 292 1864 [some (.ref 0), some (.ref 4), some (.ref 64), some (vI i)] [] h' (fun v h' => v = some (vI 1) ∧ ∃ τ' : List Nat, TH Tr τ' h' ∧ RO τ' 512) := by
        intro τ' h' hts a0 a1 a2 a3 a4 a6 a8 a9 aA aB aC aD aE a5 a7
        obtain ⟨ts, rfl, hg⟩ := hts
        refine st_iinc (L' := [some (.ref 0), some (.ref 4), some (.ref 64), some (vI (i + 6))]) c292_1864 rfl rfl rfl ?_
        refine st_goto c292_1867 ?_
        exact ih (k + 1) (τ ++ ts) h' ⟨a0, a1, a2, a3, a4, a6, a8, a9, aA, aB, aC, aD, aE, a5, a7⟩ (RO_add hR hg) (i + 6) (by omega) (by omega) (by omega) d hd
      refine st_aload c292_27 rfl ?_
      refine st_iload c292_28 rfl ?_
      refine st_sld c292_29 (by omega) (fun e1 e2 => ?_)
      refine st_iconst c292_30 ?_
      refine st_iandr c292_32 (by omega) (fun w e3 e4 => ?_)
      rcases (by omega : (w < 0 ∨ 47 < w) ∨ w = 0 ∨ w = 1 ∨ w = 2 ∨ w = 3 ∨ w = 4 ∨ w = 5 ∨ w = 6 ∨ w = 7 ∨ w = 8 ∨ w = 9 ∨ w = 10 ∨ w = 11 ∨ w = 12 ∨ w = 13 ∨ w = 14 ∨ w = 15 ∨ w = 16 ∨ w = 17 ∨ w = 18 ∨ w = 19 ∨ w = 20 ∨ w = 21 ∨ w = 22 ∨ w = 23 ∨ w = 24 ∨ w = 25 ∨ w = 26 ∨ w = 27 ∨ w = 28 ∨ w = 29 ∨ w = 30 ∨ w = 31 ∨ w = 32 ∨ w = 33 ∨ w = 34 ∨ w = 35 ∨ w = 36 ∨ w = 37 ∨ w = 38 ∨ w = 39 ∨ w = 40 ∨ w = 41 ∨ w = 42 ∨ w = 43 ∨ w = 44 ∨ w = 45 ∨ w = 46 ∨ w = 47) with kw | kw | kw | kw | kw | kw | kw | kw | kw | kw | kw | kw | kw | kw | kw | kw | kw | kw | kw | kw | kw | kw | kw | kw | kw | kw | kw | kw | kw | kw | kw | kw | kw | kw | kw | kw | kw | kw | kw | kw | kw | kw | kw | kw | kw | kw | kw | kw | kw
      · refine st_swd c292_33 (by omega) kw ?_
        rw [show mjmp 33 1831 = 1864 from by decide]
        exact tail τ h ⟨[], (List.append_nil τ).symm, rfl⟩ hT i1 i2 i3 i4 i6 i8 i9 iA iB iC iD iE i5 hr
      · refine st_sw (k := 0) (tg := 240) (by decide +kernel) kw (by decide) ?_
        obtain ⟨r0, r1, r2, r3, r4, r5, r6, r7, r8⟩ := hr
        exact LC_0 hT i1 i2 i3 i4 i6 i8 i9 iA iB iC iD iE i5 r0 r1 r2 r3 r4 r5 r6 r7 r8 i (by omega) d (by omega) _ (fun τ' h' b0 b1 b2 b3 b4 b5 b6 b7 b8 b9 bA bB bC bD bE r0 r1 r2 r3 r4 r5 r6 r7 r8 => tail τ' h' b0 b1 b2 b3 b4 b5 b6 b7 b8 b9 bA bB bC bD bE ⟨r0, r1, r2, r3, r4, r5, r6, r7, r8⟩)
      · refine st_sw (k := 1) (tg := 263) (by decide +kernel) kw (by decide) ?_
        obtain ⟨r0, r1, r2, r3, r4, r5, r6, r7, r8⟩ := hr
        exact LC_1 hT i1 i2 i3 i4 i6 i8 i9 iA iB iC iD iE i5 r0 r1 r2 r3 r4 r5 r6 r7 r8 i (by omega) d (by omega) _ (fun τ' h' b0 b1 b2 b3 b4 b5 b6 b7 b8 b9 bA bB bC bD bE r0 r1 r2 r3 r4 r5 r6 r7 r8 => tail τ' h' b0 b1 b2 b3 b4 b5 b6 b7 b8 b9 bA bB bC bD bE ⟨r0, r1, r2, r3, r4, r5, r6, r7, r8⟩)
      · refine st_sw (k := 2) (tg := 306) (by decide +kernel) kw (by decide) ?_
        obtain ⟨r0, r1, r2, r3, r4, r5, r6, r7, r8⟩ := hr
        exact LC_2 hT i1 i2 i3 i4 i6 i8 i9 iA iB iC iD iE i5 r0 r1 r2 r3 r4 r5 r6 r7 r8 i (by omega) d (by omega) _ (fun τ' h' b0 b1 b2 b3 b4 b5 b6 b7 b8 b9 bA bB bC bD bE r0 r1 r2 r3 r4 r5 r6 r7 r8 => tail τ' h' b0 b1 b2 b3 b4 b5 b6 b7 b8 b9 bA bB bC bD bE ⟨r0, r1, r2, r3, r4, r5, r6, r7, r8⟩)
      · refine st_sw (k := 3) (tg := 339) (by decide +kernel) kw (by decide) ?_
        obtain ⟨r0, r1, r2, r3, r4, r5, r6, r7, r8⟩ := hr
        exact LC_3 hT i1 i2 i3 i4 i6 i8 i9 iA iB iC iD iE i5 r0 r1 r2 r3 r4 r5 r6 r7 r8 i (by omega) d (by omega) _ (fun τ' h' b0 b1 b2 b3 b4 b5 b6 b7 b8 b9 bA bB bC bD bE r0 r1 r2 r3 r4 r5 r6 r7 r8 => tail τ' h' b0 b1 b2 b3 b4 b5 b6 b7 b8 b9 bA bB bC bD bE ⟨r0, r1, r2, r3, r4, r5, r6, r7, r8⟩)
      · refine st_sw (k := 4) (tg := 362) (by decide +kernel) kw (by decide) ?_
        obtain ⟨r0, r1, r2, r3, r4, r5, r6, r7, r8⟩ := hr
        exact LC_4 hT i1 i2 i3 i4 i6 i8 i9 iA iB iC iD iE i5 r0 r1 r2 r3 r4 r5 r6 r7 r8 i (by omega) d (by omega) _ (fun τ' h' b0 b1 b2 b3 b4 b5 b6 b7 b8 b9 bA bB bC bD bE r0 r1 r2 r3 r4 r5 r6 r7 r8 => tail τ' h' b0 b1 b2 b3 b4 b5 b6 b7 b8 b9 bA bB bC bD bE ⟨r0, r1, r2, r3, r4, r5, r6, r7, r8⟩)
      · refine st_sw (k := 5) (tg := 395) (by decide +kernel) kw (by decide) ?_
        obtain ⟨r0, r1, r2, r3, r4, r5, r6, r7, r8⟩ := hr
        exact LC_5 hT i1 i2 i3 i4 i6 i8 i9 iA iB iC iD iE i5 r0 r1 r2 r3 r4 r5 r6 r7 r8 i (by omega) d (by omega) _ (fun τ' h' b0 b1 b2 b3 b4 b5 b6 b7 b8 b9 bA bB bC bD bE r0 r1 r2 r3 r4 r5 r6 r7 r8 => tail τ' h' b0 b1 b2 b3 b4 b5 b6 b7 b8 b9 bA bB bC bD bE ⟨r0, r1, r2, r3, r4, r5, r6, r7, r8⟩)
      · refine st_sw (k := 6) (tg := 448) (by decide +kernel) kw (by decide) ?_
        obtain ⟨r0, r1, r2, r3, r4, r5, r6, r7, r8⟩ := hr
        exact LC_6 hT i1 i2 i3 i4 i6 i8 i9 iA iB iC iD iE i5 r0 r1 r2 r3 r4 r5 r6 r7 r8 i (by omega) d (by omega) _ (fun τ' h' b0 b1 b2 b3 b4 b5 b6 b7 b8 b9 bA bB bC bD bE r0 r1 r2 r3 r4 r5 r6 r7 r8 => tail τ' h' b0 b1 b2 b3 b4 b5 b6 b7 b8 b9 bA bB bC bD bE ⟨r0, r1, r2, r3, r4, r5, r6, r7, r8⟩)
      · refine st_sw (k := 7) (tg := 491) (by decide +kernel) kw (by decide) ?_
        obtain ⟨r0, r1, r2, r3, r4, r5, r6, r7, r8⟩ := hr
        exact LC_7 hT i1 i2 i3 i4 i6 i8 i9 iA iB iC iD iE i5 r0 r1 r2 r3 r4 r5 r6 r7 r8 i (by omega) d (by omega) _ (fun τ' h' b0 b1 b2 b3 b4 b5 b6 b7 b8 b9 bA bB bC bD bE r0 r1 r2 r3 r4 r5 r6 r7 r8 => tail τ' h' b0 b1 b2 b3 b4 b5 b6 b7 b8 b9 bA bB bC bD bE ⟨r0, r1, r2, r3, r4, r5, r6, r7, r8⟩)
      · refine st_sw (k := 8) (tg := 534) (by decide +kernel) kw (by decide) ?_
        obtain ⟨r0, r1, r2, r3, r4, r5, r6, r7, r8⟩ := hr
        exact LC_8 hT i1 i2 i3 i4 i6 i8 i9 iA iB iC iD iE i5 r0 r1 r2 r3 r4 r5 r6 r7 r8 i (by omega) d (by omega) _ (fun τ' h' b0 b1 b2 b3 b4 b5 b6 b7 b8 b9 bA bB bC bD bE r0 r1 r2 r3 r4 r5 r6 r7 r8 => tail τ' h' b0 b1 b2 b3 b4 b5 b6 b7 b8 b9 bA bB bC bD bE ⟨r0, r1, r2, r3, r4, r5, r6, r7, r8⟩)
      · refine st_sw (k := 9) (tg := 577) (by decide +kernel) kw (by decide) ?_
        obtain ⟨r0, r1, r2, r3, r4, r5, r6, r7, r8⟩ := hr
        exact LC_9 hT i1 i2 i3 i4 i6 i8 i9 iA iB iC iD iE i5 r0 r1 r2 r3 r4 r5 r6 r7 r8 i (by omega) d (by omega) _ (fun τ' h' b0 b1 b2 b3 b4 b5 b6 b7 b8 b9 bA bB bC bD bE r0 r1 r2 r3 r4 r5 r6 r7 r8 => tail τ' h' b0 b1 b2 b3 b4 b5 b6 b7 b8 b9 bA bB bC bD bE ⟨r0, r1, r2, r3, r4, r5, r6, r7, r8⟩)
      · refine st_sw (k := 10) (tg := 620) (by decide +kernel) kw (by decide) ?_
        obtain ⟨r0, r1, r2, r3, r4, r5, r6, r7, r8⟩ := hr
        exact LC_10 hT i1 i2 i3 i4 i6 i8 i9 iA iB iC iD iE i5 r0 r1 r2 r3 r4 r5 r6 r7 r8 i (by omega) d (by omega) _ (fun τ' h' b0 b1 b2 b3 b4 b5 b6 b7 b8 b9 bA bB bC bD bE r0 r1 r2 r3 r4 r5 r6 r7 r8 => tail τ' h' b0 b1 b2 b3 b4 b5 b6 b7 b8 b9 bA bB bC bD bE ⟨r0, r1, r2, r3, r4, r5, r6, r7, r8⟩)
      · refine st_sw (k := 11) (tg := 653) (by decide +kernel) kw (by decide) ?_
        obtain ⟨r0, r1, r2, r3, r4, r5, r6, r7, r8⟩ := hr
        exact LC_11 hT i1 i2 i3 i4 i6 i8 i9 iA iB iC iD iE i5 r0 r1 r2 r3 r4 r5 r6 r7 r8 i (by omega) d (by omega) _ (fun τ' h' b0 b1 b2 b3 b4 b5 b6 b7 b8 b9 bA bB bC bD bE r0 r1 r2 r3 r4 r5 r6 r7 r8 => tail τ' h' b0 b1 b2 b3 b4 b5 b6 b7 b8 b9 bA bB bC bD bE ⟨r0, r1, r2, r3, r4, r5, r6, r7, r8⟩)
      · refine st_sw (k := 12) (tg := 686) (by decide +kernel) kw (by decide) ?_
        obtain ⟨r0, r1, r2, r3, r4, r5, r6, r7, r8⟩ := hr
        exact LC_12 hT i1 i2 i3 i4 i6 i8 i9 iA iB iC iD iE i5 r0 r1 r2 r3 r4 r5 r6 r7 r8 i (by omega) d (by omega) _ (fun τ' h' b0 b1 b2 b3 b4 b5 b6 b7 b8 b9 bA bB bC bD bE r0 r1 r2 r3 r4 r5 r6 r7 r8 => tail τ' h' b0 b1 b2 b3 b4 b5 b6 b7 b8 b9 bA bB bC bD bE ⟨r0, r1, r2, r3, r4, r5, r6, r7, r8⟩)
      · refine st_sw (k := 13) (tg := 719) (by decide +kernel) kw (by decide) ?_
        obtain ⟨r0, r1, r2, r3, r4, r5, r6, r7, r8⟩ := hr
        exact LC_13 hT i1 i2 i3 i4 i6 i8 i9 iA iB iC iD iE i5 r0 r1 r2 r3 r4 r5 r6 r7 r8 i (by omega) d (by omega) _ (fun τ' h' b0 b1 b2 b3 b4 b5 b6 b7 b8 b9 bA bB bC bD bE r0 r1 r2 r3 r4 r5 r6 r7 r8 => tail τ' h' b0 b1 b2 b3 b4 b5 b6 b7 b8 b9 bA bB bC bD bE ⟨r0, r1, r2, r3, r4, r5, r6, r7, r8⟩)
      · refine st_sw (k := 14) (tg := 752) (by decide +kernel) kw (by decide) ?_
        obtain ⟨r0, r1, r2, r3, r4, r5, r6, r7, r8⟩ := hr
        exact LC_14 hT i1 i2 i3 i4 i6 i8 i9 iA iB iC iD iE i5 r0 r1 r2 r3 r4 r5 r6 r7 r8 i (by omega) d (by omega) _ (fun τ' h' b0 b1 b2 b3 b4 b5 b6 b7 b8 b9 bA bB bC bD bE r0 r1 r2 r3 r4 r5 r6 r7 r8 => tail τ' h' b0 b1 b2 b3 b4 b5 b6 b7 b8 b9 bA bB bC bD bE ⟨r0, r1, r2, r3, r4, r5, r6, r7, r8⟩)
      · refine st_sw (k := 15) (tg := 785) (by decide +kernel) kw (by decide) ?_
        obtain ⟨r0, r1, r2, r3, r4, r5, r6, r7, r8⟩ := hr
        exact LC_15 hT i1 i2 i3 i4 i6 i8 i9 iA iB iC iD iE i5 r0 r1 r2 r3 r4 r5 r6 r7 r8 i (by omega) d (by omega) _ (fun τ' h' b0 b1 b2 b3 b4 b5 b6 b7 b8 b9 bA bB bC bD bE r0 r1 r2 r3 r4 r5 r6 r7 r8 => tail τ' h' b0 b1 b2 b3 b4 b5 b6 b7 b8 b9 bA bB bC bD bE ⟨r0, r1, r2, r3, r4, r5, r6, r7, r8⟩)
      · refine st_sw (k := 16) (tg := 818) (by decide +kernel) kw (by decide) ?_
        obtain ⟨r0, r1, r2, r3, r4, r5, r6, r7, r8⟩ := hr
        exact LC_16 hT i1 i2 i3 i4 i6 i8 i9 iA iB iC iD iE i5 r0 r1 r2 r3 r4 r5 r6 r7 r8 i (by omega) d (by omega) _ (fun τ' h' b0 b1 b2 b3 b4 b5 b6 b7 b8 b9 bA bB bC bD bE r0 r1 r2 r3 r4 r5 r6 r7 r8 => tail τ' h' b0 b1 b2 b3 b4 b5 b6 b7 b8 b9 bA bB bC bD bE ⟨r0, r1, r2, r3, r4, r5, r6, r7, r8⟩)
      · refine st_sw (k := 17) (tg := 851) (by decide +kernel) kw (by decide) ?_
        obtain ⟨r0, r1, r2, r3, r4, r5, r6, r7, r8⟩ := hr
        exact LC_17 hT i1 i2 i3 i4 i6 i8 i9 iA iB iC iD iE i5 r0 r1 r2 r3 r4 r5 r6 r7 r8 i (by omega) d (by omega) _ (fun τ' h' b0 b1 b2 b3 b4 b5 b6 b7 b8 b9 bA bB bC bD bE r0 r1 r2 r3 r4 r5 r6 r7 r8 => tail τ' h' b0 b1 b2 b3 b4 b5 b6 b7 b8 b9 bA bB bC bD bE ⟨r0, r1, r2, r3, r4, r5, r6, r7, r8⟩)
      · refine st_sw (k := 18) (tg := 884) (by decide +kernel) kw (by decide) ?_
        obtain ⟨r0, r1, r2, r3, r4, r5, r6, r7, r8⟩ := hr
        exact LC_18 hT i1 i2 i3 i4 i6 i8 i9 iA iB iC iD iE i5 r0 r1 r2 r3 r4 r5 r6 r7 r8 i (by omega) d (by omega) _ (fun τ' h' b0 b1 b2 b3 b4 b5 b6 b7 b8 b9 bA bB bC bD bE r0 r1 r2 r3 r4 r5 r6 r7 r8 => tail τ' h' b0 b1 b2 b3 b4 b5 b6 b7 b8 b9 bA bB bC bD bE ⟨r0, r1, r2, r3, r4, r5, r6, r7, r8⟩)
      · refine st_sw (k := 19) (tg := 947) (by decide +kernel) kw (by decide) ?_
        obtain ⟨r0, r1, r2, r3, r4, r5, r6, r7, r8⟩ := hr
        exact LC_19 hT i1 i2 i3 i4 i6 i8 i9 iA iB iC iD iE i5 r0 r1 r2 r3 r4 r5 r6 r7 r8 i (by omega) d (by omega) _ (fun τ' h' b0 b1 b2 b3 b4 b5 b6 b7 b8 b9 bA bB bC bD bE r0 r1 r2 r3 r4 r5 r6 r7 r8 => tail τ' h' b0 b1 b2 b3 b4 b5 b6 b7 b8 b9 bA bB bC bD bE ⟨r0, r1, r2, r3, r4, r5, r6, r7, r8⟩)
      · refine st_sw (k := 20) (tg := 980) (by decide +kernel) kw (by decide) ?_
        obtain ⟨r0, r1, r2, r3, r4, r5, r6, r7, r8⟩ := hr
        exact LC_20 hT i1 i2 i3 i4 i6 i8 i9 iA iB iC iD iE i5 r0 r1 r2 r3 r4 r5 r6 r7 r8 i (by omega) d (by omega) _ (fun τ' h' b0 b1 b2 b3 b4 b5 b6 b7 b8 b9 bA bB bC bD bE r0 r1 r2 r3 r4 r5 r6 r7 r8 => tail τ' h' b0 b1 b2 b3 b4 b5 b6 b7 b8 b9 bA bB bC bD bE ⟨r0, r1, r2, r3, r4, r5, r6, r7, r8⟩)
      · refine st_sw (k := 21) (tg := 1003) (by decide +kernel) kw (by decide) ?_
        obtain ⟨r0, r1, r2, r3, r4, r5, r6, r7, r8⟩ := hr
        exact LC_21 hT i1 i2 i3 i4 i6 i8 i9 iA iB iC iD iE i5 r0 r1 r2 r3 r4 r5 r6 r7 r8 i (by omega) d (by omega) _ (fun τ' h' b0 b1 b2 b3 b4 b5 b6 b7 b8 b9 bA bB bC bD bE r0 r1 r2 r3 r4 r5 r6 r7 r8 => tail τ' h' b0 b1 b2 b3 b4 b5 b6 b7 b8 b9 bA bB bC bD bE ⟨r0, r1, r2, r3, r4, r5, r6, r7, r8⟩)
      · refine st_sw (k := 22) (tg := 1016) (by decide +kernel) kw (by decide) ?_
        obtain ⟨r0, r1, r2, r3, r4, r5, r6, r7, r8⟩ := hr
        exact LC_22 hT i1 i2 i3 i4 i6 i8 i9 iA iB iC iD iE i5 r0 r1 r2 r3 r4 r5 r6 r7 r8 i (by omega) d (by omega) _ (fun τ' h' b0 b1 b2 b3 b4 b5 b6 b7 b8 b9 bA bB bC bD bE r0 r1 r2 r3 r4 r5 r6 r7 r8 => tail τ' h' b0 b1 b2 b3 b4 b5 b6 b7 b8 b9 bA bB bC bD bE ⟨r0, r1, r2, r3, r4, r5, r6, r7, r8⟩)
      · refine st_sw (k := 23) (tg := 1029) (by decide +kernel) kw (by decide) ?_
        obtain ⟨r0, r1, r2, r3, r4, r5, r6, r7, r8⟩ := hr
        exact LC_23 hT i1 i2 i3 i4 i6 i8 i9 iA iB iC iD iE i5 r0 r1 r2 r3 r4 r5 r6 r7 r8 i (by omega) d (by omega) _ (fun τ' h' b0 b1 b2 b3 b4 b5 b6 b7 b8 b9 bA bB bC bD bE r0 r1 r2 r3 r4 r5 r6 r7 r8 => tail τ' h' b0 b1 b2 b3 b4 b5 b6 b7 b8 b9 bA bB bC bD bE ⟨r0, r1, r2, r3, r4, r5, r6, r7, r8⟩)
      · refine st_sw (k := 24) (tg := 1042) (by decide +kernel) kw (by decide) ?_
        obtain ⟨r0, r1, r2, r3, r4, r5, r6, r7, r8⟩ := hr
        exact LC_24 hT i1 i2 i3 i4 i6 i8 i9 iA iB iC iD iE i5 r0 r1 r2 r3 r4 r5 r6 r7 r8 i (by omega) d (by omega) _ (fun τ' h' b0 b1 b2 b3 b4 b5 b6 b7 b8 b9 bA bB bC bD bE r0 r1 r2 r3 r4 r5 r6 r7 r8 => tail τ' h' b0 b1 b2 b3 b4 b5 b6 b7 b8 b9 bA bB bC bD bE ⟨r0, r1, r2, r3, r4, r5, r6, r7, r8⟩)
      · refine st_sw (k := 25) (tg := 1065) (by decide +kernel) kw (by decide) ?_
        obtain ⟨r0, r1, r2, r3, r4, r5, r6, r7, r8⟩ := hr
        exact LC_25 hT i1 i2 i3 i4 i6 i8 i9 iA iB iC iD iE i5 r0 r1 r2 r3 r4 r5 r6 r7 r8 i (by omega) d (by omega) _ (fun τ' h' b0 b1 b2 b3 b4 b5 b6 b7 b8 b9 bA bB bC bD bE r0 r1 r2 r3 r4 r5 r6 r7 r8 => tail τ' h' b0 b1 b2 b3 b4 b5 b6 b7 b8 b9 bA bB bC bD bE ⟨r0, r1, r2, r3, r4, r5, r6, r7, r8⟩)
      · refine st_sw (k := 26) (tg := 1088) (by decide +kernel) kw (by decide) ?_
        obtain ⟨r0, r1, r2, r3, r4, r5, r6, r7, r8⟩ := hr
        exact LC_26 hT i1 i2 i3 i4 i6 i8 i9 iA iB iC iD iE i5 r0 r1 r2 r3 r4 r5 r6 r7 r8 i (by omega) d (by omega) _ (fun τ' h' b0 b1 b2 b3 b4 b5 b6 b7 b8 b9 bA bB bC bD bE r0 r1 r2 r3 r4 r5 r6 r7 r8 => tail τ' h' b0 b1 b2 b3 b4 b5 b6 b7 b8 b9 bA bB bC bD bE ⟨r0, r1, r2, r3, r4, r5, r6, r7, r8⟩)
      · refine st_sw (k := 27) (tg := 1111) (by decide +kernel) kw (by decide) ?_
        obtain ⟨r0, r1, r2, r3, r4, r5, r6, r7, r8⟩ := hr
        exact LC_27 hT i1 i2 i3 i4 i6 i8 i9 iA iB iC iD iE i5 r0 r1 r2 r3 r4 r5 r6 r7 r8 i (by omega) d (by omega) _ (fun τ' h' b0 b1 b2 b3 b4 b5 b6 b7 b8 b9 bA bB bC bD bE r0 r1 r2 r3 r4 r5 r6 r7 r8 => tail τ' h' b0 b1 b2 b3 b4 b5 b6 b7 b8 b9 bA bB bC bD bE ⟨r0, r1, r2, r3, r4, r5, r6, r7, r8⟩)
      · refine st_sw (k := 28) (tg := 1144) (by decide +kernel) kw (by decide) ?_
        obtain ⟨r0, r1, r2, r3, r4, r5, r6, r7, r8⟩ := hr
        exact LC_28 hT i1 i2 i3 i4 i6 i8 i9 iA iB iC iD iE i5 r0 r1 r2 r3 r4 r5 r6 r7 r8 i (by omega) d (by omega) _ (fun τ' h' b0 b1 b2 b3 b4 b5 b6 b7 b8 b9 bA bB bC bD bE r0 r1 r2 r3 r4 r5 r6 r7 r8 => tail τ' h' b0 b1 b2 b3 b4 b5 b6 b7 b8 b9 bA bB bC bD bE ⟨r0, r1, r2, r3, r4, r5, r6, r7, r8⟩)
      · refine st_sw (k := 29) (tg := 1167) (by decide +kernel) kw (by decide) ?_
        obtain ⟨r0, r1, r2, r3, r4, r5, r6, r7, r8⟩ := hr
        exact LC_29 hT i1 i2 i3 i4 i6 i8 i9 iA iB iC iD iE i5 r0 r1 r2 r3 r4 r5 r6 r7 r8 i (by omega) d (by omega) _ (fun τ' h' b0 b1 b2 b3 b4 b5 b6 b7 b8 b9 bA bB bC bD bE r0 r1 r2 r3 r4 r5 r6 r7 r8 => tail τ' h' b0 b1 b2 b3 b4 b5 b6 b7 b8 b9 bA bB bC bD bE ⟨r0, r1, r2, r3, r4, r5, r6, r7, r8⟩)
      · refine st_sw (k := 30) (tg := 1200) (by decide +kernel) kw (by decide) ?_
        obtain ⟨r0, r1, r2, r3, r4, r5, r6, r7, r8⟩ := hr
        exact LC_30 hT i1 i2 i3 i4 i6 i8 i9 iA iB iC iD iE i5 r0 r1 r2 r3 r4 r5 r6 r7 r8 i (by omega) d (by omega) _ (fun τ' h' b0 b1 b2 b3 b4 b5 b6 b7 b8 b9 bA bB bC bD bE r0 r1 r2 r3 r4 r5 r6 r7 r8 => tail τ' h' b0 b1 b2 b3 b4 b5 b6 b7 b8 b9 bA bB bC bD bE ⟨r0, r1, r2, r3, r4, r5, r6, r7, r8⟩)
      · refine st_sw (k := 31) (tg := 1243) (by decide +kernel) kw (by decide) ?_
        obtain ⟨r0, r1, r2, r3, r4, r5, r6, r7, r8⟩ := hr
        exact LC_31 hT i1 i2 i3 i4 i6 i8 i9 iA iB iC iD iE i5 r0 r1 r2 r3 r4 r5 r6 r7 r8 i (by omega) d (by omega) _ (fun τ' h' b0 b1 b2 b3 b4 b5 b6 b7 b8 b9 bA bB bC bD bE r0 r1 r2 r3 r4 r5 r6 r7 r8 => tail τ' h' b0 b1 b2 b3 b4 b5 b6 b7 b8 b9 bA bB bC bD bE ⟨r0, r1, r2, r3, r4, r5, r6, r7, r8⟩)
      · refine st_sw (k := 32) (tg := 1276) (by decide +kernel) kw (by decide) ?_
        obtain ⟨r0, r1, r2, r3, r4, r5, r6, r7, r8⟩ := hr
        exact LC_32 hT i1 i2 i3 i4 i6 i8 i9 iA iB iC iD iE i5 r0 r1 r2 r3 r4 r5 r6 r7 r8 i (by omega) d (by omega) _ (fun τ' h' b0 b1 b2 b3 b4 b5 b6 b7 b8 b9 bA bB bC bD bE r0 r1 r2 r3 r4 r5 r6 r7 r8 => tail τ' h' b0 b1 b2 b3 b4 b5 b6 b7 b8 b9 bA bB bC bD bE ⟨r0, r1, r2, r3, r4, r5, r6, r7, r8⟩)
      · refine st_sw (k := 33) (tg := 1309) (by decide +kernel) kw (by decide) ?_
        obtain ⟨r0, r1, r2, r3, r4, r5, r6, r7, r8⟩ := hr
        exact LC_33 hT i1 i2 i3 i4 i6 i8 i9 iA iB iC iD iE i5 r0 r1 r2 r3 r4 r5 r6 r7 r8 i (by omega) d (by omega) _ (fun τ' h' b0 b1 b2 b3 b4 b5 b6 b7 b8 b9 bA bB bC bD bE r0 r1 r2 r3 r4 r5 r6 r7 r8 => tail τ' h' b0 b1 b2 b3 b4 b5 b6 b7 b8 b9 bA bB bC bD bE ⟨r0, r1, r2, r3, r4, r5, r6, r7, r8⟩)
      · refine st_sw (k := 34) (tg := 1372) (by decide +kernel) kw (by decide) ?_
        obtain ⟨r0, r1, r2, r3, r4, r5, r6, r7, r8⟩ := hr
        exact LC_34 hT i1 i2 i3 i4 i6 i8 i9 iA iB iC iD iE i5 r0 r1 r2 r3 r4 r5 r6 r7 r8 i (by omega) d (by omega) _ (fun τ' h' b0 b1 b2 b3 b4 b5 b6 b7 b8 b9 bA bB bC bD bE r0 r1 r2 r3 r4 r5 r6 r7 r8 => tail τ' h' b0 b1 b2 b3 b4 b5 b6 b7 b8 b9 bA bB bC bD bE ⟨r0, r1, r2, r3, r4, r5, r6, r7, r8⟩)
      · refine st_sw (k := 35) (tg := 1395) (by decide +kernel) kw (by decide) ?_
        obtain ⟨r0, r1, r2, r3, r4, r5, r6, r7, r8⟩ := hr
        exact LC_35 hT i1 i2 i3 i4 i6 i8 i9 iA iB iC iD iE i5 r0 r1 r2 r3 r4 r5 r6 r7 r8 i (by omega) d (by omega) _ (fun τ' h' b0 b1 b2 b3 b4 b5 b6 b7 b8 b9 bA bB bC bD bE r0 r1 r2 r3 r4 r5 r6 r7 r8 => tail τ' h' b0 b1 b2 b3 b4 b5 b6 b7 b8 b9 bA bB bC bD bE ⟨r0, r1, r2, r3, r4, r5, r6, r7, r8⟩)
      · refine st_sw (k := 36) (tg := 1428) (by decide +kernel) kw (by decide) ?_
        obtain ⟨r0, r1, r2, r3, r4, r5, r6, r7, r8⟩ := hr
        exact LC_36 hT i1 i2 i3 i4 i6 i8 i9 iA iB iC iD iE i5 r0 r1 r2 r3 r4 r5 r6 r7 r8 i (by omega) d (by omega) _ (fun τ' h' b0 b1 b2 b3 b4 b5 b6 b7 b8 b9 bA bB bC bD bE r0 r1 r2 r3 r4 r5 r6 r7 r8 => tail τ' h' b0 b1 b2 b3 b4 b5 b6 b7 b8 b9 bA bB bC bD bE ⟨r0, r1, r2, r3, r4, r5, r6, r7, r8⟩)
      · refine st_sw (k := 37) (tg := 1471) (by decide +kernel) kw (by decide) ?_
        obtain ⟨r0, r1, r2, r3, r4, r5, r6, r7, r8⟩ := hr
        exact LC_37 hT i1 i2 i3 i4 i6 i8 i9 iA iB iC iD iE i5 r0 r1 r2 r3 r4 r5 r6 r7 r8 i (by omega) d (by omega) _ (fun τ' h' b0 b1 b2 b3 b4 b5 b6 b7 b8 b9 bA bB bC bD bE r0 r1 r2 r3 r4 r5 r6 r7 r8 => tail τ' h' b0 b1 b2 b3 b4 b5 b6 b7 b8 b9 bA bB bC bD bE ⟨r0, r1, r2, r3, r4, r5, r6, r7, r8⟩)
      · refine st_sw (k := 38) (tg := 1514) (by decide +kernel) kw (by decide) ?_
        obtain ⟨r0, r1, r2, r3, r4, r5, r6, r7, r8⟩ := hr
        exact LC_38 hT i1 i2 i3 i4 i6 i8 i9 iA iB iC iD iE i5 r0 r1 r2 r3 r4 r5 r6 r7 r8 i (by omega) d (by omega) _ (fun τ' h' b0 b1 b2 b3 b4 b5 b6 b7 b8 b9 bA bB bC bD bE r0 r1 r2 r3 r4 r5 r6 r7 r8 => tail τ' h' b0 b1 b2 b3 b4 b5 b6 b7 b8 b9 bA bB bC bD bE ⟨r0, r1, r2, r3, r4, r5, r6, r7, r8⟩)
      · refine st_sw (k := 39) (tg := 1547) (by decide +kernel) kw (by decide) ?_
        obtain ⟨r0, r1, r2, r3, r4, r5, r6, r7, r8⟩ := hr
        exact LC_39 hT i1 i2 i3 i4 i6 i8 i9 iA iB iC iD iE i5 r0 r1 r2 r3 r4 r5 r6 r7 r8 i (by omega) d (by omega) _ (fun τ' h' b0 b1 b2 b3 b4 b5 b6 b7 b8 b9 bA bB bC bD bE r0 r1 r2 r3 r4 r5 r6 r7 r8 => tail τ' h' b0 b1 b2 b3 b4 b5 b6 b7 b8 b9 bA bB bC bD bE ⟨r0, r1, r2, r3, r4, r5, r6, r7, r8⟩)
      · refine st_sw (k := 40) (tg := 1590) (by decide +kernel) kw (by decide) ?_
        obtain ⟨r0, r1, r2, r3, r4, r5, r6, r7, r8⟩ := hr
        exact LC_40 hT i1 i2 i3 i4 i6 i8 i9 iA iB iC iD iE i5 r0 r1 r2 r3 r4 r5 r6 r7 r8 i (by omega) d (by omega) _ (fun τ' h' b0 b1 b2 b3 b4 b5 b6 b7 b8 b9 bA bB bC bD bE r0 r1 r2 r3 r4 r5 r6 r7 r8 => tail τ' h' b0 b1 b2 b3 b4 b5 b6 b7 b8 b9 bA bB bC bD bE ⟨r0, r1, r2, r3, r4, r5, r6, r7, r8⟩)
      · refine st_sw (k := 41) (tg := 1633) (by decide +kernel) kw (by decide) ?_
        obtain ⟨r0, r1, r2, r3, r4, r5, r6, r7, r8⟩ := hr
        exact LC_41 hT i1 i2 i3 i4 i6 i8 i9 iA iB iC iD iE i5 r0 r1 r2 r3 r4 r5 r6 r7 r8 i (by omega) d (by omega) _ (fun τ' h' b0 b1 b2 b3 b4 b5 b6 b7 b8 b9 bA bB bC bD bE r0 r1 r2 r3 r4 r5 r6 r7 r8 => tail τ' h' b0 b1 b2 b3 b4 b5 b6 b7 b8 b9 bA bB bC bD bE ⟨r0, r1, r2, r3, r4, r5, r6, r7, r8⟩)
      · refine st_sw (k := 42) (tg := 1666) (by decide +kernel) kw (by decide) ?_
        obtain ⟨r0, r1, r2, r3, r4, r5, r6, r7, r8⟩ := hr
        exact LC_42 hT i1 i2 i3 i4 i6 i8 i9 iA iB iC iD iE i5 r0 r1 r2 r3 r4 r5 r6 r7 r8 i (by omega) d (by omega) _ (fun τ' h' b0 b1 b2 b3 b4 b5 b6 b7 b8 b9 bA bB bC bD bE r0 r1 r2 r3 r4 r5 r6 r7 r8 => tail τ' h' b0 b1 b2 b3 b4 b5 b6 b7 b8 b9 bA bB bC bD bE ⟨r0, r1, r2, r3, r4, r5, r6, r7, r8⟩)
      · refine st_sw (k := 43) (tg := 1699) (by decide +kernel) kw (by decide) ?_
        obtain ⟨r0, r1, r2, r3, r4, r5, r6, r7, r8⟩ := hr
        exact LC_43 hT i1 i2 i3 i4 i6 i8 i9 iA iB iC iD iE i5 r0 r1 r2 r3 r4 r5 r6 r7 r8 i (by omega) d (by omega) _ (fun τ' h' b0 b1 b2 b3 b4 b5 b6 b7 b8 b9 bA bB bC bD bE r0 r1 r2 r3 r4 r5 r6 r7 r8 => tail τ' h' b0 b1 b2 b3 b4 b5 b6 b7 b8 b9 bA bB bC bD bE ⟨r0, r1, r2, r3, r4, r5, r6, r7, r8⟩)
      · refine st_sw (k := 44) (tg := 1742) (by decide +kernel) kw (by decide) ?_
        obtain ⟨r0, r1, r2, r3, r4, r5, r6, r7, r8⟩ := hr
        exact LC_44 hT i1 i2 i3 i4 i6 i8 i9 iA iB iC iD iE i5 r0 r1 r2 r3 r4 r5 r6 r7 r8 i (by omega) d (by omega) _ (fun τ' h' b0 b1 b2 b3 b4 b5 b6 b7 b8 b9 bA bB bC bD bE r0 r1 r2 r3 r4 r5 r6 r7 r8 => tail τ' h' b0 b1 b2 b3 b4 b5 b6 b7 b8 b9 bA bB bC bD bE ⟨r0, r1, r2, r3, r4, r5, r6, r7, r8⟩)
      · refine st_sw (k := 45) (tg := 1775) (by decide +kernel) kw (by decide) ?_
        obtain ⟨r0, r1, r2, r3, r4, r5, r6, r7, r8⟩ := hr
        exact LC_45 hT i1 i2 i3 i4 i6 i8 i9 iA iB iC iD iE i5 r0 r1 r2 r3 r4 r5 r6 r7 r8 i (by omega) d (by omega) _ (fun τ' h' b0 b1 b2 b3 b4 b5 b6 b7 b8 b9 bA bB bC bD bE r0 r1 r2 r3 r4 r5 r6 r7 r8 => tail τ' h' b0 b1 b2 b3 b4 b5 b6 b7 b8 b9 bA bB bC bD bE ⟨r0, r1, r2, r3, r4, r5, r6, r7, r8⟩)
      · refine st_sw (k := 46) (tg := 1818) (by decide +kernel) kw (by decide) ?_
        obtain ⟨r0, r1, r2, r3, r4, r5, r6, r7, r8⟩ := hr
        exact LC_46 hT i1 i2 i3 i4 i6 i8 i9 iA iB iC iD iE i5 r0 r1 r2 r3 r4 r5 r6 r7 r8 i (by omega) d (by omega) _ (fun τ' h' b0 b1 b2 b3 b4 b5 b6 b7 b8 b9 bA bB bC bD bE r0 r1 r2 r3 r4 r5 r6 r7 r8 => tail τ' h' b0 b1 b2 b3 b4 b5 b6 b7 b8 b9 bA bB bC bD bE ⟨r0, r1, r2, r3, r4, r5, r6, r7, r8⟩)
      · refine st_sw (k := 47) (tg := 1841) (by decide +kernel) kw (by decide) ?_
        obtain ⟨r0, r1, r2, r3, r4, r5, r6, r7, r8⟩ := hr
        exact LC_47 hT i1 i2 i3 i4 i6 i8 i9 iA iB iC iD iE i5 r0 r1 r2 r3 r4 r5 r6 r7 r8 i (by omega) d (by omega) _ (fun τ' h' b0 b1 b2 b3 b4 b5 b6 b7 b8 b9 bA bB bC bD bE r0 r1 r2 r3 r4 r5 r6 r7 r8 => tail τ' h' b0 b1 b2 b3 b4 b5 b6 b7 b8 b9 bA bB bC bD bE ⟨r0, r1, r2, r3, r4, r5, r6, r7, r8⟩)
/-! THE ROOM -/
def szT (t : Nat) : Nat := match tyd t with
  | (0, _, fts, _, _) => fts.length
  | (_, _, _, _, nhi) => nhi
def okK (t : Nat) : Bool := Nat.blt (tyd t).1 4
theorem okC_sz {τ : List Nat} {t : Nat} {e : mE} (h : okC τ (tyd t) e) (hk : okK t = true) : msz e ≤ szT t := by
  unfold okK at hk
  unfold szT
  generalize tyd t = td at h hk ⊢
  obtain ⟨kd, c, fts, lo, hi⟩ := td
  have hk2 : kd < 4 := Nat.blt_eq.mp hk
  match kd, hk2, h with
  | 0, _, h => obtain ⟨fs, rfl, hl, -⟩ := h; exact Nat.le_of_eq hl
  | 1, _, h => obtain ⟨n, f, rfl, -, h2, -⟩ := h; exact h2
  | 2, _, h => obtain ⟨n, f, rfl, -, h2⟩ := h; exact h2
  | 3, _, h => obtain ⟨n, f, rfl, -, h2, -⟩ := h; exact h2
  | k + 4, hk2, h => omega
theorem sum_le : ∀ (ts : List Nat) (h : List mE), h.length = ts.length → (∀ (i t : Nat) (e : mE), ts[i]? = some t → h[i]? = some e → msz e ≤ szT t) → (h.map msz).sum ≤ (ts.map szT).sum
  | [], [], _, _ => Nat.le_refl _
  | [], _ :: _, hl, _ => by simp at hl
  | _ :: _, [], hl, _ => by simp at hl
  | t :: ts, e :: h, hl, hp => by
    rw [List.map_cons, List.map_cons, List.sum_cons, List.sum_cons]
    have h1 := hp 0 t e rfl rfl
    have h2 := sum_le ts h (by simpa using hl) (fun i t e a b => hp (i + 1) t e a b)
    omega
theorem dy_all : (List.range 128).all (fun t => !(dyT t) || (okK t && Nat.ble (szT t) 802)) = true := by decide +kernel
theorem dy_of {t : Nat} (h : dyT t = true) : okK t = true ∧ szT t ≤ 802 := by
  have hl : t < 128 := by
    simp only [dyT, Bool.and_eq_true, Bool.or_eq_true] at h
    rcases h.2 with a | a
    · have := Nat.blt_eq.mp a; omega
    · have := Nat.blt_eq.mp a.2; omega
  have := List.all_eq_true.mp dy_all t (List.mem_range.mpr hl)
  rw [h] at this
  simp only [Bool.not_true, Bool.false_or, Bool.and_eq_true] at this
  exact ⟨this.1, Nat.le_of_ble_eq_true this.2⟩
theorem acc_sum : ∀ (l : List Nat), l.all dyT = true → (l.map szT).sum ≤ 802 * l.length
  | [], _ => Nat.le_refl _
  | t :: l, h => by
    simp only [List.all_cons, Bool.and_eq_true] at h
    have h1 := (dy_of h.1).2
    have h2 := acc_sum l h.2
    rw [List.map_cons, List.sum_cons, List.length_cons]
    omega
theorem tau0_ok : tau0.all okK = true := by decide +kernel
theorem tau0_sum : Nat.ble (tau0.map szT).sum 100000 = true := by decide +kernel
theorem room_of {τ : List Nat} {h : List mE} (hT : TH Tr τ h) (hR : RO τ 512) : h.length ≤ 600000 ∧ mhs h ≤ 7302250 := by
  obtain ⟨acc, rfl, h1, h2⟩ := hR
  have hl := hT.1.1
  rw [List.length_append] at hl
  have h0 : tau0.length = 130 := by decide +kernel
  refine ⟨by omega, ?_⟩
  have h3 : mhs h ≤ ((tau0 ++ acc).map szT).sum := sum_le _ _ (by rw [List.length_append]; exact hl) (fun i t e a b => okC_sz (hT.1.2 i t e a b) (by
    have hm := List.mem_of_getElem? a
    rcases List.mem_append.mp hm with hm | hm
    · exact List.all_eq_true.mp tau0_ok t hm
    · exact (dy_of (List.all_eq_true.mp h2 t hm)).1))
  rw [List.map_append, List.sum_append] at h3
  have h4 := acc_sum acc h2
  have h5 := Nat.le_of_ble_eq_true tau0_sum
  omega
/-! THE START -/
theorem z109 (o : Int) : aI H0 109 o = 0 := rfl
theorem LI0 : LI tau0 H0 := by
  refine ⟨TH0, fun q hq => (nocon (u := 11) (by decide +kernel) hq.2).elim, fun q hq => (nocon (u := 13) (by decide +kernel) hq.2).elim, fun o _ _ => ⟨Or.inr (z109 o), Or.inl (by rw [z109]; decide)⟩, fun t a b => ?_, fun k a b => ?_, I8_0, I9_0, IA_0, IB_0, IC_0, ID_0, IE_0, ?_, ?_⟩
  · have e : fI H0 64 78 = 0 := rfl
    omega
  · have e : fI H0 64 62 = 0 := rfl
    omega
  · have e1 : fI H0 64 32 = 0 := rfl
    have e2 : fI H0 64 15 = 0 := rfl
    have e3 : fI H0 64 33 = 0 := rfl
    omega
  · exact ⟨rfl, rfl, rfl, rfl, rfl, rfl, rfl, rfl, rfl⟩
set_option maxRecDepth 100000 in
set_option maxHeartbeats 0 in
theorem law_run2 {Ln : Nat} {xs : Nat → Int32} (hLn : (Ln : Int) ≤ 3072) {h : List mE} (hl : h.length = 60) (hH : h ++ [.inr (12, [.int 0, .int 0, .int 0, .ref (h.length + 4 + 1), .ref (h.length + 4 + 2), .ref (h.length + 4 + 3), .ref (h.length + 4 + 4), .int 0, .ref (h.length + 4 + 5), .ref (h.length + 4 + 6), .ref (h.length + 4 + 7), .ref (h.length + 4 + 8), .ref (h.length + 4 + 9), .ref (h.length + 4 + 10), .ref (h.length + 4 + 11), .int 0, .ref (h.length + 4 + 12), .ref (h.length + 4 + 13), .ref (h.length + 4 + 14), .ref (h.length + 4 + 15), .ref (h.length + 4 + 16), .ref (h.length + 4 + 17), .ref (h.length + 4 + 18), .ref (h.length + 4 + 19), .ref (h.length + 4 + 20), .ref (h.length + 4 + 21), .ref (h.length + 4 + 22), .ref (h.length + 4 + 23), .ref (h.length + 4 + 24), .ref (h.length + 4 + 25), .ref (h.length + 4 + 26), .ref (h.length + 4 + 27), .int 0, .int 0, .ref (h.length + 4 + 28), .ref (h.length + 4 + 29), .ref (h.length + 4 + 30), .int 0, .ref (h.length + 4 + 31), .ref (h.length + 4 + 32), .ref (h.length + 4 + 33), .int 0, .ref (h.length + 4 + 34), .ref (h.length + 4 + 35), .ref (h.length + 4 + 36), .int 0, .ref (h.length + 4 + 37), .ref (h.length + 4 + 38), .int 0, .ref (h.length + 4 + 39), .ref (h.length + 4 + 40), .ref (h.length + 4 + 41), .ref (h.length + 4 + 42), .ref (h.length + 4 + 43), .ref (h.length + 4 + 44), .ref (h.length + 4 + 45), .ref (h.length + 4 + 46), .ref (h.length + 4 + 47), .ref (h.length + 4 + 48), .ref (h.length + 4 + 49), .ref (h.length + 4 + 50), .ref (h.length + 4 + 51), .int 0, .ref (h.length + 4 + 52), .int 0, .int 0, .ref (h.length + 4 + 53), .ref (h.length + 4 + 54), .ref (h.length + 4 + 55), .ref (h.length + 4 + 56), .int 0, .ref (h.length + 4 + 57), .ref (h.length + 4 + 58), .int 0, .int 0, .ref (h.length + 4 + 59), .ref (h.length + 4 + 60), .int 0, .int 0, .ref (h.length + 4 + 61), .ref (h.length + 4 + 62), .ref (h.length + 4 + 63), .ref (h.length + 4 + 64), .ref (h.length + 4 + 65), .ref (h.length + 4 + 66), .ref (h.length + 4 + 67), .int 0, .int 0, .int 0, .int 0, .int 0, .int 0, .int 0, .int 0, .ref (h.length + 4 + 68), .ref (h.length + 4 + 69), .int 0]), .inl (1, (12, .inl (fun _ => 0))), .inl (0, (144, .inl (fun _ => 0))), .inl (0, (144, .inl (fun _ => 0))), .inl (1, (1000, .inl (fun _ => 0))), .inl (0, (15, .inl (fun _ => 0))), .inl (0, (15, .inl (fun _ => 0))), .inl (0, (15, .inl (fun _ => 0))), .inl (0, (15, .inl (fun _ => 0))), .inl (0, (15, .inl (fun _ => 0))), .inl (1, (225, .inl (fun _ => 0))), .inl (0, (240, .inl (fun _ => 0))), .inl (0, (90, .inl (fun _ => 0))), .inl (0, (90, .inl (fun _ => 0))), .inl (0, (90, .inl (fun _ => 0))), .inl (0, (90, .inl (fun _ => 0))), .inl (0, (90, .inl (fun _ => 0))), .inl (1, (90, .inl (fun _ => 0))), .inl (0, (90, .inl (fun _ => 0))), .inl (0, (90, .inl (fun _ => 0))), .inl (0, (90, .inl (fun _ => 0))), .inl (0, (90, .inl (fun _ => 0))), .inl (0, (90, .inl (fun _ => 0))), .inl (0, (90, .inl (fun _ => 0))), .inl (0, (90, .inl (fun _ => 0))), .inl (0, (90, .inl (fun _ => 0))), .inl (0, (450, .inl (fun _ => 0))), .inl (0, (450, .inl (fun _ => 0))), .inl (0, (490, .inl (fun _ => 0))), .inl (0, (490, .inl (fun _ => 0))), .inl (0, (490, .inl (fun _ => 0))), .inl (0, (200, .inl (fun _ => 0))), .inl (0, (200, .inl (fun _ => 0))), .inl (0, (200, .inl (fun _ => 0))), .inl (0, (300, .inl (fun _ => 0))), .inl (0, (300, .inl (fun _ => 0))), .inl (0, (300, .inl (fun _ => 0))), .inl (0, (30, .inl (fun _ => 0))), .inl (0, (30, .inl (fun _ => 0))), .inl (0, (100, .inl (fun _ => 0))), .inl (0, (100, .inl (fun _ => 0))), .inl (0, (100, .inl (fun _ => 0))), .inl (0, (100, .inl (fun _ => 0))), .inl (0, (100, .inl (fun _ => 0))), .inl (0, (100, .inl (fun _ => 0))), .inl (0, (100, .inl (fun _ => 0))), .inl (0, (100, .inl (fun _ => 0))), .inl (0, (100, .inl (fun _ => 0))), .inl (0, (100, .inl (fun _ => 0))), .inl (0, (6000, .inl (fun _ => 0))), .inl (0, (200, .inl (fun _ => 0))), .inl (0, (200, .inl (fun _ => 0))), .inl (0, (6, .inl (fun _ => 0))), .inl (1, (90, .inl (fun _ => 0))), .inl (0, (6, .inl (fun _ => 0))), .inl (2, (64, .inr (.inl (fun _ => 0)))), .inl (2, (540, .inr (.inl (fun _ => 0)))), .inl (0, (5, .inl (fun _ => 0))), .inl (0, (5, .inl (fun _ => 0))), .inl (0, (5, .inl (fun _ => 0))), .inl (8, (200, .inl (fun _ => 0))), .inl (0, (16, .inl (fun _ => 0))), .inl (0, (16, .inl (fun _ => 0))), .inl (0, (16, .inl (fun _ => 0))), .inl (0, (17, .inl (fun _ => 0))), .inl (0, (3740, .inl (fun _ => 0))), .inl (0, (3740, .inl (fun _ => 0))), .inl (0, (3740, .inl (fun _ => 0))), .inl (0, (14, .inl (fun _ => 0))), .inl (0, (220, .inl (fun _ => 0)))] = H0) : MR (mex Ln xs) 300 292 8 [some (.ref 0), some (.ref 4), none, none] [] h (fun v h' => v = some (vI 1) ∧ ∃ τ' : List Nat, TH Tr τ' h' ∧ RO τ' 512) := by
  refine tl_new (fs := [.int 0, .int 0, .int 0, .null, .null, .null, .null, .int 0, .null, .null, .null, .null, .null, .null, .null, .int 0, .null, .null, .null, .null, .null, .null, .null, .null, .null, .null, .null, .null, .null, .null, .null, .null, .int 0, .int 0, .null, .null, .null, .int 0, .null, .null, .null, .int 0, .null, .null, .null, .int 0, .null, .null, .int 0, .null, .null, .null, .null, .null, .null, .null, .null, .null, .null, .null, .null, .null, .int 0, .null, .int 0, .int 0, .null, .null, .null, .null, .int 0, .null, .null, .int 0, .int 0, .null, .null, .int 0, .int 0, .null, .null, .null, .null, .null, .null, .null, .int 0, .int 0, .int 0, .int 0, .int 0, .int 0, .int 0, .int 0, .null, .null, .int 0]) c292_8 rfl rfl ?_
  refine st_dup c292_11 rfl ?_
  refine st_callp (as := []) c292_12 cm_179 rfl rfl rfl rfl (by decide) (KI179 (X := mex Ln xs) (h := h) (300 - 1) (by decide)) (fun v1 h1 H => ?_)
  obtain ⟨rfl, rfl⟩ := H
  refine st_astore (L' := [some (.ref 0), some (.ref 4), some (.ref (h.length + 4)), none]) c292_15 rfl rfl ?_
  refine st_iconst c292_16 ?_
  refine st_istore (L' := [some (.ref 0), some (.ref 4), some (.ref (h.length + 4)), some (vI 0)]) c292_17 rfl rfl ?_
  rw [hH, hl]
  exact law_loop hLn 512 0 tau0 H0 LI0 ⟨[], (List.append_nil tau0).symm, Nat.zero_le _, rfl⟩ 0 rfl (by omega) (by decide) 300 (by decide)
set_option maxRecDepth 100000 in
set_option maxHeartbeats 0 in
theorem law_run {Ln : Nat} {xs : Nat → Int32} (hLn : (Ln : Int) ≤ 3072) : MR (mex Ln xs) 300 292 0 [some (.ref 0), none, none, none] [] [] (fun v h' => v = some (vI 1) ∧ ∃ τ' : List Nat, TH Tr τ' h' ∧ RO τ' 512) := by
  refine tl_new (fs := [.int 0, .int 0, .null, .null, .null, .int 0, .null, .int 0, .null, .null, .int 0, .null, .int 0, .null, .null, .null, .null, .null]) c292_0 rfl rfl ?_
  refine st_dup c292_3 rfl ?_
  refine st_callp (as := []) c292_4 cm_117 rfl rfl rfl rfl (by decide) (KI117 (X := mex Ln xs) (300 - 1) (by decide)) (fun v1 h1 H => ?_)
  obtain ⟨rfl, rfl⟩ := H
  refine st_astore (L' := [some (.ref 0), some (.ref 4), none, none]) c292_7 rfl rfl ?_
  exact law_run2 hLn rfl rfl

