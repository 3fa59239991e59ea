theorem Kcopy {X : List mE} {τ : List Nat} {h : List mE} {q t nlo nhi : Nat} {lo hi : Int} (hT : TH Tr τ h) (ht : ty τ q t) (hd : ary t = some (1, 0, (0, lo, hi), nlo, nhi)) (hh : nhi ≤ 4000000) (n : Nat) (hn : n ≤ 4000000) (d : Nat) : MR X d 291 0 [some (.ref q), some (vI (n : Int)), none] [] h (fun v h' => ∃ g : Nat → Int32, v = some (.ref (h.length + 4)) ∧ h' = h ++ [.inl (0, (n, .inl g))] ∧ ∀ i : Nat, i < n → i < aN h q → g i = aF h q i) := by
  obtain ⟨l, f, h1, h2, h3, h4, h5, h6⟩ := TW_i hT.1 ht hd
  have hq := ty_lt hT ht
  refine st_iload c291_0 rfl ?_
  refine st_aload c291_1 rfl ?_
  refine st_alenI c291_2 hT ht hd rfl (fun e1 e2 => ?_)
  refine st_icmp_ne c291_3 (by omega) (by omega) (fun k1 => ?_) (fun k2 => ?_)
  · refine st_iload c291_14 rfl ?_
    refine st_na (z := n) c291_15 hn rfl ?_
    refine st_astore (L' := [some (.ref q), some (vI (n : Int)), some (.ref (h.length + 4))]) c291_17 rfl rfl ?_
    refine st_aload c291_18 rfl ?_
    refine st_iconst c291_19 ?_
    refine st_aload c291_20 rfl ?_
    refine st_iconst c291_21 ?_
    refine st_aload c291_22 rfl ?_
    have hT1 : TH Tr (τ ++ [0]) (h ++ [.inl (0, (n, .inl (fun _ => 0)))]) := TH_raw hT
    have hl : aN (h ++ [.inl (0, (n, .inl (fun _ => 0)))]) q = aN h q := (Fr_app (W := []) hT q t ht).1
    refine st_alenI c291_23 hT1 (Ext_ty Ext_app ht) hd rfl (fun e3 e4 => ?_)
    refine st_iload c291_24 rfl ?_
    refine st_min c291_25 (by omega) (by omega) rfl (fun w a1 a2 a3 => ?_)
    obtain ⟨kk, hk⟩ : ∃ kk : Nat, (kk : Int) = w := ⟨w.toNat, by omega⟩
    have hm1 : mown (h ++ [.inl (0, (n, .inl (fun _ => 0)))]) q = some (.inl (0, (l, .inl f))) := (mown_app hT ht).trans h1
    have hm2 : mown (h ++ [.inl (0, (n, .inl (fun _ => 0)))]) (h.length + 4 + 0) = some (.inl (0, (n, .inl (fun _ => 0)))) := tl_own rfl
    refine st_acopy (kk := kk) (dp := 0) (sp := 0) (v := h.length + 4) c291_28 hm1 hm2 (by omega) (by omega) (by omega) (by omega) rfl rfl hk rfl ?_
    have em := tl_mput (h := h) (T := [.inl (0, (n, .inl (fun _ => 0)))]) (k := 0) (e := .inl (0, (n, .inl (va_cpy f (fun _ => 0) 0 0 kk))))
    rw [show h.length + 4 = h.length + 4 + 0 from rfl, em]
    refine st_aload c291_31 rfl ?_
    refine st_areturnA c291_32 ?_
    refine ⟨_, rfl, rfl, fun i b1 b2 => ?_⟩
    rw [va_cpy0 (by omega), h5]
  · refine st_aload c291_6 rfl ?_
    refine st_clone c291_7 h1 rfl ?_
    have hm2 : mown (h ++ [.inl (0, (l, .inl f))]) (h.length + 4 + 0) = some (.inl (0, (l, .inl f))) := tl_own rfl
    refine st_cast c291_10 hm2 ?_
    refine st_areturnA c291_13 ?_
    have e : n = l := by omega
    subst e
    exact ⟨f, rfl, rfl, fun i _ _ => by rw [h5]⟩
theorem K95 {X : List mE} {τ : List Nat} {h : List mE} (hT : TH Tr τ h) (d : Nat) (hd : 1 ≤ d) : MR X d 95 0 [some (.ref 54)] [] h (fun v h' => ∃ (n : Nat) (g : Nat → Int32), (n : Int) = fI h 54 9 ∧ v = some (.ref (h.length + 4)) ∧ h' = h ++ [.inl (0, (n, .inl g))] ∧ ∀ i : Nat, i < n → g i = aF h 59 i) := by
  refine st_aload c95_0 rfl ?_
  refine st_getX (u := 59) c95_1 hT (tf hT rfl rfl) fd_6_8 rfl ?_
  refine st_aload c95_4 rfl ?_
  refine st_getI c95_5 hT (tf hT rfl rfl) fd_6_9 (fun e1 e2 => ?_)
  obtain ⟨n, hn⟩ : ∃ n : Nat, (n : Int) = fI h 54 9 := ⟨(fI h 54 9).toNat, by omega⟩
  rw [← hn]
  obtain ⟨l, f, h1, h2, h3, h4, h5, h6⟩ := TW_i hT.1 (tf (q := 59) (t := 39) hT rfl rfl) ay_39
  refine st_calls (as := [.ref 59, vI (n : Int)]) c95_8 cm_291 rfl rfl rfl rfl (by omega) (Kcopy hT (tf (q := 59) (t := 39) hT rfl rfl) ay_39 (by decide) n (by omega) (d - 1)) (fun v1 h1' H => ?_)
  obtain ⟨g, rfl, rfl, hg⟩ := H
  refine st_areturnA c95_11 ?_
  exact ⟨n, g, rfl, rfl, rfl, fun i hi => hg i hi (by omega)⟩
