/-! .. cells, calls, ends -/
section YOK2
variable {Lc : Nat} {val : Nat → Int32} {ret : Option FieldType} {F : yF} {pc ln a b q1 : Nat} {L : yL} {S : List yV} {h : List yE} {L0 : mL} {S0 : List Value} {h0 : List mE} {os : List (yF × yO)}
theorem rE_o {ci : Nat} {fs : List yV} {e0 : mE} (h : rE val (.inr (ci, fs)) e0) : ∃ fs0, e0 = .inr (ci, fs0) ∧ rS val fs fs0 := by
  rcases e0 with ⟨t, c⟩ | ⟨ci0, fs0⟩
  · exact h.elim
  · obtain ⟨rfl, h2⟩ := h
    exact ⟨fs0, rfl, h2⟩
theorem rE_a {t n : Nat} {c : yC} {e0 : mE} (h : rE val (.inl (t, (n, c))) e0) : ∃ c0, e0 = .inl (t, (n, c0)) ∧ rC val n c (n, c0) := by
  rcases e0 with ⟨t0, n0, c0⟩ | ⟨ci0, fs0⟩
  · obtain ⟨rfl, h2, h3⟩ := h
    have h2 : n = n0 := h2
    subst h2
    exact ⟨c0, rfl, h3⟩
  · exact h.elim
theorem rC_i {n : Nat} {d : yI} {ups : List (Nat × yI)} {c0} (h : rC val n (.inl (d, ups)) (n, c0)) : ∃ f, c0 = .inl f ∧ ∀ j, j < n → rI val (yget d ups j) (f j) := by
  rcases c0 with f | f | f | f | f
  · exact ⟨f, rfl, h⟩
  all_goals exact h.elim
theorem rC_r {n : Nat} {d : Option Nat} {ups : List (Nat × Option Nat)} {c0} (h : rC val n (.inr (.inl (d, ups))) (n, c0)) : ∃ f, c0 = .inr (.inr (.inr (.inr f))) ∧ ∀ j, j < n → f j = yget d ups j := by
  rcases c0 with f | f | f | f | f
  · exact h.elim
  · exact h.elim
  · exact h.elim
  · exact h.elim
  · exact ⟨f, rfl, h⟩
theorem rH_app1 {e : yE} {e0 : mE} (hH : rH val h h0) (he : rE val e e0) : rH val (h ++ [e]) (h0 ++ [e0]) := rAll_app hH ⟨he, trivial⟩
theorem rH_ref (hH : rH val h h0) : rV val (.inr (.ref (h.length + 4))) (.ref (h0.length + 4)) := by
  rw [rH_len hH]
  exact rfl
theorem nE_i (t n : Nat) : rE val (.inl (t, (n, .inl (.inl 0, [])))) (.inl (t, (n, .inl (fun _ => 0)))) := ⟨rfl, rfl, fun _ _ => rfl⟩
theorem nE_l (t n : Nat) : rE val (.inl (t, (n, .inr (.inr 0)))) (.inl (t, (n, .inr (.inl (fun _ => 0))))) := ⟨rfl, rfl, trivial⟩
theorem nE_r (t n : Nat) : rE val (.inl (t, (n, .inr (.inl (none, []))))) (.inl (t, (n, .inr (.inr (.inr (.inr (fun _ => none))))))) := ⟨rfl, rfl, fun _ _ => rfl⟩
theorem nE_o (ci : Nat) (l : List FieldType) : rE val (.inr (ci, l.map ydef)) (.inr (ci, l.map defaultValue)) := ⟨rfl, ydefs_ok l⟩
theorem own_get {ex h : List mE} {q : Nat} {e : mE} (h1 : mown h q = some e) : mget ex h q = some e := by
  unfold mown at h1
  unfold mget
  by_cases h4 : q < 4
  · rw [if_pos h4] at h1; cases h1
  · rw [if_neg h4] at h1 ⊢; exact h1
theorem ext0 {h : List mE} : mget (mex Lc val) h 0 = some (.inl (0, (Lc, .inl val))) := rfl
theorem ext2 {h : List mE} : mget (mex Lc val) h 2 = some (.inl (2, (14, .inr (.inl (fun j => mNm.getD j 0))))) := rfl
theorem z_getfield {i : Nat} (hF : rF val F) (hL : rLo val L L0) (hS : rS val S S0) (hH : rH val h h0) (hy : ymx Lc ret F (.getfield i, ln, a, b, q1) pc L S h = some os) : yOK Lc val ret (.getfield i, ln, a, b, q1) pc L0 S0 h0 os := by
  replace hy : (match (generalizing := false) S with
    | .inr (.ref q) :: T => (match yown h q with
        | some (.inr (ci, fs)) => if ci = a then (match fs[b]? with
            | some v => ygo F (pc + ln) L (v :: T) h
            | none => none) else none
        | _ => none)
    | _ => none) = some os := hy
  split at hy
  · rename_i q T
    split at hy
    · rename_i ci fs hq
      by_cases hc : ci = a
      · rw [if_pos hc] at hy
        split at hy
        · rename_i v hv
          obtain ⟨T0, rfl, hT⟩ := rS_r hS
          obtain ⟨e0, hq0, he⟩ := yown_ok hH hq
          obtain ⟨fs0, rfl, hfs⟩ := rE_o he
          obtain ⟨v0, hv0, hr⟩ := rAll_get hfs hv
          exact y_one hF hy (by dsimp only [mx]; rw [hq0]; (try dsimp only); rw [if_pos hc, hv0]; rfl) hL (rAll_c hr hT) hH
        · cases hy
      · rw [if_neg hc] at hy; cases hy
    · cases hy
  · cases hy
theorem z_putfield {i : Nat} (hF : rF val F) (hL : rLo val L L0) (hS : rS val S S0) (hH : rH val h h0) (hy : ymx Lc ret F (.putfield i, ln, a, b, q1) pc L S h = some os) : yOK Lc val ret (.putfield i, ln, a, b, q1) pc L0 S0 h0 os := by
  replace hy : (match (generalizing := false) S with
    | v :: .inr (.ref q) :: T => (match yown h q with
        | some (.inr (ci, fs)) => if ci = a ∧ b < fs.length then (match mfty a b with
            | some ty => if yfit F ty v then ygo F (pc + ln) L T (yput h q (.inr (ci, fs.set b v))) else none
            | none => none) else none
        | _ => none)
    | _ => none) = some os := hy
  split at hy
  · rename_i v q T
    split at hy
    · rename_i ci fs hq
      by_cases hc : ci = a ∧ b < fs.length
      · rw [if_pos hc] at hy
        split at hy
        · rename_i ty hty
          by_cases hf : yfit F ty v = true
          · rw [if_pos hf] at hy
            obtain ⟨v0, T1, rfl, hr, hT1⟩ := rS_c hS
            obtain ⟨T0, rfl, hT⟩ := rS_r hT1
            obtain ⟨e0, hq0, he⟩ := yown_ok hH hq
            obtain ⟨fs0, rfl, hfs⟩ := rE_o he
            exact y_one hF hy (by dsimp only [mx]; rw [hq0]; (try dsimp only); rw [if_pos ⟨hc.1, by rw [← rAll_len hfs]; exact hc.2⟩, hty]; (try dsimp only); rw [if_pos (yfit_ok hF hf hr)]; rfl) hL hT (yput_ok (e0 := .inr (ci, fs0.set b v0)) hH ⟨rfl, rAll_set hfs hr⟩)
          · rw [if_neg hf] at hy; cases hy
        · cases hy
      · rw [if_neg hc] at hy; cases hy
    · cases hy
  · cases hy
theorem z_arraylength (hF : rF val F) (hL : rLo val L L0) (hS : rS val S S0) (hH : rH val h h0) (hy : ymx Lc ret F (.arraylength, ln, a, b, q1) pc L S h = some os) : yOK Lc val ret (.arraylength, ln, a, b, q1) pc L0 S0 h0 os := by
  replace hy : (match (generalizing := false) S with
    | .inr (.ref q) :: T => if q = 0 then ygo F (pc + ln) L (.inl (.inl (Int32.ofNat Lc)) :: T) h else if q = 2 then ygo F (pc + ln) L (.inl (.inl (Int32.ofNat 14)) :: T) h else (match yown h q with
        | some (.inl (t, (n, _))) => if t < 9 then ygo F (pc + ln) L (.inl (.inl (Int32.ofNat n)) :: T) h else none
        | _ => none)
    | _ => none) = some os := hy
  split at hy
  · rename_i q T
    obtain ⟨T0, rfl, hT⟩ := rS_r hS
    by_cases h0q : q = 0
    · rw [if_pos h0q] at hy
      subst h0q
      exact y_one hF hy (by dsimp only [mx]; rw [ext0]; rfl) hL (rAll_c (rV_i rI_c) hT) hH
    rw [if_neg h0q] at hy
    by_cases h2q : q = 2
    · rw [if_pos h2q] at hy
      subst h2q
      exact y_one hF hy (by dsimp only [mx]; rw [ext2]; rfl) hL (rAll_c (rV_i rI_c) hT) hH
    rw [if_neg h2q] at hy
    split at hy
    · rename_i t n c hq
      by_cases ht : t < 9
      · rw [if_pos ht] at hy
        obtain ⟨e0, hq0, he⟩ := yown_ok hH hq
        obtain ⟨c0, rfl, hc⟩ := rE_a he
        exact y_one hF hy (by dsimp only [mx]; rw [own_get hq0]; (try dsimp only); rw [if_pos ht]; rfl) hL (rAll_c (rV_i rI_c) hT) hH
      · rw [if_neg ht] at hy; cases hy
    · cases hy
  · cases hy
theorem z_iaload (hF : rF val F) (hL : rLo val L L0) (hS : rS val S S0) (hH : rH val h h0) (hy : ymx Lc ret F (.iaload, ln, a, b, q1) pc L S h = some os) : yOK Lc val ret (.iaload, ln, a, b, q1) pc L0 S0 h0 os := by
  replace hy : (match (generalizing := false) S with
    | .inl i :: .inr (.ref q) :: T => if q = 0 then (match i with
        | .inl c => if mib c Lc then ygo F (pc + ln) L (.inl (.inr (some (c.toNatClampNeg, []))) :: T) h else none
        | _ => none) else (match yown h q with
        | some (.inl (0, (n, .inl (d, ups)))) => (match yix F i n with
            | some j => ygo F (pc + ln) L (.inl (yld d ups j) :: T) h
            | none => none)
        | _ => none)
    | _ => none) = some os := hy
  split at hy
  · rename_i i q T
    obtain ⟨i0, T1, rfl, hi0, hT1⟩ := rS_i hS
    obtain ⟨T0, rfl, hT⟩ := rS_r hT1
    by_cases h0q : q = 0
    · rw [if_pos h0q] at hy
      subst h0q
      split at hy
      · rename_i c
        have hi0 : i0 = c := hi0
        subst hi0
        by_cases hb : mib i0 Lc = true
        · rw [if_pos hb] at hy
          exact y_one hF hy (by dsimp only [mx]; rw [ext0]; exact if_pos hb) hL (rAll_c (rV_i (show rI val (.inr (some (i0.toNatClampNeg, []))) (val i0.toNatClampNeg) from rfl)) hT) hH
        · rw [if_neg hb] at hy; cases hy
      · cases hy
    rw [if_neg h0q] at hy
    split at hy
    · rename_i n d ups hq
      split at hy
      · rename_i j hj
        obtain ⟨e0, hq0, he⟩ := yown_ok hH hq
        obtain ⟨c0, rfl, hc⟩ := rE_a he
        obtain ⟨f, rfl, hf⟩ := rC_i hc
        obtain ⟨hb, hk⟩ := yix_ok hF hj hi0
        exact y_one hF hy (by dsimp only [mx]; rw [own_get hq0]; exact if_pos hb) hL (rAll_c (rV_i (yld_ok hf hb hk)) hT) hH
      · cases hy
    · cases hy
  · cases hy
theorem z_baload (hF : rF val F) (hL : rLo val L L0) (hS : rS val S S0) (hH : rH val h h0) (hy : ymx Lc ret F (.baload, ln, a, b, q1) pc L S h = some os) : yOK Lc val ret (.baload, ln, a, b, q1) pc L0 S0 h0 os := by
  replace hy : (match (generalizing := false) S with
    | .inl i :: .inr (.ref q) :: T => (match yown h q with
        | some (.inl (1, (n, .inl (d, ups)))) => (match yix F i n with
            | some j => ygo F (pc + ln) L (.inl (yld d ups j) :: T) h
            | none => none)
        | some (.inl (8, (n, .inl (d, ups)))) => (match yix F i n with
            | some j => ygo F (pc + ln) L (.inl (yld d ups j) :: T) h
            | none => none)
        | _ => none)
    | _ => none) = some os := hy
  split at hy
  · rename_i i q T
    obtain ⟨i0, T1, rfl, hi0, hT1⟩ := rS_i hS
    obtain ⟨T0, rfl, hT⟩ := rS_r hT1
    split at hy
    · rename_i n d ups hq
      split at hy
      · rename_i j hj
        obtain ⟨e0, hq0, he⟩ := yown_ok hH hq
        obtain ⟨c0, rfl, hc⟩ := rE_a he
        obtain ⟨f, rfl, hf⟩ := rC_i hc
        obtain ⟨hb, hk⟩ := yix_ok hF hj hi0
        exact y_one hF hy (by dsimp only [mx]; rw [hq0]; exact if_pos hb) hL (rAll_c (rV_i (yld_ok hf hb hk)) hT) hH
      · cases hy
    · rename_i n d ups hq
      split at hy
      · rename_i j hj
        obtain ⟨e0, hq0, he⟩ := yown_ok hH hq
        obtain ⟨c0, rfl, hc⟩ := rE_a he
        obtain ⟨f, rfl, hf⟩ := rC_i hc
        obtain ⟨hb, hk⟩ := yix_ok hF hj hi0
        exact y_one hF hy (by dsimp only [mx]; rw [hq0]; exact if_pos hb) hL (rAll_c (rV_i (yld_ok hf hb hk)) hT) hH
      · cases hy
    · cases hy
  · cases hy
theorem z_laload (hF : rF val F) (hL : rLo val L L0) (hS : rS val S S0) (hH : rH val h h0) (hy : ymx Lc ret F (.laload, ln, a, b, q1) pc L S h = some os) : yOK Lc val ret (.laload, ln, a, b, q1) pc L0 S0 h0 os := by
  replace hy : (match (generalizing := false) S with
    | .inl (.inl i) :: .inr (.ref q) :: T => if q = 2 then (if mib i 14 then ygo F (pc + ln) L (.inr (.long (mNm.getD i.toNatClampNeg 0)) :: T) h else none) else none
    | _ => none) = some os := hy
  split at hy
  · rename_i i q T
    obtain ⟨i0, T1, rfl, hi0, hT1⟩ := rS_i hS
    obtain ⟨T0, rfl, hT⟩ := rS_r hT1
    have hi0 : i0 = i := hi0
    subst hi0
    by_cases h2q : q = 2
    · rw [if_pos h2q] at hy
      subst h2q
      by_cases hb : mib i0 14 = true
      · rw [if_pos hb] at hy
        exact y_one hF hy (by dsimp only [mx]; rw [ext2]; exact if_pos hb) hL (rAll_c rV_r hT) hH
      · rw [if_neg hb] at hy; cases hy
    · rw [if_neg h2q] at hy; cases hy
  · cases hy
theorem z_aaload (hF : rF val F) (hL : rLo val L L0) (hS : rS val S S0) (hH : rH val h h0) (hy : ymx Lc ret F (.aaload, ln, a, b, q1) pc L S h = some os) : yOK Lc val ret (.aaload, ln, a, b, q1) pc L0 S0 h0 os := by
  replace hy : (match (generalizing := false) S with
    | .inl i :: .inr (.ref q) :: T => (match yown h q with
        | some (.inl (t, (n, .inr (.inl (d, ups))))) => if 3 ≤ t ∧ t < 8 then (match yix F i n with
            | some (some j) => ygo F (pc + ln) L (.inr (va_rf (yget d ups j)) :: T) h
            | some none => if ups.isEmpty then ygo F (pc + ln) L (.inr (va_rf d) :: T) h else none
            | none => none) else none
        | _ => none)
    | _ => none) = some os := hy
  split at hy
  · rename_i i q T
    obtain ⟨i0, T1, rfl, hi0, hT1⟩ := rS_i hS
    obtain ⟨T0, rfl, hT⟩ := rS_r hT1
    split at hy
    · rename_i t n d ups hq
      by_cases ht : 3 ≤ t ∧ t < 8
      · rw [if_pos ht] at hy
        obtain ⟨e0, hq0, he⟩ := yown_ok hH hq
        obtain ⟨c0, rfl, hc⟩ := rE_a he
        obtain ⟨f, rfl, hf⟩ := rC_r hc
        split at hy
        · rename_i j hj
          obtain ⟨hb, hk⟩ := yix_ok hF hj hi0
          have e := hk j rfl
          have hv := hf _ (mib_lt hb)
          rw [e] at hv
          exact y_one hF hy (by dsimp only [mx]; rw [hq0]; (try dsimp only); rw [if_pos (by rw [hb, decide_eq_true ht]; rfl), e, hv]; rfl) hL (rAll_c rV_r hT) hH
        · rename_i hj
          obtain ⟨hb, hk⟩ := yix_ok hF hj hi0
          by_cases hu : ups.isEmpty = true
          · rw [if_pos hu] at hy
            have e : ups = [] := List.isEmpty_iff.mp hu
            subst e
            have hv : f i0.toNatClampNeg = d := hf _ (mib_lt hb)
            exact y_one hF hy (by dsimp only [mx]; rw [hq0]; (try dsimp only); rw [if_pos (by rw [hb, decide_eq_true ht]; rfl), hv]; rfl) hL (rAll_c rV_r hT) hH
          · rw [if_neg hu] at hy; cases hy
        · cases hy
      · rw [if_neg ht] at hy; cases hy
    · cases hy
  · cases hy
theorem z_iastore (hF : rF val F) (hL : rLo val L L0) (hS : rS val S S0) (hH : rH val h h0) (hy : ymx Lc ret F (.iastore, ln, a, b, q1) pc L S h = some os) : yOK Lc val ret (.iastore, ln, a, b, q1) pc L0 S0 h0 os := by
  replace hy : (match (generalizing := false) S with
    | .inl x :: .inl i :: .inr (.ref q) :: T => (match yown h q with
        | some (.inl (0, (n, .inl (d, ups)))) => (match yix F i n with
            | some j => ygo F (pc + ln) L T (yput h q (.inl (0, (n, .inl (yst d ups j x)))))
            | none => none)
        | _ => none)
    | _ => none) = some os := hy
  split at hy
  · rename_i x i q T
    obtain ⟨x0, T2, rfl, hx0, hT2⟩ := rS_i hS
    obtain ⟨i0, T1, rfl, hi0, hT1⟩ := rS_i hT2
    obtain ⟨T0, rfl, hT⟩ := rS_r hT1
    split at hy
    · rename_i n d ups hq
      split at hy
      · rename_i j hj
        obtain ⟨e0, hq0, he⟩ := yown_ok hH hq
        obtain ⟨c0, rfl, hc⟩ := rE_a he
        obtain ⟨f, rfl, hf⟩ := rC_i hc
        obtain ⟨hb, hk⟩ := yix_ok hF hj hi0
        exact y_one hF hy (by dsimp only [mx]; rw [hq0]; exact if_pos hb) hL hT (yput_ok (e0 := .inl (0, (n, .inl (upd f i0.toNatClampNeg x0)))) hH ⟨rfl, rfl, yst_ok hf hk hx0⟩)
      · cases hy
    · cases hy
  · cases hy
theorem z_bastore (hF : rF val F) (hL : rLo val L L0) (hS : rS val S S0) (hH : rH val h h0) (hy : ymx Lc ret F (.bastore, ln, a, b, q1) pc L S h = some os) : yOK Lc val ret (.bastore, ln, a, b, q1) pc L0 S0 h0 os := by
  replace hy : (match (generalizing := false) S with
    | .inl x :: .inl i :: .inr (.ref q) :: T => (match yown h q with
        | some (.inl (1, (n, .inl (d, ups)))) => if y01 F x then (match yix F i n with
            | some j => ygo F (pc + ln) L T (yput h q (.inl (1, (n, .inl (yst d ups j x)))))
            | none => none) else none
        | some (.inl (8, (n, .inl (d, ups)))) => (match yix F i n with
            | some j => ygo F (pc + ln) L T (yput h q (.inl (8, (n, .inl (yst d ups j (match (generalizing := false) x with
                | .inl c => .inl c.toInt8.toInt32
                | .inr x => yun 9 x 0))))))
            | none => none)
        | _ => none)
    | _ => none) = some os := hy
  split at hy
  · rename_i x i q T
    obtain ⟨x0, T2, rfl, hx0, hT2⟩ := rS_i hS
    obtain ⟨i0, T1, rfl, hi0, hT1⟩ := rS_i hT2
    obtain ⟨T0, rfl, hT⟩ := rS_r hT1
    split at hy
    · rename_i n d ups hq
      by_cases h1 : y01 F x = true
      · rw [if_pos h1] at hy
        split at hy
        · rename_i j hj
          have h01 := y01_ok hF h1 hx0
          obtain ⟨e0, hq0, he⟩ := yown_ok hH hq
          obtain ⟨c0, rfl, hc⟩ := rE_a he
          obtain ⟨f, rfl, hf⟩ := rC_i hc
          obtain ⟨hb, hk⟩ := yix_ok hF hj hi0
          exact y_one hF hy (by dsimp only [mx]; rw [hq0]; exact if_pos (by rw [hb, h01]; rfl)) hL hT (yput_ok (e0 := .inl (1, (n, .inl (upd f i0.toNatClampNeg x0)))) hH ⟨rfl, rfl, yst_ok hf hk hx0⟩)
        · cases hy
      · rw [if_neg h1] at hy; cases hy
    · rename_i n d ups hq
      split at hy
      · rename_i j hj
        have hx1 : rI val (match (generalizing := false) x with
            | .inl c => .inl c.toInt8.toInt32
            | .inr x => yun 9 x 0) x0.toInt8.toInt32 := by
          rcases x with c | x
          · have hx0 : x0 = c := hx0
            subst hx0
            rfl
          · exact yun_ok (o := 9) (c := 0) hx0
        obtain ⟨e0, hq0, he⟩ := yown_ok hH hq
        obtain ⟨c0, rfl, hc⟩ := rE_a he
        obtain ⟨f, rfl, hf⟩ := rC_i hc
        obtain ⟨hb, hk⟩ := yix_ok hF hj hi0
        exact y_one hF hy (by dsimp only [mx]; rw [hq0]; exact if_pos hb) hL hT (yput_ok (e0 := .inl (8, (n, .inl (upd f i0.toNatClampNeg x0.toInt8.toInt32)))) hH ⟨rfl, rfl, yst_ok hf hk hx1⟩)
      · cases hy
    · cases hy
  · cases hy
theorem z_aastore (hF : rF val F) (hL : rLo val L L0) (hS : rS val S S0) (hH : rH val h h0) (hy : ymx Lc ret F (.aastore, ln, a, b, q1) pc L S h = some os) : yOK Lc val ret (.aastore, ln, a, b, q1) pc L0 S0 h0 os := by
  replace hy : (match (generalizing := false) S with
    | .inr (.ref v) :: .inl (.inl i) :: .inr (.ref q) :: T => (match yown h q, yown h v with
        | some (.inl (t, (n, .inr (.inl (d, ups))))), some (.inr (ci, _)) =>
            if mib i n && decide (mEl[t]? = some (some ci)) then ygo F (pc + ln) L T (yput h q (.inl (t, (n, .inr (.inl (d, (i.toNatClampNeg, some v) :: ups)))))) else none
        | _, _ => none)
    | _ => none) = some os := hy
  split at hy
  · rename_i v i q T
    obtain ⟨T2, rfl, hT2⟩ := rS_r hS
    obtain ⟨i0, T1, rfl, hi0, hT1⟩ := rS_i hT2
    obtain ⟨T0, rfl, hT⟩ := rS_r hT1
    have hi0 : i0 = i := hi0
    subst hi0
    split at hy
    · rename_i t n d ups ci fs hq hv
      by_cases hb : (mib i0 n && decide (mEl[t]? = some (some ci))) = true
      · rw [if_pos hb] at hy
        obtain ⟨e0, hq0, he⟩ := yown_ok hH hq
        obtain ⟨c0, rfl, hc⟩ := rE_a he
        obtain ⟨f, rfl, hf⟩ := rC_r hc
        obtain ⟨e1, hv0, he1⟩ := yown_ok hH hv
        obtain ⟨fs0, rfl, -⟩ := rE_o he1
        refine y_one hF hy (by dsimp only [mx]; rw [hq0, hv0]; exact if_pos hb) hL hT (yput_ok (e0 := .inl (t, (n, .inr (.inr (.inr (.inr (va_up f i0.toNatClampNeg (some v)))))))) hH ⟨rfl, rfl, fun k hk => ?_⟩)
        show va_up f i0.toNatClampNeg (some v) k = yget d ((i0.toNatClampNeg, some v) :: ups) k
        unfold va_up yget
        by_cases he : i0.toNatClampNeg = k
        · rw [if_pos he.symm, if_pos he]
        · rw [if_neg (Ne.symm he), if_neg he]; exact hf k hk
      · rw [if_neg hb] at hy; cases hy
    · cases hy
  · cases hy
theorem z_newarray {t : ArrayType} (hF : rF val F) (hL : rLo val L L0) (hS : rS val S S0) (hH : rH val h h0) (hy : ymx Lc ret F (.newarray t, ln, a, b, q1) pc L S h = some os) : yOK Lc val ret (.newarray t, ln, a, b, q1) pc L0 S0 h0 os := by
  replace hy : (match (generalizing := false) S with
    | .inl (.inl n) :: T => if ¬ n < 0 ∧ n.toNatClampNeg ≤ 4000000 then (match (generalizing := false) t with
        | .int => ygo F (pc + ln) L (.inr (.ref (h.length + 4)) :: T) (h ++ [.inl (0, (n.toNatClampNeg, .inl (.inl 0, [])))])
        | .boolean => ygo F (pc + ln) L (.inr (.ref (h.length + 4)) :: T) (h ++ [.inl (1, (n.toNatClampNeg, .inl (.inl 0, [])))])
        | .byte => ygo F (pc + ln) L (.inr (.ref (h.length + 4)) :: T) (h ++ [.inl (8, (n.toNatClampNeg, .inl (.inl 0, [])))])
        | .long => ygo F (pc + ln) L (.inr (.ref (h.length + 4)) :: T) (h ++ [.inl (2, (n.toNatClampNeg, .inr (.inr 0)))])
        | _ => none) else none
    | _ => none) = some os := hy
  split at hy
  · rename_i n T
    obtain ⟨n0, T0, rfl, hn0, hT⟩ := rS_i hS
    have hn0 : n0 = n := hn0
    subst hn0
    by_cases hn : ¬ n0 < 0 ∧ n0.toNatClampNeg ≤ 4000000
    · rw [if_pos hn] at hy
      cases t with
      | int =>
        exact y_one hF hy (by dsimp only [mx]; rw [if_pos hn]; rfl) hL (rAll_c (rH_ref hH) hT) (rH_app1 hH (nE_i 0 _))
      | boolean =>
        exact y_one hF hy (by dsimp only [mx]; rw [if_pos hn]; rfl) hL (rAll_c (rH_ref hH) hT) (rH_app1 hH (nE_i 1 _))
      | byte =>
        exact y_one hF hy (by dsimp only [mx]; rw [if_pos hn]; rfl) hL (rAll_c (rH_ref hH) hT) (rH_app1 hH (nE_i 8 _))
      | long =>
        exact y_one hF hy (by dsimp only [mx]; rw [if_pos hn]; rfl) hL (rAll_c (rH_ref hH) hT) (rH_app1 hH (nE_l 2 _))
      | _ => cases hy
    · rw [if_neg hn] at hy; cases hy
  · cases hy
theorem z_anewarray {i : Nat} (hF : rF val F) (hL : rLo val L L0) (hS : rS val S S0) (hH : rH val h h0) (hy : ymx Lc ret F (.anewarray i, ln, a, b, q1) pc L S h = some os) : yOK Lc val ret (.anewarray i, ln, a, b, q1) pc L0 S0 h0 os := by
  replace hy : (match (generalizing := false) S with
    | .inl (.inl n) :: T => if ¬ n < 0 ∧ n.toNatClampNeg ≤ 4000000 then (match mEl[a]? with
        | some (some _) => ygo F (pc + ln) L (.inr (.ref (h.length + 4)) :: T) (h ++ [.inl (a, (n.toNatClampNeg, .inr (.inl (none, []))))])
        | _ => none) else none
    | _ => none) = some os := hy
  split at hy
  · rename_i n T
    obtain ⟨n0, T0, rfl, hn0, hT⟩ := rS_i hS
    have hn0 : n0 = n := hn0
    subst hn0
    by_cases hn : ¬ n0 < 0 ∧ n0.toNatClampNeg ≤ 4000000
    · rw [if_pos hn] at hy
      split at hy
      · rename_i ci hel
        exact y_one hF hy (by dsimp only [mx]; rw [if_pos hn, hel]; rfl) hL (rAll_c (rH_ref hH) hT) (rH_app1 hH (nE_r a _))
      · cases hy
    · rw [if_neg hn] at hy; cases hy
  · cases hy
theorem yget_map (g : Nat → Option Nat) (j : Nat) : ∀ l : List Nat, j ∈ l → yget none (l.map fun i => (i, g i)) j = g j
  | [], h => absurd h List.not_mem_nil
  | i :: l, h => by
    show (if i = j then g i else yget none (l.map fun i => (i, g i)) j) = g j
    by_cases e : i = j
    · rw [if_pos e, e]
    · rw [if_neg e]
      exact yget_map g j l ((List.mem_cons.mp h).resolve_left (fun z => e z.symm))
theorem nE_m {p p0 : Nat} (e : p = p0) (n : Nat) : rE val (.inl (7, (n, .inr (.inl (none, (List.range n).map fun i => (i, some (p + 4 + 1 + i))))))) (.inl (7, (n, .inr (.inr (.inr (.inr (fun i => if i < n then some (p0 + 4 + 1 + i) else none))))))) := by
  subst e
  refine ⟨rfl, rfl, fun j hj => ?_⟩
  show (if j < n then some (p + 4 + 1 + j) else none) = _
  rw [if_pos hj]
  exact (yget_map (fun i => some (p + 4 + 1 + i)) j _ (List.mem_range.mpr hj)).symm
theorem z_multi {i d : Nat} (hF : rF val F) (hL : rLo val L L0) (hS : rS val S S0) (hH : rH val h h0) (hy : ymx Lc ret F (.multianewarray i d, ln, a, b, q1) pc L S h = some os) : yOK Lc val ret (.multianewarray i d, ln, a, b, q1) pc L0 S0 h0 os := by
  replace hy : (match (generalizing := false) S with
    | .inl (.inl k) :: .inl (.inl n) :: T => if (¬ n < 0 ∧ n.toNatClampNeg ≤ 4000000) ∧ (¬ k < 0 ∧ k.toNatClampNeg ≤ 4000000) then
        ygo F (pc + ln) L (.inr (.ref (h.length + 4)) :: T) (h ++ (.inl (7, (n.toNatClampNeg, .inr (.inl (none, (List.range n.toNatClampNeg).map fun i => (i, some (h.length + 4 + 1 + i)))))) :: List.replicate n.toNatClampNeg (.inl (0, (k.toNatClampNeg, .inl (.inl 0, []))))))
        else none
    | _ => none) = some os := hy
  split at hy
  · rename_i k n T
    obtain ⟨k0, T1, rfl, hk0, hT1⟩ := rS_i hS
    obtain ⟨n0, T0, rfl, hn0, hT⟩ := rS_i hT1
    have hn0 : n0 = n := hn0
    have hk0 : k0 = k := hk0
    subst hn0
    subst hk0
    by_cases hn : (¬ n0 < 0 ∧ n0.toNatClampNeg ≤ 4000000) ∧ (¬ k0 < 0 ∧ k0.toNatClampNeg ≤ 4000000)
    · rw [if_pos hn] at hy
      exact y_one hF hy (by dsimp only [mx]; rw [if_pos hn]; rfl) hL (rAll_c (rH_ref hH) hT) (rAll_app hH (rAll_c (nE_m (rH_len hH) _) (rAll_rep (nE_i 0 _) _)))
    · rw [if_neg hn] at hy; cases hy
  · cases hy
theorem z_new {i : Nat} (hF : rF val F) (hL : rLo val L L0) (hS : rS val S S0) (hH : rH val h h0) (hy : ymx Lc ret F (.new i, ln, a, b, q1) pc L S h = some os) : yOK Lc val ret (.new i, ln, a, b, q1) pc L0 S0 h0 os := by
  replace hy : (match mTy[a]? with
    | some l => ygo F (pc + ln) L (.inr (.ref (h.length + 4)) :: S) (h ++ [.inr (a, l.map ydef)])
    | none => none) = some os := hy
  split at hy
  · rename_i l hl
    exact y_one hF hy (by dsimp only [mx]; rw [hl]; rfl) hL (rAll_c (rH_ref hH) hS) (rH_app1 hH (nE_o a l))
  · cases hy
theorem z_invokestatic {i : Nat} (hF : rF val F) (hL : rLo val L L0) (hS : rS val S S0) (hH : rH val h h0) (hy : ymx Lc ret F (.invokestatic i, ln, a, b, q1) pc L S h = some os) : yOK Lc val ret (.invokestatic i, ln, a, b, q1) pc L0 S0 h0 os := by
  replace hy : (match ytake b S [] with
    | some (as, T) => if ymcat T ≤ 8 then some [(F, (.inr (.inl (a, as, T)) : yO))] else none
    | none => none) = some os := hy
  split at hy
  · rename_i as T ht
    by_cases h8 : ymcat T ≤ 8
    · rw [if_pos h8] at hy
      cases hy
      obtain ⟨as0, T0, ht0, h1, h2⟩ := ytake_ok b hS (acc := []) (acc0 := []) trivial ht
      refine ⟨_, List.mem_cons_self, hF, .inr (.inl (a, as0, T0)), ?_, rfl, h1, h2⟩
      dsimp only [mx]
      rw [ht0]
      dsimp only
      rw [if_pos (by rw [← rS_cat h2]; exact h8)]
      rfl
    · rw [if_neg h8] at hy; cases hy
  · cases hy
theorem z_invokevirtual {i : Nat} (hF : rF val F) (hL : rLo val L L0) (hS : rS val S S0) (hH : rH val h h0) (hy : ymx Lc ret F (.invokevirtual i, ln, a, b, q1) pc L S h = some os) : yOK Lc val ret (.invokevirtual i, ln, a, b, q1) pc L0 S0 h0 os := by
  replace hy : (match ytake b S [] with
    | some (as, .inr (.ref q) :: T) => (match yown h q, mrec a with
        | some (.inr (ci, _)), some R => if ci = R.2.2.2.2.1 ∧ ymcat T ≤ 8 then some [(F, (.inr (.inl (a, .inr (.ref q) :: as, T)) : yO))] else none
        | _, _ => none)
    | _ => none) = some os := hy
  split at hy
  · rename_i as q T ht
    split at hy
    · rename_i ci fs R hq hR
      by_cases h8 : ci = R.2.2.2.2.1 ∧ ymcat T ≤ 8
      · rw [if_pos h8] at hy
        cases hy
        obtain ⟨as0, T1, ht0, h1, h2⟩ := ytake_ok b hS (acc := []) (acc0 := []) trivial ht
        obtain ⟨T0, rfl, h3⟩ := rS_r h2
        obtain ⟨e0, hq0, he⟩ := yown_ok hH hq
        obtain ⟨fs0, rfl, -⟩ := rE_o he
        refine ⟨_, List.mem_cons_self, hF, .inr (.inl (a, .ref q :: as0, T0)), ?_, rfl, ⟨rfl, h1⟩, h3⟩
        dsimp only [mx]
        rw [ht0]
        dsimp only
        rw [hq0, hR]
        dsimp only
        rw [if_pos ⟨h8.1, by rw [← rS_cat h3]; exact h8.2⟩]
        rfl
      · rw [if_neg h8] at hy; cases hy
    · cases hy
  · cases hy
theorem z_invokespecial {i : Nat} (hF : rF val F) (hL : rLo val L L0) (hS : rS val S S0) (hH : rH val h h0) (hy : ymx Lc ret F (.invokespecial i, ln, a, b, q1) pc L S h = some os) : yOK Lc val ret (.invokespecial i, ln, a, b, q1) pc L0 S0 h0 os := by
  replace hy : (match ytake b S [] with
    | some (as, .inr (.ref q) :: T) => if ymcat T ≤ 8 then some [(F, (.inr (.inl (a, .inr (.ref q) :: as, T)) : yO))] else none
    | _ => none) = some os := hy
  split at hy
  · rename_i as q T ht
    by_cases h8 : ymcat T ≤ 8
    · rw [if_pos h8] at hy
      cases hy
      obtain ⟨as0, T1, ht0, h1, h2⟩ := ytake_ok b hS (acc := []) (acc0 := []) trivial ht
      obtain ⟨T0, rfl, h3⟩ := rS_r h2
      refine ⟨_, List.mem_cons_self, hF, .inr (.inl (a, .ref q :: as0, T0)), ?_, rfl, ⟨rfl, h1⟩, h3⟩
      dsimp only [mx]
      rw [ht0]
      dsimp only
      rw [if_pos (by rw [← rS_cat h3]; exact h8)]
      rfl
    · rw [if_neg h8] at hy; cases hy
  · cases hy
theorem y_ret {r : mR} {v : Option yV} {v0 : Option Value} (hF : rF val F) (hy : some [(F, (.inr (.inr v) : yO))] = some os) (hz : mx ret (mex Lc val) r pc L0 S0 h0 = some (.inr (.inr v0))) (hv : rO val v v0) : yOK Lc val ret r pc L0 S0 h0 os := by
  cases hy
  exact ⟨_, List.mem_cons_self, hF, _, hz, hv⟩
theorem z_ireturn (hF : rF val F) (hL : rLo val L L0) (hS : rS val S S0) (hH : rH val h h0) (hy : ymx Lc ret F (.ireturn, ln, a, b, q1) pc L S h = some os) : yOK Lc val ret (.ireturn, ln, a, b, q1) pc L0 S0 h0 os := by
  replace hy : (match (generalizing := false) S with
    | [.inl x] => (match (generalizing := false) ret with
        | some .int => some [(F, (.inr (.inr (some (.inl x))) : yO))]
        | some .boolean => if y01 F x then some [(F, (.inr (.inr (some (.inl x))) : yO))] else none
        | _ => none)
    | _ => none) = some os := hy
  split at hy
  · rename_i x
    obtain ⟨x0, T0, rfl, hx0, hT⟩ := rS_i hS
    have hT := rS_n hT
    subst hT
    split at hy
    · exact y_ret (v0 := some (.int x0)) hF hy rfl (rV_i hx0)
    · by_cases h1 : y01 F x = true
      · rw [if_pos h1] at hy
        exact y_ret (v0 := some (.int x0)) hF hy (by dsimp only [mx]; rw [if_pos (y01_ok hF h1 hx0)]) (rV_i hx0)
      · rw [if_neg h1] at hy; cases hy
    · cases hy
  · cases hy
theorem z_areturn (hF : rF val F) (hL : rLo val L L0) (hS : rS val S S0) (hH : rH val h h0) (hy : ymx Lc ret F (.areturn, ln, a, b, q1) pc L S h = some os) : yOK Lc val ret (.areturn, ln, a, b, q1) pc L0 S0 h0 os := by
  replace hy : (match (generalizing := false) S with
    | [.inr (.ref x)] => (match (generalizing := false) ret with
        | some (.object _) => some [(F, (.inr (.inr (some (.inr (.ref x)))) : yO))]
        | some (.array _) => some [(F, (.inr (.inr (some (.inr (.ref x)))) : yO))]
        | _ => none)
    | [.inr .null] => (match (generalizing := false) ret with
        | some (.object _) => some [(F, (.inr (.inr (some (.inr .null))) : yO))]
        | some (.array _) => some [(F, (.inr (.inr (some (.inr .null))) : yO))]
        | _ => none)
    | _ => none) = some os := hy
  split at hy
  · rename_i x
    obtain ⟨T0, rfl, hT⟩ := rS_r hS
    have hT := rS_n hT
    subst hT
    split at hy
    · exact y_ret (v0 := some (.ref x)) hF hy rfl rfl
    · exact y_ret (v0 := some (.ref x)) hF hy rfl rfl
    · cases hy
  · obtain ⟨T0, rfl, hT⟩ := rS_r hS
    have hT := rS_n hT
    subst hT
    split at hy
    · exact y_ret (v0 := some .null) hF hy rfl rfl
    · exact y_ret (v0 := some .null) hF hy rfl rfl
    · cases hy
  · cases hy
theorem z_return (hF : rF val F) (hL : rLo val L L0) (hS : rS val S S0) (hH : rH val h h0) (hy : ymx Lc ret F (.return_, ln, a, b, q1) pc L S h = some os) : yOK Lc val ret (.return_, ln, a, b, q1) pc L0 S0 h0 os := by
  replace hy : (match (generalizing := false) S with
    | [] => (match (generalizing := false) ret with
        | none => some [(F, (.inr (.inr none) : yO))]
        | _ => none)
    | _ => none) = some os := hy
  split at hy
  · have hT := rS_n hS
    subst hT
    split at hy
    · exact y_ret (v0 := none) hF hy rfl trivial
    · cases hy
  · cases hy
theorem ymx_ok {r : mR} (hF : rF val F) (hL : rLo val L L0) (hS : rS val S S0) (hH : rH val h h0) (hy : ymx Lc ret F r pc L S h = some os) : yOK Lc val ret r pc L0 S0 h0 os := by
  obtain ⟨I, ln, a, b, q1⟩ := r
  cases I with
  | aconst_null => exact z_aconst_null hF hL hS hH hy
  | pop => exact z_pop hF hL hS hH hy
  | pop2 => exact z_pop2 hF hL hS hH hy
  | dup => exact z_dup hF hL hS hH hy
  | dup_x1 => exact z_dup_x1 hF hL hS hH hy
  | dup2 => exact z_dup2 hF hL hS hH hy
  | iadd => exact z_iadd hF hL hS hH hy
  | isub => exact z_isub hF hL hS hH hy
  | imul => exact z_imul hF hL hS hH hy
  | idiv => exact z_idiv hF hL hS hH hy
  | irem => exact z_irem hF hL hS hH hy
  | iand => exact z_iand hF hL hS hH hy
  | iushr => exact z_iushr hF hL hS hH hy
  | ishr => exact z_ishr hF hL hS hH hy
  | i2b => exact z_i2b hF hL hS hH hy
  | arraylength => exact z_arraylength hF hL hS hH hy
  | iaload => exact z_iaload hF hL hS hH hy
  | baload => exact z_baload hF hL hS hH hy
  | laload => exact z_laload hF hL hS hH hy
  | aaload => exact z_aaload hF hL hS hH hy
  | iastore => exact z_iastore hF hL hS hH hy
  | bastore => exact z_bastore hF hL hS hH hy
  | aastore => exact z_aastore hF hL hS hH hy
  | ireturn => exact z_ireturn hF hL hS hH hy
  | areturn => exact z_areturn hF hL hS hH hy
  | iconst k => exact z_iconst hF hL hS hH hy
  | jsr_w k => exact z_jsr_w hF hL hS hH hy
  | iload k => exact z_iload hF hL hS hH hy
  | aload k => exact z_aload hF hL hS hH hy
  | istore k => exact z_istore hF hL hS hH hy
  | astore k => exact z_astore hF hL hS hH hy
  | goto k => exact z_goto hF hL hS hH hy
  | ifnull k => exact z_ifnull hF hL hS hH hy
  | ifnonnull k => exact z_ifnonnull hF hL hS hH hy
  | getfield k => exact z_getfield hF hL hS hH hy
  | putfield k => exact z_putfield hF hL hS hH hy
  | getstatic k => exact z_getstatic hF hL hS hH hy
  | newarray k => exact z_newarray hF hL hS hH hy
  | anewarray k => exact z_anewarray hF hL hS hH hy
  | new k => exact z_new hF hL hS hH hy
  | invokestatic k => exact z_invokestatic hF hL hS hH hy
  | invokevirtual k => exact z_invokevirtual hF hL hS hH hy
  | invokespecial k => exact z_invokespecial hF hL hS hH hy
  | iinc k n => exact z_iinc hF hL hS hH hy
  | ifCond k n => exact z_ifCond hF hL hS hH hy
  | if_icmp k n => exact z_if_icmp hF hL hS hH hy
  | multianewarray k n => exact z_multi hF hL hS hH hy
  | tableswitch d lo hi offs => exact z_tableswitch hF hL hS hH hy
  | return_ => exact z_return hF hL hS hH hy
  | _ => cases hy
end YOK2
