/-! .. instruction by instruction -/
/-- one of the ways is the small machine's -/
def yOK (Lc : Nat) (val : Nat → Int32) (ret : Option FieldType) (r : mR) (pc : Nat) (L0 : mL) (S0 : List Value) (h0 : List mE) (os : List (yF × yO)) : Prop := ∃ q ∈ os, rF val q.1 ∧ ∃ z, mx ret (mex Lc val) r pc L0 S0 h0 = some z ∧ rOut val q.2 z
theorem rAll_c {α β : Type} {r : α → β → Prop} {x : α} {y : β} {as : List α} {bs : List β} (h1 : r x y) (h2 : rAll r as bs) : rAll r (x :: as) (y :: bs) := ⟨h1, h2⟩
theorem rV_r {val : Nat → Int32} {w : Value} : rV val (.inr w) w := rfl
theorem rI_c {val : Nat → Int32} {c : Int32} : rI val (.inl c) c := rfl
section YOK
variable {Lc : Nat} {val : Nat → Int32} {ret : Option FieldType} {F : yF} {pc ln a b q1 : Nat} {L : yL} {S : List yV} {h : List yE} {L0 : mL} {S0 : List Value} {h0 : List mE} {os : List (yF × yO)}
theorem y_one {r : mR} {pc2 : Nat} {L1 : yL} {S1 : List yV} {h1 : List yE} {L2 : mL} {S2 : List Value} {h2 : List mE} (hF : rF val F) (hy : ygo F pc2 L1 S1 h1 = some os) (hz : mx ret (mex Lc val) r pc L0 S0 h0 = some (.inl (pc2, L2, S2, h2))) (hL : rLo val L1 L2) (hS : rS val S1 S2) (hH : rH val h1 h2) : yOK Lc val ret r pc L0 S0 h0 os := by
  cases hy
  exact ⟨_, List.mem_cons_self, hF, _, hz, rfl, hL, hS, hH⟩
theorem y_br {r : mR} {l : List (yF × Bool)} {t f : Nat} {L1 : yL} {S1 : List yV} {h1 : List yE} {L2 : mL} {S2 : List Value} {h2 : List mE} {bb : Bool} (hy : some (l.map fun q => (q.1, (.inl (if q.2 then t else f, L1, S1, h1) : yO))) = some os) (hq : ∃ q ∈ l, rF val q.1 ∧ q.2 = bb) (hz : mx ret (mex Lc val) r pc L0 S0 h0 = some (.inl (if bb then t else f, L2, S2, h2))) (hL : rLo val L1 L2) (hS : rS val S1 S2) (hH : rH val h1 h2) : yOK Lc val ret r pc L0 S0 h0 os := by
  cases hy
  obtain ⟨q, h1, h2, h3⟩ := hq
  refine ⟨_, List.mem_map.mpr ⟨q, h1, rfl⟩, h2, _, hz, ?_, hL, hS, hH⟩
  rw [h3]
theorem z_iconst {v : Int} (hF : rF val F) (hL : rLo val L L0) (hS : rS val S S0) (hH : rH val h h0) (hy : ymx Lc ret F (.iconst v, ln, a, b, q1) pc L S h = some os) : yOK Lc val ret (.iconst v, ln, a, b, q1) pc L0 S0 h0 os := by
  replace hy : (ygo F (pc + ln) L (.inl (.inl (Int32.ofInt v)) :: S) h) = some os := hy
  exact y_one hF hy rfl hL (rAll_c (rV_i rI_c) hS) hH
theorem z_jsr_w {v : Int} (hF : rF val F) (hL : rLo val L L0) (hS : rS val S S0) (hH : rH val h h0) (hy : ymx Lc ret F (.jsr_w v, ln, a, b, q1) pc L S h = some os) : yOK Lc val ret (.jsr_w v, ln, a, b, q1) pc L0 S0 h0 os := by
  replace hy : (ygo F (pc + ln) L (.inr (.long (Int64.ofInt v)) :: S) h) = some os := hy
  exact y_one hF hy rfl hL (rAll_c rV_r hS) hH
theorem z_aconst_null (hF : rF val F) (hL : rLo val L L0) (hS : rS val S S0) (hH : rH val h h0) (hy : ymx Lc ret F (.aconst_null, ln, a, b, q1) pc L S h = some os) : yOK Lc val ret (.aconst_null, ln, a, b, q1) pc L0 S0 h0 os := by
  replace hy : (ygo F (pc + ln) L (.inr .null :: S) h) = some os := hy
  exact y_one hF hy rfl hL (rAll_c rV_r hS) hH
theorem z_getstatic {i : Nat} (hF : rF val F) (hL : rLo val L L0) (hS : rS val S S0) (hH : rH val h h0) (hy : ymx Lc ret F (.getstatic i, ln, a, b, q1) pc L S h = some os) : yOK Lc val ret (.getstatic i, ln, a, b, q1) pc L0 S0 h0 os := by
  replace hy : (ygo F (pc + ln) L (.inr (.ref (a + 1)) :: S) h) = some os := hy
  exact y_one hF hy rfl hL (rAll_c rV_r hS) hH
theorem z_goto {off : Int} (hF : rF val F) (hL : rLo val L L0) (hS : rS val S S0) (hH : rH val h h0) (hy : ymx Lc ret F (.goto off, ln, a, b, q1) pc L S h = some os) : yOK Lc val ret (.goto off, ln, a, b, q1) pc L0 S0 h0 os := by
  replace hy : (ygo F (mjmp pc off) L S h) = some os := hy
  exact y_one hF hy rfl hL hS hH
theorem z_iload {i : Nat} (hF : rF val F) (hL : rLo val L L0) (hS : rS val S S0) (hH : rH val h h0) (hy : ymx Lc ret F (.iload i, ln, a, b, q1) pc L S h = some os) : yOK Lc val ret (.iload i, ln, a, b, q1) pc L0 S0 h0 os := by
  replace hy : (match (generalizing := false) ylget L i with
    | some (.inl x) => ygo F (pc + ln) L (.inl x :: S) h
    | _ => none) = some os := hy
  split at hy
  · rename_i x hl
    obtain ⟨w, hw, z, rfl, hz⟩ := ylget_ok hL hl
    exact y_one hF hy (by dsimp only [mx]; rw [hw]; rfl) hL (rAll_c (rV_i hz) hS) hH
  · cases hy
theorem z_aload {i : Nat} (hF : rF val F) (hL : rLo val L L0) (hS : rS val S S0) (hH : rH val h h0) (hy : ymx Lc ret F (.aload i, ln, a, b, q1) pc L S h = some os) : yOK Lc val ret (.aload i, ln, a, b, q1) pc L0 S0 h0 os := by
  replace hy : (match (generalizing := false) ylget L i with
    | some (.inr (.ref x)) => ygo F (pc + ln) L (.inr (.ref x) :: S) h
    | some (.inr .null) => ygo F (pc + ln) L (.inr .null :: S) h
    | _ => none) = some os := hy
  split at hy
  · rename_i x hl
    obtain ⟨w, hw, hv⟩ := ylget_ok hL hl
    have hv : w = _ := hv
    subst hv
    exact y_one hF hy (by dsimp only [mx]; rw [hw]; rfl) hL (rAll_c rV_r hS) hH
  · rename_i hl
    obtain ⟨w, hw, hv⟩ := ylget_ok hL hl
    have hv : w = _ := hv
    subst hv
    exact y_one hF hy (by dsimp only [mx]; rw [hw]; rfl) hL (rAll_c rV_r hS) hH
  · cases hy
theorem z_istore {i : Nat} (hF : rF val F) (hL : rLo val L L0) (hS : rS val S S0) (hH : rH val h h0) (hy : ymx Lc ret F (.istore i, ln, a, b, q1) pc L S h = some os) : yOK Lc val ret (.istore i, ln, a, b, q1) pc L0 S0 h0 os := by
  replace hy : (match (generalizing := false) S with
    | .inl x :: T => if i < L.length then ygo F (pc + ln) (yset1 L i (.inl x)) T h else none
    | _ => none) = some os := hy
  split at hy
  · rename_i x T
    by_cases hi : i < L.length
    · rw [if_pos hi] at hy
      obtain ⟨x0, T0, rfl, hx0, hT⟩ := rS_i hS
      exact y_one hF hy (by dsimp only [mx]; rw [if_pos (by rw [← rAll_len hL]; exact hi)]; rfl) (yset1_ok hL (rV_i hx0)) hT hH
    · rw [if_neg hi] at hy; cases hy
  · cases hy
theorem z_astore {i : Nat} (hF : rF val F) (hL : rLo val L L0) (hS : rS val S S0) (hH : rH val h h0) (hy : ymx Lc ret F (.astore i, ln, a, b, q1) pc L S h = some os) : yOK Lc val ret (.astore i, ln, a, b, q1) pc L0 S0 h0 os := by
  replace hy : (match (generalizing := false) S with
    | .inr (.ref x) :: T => if i < L.length then ygo F (pc + ln) (yset1 L i (.inr (.ref x))) T h else none
    | .inr .null :: T => if i < L.length then ygo F (pc + ln) (yset1 L i (.inr .null)) T h else none
    | _ => none) = some os := hy
  split at hy
  · rename_i x T
    by_cases hi : i < L.length
    · rw [if_pos hi] at hy
      obtain ⟨T0, rfl, hT⟩ := rS_r hS
      exact y_one hF hy (by dsimp only [mx]; rw [if_pos (by rw [← rAll_len hL]; exact hi)]; rfl) (yset1_ok hL rV_r) hT hH
    · rw [if_neg hi] at hy; cases hy
  · rename_i T
    by_cases hi : i < L.length
    · rw [if_pos hi] at hy
      obtain ⟨T0, rfl, hT⟩ := rS_r hS
      exact y_one hF hy (by dsimp only [mx]; rw [if_pos (by rw [← rAll_len hL]; exact hi)]; rfl) (yset1_ok hL rV_r) hT hH
    · rw [if_neg hi] at hy; cases hy
  · cases hy
theorem z_iinc {i : Nat} {n : Int} (hF : rF val F) (hL : rLo val L L0) (hS : rS val S S0) (hH : rH val h h0) (hy : ymx Lc ret F (.iinc i n, ln, a, b, q1) pc L S h = some os) : yOK Lc val ret (.iinc i n, ln, a, b, q1) pc L0 S0 h0 os := by
  replace hy : (match (generalizing := false) ylget L i with
    | some (.inl x) => if i < L.length then (match ybin .iadd x (.inl (Int32.ofInt n)) with
        | some z => ygo F (pc + ln) (yset1 L i (.inl z)) S h
        | none => none) else none
    | _ => none) = some os := hy
  split at hy
  · rename_i x hl
    obtain ⟨w, hw, z, rfl, hz⟩ := ylget_ok hL hl
    by_cases hi : i < L.length
    · rw [if_pos hi] at hy
      split at hy
      · rename_i z2 hz2
        exact y_one hF hy (by dsimp only [mx]; rw [hw]; dsimp only; rw [if_pos (by rw [← rAll_len hL]; exact hi)]; rfl) (yset1_ok hL (rV_i (yb_add hz2 hz rI_c))) hS hH
      · cases hy
    · rw [if_neg hi] at hy; cases hy
  · cases hy
theorem z_pop (hF : rF val F) (hL : rLo val L L0) (hS : rS val S S0) (hH : rH val h h0) (hy : ymx Lc ret F (.pop, ln, a, b, q1) pc L S h = some os) : yOK Lc val ret (.pop, ln, a, b, q1) pc L0 S0 h0 os := by
  replace hy : (match (generalizing := false) S with
    | v :: T => if ycat v = 1 then ygo F (pc + ln) L T h else none
    | _ => none) = some os := hy
  split at hy
  · rename_i v T
    by_cases hv : ycat v = 1
    · rw [if_pos hv] at hy
      obtain ⟨v0, T0, rfl, h1, hT⟩ := rS_c hS
      exact y_one hF hy (by dsimp only [mx]; rw [if_pos (by rw [← rV_cat h1]; exact hv)]; rfl) hL hT hH
    · rw [if_neg hv] at hy; cases hy
  · cases hy
theorem z_pop2 (hF : rF val F) (hL : rLo val L L0) (hS : rS val S S0) (hH : rH val h h0) (hy : ymx Lc ret F (.pop2, ln, a, b, q1) pc L S h = some os) : yOK Lc val ret (.pop2, ln, a, b, q1) pc L0 S0 h0 os := by
  replace hy : (match (generalizing := false) S with
    | .inr (.ref _) :: T => if ymcat T ≤ 8 then ygo F (pc + ln) L T h else none
    | _ => none) = some os := hy
  split at hy
  · rename_i q T
    by_cases hv : ymcat T ≤ 8
    · rw [if_pos hv] at hy
      obtain ⟨T0, rfl, hT⟩ := rS_r hS
      exact y_one hF hy (by dsimp only [mx]; rw [if_pos (by rw [← rS_cat hT]; exact hv)]; rfl) hL hT hH
    · rw [if_neg hv] at hy; cases hy
  · cases hy
theorem z_dup (hF : rF val F) (hL : rLo val L L0) (hS : rS val S S0) (hH : rH val h h0) (hy : ymx Lc ret F (.dup, ln, a, b, q1) pc L S h = some os) : yOK Lc val ret (.dup, ln, a, b, q1) pc L0 S0 h0 os := by
  replace hy : (match (generalizing := false) S with
    | v :: T => if ycat v = 1 then ygo F (pc + ln) L (v :: v :: T) h else none
    | _ => none) = some os := hy
  split at hy
  · rename_i v T
    by_cases hv : ycat v = 1
    · rw [if_pos hv] at hy
      obtain ⟨v0, T0, rfl, h1, hT⟩ := rS_c hS
      exact y_one hF hy (by dsimp only [mx]; rw [if_pos (by rw [← rV_cat h1]; exact hv)]; rfl) hL (rAll_c h1 (rAll_c h1 hT)) hH
    · rw [if_neg hv] at hy; cases hy
  · cases hy
theorem z_dup_x1 (hF : rF val F) (hL : rLo val L L0) (hS : rS val S S0) (hH : rH val h h0) (hy : ymx Lc ret F (.dup_x1, ln, a, b, q1) pc L S h = some os) : yOK Lc val ret (.dup_x1, ln, a, b, q1) pc L0 S0 h0 os := by
  replace hy : (match (generalizing := false) S with
    | v :: w :: T => if ycat v = 1 ∧ ycat w = 1 then ygo F (pc + ln) L (v :: w :: v :: T) h else none
    | _ => none) = some os := hy
  split at hy
  · rename_i v w T
    by_cases hv : ycat v = 1 ∧ ycat w = 1
    · rw [if_pos hv] at hy
      obtain ⟨v0, T1, rfl, h1, hT1⟩ := rS_c hS
      obtain ⟨w0, T0, rfl, h2, hT⟩ := rS_c hT1
      exact y_one hF hy (by dsimp only [mx]; rw [if_pos ⟨by rw [← rV_cat h1]; exact hv.1, by rw [← rV_cat h2]; exact hv.2⟩]; rfl) hL (rAll_c h1 (rAll_c h2 (rAll_c h1 hT))) hH
    · rw [if_neg hv] at hy; cases hy
  · cases hy
theorem z_dup2 (hF : rF val F) (hL : rLo val L L0) (hS : rS val S S0) (hH : rH val h h0) (hy : ymx Lc ret F (.dup2, ln, a, b, q1) pc L S h = some os) : yOK Lc val ret (.dup2, ln, a, b, q1) pc L0 S0 h0 os := by
  replace hy : (match (generalizing := false) S with
    | v :: w :: T => if ycat v = 1 ∧ ycat w = 1 then ygo F (pc + ln) L (v :: w :: v :: w :: T) h else none
    | _ => none) = some os := hy
  split at hy
  · rename_i v w T
    by_cases hv : ycat v = 1 ∧ ycat w = 1
    · rw [if_pos hv] at hy
      obtain ⟨v0, T1, rfl, h1, hT1⟩ := rS_c hS
      obtain ⟨w0, T0, rfl, h2, hT⟩ := rS_c hT1
      exact y_one hF hy (by dsimp only [mx]; rw [if_pos ⟨by rw [← rV_cat h1]; exact hv.1, by rw [← rV_cat h2]; exact hv.2⟩]; rfl) hL (rAll_c h1 (rAll_c h2 (rAll_c h1 (rAll_c h2 hT)))) hH
    · rw [if_neg hv] at hy; cases hy
  · cases hy
theorem z_iadd (hF : rF val F) (hL : rLo val L L0) (hS : rS val S S0) (hH : rH val h h0) (hy : ymx Lc ret F (.iadd, ln, a, b, q1) pc L S h = some os) : yOK Lc val ret (.iadd, ln, a, b, q1) pc L0 S0 h0 os := by
  replace hy : (match (generalizing := false) S with
    | .inl y :: .inl x :: T => (match ybin .iadd x y with
        | some z => ygo F (pc + ln) L (.inl z :: T) h
        | none => none)
    | _ => none) = some os := hy
  split at hy
  · rename_i y x T
    split at hy
    · rename_i z hz
      obtain ⟨y0, T1, rfl, hy0, hT1⟩ := rS_i hS
      obtain ⟨x0, T0, rfl, hx0, hT⟩ := rS_i hT1
      exact y_one hF hy rfl hL (rAll_c (rV_i (yb_add hz hx0 hy0)) hT) hH
    · cases hy
  · cases hy
theorem z_isub (hF : rF val F) (hL : rLo val L L0) (hS : rS val S S0) (hH : rH val h h0) (hy : ymx Lc ret F (.isub, ln, a, b, q1) pc L S h = some os) : yOK Lc val ret (.isub, ln, a, b, q1) pc L0 S0 h0 os := by
  replace hy : (match (generalizing := false) S with
    | .inl y :: .inl x :: T => (match ybin .isub x y with
        | some z => ygo F (pc + ln) L (.inl z :: T) h
        | none => none)
    | _ => none) = some os := hy
  split at hy
  · rename_i y x T
    split at hy
    · rename_i z hz
      obtain ⟨y0, T1, rfl, hy0, hT1⟩ := rS_i hS
      obtain ⟨x0, T0, rfl, hx0, hT⟩ := rS_i hT1
      exact y_one hF hy rfl hL (rAll_c (rV_i (yb_sub hz hx0 hy0)) hT) hH
    · cases hy
  · cases hy
theorem z_imul (hF : rF val F) (hL : rLo val L L0) (hS : rS val S S0) (hH : rH val h h0) (hy : ymx Lc ret F (.imul, ln, a, b, q1) pc L S h = some os) : yOK Lc val ret (.imul, ln, a, b, q1) pc L0 S0 h0 os := by
  replace hy : (match (generalizing := false) S with
    | .inl y :: .inl x :: T => (match ybin .imul x y with
        | some z => ygo F (pc + ln) L (.inl z :: T) h
        | none => none)
    | _ => none) = some os := hy
  split at hy
  · rename_i y x T
    split at hy
    · rename_i z hz
      obtain ⟨y0, T1, rfl, hy0, hT1⟩ := rS_i hS
      obtain ⟨x0, T0, rfl, hx0, hT⟩ := rS_i hT1
      exact y_one hF hy rfl hL (rAll_c (rV_i (yb_mul hz hx0 hy0)) hT) hH
    · cases hy
  · cases hy
theorem z_iand (hF : rF val F) (hL : rLo val L L0) (hS : rS val S S0) (hH : rH val h h0) (hy : ymx Lc ret F (.iand, ln, a, b, q1) pc L S h = some os) : yOK Lc val ret (.iand, ln, a, b, q1) pc L0 S0 h0 os := by
  replace hy : (match (generalizing := false) S with
    | .inl y :: .inl x :: T => (match ybin .iand x y with
        | some z => ygo F (pc + ln) L (.inl z :: T) h
        | none => none)
    | _ => none) = some os := hy
  split at hy
  · rename_i y x T
    split at hy
    · rename_i z hz
      obtain ⟨y0, T1, rfl, hy0, hT1⟩ := rS_i hS
      obtain ⟨x0, T0, rfl, hx0, hT⟩ := rS_i hT1
      exact y_one hF hy rfl hL (rAll_c (rV_i (yb_and hz hx0 hy0)) hT) hH
    · cases hy
  · cases hy
theorem z_iushr (hF : rF val F) (hL : rLo val L L0) (hS : rS val S S0) (hH : rH val h h0) (hy : ymx Lc ret F (.iushr, ln, a, b, q1) pc L S h = some os) : yOK Lc val ret (.iushr, ln, a, b, q1) pc L0 S0 h0 os := by
  replace hy : (match (generalizing := false) S with
    | .inl y :: .inl x :: T => (match ybin .iushr x y with
        | some z => ygo F (pc + ln) L (.inl z :: T) h
        | none => none)
    | _ => none) = some os := hy
  split at hy
  · rename_i y x T
    split at hy
    · rename_i z hz
      obtain ⟨y0, T1, rfl, hy0, hT1⟩ := rS_i hS
      obtain ⟨x0, T0, rfl, hx0, hT⟩ := rS_i hT1
      exact y_one hF hy rfl hL (rAll_c (rV_i (yb_ushr hz hx0 hy0)) hT) hH
    · cases hy
  · cases hy
theorem z_ishr (hF : rF val F) (hL : rLo val L L0) (hS : rS val S S0) (hH : rH val h h0) (hy : ymx Lc ret F (.ishr, ln, a, b, q1) pc L S h = some os) : yOK Lc val ret (.ishr, ln, a, b, q1) pc L0 S0 h0 os := by
  replace hy : (match (generalizing := false) S with
    | .inl y :: .inl x :: T => (match ybin .ishr x y with
        | some z => ygo F (pc + ln) L (.inl z :: T) h
        | none => none)
    | _ => none) = some os := hy
  split at hy
  · rename_i y x T
    split at hy
    · rename_i z hz
      obtain ⟨y0, T1, rfl, hy0, hT1⟩ := rS_i hS
      obtain ⟨x0, T0, rfl, hx0, hT⟩ := rS_i hT1
      exact y_one hF hy rfl hL (rAll_c (rV_i (yb_shr hz hx0 hy0)) hT) hH
    · cases hy
  · cases hy
theorem z_idiv (hF : rF val F) (hL : rLo val L L0) (hS : rS val S S0) (hH : rH val h h0) (hy : ymx Lc ret F (.idiv, ln, a, b, q1) pc L S h = some os) : yOK Lc val ret (.idiv, ln, a, b, q1) pc L0 S0 h0 os := by
  replace hy : (match (generalizing := false) S with
    | .inl y :: .inl x :: T => (match ybin .idiv x y with
        | some z => ygo F (pc + ln) L (.inl z :: T) h
        | none => none)
    | _ => none) = some os := hy
  split at hy
  · rename_i y x T
    split at hy
    · rename_i z hz
      obtain ⟨y0, T1, rfl, hy0, hT1⟩ := rS_i hS
      obtain ⟨x0, T0, rfl, hx0, hT⟩ := rS_i hT1
      obtain ⟨hn, hr⟩ := yb_div hz hx0 hy0
      exact y_one hF hy (by dsimp only [mx]; rw [if_neg hn]; rfl) hL (rAll_c (rV_i hr) hT) hH
    · cases hy
  · cases hy
theorem z_irem (hF : rF val F) (hL : rLo val L L0) (hS : rS val S S0) (hH : rH val h h0) (hy : ymx Lc ret F (.irem, ln, a, b, q1) pc L S h = some os) : yOK Lc val ret (.irem, ln, a, b, q1) pc L0 S0 h0 os := by
  replace hy : (match (generalizing := false) S with
    | .inl y :: .inl x :: T => (match ybin .irem x y with
        | some z => ygo F (pc + ln) L (.inl z :: T) h
        | none => none)
    | _ => none) = some os := hy
  split at hy
  · rename_i y x T
    split at hy
    · rename_i z hz
      obtain ⟨y0, T1, rfl, hy0, hT1⟩ := rS_i hS
      obtain ⟨x0, T0, rfl, hx0, hT⟩ := rS_i hT1
      obtain ⟨hn, hr⟩ := yb_rem hz hx0 hy0
      exact y_one hF hy (by dsimp only [mx]; rw [if_neg hn]; rfl) hL (rAll_c (rV_i hr) hT) hH
    · cases hy
  · cases hy
theorem z_i2b (hF : rF val F) (hL : rLo val L L0) (hS : rS val S S0) (hH : rH val h h0) (hy : ymx Lc ret F (.i2b, ln, a, b, q1) pc L S h = some os) : yOK Lc val ret (.i2b, ln, a, b, q1) pc L0 S0 h0 os := by
  replace hy : (match (generalizing := false) S with
    | .inl (.inl x) :: T => ygo F (pc + ln) L (.inl (.inl x.toInt8.toInt32) :: T) h
    | .inl (.inr x) :: T => ygo F (pc + ln) L (.inl (yun 9 x 0) :: T) h
    | _ => none) = some os := hy
  split at hy
  · rename_i x T
    obtain ⟨x0, T0, rfl, hx0, hT⟩ := rS_i hS
    have hx0 : x0 = _ := hx0
    subst hx0
    exact y_one hF hy rfl hL (rAll_c (rV_i rI_c) hT) hH
  · rename_i x T
    obtain ⟨x0, T0, rfl, hx0, hT⟩ := rS_i hS
    exact y_one hF hy rfl hL (rAll_c (rV_i (yun_ok (o := 9) (c := 0) hx0)) hT) hH
  · cases hy
theorem z_ifCond {c : ClassFile.Cond} {off : Int} (hF : rF val F) (hL : rLo val L L0) (hS : rS val S S0) (hH : rH val h h0) (hy : ymx Lc ret F (.ifCond c off, ln, a, b, q1) pc L S h = some os) : yOK Lc val ret (.ifCond c off, ln, a, b, q1) pc L0 S0 h0 os := by
  replace hy : (match (generalizing := false) S with
    | .inl x :: T => some ((ycmp F c x (.inl 0)).map fun q => (q.1, (.inl (if q.2 then mjmp pc off else pc + ln, L, T, h) : yO)))
    | _ => none) = some os := hy
  split at hy
  · rename_i x T
    obtain ⟨x0, T0, rfl, hx0, hT⟩ := rS_i hS
    exact y_br hy (ycmp_ok hF c hx0 (v := 0) rfl) rfl hL hT hH
  · cases hy
theorem z_if_icmp {c : ClassFile.Cond} {off : Int} (hF : rF val F) (hL : rLo val L L0) (hS : rS val S S0) (hH : rH val h h0) (hy : ymx Lc ret F (.if_icmp c off, ln, a, b, q1) pc L S h = some os) : yOK Lc val ret (.if_icmp c off, ln, a, b, q1) pc L0 S0 h0 os := by
  replace hy : (match (generalizing := false) S with
    | .inl y :: .inl x :: T => some ((ycmp F c x y).map fun q => (q.1, (.inl (if q.2 then mjmp pc off else pc + ln, L, T, h) : yO)))
    | _ => none) = some os := hy
  split at hy
  · rename_i y x T
    obtain ⟨y0, T1, rfl, hy0, hT1⟩ := rS_i hS
    obtain ⟨x0, T0, rfl, hx0, hT⟩ := rS_i hT1
    exact y_br hy (ycmp_ok hF c hx0 hy0) rfl hL hT hH
  · cases hy
theorem z_ifnull {off : Int} (hF : rF val F) (hL : rLo val L L0) (hS : rS val S S0) (hH : rH val h h0) (hy : ymx Lc ret F (.ifnull off, ln, a, b, q1) pc L S h = some os) : yOK Lc val ret (.ifnull off, ln, a, b, q1) pc L0 S0 h0 os := by
  replace hy : (match (generalizing := false) S with
    | .inr (.ref _) :: T => ygo F (pc + ln) L T h
    | .inr .null :: T => ygo F (mjmp pc off) L T h
    | _ => none) = some os := hy
  split at hy
  · rename_i q T
    obtain ⟨T0, rfl, hT⟩ := rS_r hS
    exact y_one hF hy rfl hL hT hH
  · rename_i T
    obtain ⟨T0, rfl, hT⟩ := rS_r hS
    exact y_one hF hy rfl hL hT hH
  · cases hy
theorem z_ifnonnull {off : Int} (hF : rF val F) (hL : rLo val L L0) (hS : rS val S S0) (hH : rH val h h0) (hy : ymx Lc ret F (.ifnonnull off, ln, a, b, q1) pc L S h = some os) : yOK Lc val ret (.ifnonnull off, ln, a, b, q1) pc L0 S0 h0 os := by
  replace hy : (match (generalizing := false) S with
    | .inr (.ref _) :: T => ygo F (mjmp pc off) L T h
    | .inr .null :: T => ygo F (pc + ln) L T h
    | _ => none) = some os := hy
  split at hy
  · rename_i q T
    obtain ⟨T0, rfl, hT⟩ := rS_r hS
    exact y_one hF hy rfl hL hT hH
  · rename_i T
    obtain ⟨T0, rfl, hT⟩ := rS_r hS
    exact y_one hF hy rfl hL hT hH
  · cases hy
theorem ysw_ok {e : yX} {T : List yV} {T0 : List Value} {lo hi d : Int} (hF : rF val F) (hL : rLo val L L0) (hS : rS val T T0) (hH : rH val h h0) (h1 : lo ≤ (yev val e).toInt) (h2 : (yev val e).toInt ≤ hi) : ∀ (os : List Int) (k : Int), k ≤ (yev val e).toInt → ∃ q ∈ ysw F e pc L T h lo hi d k os, rF val q.1 ∧ rOut val q.2 (.inl (mjmp pc (match os[((yev val e).toInt - k).toNat]? with
    | some o => o
    | none => d), L0, T0, h0))
  | [], k, hk => by
    unfold ysw
    rw [if_pos (show k ≤ hi by omega)]
    exact ⟨_, List.mem_cons_self, yadd_ok hF hk h2, rfl, hL, hS, hH⟩
  | o :: os, k, hk => by
    unfold ysw
    by_cases he : (yev val e).toInt = k
    · rw [if_pos (show lo ≤ k ∧ k ≤ hi by omega)]
      refine ⟨_, List.mem_append_left _ List.mem_cons_self, yadd_ok hF hk (by omega), ?_, hL, hS, hH⟩
      rw [he, Int.sub_self]
      rfl
    · obtain ⟨q, q1, q2, q3⟩ := ysw_ok hF hL hS hH h1 h2 os (k + 1) (by omega)
      refine ⟨q, List.mem_append_right _ q1, q2, ?_⟩
      have e1 : ((yev val e).toInt - k).toNat = ((yev val e).toInt - (k + 1)).toNat + 1 := by omega
      rw [e1, List.getElem?_cons_succ]
      exact q3
theorem z_tableswitch {d lo hi : Int} {offs : Array Int} (hF : rF val F) (hL : rLo val L L0) (hS : rS val S S0) (hH : rH val h h0) (hy : ymx Lc ret F (.tableswitch d lo hi offs, ln, a, b, q1) pc L S h = some os) : yOK Lc val ret (.tableswitch d lo hi offs, ln, a, b, q1) pc L0 S0 h0 os := by
  replace hy : (match (generalizing := false) S with
      | .inl (.inl x) :: T => if x.toInt < lo ∨ hi < x.toInt then ygo F (mjmp pc d) L T h else (match offs.toList[(x.toInt - lo).toNat]? with
          | some o => ygo F (mjmp pc o) L T h
          | none => none)
      | .inl (.inr (some e)) :: T => (match yiv F e with
          | (a, z) => if a = z then (if a < lo ∨ hi < a then ygo F (mjmp pc d) L T h else (match offs.toList[(a - lo).toNat]? with
              | some o => ygo F (mjmp pc o) L T h
              | none => none)) else if hi = lo + offs.toList.length - 1 then some ((if a ≤ lo - 1 then [(yadd F e a (lo - 1), (.inl (mjmp pc d, L, T, h) : yO))] else []) ++ ysw F e pc L T h a z d lo offs.toList) else none)
      | _ => none) = some os := hy
  split at hy
  · rename_i x T
    obtain ⟨x0, T0, rfl, hx0, hT⟩ := rS_i hS
    have hx0 : x0 = _ := hx0
    subst hx0
    by_cases hr : x0.toInt < lo ∨ hi < x0.toInt
    · rw [if_pos hr] at hy
      exact y_one hF hy (by dsimp only [mx]; rw [if_pos hr]; rfl) hL hT hH
    · rw [if_neg hr] at hy
      split at hy
      · rename_i o ho
        rw [Array.getElem?_toList] at ho
        exact y_one hF hy (by dsimp only [mx]; rw [if_neg hr, ho]; rfl) hL hT hH
      · cases hy
  · rename_i e T
    obtain ⟨x0, T0, rfl, hx0, hT⟩ := rS_i hS
    have hx0 : x0 = yev val e := hx0
    subst hx0
    have hk := yiv_ok hF e
    generalize yiv F e = r at hk hy
    obtain ⟨u, v⟩ := r
    dsimp only at hk hy
    by_cases huv : u = v
    · rw [if_pos huv] at hy
      have hu : (yev val e).toInt = u := by omega
      by_cases hr : u < lo ∨ hi < u
      · rw [if_pos hr] at hy
        exact y_one hF hy (by dsimp only [mx]; rw [if_pos (by rw [hu]; exact hr)]; rfl) hL hT hH
      · rw [if_neg hr] at hy
        split at hy
        · rename_i o ho
          rw [Array.getElem?_toList] at ho
          exact y_one hF hy (by dsimp only [mx]; rw [if_neg (by rw [hu]; exact hr), hu, ho]; rfl) hL hT hH
        · cases hy
    · rw [if_neg huv] at hy
      by_cases hlen : hi = lo + offs.toList.length - 1
      · rw [if_pos hlen] at hy
        cases hy
        by_cases hlo : (yev val e).toInt < lo
        · rw [if_pos (show u ≤ lo - 1 by omega)]
          exact ⟨_, List.mem_append_left _ List.mem_cons_self, yadd_ok hF hk.1 (by omega), .inl (mjmp pc d, L0, T0, h0), by dsimp only [mx]; rw [if_pos (Or.inl hlo)]; rfl, rfl, hL, hT, hH⟩
        · obtain ⟨q, q1, q2, q3⟩ := ysw_ok (pc := pc) (d := d) hF hL hT hH hk.1 hk.2 offs.toList lo (by omega)
          refine ⟨q, List.mem_append_right _ q1, q2, _, ?_, q3⟩
          dsimp only [mx]
          by_cases hhi : hi < (yev val e).toInt
          · rw [if_pos (Or.inr hhi)]
            have e1 : offs.toList[((yev val e).toInt - lo).toNat]? = none := List.getElem?_eq_none (by omega)
            rw [e1]
            rfl
          · rw [if_neg (by omega)]
            have hlt : ((yev val e).toInt - lo).toNat < offs.toList.length := by omega
            rw [← Array.getElem?_toList, List.getElem?_eq_getElem hlt]
            rfl
      · rw [if_neg hlen] at hy; cases hy
  · cases hy
end YOK
