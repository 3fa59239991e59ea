/-! .. its operations and cells -/
section RS2
variable {val : Nat → Int32}
theorem yun_ok {o : Nat} {c : Int32} {a : Option yX} {u : Int32} (h : rI val (.inr a) u) : rI val (yun o a c) (yop o c u) := by
  cases a with
  | none => trivial
  | some e =>
    obtain ⟨k, l⟩ := e
    have h : u = yev val (k, l) := h
    subst h
    rfl
theorem yb_add {x y z : yI} {u v : Int32} (h : ybin .iadd x y = some z) (hx : rI val x u) (hy : rI val y v) : rI val z (u + v) := by
  rcases x with a | a <;> rcases y with b | b
  · have hx : u = a := hx
    have hy : v = b := hy
    subst hx; subst hy
    cases h
    rfl
  · have hx : u = a := hx
    subst hx
    replace h : some (if u = 0 then .inr b else yun 0 b u) = some z := h
    cases h
    by_cases h0 : u = 0
    · rw [if_pos h0, h0, Int32.zero_add]; exact hy
    · rw [if_neg h0, Int32.add_comm]; exact yun_ok hy
  · have hy : v = b := hy
    subst hy
    replace h : some (if v = 0 then .inr a else yun 0 a v) = some z := h
    cases h
    by_cases h0 : v = 0
    · rw [if_pos h0, h0, Int32.add_zero]; exact hx
    · rw [if_neg h0]; exact yun_ok hx
  · cases h
    trivial

theorem yb_sub {x y z : yI} {u v : Int32} (h : ybin .isub x y = some z) (hx : rI val x u) (hy : rI val y v) : rI val z (u - v) := by
  rcases x with a | a <;> rcases y with b | b
  · have hx : u = a := hx
    have hy : v = b := hy
    subst hx; subst hy
    cases h
    rfl
  · have hx : u = a := hx
    subst hx
    cases h
    exact yun_ok (o := 2) hy
  · have hy : v = b := hy
    subst hy
    cases h
    exact yun_ok (o := 1) hx
  · cases h
    trivial
theorem yb_mul {x y z : yI} {u v : Int32} (h : ybin .imul x y = some z) (hx : rI val x u) (hy : rI val y v) : rI val z (u * v) := by
  rcases x with a | a <;> rcases y with b | b
  · have hx : u = a := hx
    have hy : v = b := hy
    subst hx; subst hy
    cases h
    rfl
  · cases h
    trivial
  · have hy : v = b := hy
    subst hy
    cases h
    exact yun_ok (o := 3) hx
  · cases h
    trivial
theorem yb_and {x y z : yI} {u v : Int32} (h : ybin .iand x y = some z) (hx : rI val x u) (hy : rI val y v) : rI val z (u &&& v) := by
  rcases x with a | a <;> rcases y with b | b
  · have hx : u = a := hx
    have hy : v = b := hy
    subst hx; subst hy
    cases h
    rfl
  · cases h
    trivial
  · have hy : v = b := hy
    subst hy
    cases h
    exact yun_ok (o := 6) hx
  · cases h
    trivial
theorem yb_ushr {x y z : yI} {u v : Int32} (h : ybin .iushr x y = some z) (hx : rI val x u) (hy : rI val y v) : rI val z ((u.toUInt32 >>> (v.toUInt32 &&& Int32.toUInt32 31)).toInt32) := by
  rcases x with a | a <;> rcases y with b | b
  · have hx : u = a := hx
    have hy : v = b := hy
    subst hx; subst hy
    cases h
    rfl
  · cases h
  · have hy : v = b := hy
    subst hy
    cases h
    exact yun_ok (o := 7) hx
  · cases h
theorem yb_shr {x y z : yI} {u v : Int32} (h : ybin .ishr x y = some z) (hx : rI val x u) (hy : rI val y v) : rI val z (u >>> (v &&& 31)) := by
  rcases x with a | a <;> rcases y with b | b
  · have hx : u = a := hx
    have hy : v = b := hy
    subst hx; subst hy
    cases h
    rfl
  · cases h
  · have hy : v = b := hy
    subst hy
    cases h
    exact yun_ok (o := 8) hx
  · cases h
theorem yb_div {x y z : yI} {u v : Int32} (h : ybin .idiv x y = some z) (hx : rI val x u) (hy : rI val y v) : ¬ v = 0 ∧ rI val z (u / v) := by
  rcases x with a | a <;> rcases y with b | b
  · have hx : u = a := hx
    have hy : v = b := hy
    subst hx; subst hy
    replace h : (if v = 0 then none else some (.inl (u / v))) = some z := h
    by_cases h0 : v = 0
    · rw [if_pos h0] at h; cases h
    · rw [if_neg h0] at h; cases h; exact ⟨h0, rfl⟩
  · cases h
  · have hy : v = b := hy
    subst hy
    replace h : (if v = 0 then none else some (yun 4 a v)) = some z := h
    by_cases h0 : v = 0
    · rw [if_pos h0] at h; cases h
    · rw [if_neg h0] at h; cases h; exact ⟨h0, yun_ok (o := 4) hx⟩
  · cases h
theorem yb_rem {x y z : yI} {u v : Int32} (h : ybin .irem x y = some z) (hx : rI val x u) (hy : rI val y v) : ¬ v = 0 ∧ rI val z (u - u / v * v) := by
  rcases x with a | a <;> rcases y with b | b
  · have hx : u = a := hx
    have hy : v = b := hy
    subst hx; subst hy
    replace h : (if v = 0 then none else some (.inl (u - u / v * v))) = some z := h
    by_cases h0 : v = 0
    · rw [if_pos h0] at h; cases h
    · rw [if_neg h0] at h; cases h; exact ⟨h0, rfl⟩
  · cases h
  · have hy : v = b := hy
    subst hy
    replace h : (if v = 0 then none else some (yun 5 a v)) = some z := h
    by_cases h0 : v = 0
    · rw [if_pos h0] at h; cases h
    · rw [if_neg h0] at h; cases h; exact ⟨h0, yun_ok (o := 5) hx⟩
  · cases h
theorem y01_ok {F : yF} (hF : rF val F) {i : yI} {u : Int32} (h : y01 F i = true) (hi : rI val i u) : (decide (u = 0) || decide (u = 1)) = true := by
  rcases i with a | _ | e
  · have hi : u = a := hi
    subst hi
    exact h
  · cases h
  · have hi : u = yev val e := hi
    subst hi
    have hk := yiv_ok hF e
    unfold y01 at h
    simp only [Bool.and_eq_true, decide_eq_true_eq] at h
    simp only [Bool.or_eq_true, decide_eq_true_eq, ← Int32.toInt_inj]
    have e0 : (0 : Int32).toInt = 0 := rfl
    have e1 : (1 : Int32).toInt = 1 := rfl
    omega
theorem yfit_ok {F : yF} (hF : rF val F) {ty : FieldType} {v : yV} {w : Value} (h : yfit F ty v = true) (hv : rV val v w) : mfit ty w = true := by
  unfold yfit at h
  split at h
  · obtain ⟨z, rfl, -⟩ := hv; rfl
  · obtain ⟨z, rfl, hz⟩ := hv
    exact y01_ok hF h hz
  all_goals first | (cases h; done) | (have hv : w = _ := hv; subst hv; rfl)
theorem mib_lt {i : Int32} {n : Nat} (h : mib i n = true) : i.toNatClampNeg < n := by
  have h2 := s_vp h
  exact Nat.not_le.mp fun q => h2 (Or.inr q)
theorem yix_ok {F : yF} (hF : rF val F) {i : yI} {n : Nat} {j : Option Nat} {u : Int32} (h : yix F i n = some j) (hi : rI val i u) : mib u n = true ∧ (∀ k, j = some k → u.toNatClampNeg = k) := by
  rcases i with a | _ | e
  · have hi : u = a := hi
    subst hi
    replace h : (if mib u n then some (some u.toNatClampNeg) else none) = some j := h
    by_cases hb : mib u n = true
    · rw [if_pos hb] at h
      cases h
      exact ⟨hb, fun k hk => Option.some.inj hk⟩
    · rw [if_neg hb] at h; cases h
  · cases h
  · have hi : u = yev val e := hi
    subst hi
    have hk := yiv_ok hF e
    replace h : (match yiv F e with
      | (lo, hi) => if 0 ≤ lo ∧ hi < (n : Int) then some none else none) = some j := h
    generalize yiv F e = r at hk h
    obtain ⟨lo, hi⟩ := r
    dsimp only at hk h
    by_cases hb : 0 ≤ lo ∧ hi < (n : Int)
    · rw [if_pos hb] at h
      cases h
      refine ⟨?_, fun k hk => by cases hk⟩
      have : vp_in (yev val e) n := vp_in_iff.mpr ⟨by omega, by omega⟩
      unfold mib
      simp only [Bool.not_eq_true', Bool.or_eq_false_iff, decide_eq_false_iff_not]
      exact ⟨fun q => this (Or.inl q), fun q => this (Or.inr q)⟩
    · rw [if_neg hb] at h; cases h
theorem yld_ok {n : Nat} {d : yI} {ups : List (Nat × yI)} {f : Nat → Int32} {j : Option Nat} {u : Int32} (hc : ∀ j, j < n → rI val (yget d ups j) (f j)) (hb : mib u n = true) (hj : ∀ k, j = some k → u.toNatClampNeg = k) : rI val (yld d ups j) (f u.toNatClampNeg) := by
  have hlt := mib_lt hb
  cases j with
  | some k =>
    have e := hj k rfl
    subst e
    exact hc _ hlt
  | none =>
    show rI val (if ups.isEmpty then d else .inr none) _
    by_cases he : ups.isEmpty = true
    · rw [if_pos he]
      have e : ups = [] := List.isEmpty_iff.mp he
      subst e
      exact hc _ hlt
    · rw [if_neg he]
      trivial
theorem yst_ok {n : Nat} {d : yI} {ups : List (Nat × yI)} {f : Nat → Int32} {j : Option Nat} {u w : Int32} {v : yI} (hc : ∀ j, j < n → rI val (yget d ups j) (f j)) (hj : ∀ k, j = some k → u.toNatClampNeg = k) (hv : rI val v w) : ∀ k, k < n → rI val (yget (yst d ups j v).1 (yst d ups j v).2 k) (upd f u.toNatClampNeg w k) := by
  intro k hk
  cases j with
  | some i =>
    have e := hj i rfl
    subst e
    show rI val (yget d ((u.toNatClampNeg, v) :: ups) k) _
    unfold yget upd
    by_cases he : u.toNatClampNeg = k
    · rw [if_pos he, if_pos he.symm]; exact hv
    · rw [if_neg he, if_neg (Ne.symm he)]; exact hc k hk
  | none => trivial
theorem yown_ok {h : List yE} {h0 : List mE} {q : Nat} {e : yE} (hH : rH val h h0) (hq : yown h q = some e) : ∃ e0, mown h0 q = some e0 ∧ rE val e e0 := by
  unfold yown at hq
  unfold mown
  by_cases h4 : q < 4
  · rw [if_pos h4] at hq; cases hq
  · rw [if_neg h4] at hq ⊢
    exact rAll_get hH hq
theorem yput_ok {h : List yE} {h0 : List mE} {q : Nat} {e : yE} {e0 : mE} (hH : rH val h h0) (he : rE val e e0) : rH val (yput h q e) (mput h0 q e0) := rAll_set hH he
theorem ylget_ok {L : yL} {L0 : mL} {i : Nat} {v : yV} (hL : rLo val L L0) (h : ylget L i = some v) : ∃ w, lget L0 i = some w ∧ rV val v w := by
  unfold ylget at h
  split at h
  · rename_i v2 hv
    cases h
    obtain ⟨b, h1, h2⟩ := rAll_get hL hv
    cases b with
    | none => exact h2.elim
    | some w => exact ⟨w, by unfold lget; rw [h1], h2⟩
  · cases h
theorem yclr_ok {L : yL} {L0 : mL} (hL : rLo val L L0) : ∀ i, rLo val (yclr L i) (lclr L0 i)
  | 0 => hL
  | i + 1 => by
    show rLo val (match L[i]? with
      | some (some (.inr (.long _))) => L.set i none
      | some (some (.inr (.double _))) => L.set i none
      | _ => L) _
    rw [lclr_s]
    cases hi : L[i]? with
    | none => rw [rAll_none hL hi]; exact hL
    | some a =>
      obtain ⟨b, h1, h2⟩ := rAll_get hL hi
      rw [h1]
      rcases a with _ | a
      · cases b with
        | none => exact hL
        | some b => exact h2.elim
      · cases b with
        | none => exact h2.elim
        | some b =>
          rcases a with a | a
          · obtain ⟨z, rfl, -⟩ := h2
            exact hL
          · have h2 : b = a := h2
            subst h2
            cases b with
            | long z => exact rAll_set hL trivial
            | double z => exact rAll_set hL trivial
            | _ => exact hL
theorem yset1_ok {L : yL} {L0 : mL} (hL : rLo val L L0) {i : Nat} {v : yV} {w : Value} (h : rV val v w) : rLo val (yset1 L i v) (lset1 L0 i w) := rAll_set (yclr_ok hL i) h
theorem ylent1_ok : ∀ {vs : List yV} {ws : List Value}, rS val vs ws → rLo val (ylent1 vs) (lent1 ws)
  | [], [], _ => trivial
  | v :: vs, w :: ws, h => by
    have ih := ylent1_ok h.2
    unfold ylent1 lent1
    rw [rV_cat h.1]
    by_cases hc : w.category = 2
    · rw [if_pos hc, if_pos hc]; exact ⟨h.1, trivial, ih⟩
    · rw [if_neg hc, if_neg hc]; exact ⟨h.1, ih⟩
  | [], _ :: _, h => h.elim
  | _ :: _, [], h => h.elim
theorem ylent_ok {vs : List yV} {ws : List Value} (h : rS val vs ws) (n : Nat) : rLo val (ylent vs n) (lent ws n) := by
  unfold ylent lent
  rw [rAll_len (ylent1_ok h)]
  exact rAll_app (ylent1_ok h) (rAll_rep trivial _)
theorem ytake_ok : ∀ (n : Nat) {S acc as T : List yV} {S0 acc0 : List Value}, rS val S S0 → rS val acc acc0 → ytake n S acc = some (as, T) → ∃ as0 T0, mtake n S0 acc0 = some (as0, T0) ∧ rS val as as0 ∧ rS val T T0
  | 0, S, acc, as, T, S0, acc0, hS, ha, h => by
    cases h
    exact ⟨acc0, S0, rfl, ha, hS⟩
  | n + 1, [], _, _, _, _, _, _, _, h => by cases h
  | n + 1, v :: S, acc, as, T, S0, acc0, hS, ha, h => by
    obtain ⟨v0, T0, rfl, h1, h2⟩ := rS_c hS
    exact ytake_ok n (acc := v :: acc) (acc0 := v0 :: acc0) h2 ⟨h1, ha⟩ h
theorem ydef_ok (ty : FieldType) : rV val (ydef ty) (defaultValue ty) := by
  cases ty <;> first | exact rfl | exact ⟨0, rfl, rfl⟩
theorem ydefs_ok : ∀ l : List FieldType, rS val (l.map ydef) (l.map defaultValue)
  | [] => trivial
  | ty :: l => ⟨ydef_ok ty, ydefs_ok l⟩
theorem rH_len {h : List yE} {h0 : List mE} (hH : rH val h h0) : h.length = h0.length := rAll_len hH
theorem rH_sz : ∀ {h : List yE} {h0 : List mE}, rH val h h0 → (h.map ysz).sum = mhs h0
  | [], [], _ => rfl
  | a :: as, b :: bs, h => by
    have h1 := rH_sz h.2
    have h2 : ysz a = msz b := by
      rcases a with ⟨t, n, c⟩ | ⟨ci, fs⟩ <;> rcases b with ⟨t2, n2, c2⟩ | ⟨ci2, fs2⟩
      · exact h.1.2.1
      · exact h.1.elim
      · exact h.1.elim
      · exact rAll_len h.1.2
    simp only [mhs, List.map_cons, List.sum_cons] at h1 ⊢
    rw [h1, h2]
  | [], _ :: _, h => h.elim
  | _ :: _, [], h => h.elim
end RS2
