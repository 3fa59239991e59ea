/-! WHAT ALWAYS HOLDS beyond types: I1 readings' rows, I2 texts' steps, I3 orders' machines, I4 terms' steps -/
def I1 (τ : List Nat) (h : List mE) : Prop := ∀ q : Nat, ty τ q 11 → ∃ r1 r2 : Nat, fR h q 0 = some r1 ∧ fR h q 1 = some r2 ∧ ty τ r1 116 ∧ ty τ r2 117 ∧ fI h q 2 ≤ (aN h r1 : Int) ∧ aN h r1 = aN h r2 ∧ fI h q 2 ≤ fI h 4 1 + 1
def Ch (f : Int → Int) (n : Int) : Prop := ∃ P : Int → Prop, P 0 ∧ ∀ s, P s → 0 ≤ s ∧ s ≤ n ∧ (s + 2 < n → P (f (s + 2)))
def I2 (τ : List Nat) (h : List mE) : Prop := ∀ q : Nat, ty τ q 13 → ∃ r : Nat, fR h q 3 = some r ∧ ty τ r 121 ∧ Ch (aI h r) (aN h r : Int)
def I3 (h : List mE) : Prop := ∀ o : Int, 0 ≤ o → o < 100 → (o < fI h 64 48 ∨ aI h 109 o = 0) ∧ (aI h 109 o ≤ 0 ∨ 3 < aI h 109 o ∨ 0 ≤ aI h 110 o)
/-- one step of terms: the pile's height behind it -/
def Rs (a w n : Int) : Option Int := if a = 1 then some (n + 1) else if a = 2 then (if 0 ≤ w ∧ w < 14 then some (n + 1) else none) else if a = 3 then some n else if a = 4 then some 0 else if 2 ≤ n then some (n - 1) else none
def Rn (A W : Int → Int) : Nat → Int → Int → Option Int
  | 0, _, n => some n
  | c + 1, p, n => match Rs (A p) (W p) n with
    | some n' => Rn A W c (p + 1) n'
    | none => none
def I6 (h : List mE) : Prop := ∀ k : Int, 0 ≤ k → k < fI h 64 62 → aI h 116 k < fI h 64 48
def I4 (h : List mE) : Prop := ∀ t : Int, 0 ≤ t → t < fI h 64 78 → Rn (aI h 129) (aI h 130) (aI h 128 t).toNat (220 * t) 0 ≠ none
theorem Rn_eq {A W A' W' : Int → Int} : ∀ (c : Nat) (p n : Int), (∀ i : Int, p ≤ i → i < p + c → A' i = A i ∧ W' i = W i) → Rn A' W' c p n = Rn A W c p n
  | 0, _, _, _ => rfl
  | c + 1, p, n, h => by
    unfold Rn
    have h1 := h p (by omega) (by omega)
    rw [h1.1, h1.2]
    split
    · exact Rn_eq c (p + 1) _ (fun i a1 a2 => h i (by omega) (by omega))
    · rfl
theorem Rn_add {A W : Int → Int} : ∀ (c e : Nat) (p n n' : Int), Rn A W c p n = some n' → Rn A W (c + e) p n = Rn A W e (p + c) n'
  | 0, e, p, n, n', h => by
    cases h
    rw [Nat.zero_add]
    simp
  | c + 1, e, p, n, n', h => by
    unfold Rn at h
    have e1 : c + 1 + e = (c + e) + 1 := by omega
    rw [e1]
    show (match Rs (A p) (W p) n with
      | some n' => Rn A W (c + e) (p + 1) n'
      | none => none) = _
    cases hr : Rs (A p) (W p) n with
    | none => rw [hr] at h; cases h
    | some k =>
      rw [hr] at h
      dsimp only at h ⊢
      rw [Rn_add c e (p + 1) k n' h]
      congr 1
      omega
/-- a run's result, told with the run -/
def RB (X : List mE) (d m : Nat) (L : mL) (h : List mE) (v : Option Value) (h' : List mE) : Prop := ∃ f, mrun X f d m 0 L [] h = some (v, h')
theorem MR_det {X : List mE} {d m : Nat} {L : mL} {h : List mE} {Q : Option Value → List mE → Prop} (k : MR X d m 0 L [] h Q) : MR X d m 0 L [] h (fun v h' => Q v h' ∧ RB X d m L h v h') := by
  obtain ⟨f, v, h', hr, hq⟩ := k
  exact ⟨f, v, h', hr, hq, f, hr⟩
theorem RB_det {X : List mE} {d m : Nat} {L : mL} {h : List mE} {v w : Option Value} {h1 h2 : List mE} (a : RB X d m L h v h1) (b : RB X d m L h w h2) : v = w := by
  obtain ⟨f, hf⟩ := a
  obtain ⟨g, hg⟩ := b
  have e1 := mrun_mono hf (Nat.le_max_left f g)
  have e2 := mrun_mono hg (Nat.le_max_right f g)
  cases e1.symm.trans e2
  rfl
theorem vI_inj {x y : Int} (hx : -2147483648 ≤ x ∧ x ≤ 2147483647) (hy : -2147483648 ≤ y ∧ y ≤ 2147483647) (e : some (vI x) = some (vI y)) : x = y := by
  have e1 : Int32.ofInt x = Int32.ofInt y := by
    have := Option.some.inj e
    unfold vI at this
    exact Value.int.inj this
  have := congrArg Int32.toInt e1
  rwa [to_of hx.1 hx.2, to_of hy.1 hy.2] at this
/-- terms laid: a piece that puts one more on the pile; whole steps -/
def Sg (h : List mE) (p c : Int) : Prop := 0 ≤ c ∧ ∀ n : Int, 0 ≤ n → Rn (aI h 129) (aI h 130) c.toNat p n = some (n + 1)
def Zs (h : List mE) (p c : Int) : Prop := 0 ≤ c ∧ Rn (aI h 129) (aI h 130) c.toNat p 0 = some 0
def Em (h h' : List mE) (p c : Int) : Prop := ∀ i : Int, p ≤ i → i < p + c → aI h' 129 i = aI h 129 i ∧ aI h' 130 i = aI h 130 i
theorem Sg_mv {h h' : List mE} {p c : Int} (hs : Sg h p c) (he : Em h h' p c) : Sg h' p c := ⟨hs.1, fun n hn => by
  rw [Rn_eq c.toNat p n (fun i a b => he i a (by have := hs.1; omega))]; exact hs.2 n hn⟩
theorem Zs_mv {h h' : List mE} {p c : Int} (hs : Zs h p c) (he : Em h h' p c) : Zs h' p c := ⟨hs.1, by
  rw [Rn_eq c.toNat p 0 (fun i a b => he i a (by have := hs.1; omega))]; exact hs.2⟩
theorem Rn_one {A W : Int → Int} {p n : Int} : Rn A W 1 p n = Rs (A p) (W p) n := by
  show (match Rs (A p) (W p) n with
    | some n' => some n'
    | none => none) = _
  cases Rs (A p) (W p) n <;> rfl
theorem Rn_cat {A W : Int → Int} {c e : Int} (hc : 0 ≤ c) (he : 0 ≤ e) {p n n' : Int} (h : Rn A W c.toNat p n = some n') : Rn A W (c + e).toNat p n = Rn A W e.toNat (p + c) n' := by
  rw [show (c + e).toNat = c.toNat + e.toNat by omega, Rn_add c.toNat e.toNat p n n' h, show p + (c.toNat : Int) = p + c by omega]
theorem Sg_push {h : List mE} {p : Int} (ha : aI h 129 p = 1) : Sg h p 1 := ⟨by decide, fun n _ => by
  show Rn _ _ 1 p n = _
  rw [Rn_one, ha]; rfl⟩
theorem Sg_name {h : List mE} {p : Int} (ha : aI h 129 p = 2) (hw : 0 ≤ aI h 130 p ∧ aI h 130 p < 14) : Sg h p 1 := ⟨by decide, fun n _ => by
  show Rn _ _ 1 p n = _
  rw [Rn_one, ha]
  unfold Rs
  rw [if_neg (by decide), if_pos rfl, if_pos hw]⟩
theorem Sg_op {h : List mE} {p c e : Int} (h1 : Sg h p c) (h2 : Sg h (p + c) e) (ha : aI h 129 (p + c + e) ≠ 1 ∧ aI h 129 (p + c + e) ≠ 2 ∧ aI h 129 (p + c + e) ≠ 3 ∧ aI h 129 (p + c + e) ≠ 4) : Sg h p (c + e + 1) := ⟨by have := h1.1; have := h2.1; omega, fun n hn => by
  have c0 := h1.1
  have e0 := h2.1
  rw [show c + e + 1 = c + (e + 1) by omega, Rn_cat c0 (by omega) (h1.2 n hn), Rn_cat e0 (by decide) (h2.2 (n + 1) (by omega))]
  show Rn _ _ 1 _ _ = _
  rw [Rn_one]
  unfold Rs
  rw [if_neg ha.1, if_neg ha.2.1, if_neg ha.2.2.1, if_neg ha.2.2.2, if_pos (by omega)]
  congr 1
  omega⟩
theorem Zs_nil {h : List mE} {p : Int} : Zs h p 0 := ⟨by decide, rfl⟩
theorem Zs_cat {h : List mE} {p c e : Int} (h1 : Zs h p c) (h2 : Zs h (p + c) e) : Zs h p (c + e) := ⟨by have := h1.1; have := h2.1; omega, by
  rw [Rn_cat h1.1 h2.1 h1.2]; exact h2.2⟩
/-- a step without its days, and with them -/
theorem Zs_sum {h : List mE} {p c : Int} (h1 : Sg h p c) (ha : aI h 129 (p + c) = 4) : Zs h p (c + 1) := ⟨by have := h1.1; omega, by
  rw [Rn_cat h1.1 (by decide) (h1.2 0 (by decide))]
  show Rn _ _ 1 _ _ = _
  rw [Rn_one, ha]
  rfl⟩
theorem Zs_with {h : List mE} {p c : Int} (ha : aI h 129 p = 3) (h1 : Zs h (p + 1) c) : Zs h p (1 + c) := ⟨by have := h1.1; omega, by
  have e1 : Rn (aI h 129) (aI h 130) (1 : Int).toNat p 0 = some 0 := by
    show Rn _ _ 1 p 0 = _
    rw [Rn_one, ha]; rfl
  rw [Rn_cat (by decide) h1.1 e1]; exact h1.2⟩
/-- the code of the tape's text so far: where its steps begin -/
def I7 (h : List mE) : Prop := ∃ P : Int → Prop, P 0 ∧ P (fI h 54 9) ∧ ∀ s, P s → 0 ≤ s ∧ s ≤ fI h 54 9 ∧ (s = fI h 54 9 ∨ s + 2 < fI h 54 9 ∨ fI h 54 9 = 800) ∧ (s + 2 < fI h 54 9 → P (aI h 59 (s + 2)))
theorem I7_0 {h : List mE} (h0 : fI h 54 9 = 0) : I7 h := ⟨fun s => s = 0, rfl, h0, fun s hs => ⟨by omega, by omega, by omega, fun hl => by omega⟩⟩
theorem I7_step {h h' : List mE} (hI : I7 h) (hb : fI h 54 9 ≤ 800 ∧ 0 ≤ fI h 54 9) (hm : fI h 54 9 ≤ fI h' 54 9) (h8 : fI h' 54 9 ≤ 800) (h3 : fI h 54 9 + 2 < fI h' 54 9 ∨ fI h' 54 9 = 800) (he : fI h 54 9 + 2 < fI h' 54 9 → aI h' 59 (fI h 54 9 + 2) = fI h' 54 9) (hf : ∀ i : Int, 0 ≤ i → i < fI h 54 9 → aI h' 59 i = aI h 59 i) : I7 h' := by
  obtain ⟨P, p0, pc, hp⟩ := hI
  refine ⟨fun s => P s ∨ s = fI h' 54 9, Or.inl p0, Or.inr rfl, fun s hs => ?_⟩
  rcases hs with hs | hs
  · obtain ⟨a1, a2, a3, a4⟩ := hp s hs
    refine ⟨a1, by omega, by omega, fun hl => ?_⟩
    by_cases e : s = fI h 54 9
    · subst e
      exact Or.inr (he hl)
    · by_cases e2 : s + 2 < fI h 54 9
      · rw [hf (s + 2) (by omega) e2]
        exact Or.inl (a4 e2)
      · omega
  · exact ⟨by omega, by omega, Or.inl hs, fun hl => by omega⟩
theorem Ch_of {h : List mE} {f : Int → Int} {n : Int} (hI : I7 h) (hn : n = fI h 54 9) (hf : ∀ i : Int, 0 ≤ i → i < n → f i = aI h 59 i) : Ch f n := by
  subst hn
  obtain ⟨P, p0, pc, hp⟩ := hI
  refine ⟨P, p0, fun s hs => ?_⟩
  obtain ⟨a1, a2, a3, a4⟩ := hp s hs
  exact ⟨a1, a2, fun hl => by rw [hf _ (by omega) hl]; exact a4 hl⟩
abbrev TOLD (h : List mE) (q0 : Nat) (p1 : Int) : Prop := ∃ r : Nat, fR h q0 0 = some r ∧ aI h r (fI h q0 2 - 1) = p1
theorem I1_sz {τ : List Nat} {h : List mE} {q : Nat} (hI : I1 τ h) (hq : ty τ q 11) : fI h q 2 ≤ fI h 4 1 + 1 := by
  obtain ⟨r1, r2, h1, h2, -, -, h3, h4, h5⟩ := hI q hq
  exact h5
section INV
variable {τ σ : List Nat} {h h' : List mE} {W : List (Nat × Nat)} {q r : Nat} {E : EP}
def avd (W : List (Nat × Nat)) (l : List (Nat × Nat)) : Bool := l.all (fun p => !(W.contains p))
theorem avd_of {W l : List (Nat × Nat)} {p : Nat × Nat} (h : avd W l = true) (hp : l.contains p = true) : W.contains p = false := by
  have := List.all_eq_true.mp h p (List.contains_iff_mem.mp hp)
  simpa using this
theorem I1_0 (hI : I1 τ h) (hq : ty τ q 11) (e : fR h q 0 = some r) : fI h q 2 ≤ (aN h r : Int) := by
  obtain ⟨r1, r2, h1, h2, -, -, h3, h4, h5⟩ := hI q hq
  cases h1.symm.trans e
  exact h3
theorem I1_1 (hI : I1 τ h) (hq : ty τ q 11) (e : fR h q 1 = some r) : fI h q 2 ≤ (aN h r : Int) := by
  obtain ⟨r1, r2, h1, h2, -, -, h3, h4, h5⟩ := hI q hq
  cases h2.symm.trans e
  rw [← h4]; exact h3
theorem I1_fr (hI : I1 τ h) (hT : TH E τ h) (hF : Fr τ W h h') (hw : avd W [(11, 0), (11, 1), (11, 2), (1, 1)] = true) : I1 τ h' := fun q hq => by
  obtain ⟨r1, r2, h1, h2, t1, t2, h3, h4, h5⟩ := hI q hq
  refine ⟨r1, r2, ?_, ?_, t1, t2, ?_, ?_, ?_⟩
  · rw [Fr_fR hF hq (avd_of hw (by decide))]; exact h1
  · rw [Fr_fR hF hq (avd_of hw (by decide))]; exact h2
  · rw [Fr_fI hF hq (avd_of hw (by decide)), (hF r1 116 t1).1]; exact h3
  · rw [(hF r1 116 t1).1, (hF r2 117 t2).1]; exact h4
  · rw [Fr_fI hF hq (avd_of hw (by decide)), Fr_fI hF (tf (q := 4) (t := 1) hT rfl rfl) (avd_of hw (by decide))]; exact h5
theorem I2_fr (hI : I2 τ h) (hF : Fr τ W h h') (hw : avd W [(13, 3), (121, 0)] = true) : I2 τ h' := fun q hq => by
  obtain ⟨r, h1, t1, P, hP, hs⟩ := hI q hq
  refine ⟨r, ?_, t1, P, hP, fun s p => ?_⟩
  · rw [Fr_fR hF hq (avd_of hw (by decide))]; exact h1
  · rw [(hF r 121 t1).1, Fr_aI hF t1 (avd_of hw (by decide))]; exact hs s p
theorem I3_fr (hI : I3 h) (hT : TH E τ h) (hF : Fr τ W h h') (hw : avd W [(8, 48), (87, 0), (88, 0)] = true) : I3 h' := fun o a1 a2 => by
  rw [Fr_fI hF (tf (q := 64) (t := 8) hT rfl rfl) (avd_of hw (by decide)), Fr_aI hF (tf (q := 109) (t := 87) hT rfl rfl) (avd_of hw (by decide)), Fr_aI hF (tf (q := 110) (t := 88) hT rfl rfl) (avd_of hw (by decide))]
  exact hI o a1 a2
theorem I3_st {o z : Int} (hI : I3 h) (hu : AUp h 109 o z h') (hr : -2147483648 ≤ z ∧ z ≤ 2147483647) (ho : 0 ≤ o ∧ o < 100) (hlt : o < fI h 64 48 ∨ z = 0) (hz : z ≤ 0 ∨ 3 < z ∨ 0 ≤ aI h 110 o) : I3 h' := fun p a1 a2 => by
  rw [AUp_fI hu, AUp_aIne (q' := 110) hu (by decide) p, AUp_aI hu hr.1 hr.2 ho.1 a1]
  have := hI p a1 a2
  split
  · rename_i e; subst e; omega
  · exact this
theorem I3_mo {o z : Int} (hI : I3 h) (hu : AUp h 110 o z h') (hr : -2147483648 ≤ z ∧ z ≤ 2147483647) (ho : 0 ≤ o ∧ o < 100) (hz : aI h 109 o ≤ 0 ∨ 3 < aI h 109 o ∨ 0 ≤ z) : I3 h' := fun p a1 a2 => by
  rw [AUp_fI hu, AUp_aIne (q' := 109) hu (by decide) p, AUp_aI hu hr.1 hr.2 ho.1 a1]
  have := hI p a1 a2
  split
  · rename_i e; subst e; omega
  · exact this
theorem I3_two {h2 : List mE} {o o2 z w : Int} (hI : I3 h) (hu : AUp h 109 o z h') (hv : AUp h' 110 o2 w h2) (e : o2 = o) (hr : -2147483648 ≤ z ∧ z ≤ 2147483647) (hr2 : 0 ≤ w ∧ w ≤ 2147483647) (ho : 0 ≤ o ∧ o < 100) (hlt : o < fI h 64 48) : I3 h2 := fun p a1 a2 => by
  subst e
  rw [AUp_fI hv, AUp_aIne (q' := 109) hv (by decide) p, AUp_aI hv (by omega) hr2.2 ho.1 a1, AUp_fI hu, AUp_aIne (q' := 110) hu (by decide) p, AUp_aI hu hr.1 hr.2 ho.1 a1]
  have := hI p a1 a2
  by_cases e : p = o2
  · subst e; rw [if_pos rfl, if_pos rfl]; omega
  · rw [if_neg e, if_neg e]; exact this
theorem I3_rev {h2 : List mE} {o o2 z w : Int} (hI : I3 h) (hu : AUp h 110 o w h') (hv : AUp h' 109 o2 z h2) (e : o2 = o) (hr : -2147483648 ≤ w ∧ w ≤ 2147483647) (hr2 : 3 < z ∧ z ≤ 2147483647) (ho : 0 ≤ o ∧ o < 100) (hlt : o < fI h 64 48) : I3 h2 := fun p a1 a2 => by
  subst e
  rw [AUp_fI hv, AUp_aIne (q' := 110) hv (by decide) p, AUp_aI hv (by omega) hr2.2 ho.1 a1, AUp_fI hu, AUp_aIne (q' := 109) hu (by decide) p, AUp_aI hu hr.1 hr.2 ho.1 a1]
  have := hI p a1 a2
  by_cases e : p = o2
  · subst e; rw [if_pos rfl, if_pos rfl]; omega
  · rw [if_neg e, if_neg e]; exact this
theorem I6_fr (hI : I6 h) (hT : TH E τ h) (hF : Fr τ W h h') (hw : avd W [(8, 48), (8, 62), (94, 0)] = true) : I6 h' := fun k a1 a2 => by
  rw [Fr_fI hF (tf (q := 64) (t := 8) hT rfl rfl) (avd_of hw (by decide))] at a2
  rw [Fr_fI hF (tf (q := 64) (t := 8) hT rfl rfl) (avd_of hw (by decide)), Fr_aI hF (tf (q := 116) (t := 94) hT rfl rfl) (avd_of hw (by decide))]
  exact hI k a1 a2
theorem I6_zero (hu : FUp h 64 62 (vI 0) h') : I6 h' := fun k a1 a2 => by
  rw [FUp_fI hu (by decide) (by decide)] at a2
  omega
theorem I6_ord {z : Int} (hI : I6 h) (hu : FUp h 64 48 (vI z) h') (hr : -2147483648 ≤ z ∧ z ≤ 2147483647) (hz : fI h 64 48 ≤ z) : I6 h' := fun k a1 a2 => by
  rw [FUp_fIne hu (by decide)] at a2
  rw [FUp_aI hu, FUp_fI hu hr.1 hr.2]
  have := hI k a1 a2
  omega
theorem I6_add {h2 : List mE} {i z w : Int} (hI : I6 h) (hu : AUp h 116 i z h') (hv : FUp h' 64 62 (vI w) h2) (hi : i = fI h 64 62) (hi0 : 0 ≤ i) (hw : w = i + 1) (hr : -2147483648 ≤ w ∧ w ≤ 2147483647) (hr2 : -2147483648 ≤ z ∧ z ≤ 2147483647) (hz : z < fI h 64 48) : I6 h2 := fun k a1 a2 => by
  rw [FUp_fI hv hr.1 hr.2] at a2
  rw [FUp_aI hv, FUp_fIne hv (by decide), AUp_aI hu hr2.1 hr2.2 hi0 a1, AUp_fI hu]
  by_cases e : k = i
  · rw [if_pos e]; exact hz
  · rw [if_neg e]; exact hI k a1 (by omega)
theorem I3_new {z : Int} (hI : I3 h) (hu : FUp h 64 48 (vI z) h') (hr : -2147483648 ≤ z ∧ z ≤ 2147483647) (hz : fI h 64 48 ≤ z) : I3 h' := fun p a1 a2 => by
  rw [FUp_aI hu, FUp_aI hu, FUp_fI hu hr.1 hr.2]
  have := hI p a1 a2
  omega
theorem Rn_step {A W : Int → Int} {c : Int} {p n : Int} (h : Rn A W c.toNat p n ≠ none) (hc : 0 < c) : (A p ≠ 1 ∨ Rn A W (c - 1).toNat (p + 1) (n + 1) ≠ none) ∧ (A p ≠ 2 ∨ (0 ≤ W p ∧ W p < 14 ∧ Rn A W (c - 1).toNat (p + 1) (n + 1) ≠ none)) ∧ (A p ≠ 3 ∨ Rn A W (c - 1).toNat (p + 1) n ≠ none) ∧ (A p ≠ 4 ∨ Rn A W (c - 1).toNat (p + 1) 0 ≠ none) ∧ ((A p = 1 ∨ A p = 2 ∨ A p = 3 ∨ A p = 4) ∨ (2 ≤ n ∧ Rn A W (c - 1).toNat (p + 1) (n - 1) ≠ none)) := by
  obtain ⟨k, hk⟩ : ∃ k : Nat, c.toNat = k + 1 := ⟨c.toNat - 1, by omega⟩
  have hk2 : (c - 1).toNat = k := by omega
  rw [hk] at h
  rw [hk2]
  unfold Rn Rs at h
  by_cases h1 : A p = 1
  · rw [if_pos h1] at h
    exact ⟨Or.inr h, Or.inl (by omega), Or.inl (by omega), Or.inl (by omega), Or.inl (by omega)⟩
  rw [if_neg h1] at h
  by_cases h2 : A p = 2
  · rw [if_pos h2] at h
    by_cases h3 : 0 ≤ W p ∧ W p < 14
    · rw [if_pos h3] at h
      exact ⟨Or.inl h1, Or.inr ⟨h3.1, h3.2, h⟩, Or.inl (by omega), Or.inl (by omega), Or.inl (by omega)⟩
    · rw [if_neg h3] at h; exact absurd rfl h
  rw [if_neg h2] at h
  by_cases h3 : A p = 3
  · rw [if_pos h3] at h
    exact ⟨Or.inl h1, Or.inl h2, Or.inr h, Or.inl (by omega), Or.inl (by omega)⟩
  rw [if_neg h3] at h
  by_cases h4 : A p = 4
  · rw [if_pos h4] at h
    exact ⟨Or.inl h1, Or.inl h2, Or.inl h3, Or.inr h, Or.inl (by omega)⟩
  rw [if_neg h4] at h
  by_cases h5 : 2 ≤ n
  · rw [if_pos h5] at h
    exact ⟨Or.inl h1, Or.inl h2, Or.inl h3, Or.inl h4, Or.inr ⟨h5, h⟩⟩
  · rw [if_neg h5] at h; exact absurd rfl h
theorem I4_fr (hI : I4 h) (hT : TH E τ h) (hF : Fr τ W h h') (hw : avd W [(8, 78), (106, 0), (107, 0), (108, 0)] = true) : I4 h' := fun t a1 a2 => by
  rw [Fr_fI hF (tf (q := 64) (t := 8) hT rfl rfl) (avd_of hw (by decide))] at a2
  rw [Fr_aI hF (tf (q := 128) (t := 106) hT rfl rfl) (avd_of hw (by decide)), show aI h' 129 = aI h 129 from funext fun i => Fr_aI hF (tf (q := 129) (t := 107) hT rfl rfl) (avd_of hw (by decide)) i, show aI h' 130 = aI h 130 from funext fun i => Fr_aI hF (tf (q := 130) (t := 108) hT rfl rfl) (avd_of hw (by decide)) i]
  exact hI t a1 a2
/-- the rows tried: how far they may still go -/
def RP (k : Nat) : Int := match k with
  | 0 => 100000
  | 1 => 10000
  | 2 => 1000
  | 3 => 100
  | 4 => 10
  | _ => 1
def RM (f : Int → Int) (m : Int) : Nat → Int
  | 0 => 0
  | k + 1 => RM f m k + (m - f (k : Int)) * RP k
theorem RM_eq {f g : Int → Int} {m : Int} : ∀ k : Nat, (∀ i : Int, 0 ≤ i → i < (k : Int) → g i = f i) → RM g m k = RM f m k
  | 0, _ => rfl
  | k + 1, h => by
    unfold RM
    rw [RM_eq k (fun i a b => h i a (by omega)), h k (by omega) (by omega)]
theorem RM_pos {f : Int → Int} {m : Int} : ∀ k : Nat, (∀ i : Int, 0 ≤ i → i < (k : Int) → f i ≤ m) → 0 ≤ RM f m k
  | 0, _ => Int.le_refl _
  | k + 1, h => by
    unfold RM
    have h1 := RM_pos k (fun i a b => h i a (by omega))
    have h2 := h k (by omega) (by omega)
    have h3 : 0 ≤ RP k := by unfold RP; split <;> decide
    have h4 : 0 ≤ (m - f k) * RP k := Int.mul_nonneg (by omega) h3
    omega
theorem RP_pos (k : Nat) : 1 ≤ RP k := by unfold RP; split <;> decide
theorem RMz_a {f g : Int → Int} {m z : Int} (h0 : 0 ≤ z) (hg : ∀ i : Int, 0 ≤ i → i < z → g i = f i) (hz : g z = f z + 1) : RM g m (z + 1).toNat + RP z.toNat = RM f m (z + 1).toNat := by
  obtain ⟨n, rfl⟩ := Int.eq_ofNat_of_zero_le h0
  have e1 : ((n : Int) + 1).toNat = n + 1 := by omega
  have e2 : ((n : Int)).toNat = n := by omega
  rw [e1, e2]
  unfold RM
  rw [RM_eq n (fun i a b => hg i a b), hz]
  have : (m - (f n + 1)) * RP n = (m - f n) * RP n - RP n := by rw [← Int.sub_sub, Int.sub_mul (m - f n) 1, Int.one_mul]
  rw [this]
  omega
theorem RMz_b {f g : Int → Int} {m z : Int} (h0 : 0 ≤ z) (hg : ∀ i : Int, 0 ≤ i → i < z → g i = f i) (hz : g z = f z + 1) (hm : g z = m) : RM g m (z + (-1) + 1).toNat + RP z.toNat = RM f m (z + 1).toNat := by
  rw [← RMz_a h0 hg hz (m := m)]
  obtain ⟨n, rfl⟩ := Int.eq_ofNat_of_zero_le h0
  have e1 : ((n : Int) + 1).toNat = n + 1 := by omega
  have e2 : ((n : Int) + (-1) + 1).toNat = n := by omega
  rw [e1, e2]
  show _ = RM g m n + (m - g n) * RP n + _
  rw [hm, Int.sub_self, Int.zero_mul, Int.add_zero]
theorem RMz_c {f g k : Int → Int} {m z : Int} (h0 : 0 ≤ z) (h4 : z ≤ 3) (hm : m ≤ 5) (hg : ∀ i : Int, 0 ≤ i → i < z → g i = f i) (hz : g z = f z + 1) (hk : ∀ i : Int, 0 ≤ i → i < z + 1 → k i = g i) (hk1 : k (z + 1) = -1) : RM k m (z + 1 + 1).toNat + 1 ≤ RM f m (z + 1).toNat := by
  rw [← RMz_a h0 hg hz (m := m)]
  obtain ⟨n, rfl⟩ := Int.eq_ofNat_of_zero_le h0
  have e1 : ((n : Int) + 1).toNat = n + 1 := by omega
  have e2 : ((n : Int) + 1 + 1).toNat = (n + 1) + 1 := by omega
  have e3 : ((n : Int)).toNat = n := by omega
  rw [e1, e2, e3]
  have e4 : RM k m (n + 1 + 1) = RM g m (n + 1) + (m - (-1)) * RP (n + 1) := by
    show RM k m (n + 1) + (m - k ((n + 1 : Nat) : Int)) * RP (n + 1) = _
    rw [RM_eq (n + 1) (fun i a b => hk i a (by omega)), show ((n + 1 : Nat) : Int) = (n : Int) + 1 by omega, hk1]
  rw [e4]
  have e5 : (m - (-1)) * RP (n + 1) + 1 ≤ RP n := by
    rcases (by omega : n = 0 ∨ n = 1 ∨ n = 2 ∨ n = 3) with rfl | rfl | rfl | rfl <;> simp only [RP] <;> omega
  omega
theorem I7_fr (hI : I7 h) (hT : TH E τ h) (hF : Fr τ W h h') (hw : avd W [(6, 9), (39, 0)] = true) : I7 h' := by
  obtain ⟨P, p0, pc, hp⟩ := hI
  have e1 : fI h' 54 9 = fI h 54 9 := Fr_fI hF (tf (q := 54) (t := 6) hT rfl rfl) (avd_of hw (by decide))
  refine ⟨P, p0, by rw [e1]; exact pc, fun s hs => ?_⟩
  rw [e1, Fr_aI hF (tf (q := 59) (t := 39) hT rfl rfl) (avd_of hw (by decide))]
  exact hp s hs
theorem I4_kp (hI : I4 h) (ht : fI h' 64 78 = fI h 64 78) (hs : ∀ t : Int, aI h' 128 t = aI h 128 t) (hb : ∀ t : Int, 0 ≤ aI h 128 t ∧ aI h 128 t ≤ 220) (f1 : ∀ i : Int, 0 ≤ i → i < 220 * fI h 64 78 → aI h' 129 i = aI h 129 i) (f2 : ∀ i : Int, 0 ≤ i → i < 220 * fI h 64 78 → aI h' 130 i = aI h 130 i) : I4 h' := fun t a1 a2 => by
  rw [ht] at a2
  have b := hb t
  rw [hs, Rn_eq _ _ _ (fun i c1 c2 => ⟨f1 i (by omega) (by omega), f2 i (by omega) (by omega)⟩)]
  exact hI t a1 a2
theorem I4_add (hI : I4 h) (ht : fI h' 64 78 = fI h 64 78 + 1) (hs : ∀ t : Int, 0 ≤ t → t < fI h 64 78 → aI h' 128 t = aI h 128 t) (hb : ∀ t : Int, 0 ≤ aI h 128 t ∧ aI h 128 t ≤ 220) (f1 : ∀ i : Int, 0 ≤ i → i < 220 * fI h 64 78 → aI h' 129 i = aI h 129 i) (f2 : ∀ i : Int, 0 ≤ i → i < 220 * fI h 64 78 → aI h' 130 i = aI h 130 i) (hz : Zs h' (220 * fI h 64 78) (aI h' 128 (fI h 64 78))) : I4 h' := fun t a1 a2 => by
  by_cases e : t = fI h 64 78
  · subst e
    rw [hz.2]
    simp
  · have b := hb t
    rw [hs t a1 (by omega), Rn_eq _ _ _ (fun i c1 c2 => ⟨f1 i (by omega) (by omega), f2 i (by omega) (by omega)⟩)]
    exact hI t a1 (by omega)
/-- kinds, machines, orders: a place is taken iff it is below the count -/
def Nl (h : List mE) (b q n : Nat) : Prop := ∀ i : Int, 0 ≤ i → i < n → (i < fI h 4 b ∧ aR h q i ≠ none) ∨ (fI h 4 b ≤ i ∧ aR h q i = none)
def I8 (h : List mE) : Prop := Nl h 5 34 15 ∧ Nl h 7 35 90 ∧ Nl h 12 38 100
theorem Nl_fr {b q n t : Nat} {W : List (Nat × Nat)} (hI : Nl h b q n) (hF : Fr τ W h h') (h4 : ty τ 4 1) (hq : ty τ q t) (w1 : W.contains (1, b) = false) (w2 : W.contains (t, 0) = false) : Nl h' b q n := fun i a1 a2 => by
  rw [Fr_fI hF h4 w1, Fr_aR hF hq w2]
  exact hI i a1 a2
theorem I8_fr {W : List (Nat × Nat)} (hI : I8 h) (hT : TH E τ h) (hF : Fr τ W h h') (hw : avd W [(1, 5), (1, 7), (1, 12), (15, 0), (16, 0), (19, 0)] = true) : I8 h' :=
  ⟨Nl_fr hI.1 hF (tf (q := 4) (t := 1) hT rfl rfl) (tf (q := 34) (t := 15) hT rfl rfl) (avd_of hw (by decide)) (avd_of hw (by decide)),
   Nl_fr hI.2.1 hF (tf (q := 4) (t := 1) hT rfl rfl) (tf (q := 35) (t := 16) hT rfl rfl) (avd_of hw (by decide)) (avd_of hw (by decide)),
   Nl_fr hI.2.2 hF (tf (q := 4) (t := 1) hT rfl rfl) (tf (q := 38) (t := 19) hT rfl rfl) (avd_of hw (by decide)) (avd_of hw (by decide))⟩
theorem Nl_add {b q n r : Nat} {i w : Int} {h1 h2 : List mE} (hI : Nl h b q n) (hu : OUp h q i (some r) h1) (hv : FUp h1 4 b (vI w) h2) (hi : i = fI h 4 b) (hi0 : 0 ≤ i) (hw : w = i + 1) (hr : -2147483648 ≤ w ∧ w ≤ 2147483647) : Nl h2 b q n := fun j a1 a2 => by
  rw [FUp_fI hv hr.1 hr.2, FUp_aR hv, OUp_aR hu hi0 a1]
  rcases hI j a1 a2 with ⟨c1, c2⟩ | ⟨c1, c2⟩
  · refine Or.inl ⟨by omega, ?_⟩
    split
    · exact fun e => by cases e
    · exact c2
  · by_cases e : j = i
    · rw [if_pos e]
      exact Or.inl ⟨by omega, fun e => by cases e⟩
    · rw [if_neg e]
      exact Or.inr ⟨by omega, c2⟩
theorem Nl_other {b b' q q' n : Nat} {i w : Int} {x : Option Nat} {h1 h2 : List mE} (hI : Nl h b q n) (hu : OUp h q' i x h1) (hv : FUp h1 4 b' (vI w) h2) (hb : b ≠ b') (hq : q ≠ q') : Nl h2 b q n := fun j a1 a2 => by
  rw [FUp_fIne hv (fun z => hb z.2), FUp_aR hv, OUp_fI hu, OUp_aRne hu hq]
  exact hI j a1 a2
theorem I8_5 {r : Nat} {i w : Int} {h1 h2 : List mE} (hI : I8 h) (hu : OUp h 34 i (some r) h1) (hv : FUp h1 4 5 (vI w) h2) (hi : i = fI h 4 5) (hi0 : 0 ≤ i) (hw : w = i + 1) (hr : -2147483648 ≤ w ∧ w ≤ 2147483647) : I8 h2 := ⟨Nl_add hI.1 hu hv hi hi0 hw hr, Nl_other hI.2.1 hu hv (by decide) (by decide), Nl_other hI.2.2 hu hv (by decide) (by decide)⟩
theorem I8_7 {r : Nat} {i w : Int} {h1 h2 : List mE} (hI : I8 h) (hu : OUp h 35 i (some r) h1) (hv : FUp h1 4 7 (vI w) h2) (hi : i = fI h 4 7) (hi0 : 0 ≤ i) (hw : w = i + 1) (hr : -2147483648 ≤ w ∧ w ≤ 2147483647) : I8 h2 := ⟨Nl_other hI.1 hu hv (by decide) (by decide), Nl_add hI.2.1 hu hv hi hi0 hw hr, Nl_other hI.2.2 hu hv (by decide) (by decide)⟩
theorem I8_12 {r : Nat} {i w : Int} {h1 h2 : List mE} (hI : I8 h) (hu : OUp h 38 i (some r) h1) (hv : FUp h1 4 12 (vI w) h2) (hi : i = fI h 4 12) (hi0 : 0 ≤ i) (hw : w = i + 1) (hr : -2147483648 ≤ w ∧ w ≤ 2147483647) : I8 h2 := ⟨Nl_other hI.1 hu hv (by decide) (by decide), Nl_other hI.2.1 hu hv (by decide) (by decide), Nl_add hI.2.2 hu hv hi hi0 hw hr⟩
theorem I8_at {b q n : Nat} {i : Int} (hI : Nl h b q n) (h0 : 0 ≤ i) (h1 : i < n) : (aR h q i ≠ none ∧ i < fI h 4 b) ∨ (aR h q i = none ∧ fI h 4 b ≤ i) := by
  rcases hI i h0 h1 with ⟨a, c⟩ | ⟨a, c⟩
  · exact Or.inl ⟨c, a⟩
  · exact Or.inr ⟨c, a⟩
end INV
