/-! WHAT CLASS AND REFERENCE HOLD ALIKE, array by array: IA rain, IB yards, IC roads told, I9 kinds' and machines' own rows -/
/-- what the own row (o cells behind it) of the one at place t of row q holds at j; of none 0 -/
def vw (h : List mE) (q o : Nat) (t j : Int) : Int := match aR h q t with
  | some r => aI h (r + o) j
  | none => 0
def lkn (h : List mE) (m : Int) : Int := match aR h 35 m with
  | some r => fI h r 15
  | none => 0
def IA (h : List mE) : Prop := ∀ i : Int, 0 ≤ i → i < 1000 → aI h 5 i = aI h 68 i
def IB (h : List mE) : Prop := ∀ i : Int, 0 ≤ i → i < 12 → aI h 7 i = aI h 65 i
def IC (h : List mE) : Prop := (∀ a : Int, 0 ≤ a → a < 12 → aR h 8 a = some (9 + a.toNat)) ∧ ∀ a b : Int, 0 ≤ a → a < 12 → 0 ≤ b → b < 12 → aI h (9 + a.toNat) b = aI h 66 (12 * a + b) ∧ aI h 66 (12 * a + b) = aI h 66 (12 * b + a)
def OW (h : List mE) : Prop := (∀ (t : Int) (r : Nat), 0 ≤ t → t < 15 → aR h 34 t = some r → fI h r 0 = t ∧ fR h r 6 = some (r + 1) ∧ fR h r 7 = some (r + 2)) ∧ (∀ (m : Int) (r : Nat), 0 ≤ m → m < 90 → aR h 35 m = some r → fI h r 0 = m ∧ fR h r 13 = some (r + 1) ∧ fR h r 14 = some (r + 2))
def GO (h : List mE) : Prop := ∀ t j : Int, 0 ≤ t → t < 15 → 0 ≤ j → j < 15 → vw h 34 2 t j = aI h 74 (15 * t + j)
def CO (h : List mE) : Prop := ∀ t j : Int, 0 ≤ t → t < 15 → 0 ≤ j → j < 16 → vw h 34 1 t j = aI h 75 (16 * t + j)
def LK (h : List mE) : Prop := ∀ m : Int, 0 ≤ m → m < 90 → lkn h m = aI h 89 m ∧ ∀ k : Int, 0 ≤ k → k < 5 → vw h 35 1 m k = aI h 90 (5 * m + k) ∧ vw h 35 2 m k = aI h 91 (5 * m + k)
def I9 (h : List mE) : Prop := OW h ∧ GO h ∧ CO h ∧ LK h
theorem if_cg {i x x' b b' e : Int} (hx : x = x') (hb : b = b') : (if i = x then b else e) = if i = x' then b' else e := by rw [hx, hb]
theorem if_cr {i x x' : Int} {a b : Option Nat} (hx : x = x') : (if i = x then a else b) = if i = x' then a else b := by rw [hx]
theorem tl_fI0 {h T : List mE} {k ci b : Nat} {fs : List Value} (hk : T[k]? = some (.inr (ci, fs))) (hb : fs[b]? = some (.int 0)) : fI (h ++ T) (h.length + 4 + k) b = 0 := by
  unfold fI rV
  rw [tl_own hk]
  dsimp only
  rw [hb]
  rfl
section REL
variable {τ σ : List Nat} {h h' h0 h1 h2 : List mE} {W W1 W2 : List (Nat × Nat)} {E E1 E2 : EP} {q r t b c ci nlo nhi : Nat} {x y z lo hi i : Int}
theorem aR_ty {u : Nat} (hT : TH E τ h) (hq : ty τ q t) (hd : ary t = some (3, c, (3, y, z), nlo, nhi)) (hu : y.toNat = u) (hi : 0 ≤ i ∧ i < (nlo : Int)) (e : aR h q i = some r) : ty τ r u := by
  subst hu
  obtain ⟨n, f, h1, h2, h3, h4, h5, h6⟩ := TW_o hT.1 hq hd
  have e1 : f i.toNat = some r := by
    rw [← h5]; exact e
  have ho := h4 i.toNat (by omega)
  rw [e1] at ho
  rcases ho with ho | ⟨r', ho, ht⟩
  · cases ho
  · cases ho
    exact ht
theorem aR_some (hT : TH E τ h) (hq : ty τ q t) (hd : ary t = some (3, c, (2, y, z), nlo, nhi)) (hi : 0 ≤ i ∧ i < (nlo : Int)) : ∃ r : Nat, aR h q i = some r := by
  obtain ⟨n, f, h1, h2, h3, h4, h5, h6⟩ := TW_o hT.1 hq hd
  have ho := h4 i.toNat (by omega)
  cases e : f i.toNat with
  | none =>
    rw [e] at ho
    obtain ⟨r', ho, ht⟩ := ho
    cases ho
  | some r => exact ⟨r, by unfold aR; rw [h5]; exact e⟩
theorem fR_ty {u : Nat} (hT : TH E τ h) (hq : ty τ q t) (hd : fld t b = some (ci, (2, x, y))) (hu : x.toNat = u) (e : fR h q b = some r) : ty τ r u := by
  subst hu
  obtain ⟨fs, v, h1, h2, h3, h4, h5⟩ := TW_fld hT.1 hq hd
  obtain ⟨r', e1, ht⟩ := h3
  unfold fR at e
  rw [h4, e1] at e
  cases e
  exact ht
theorem kd_ty (hO : OW h) (hT : TH E τ h) {t : Int} (a0 : 0 ≤ t) (a1 : t < 15) (e : aR h 34 t = some r) : ty τ r 9 ∧ ty τ (r + 1) 112 ∧ ty τ (r + 2) 113 := by
  have k := aR_ty (u := 9) hT (tf (q := 34) (t := 15) hT rfl rfl) ay_15 rfl ⟨a0, a1⟩ e
  obtain ⟨-, k1, k2⟩ := hO.1 t r a0 a1 e
  exact ⟨k, fR_ty hT k fd_9_6 rfl k1, fR_ty hT k fd_9_7 rfl k2⟩
theorem mc_ty (hO : OW h) (hT : TH E τ h) {t : Int} (a0 : 0 ≤ t) (a1 : t < 90) (e : aR h 35 t = some r) : ty τ r 10 ∧ ty τ (r + 1) 114 ∧ ty τ (r + 2) 115 := by
  have k := aR_ty (u := 10) hT (tf (q := 35) (t := 16) hT rfl rfl) ay_16 rfl ⟨a0, a1⟩ e
  obtain ⟨-, k1, k2⟩ := hO.2 t r a0 a1 e
  exact ⟨k, fR_ty hT k fd_10_13 rfl k1, fR_ty hT k fd_10_14 rfl k2⟩
theorem IA_fr (hI : IA h) (hT : TH E τ h) (hF : Fr τ W h h') (hw : avd W [(14, 0), (46, 0)] = true) : IA h' := fun i a0 a1 => by
  rw [Fr_aI hF (tf (q := 5) (t := 14) hT rfl rfl) (avd_of hw (by decide)), Fr_aI hF (tf (q := 68) (t := 46) hT rfl rfl) (avd_of hw (by decide))]
  exact hI i a0 a1
theorem IB_fr (hI : IB h) (hT : TH E τ h) (hF : Fr τ W h h') (hw : avd W [(20, 0), (43, 0)] = true) : IB h' := fun i a0 a1 => by
  rw [Fr_aI hF (tf (q := 7) (t := 20) hT rfl rfl) (avd_of hw (by decide)), Fr_aI hF (tf (q := 65) (t := 43) hT rfl rfl) (avd_of hw (by decide))]
  exact hI i a0 a1
theorem tld_ty (hT : TH E τ h) {a : Int} (a0 : 0 ≤ a) (a1 : a < 12) : ty τ (9 + a.toNat) 122 := by
  obtain ⟨n, hn⟩ : ∃ n : Nat, n = a.toNat := ⟨_, rfl⟩
  rw [← hn]
  have hn2 : n < 12 := by omega
  match n, hn2 with
  | 0, _ => exact tf hT rfl rfl
  | 1, _ => exact tf hT rfl rfl
  | 2, _ => exact tf hT rfl rfl
  | 3, _ => exact tf hT rfl rfl
  | 4, _ => exact tf hT rfl rfl
  | 5, _ => exact tf hT rfl rfl
  | 6, _ => exact tf hT rfl rfl
  | 7, _ => exact tf hT rfl rfl
  | 8, _ => exact tf hT rfl rfl
  | 9, _ => exact tf hT rfl rfl
  | 10, _ => exact tf hT rfl rfl
  | 11, _ => exact tf hT rfl rfl
  | n + 12, hn => omega
theorem IC_fr (hI : IC h) (hT : TH E τ h) (hF : Fr τ W h h') (hw : avd W [(21, 0), (122, 0), (44, 0)] = true) : IC h' := by
  refine ⟨fun a a0 a1 => ?_, fun a b a0 a1 b0 b1 => ?_⟩
  · rw [Fr_aR hF (tf (q := 8) (t := 21) hT rfl rfl) (avd_of hw (by decide))]
    exact hI.1 a a0 a1
  · rw [Fr_aI hF (tld_ty hT a0 a1) (avd_of hw (by decide)), Fr_aI hF (tf (q := 66) (t := 44) hT rfl rfl) (avd_of hw (by decide)), Fr_aI hF (tf (q := 66) (t := 44) hT rfl rfl) (avd_of hw (by decide))]
    exact hI.2 a b a0 a1 b0 b1
/-- a kind's, a machine's own rows over a frame -/
theorem vk_fr {o u : Nat} (hO : OW h) (hT : TH E τ h) (hF : Fr τ W h h') (w1 : W.contains (15, 0) = false) (w2 : W.contains (u, 0) = false) (hou : (o = 1 ∧ u = 112) ∨ (o = 2 ∧ u = 113)) {t : Int} (a0 : 0 ≤ t) (a1 : t < 15) (j : Int) : vw h' 34 o t j = vw h 34 o t j := by
  unfold vw
  rw [Fr_aR hF (tf (q := 34) (t := 15) hT rfl rfl) w1]
  cases e : aR h 34 t with
  | none => rfl
  | some r =>
    obtain ⟨-, k1, k2⟩ := kd_ty hO hT a0 a1 e
    rcases hou with ⟨rfl, rfl⟩ | ⟨rfl, rfl⟩
    · exact Fr_aI hF k1 w2 j
    · exact Fr_aI hF k2 w2 j
theorem vm_fr {o u : Nat} (hO : OW h) (hT : TH E τ h) (hF : Fr τ W h h') (w1 : W.contains (16, 0) = false) (w2 : W.contains (u, 0) = false) (hou : (o = 1 ∧ u = 114) ∨ (o = 2 ∧ u = 115)) {t : Int} (a0 : 0 ≤ t) (a1 : t < 90) (j : Int) : vw h' 35 o t j = vw h 35 o t j := by
  unfold vw
  rw [Fr_aR hF (tf (q := 35) (t := 16) hT rfl rfl) w1]
  cases e : aR h 35 t with
  | none => rfl
  | some r =>
    obtain ⟨-, k1, k2⟩ := mc_ty hO hT a0 a1 e
    rcases hou with ⟨rfl, rfl⟩ | ⟨rfl, rfl⟩
    · exact Fr_aI hF k1 w2 j
    · exact Fr_aI hF k2 w2 j
theorem ln_fr (hO : OW h) (hT : TH E τ h) (hF : Fr τ W h h') (w1 : W.contains (16, 0) = false) (w2 : W.contains (10, 15) = false) {t : Int} (a0 : 0 ≤ t) (a1 : t < 90) : lkn h' t = lkn h t := by
  unfold lkn
  rw [Fr_aR hF (tf (q := 35) (t := 16) hT rfl rfl) w1]
  cases e : aR h 35 t with
  | none => rfl
  | some r => exact Fr_fI hF (mc_ty hO hT a0 a1 e).1 w2
theorem OW_fr (hO : OW h) (hT : TH E τ h) (hF : Fr τ W h h') (hw : avd W [(15, 0), (16, 0), (9, 0), (9, 6), (9, 7), (10, 0), (10, 13), (10, 14)] = true) : OW h' := by
  refine ⟨fun t r a0 a1 e => ?_, fun t r a0 a1 e => ?_⟩
  · rw [Fr_aR hF (tf (q := 34) (t := 15) hT rfl rfl) (avd_of hw (by decide))] at e
    have k := (kd_ty hO hT a0 a1 e).1
    rw [Fr_fI hF k (avd_of hw (by decide)), Fr_fR hF k (avd_of hw (by decide)), Fr_fR hF k (avd_of hw (by decide))]
    exact hO.1 t r a0 a1 e
  · rw [Fr_aR hF (tf (q := 35) (t := 16) hT rfl rfl) (avd_of hw (by decide))] at e
    have k := (mc_ty hO hT a0 a1 e).1
    rw [Fr_fI hF k (avd_of hw (by decide)), Fr_fR hF k (avd_of hw (by decide)), Fr_fR hF k (avd_of hw (by decide))]
    exact hO.2 t r a0 a1 e
theorem GO_fr (hI : GO h) (hO : OW h) (hT : TH E τ h) (hF : Fr τ W h h') (hw : avd W [(15, 0), (113, 0), (52, 0)] = true) : GO h' := fun t j a0 a1 b0 b1 => by
  rw [vk_fr (u := 113) hO hT hF (avd_of hw (by decide)) (avd_of hw (by decide)) (Or.inr ⟨rfl, rfl⟩) a0 a1, Fr_aI hF (tf (q := 74) (t := 52) hT rfl rfl) (avd_of hw (by decide))]
  exact hI t j a0 a1 b0 b1
theorem CO_fr (hI : CO h) (hO : OW h) (hT : TH E τ h) (hF : Fr τ W h h') (hw : avd W [(15, 0), (112, 0), (53, 0)] = true) : CO h' := fun t j a0 a1 b0 b1 => by
  rw [vk_fr (u := 112) hO hT hF (avd_of hw (by decide)) (avd_of hw (by decide)) (Or.inl ⟨rfl, rfl⟩) a0 a1, Fr_aI hF (tf (q := 75) (t := 53) hT rfl rfl) (avd_of hw (by decide))]
  exact hI t j a0 a1 b0 b1
theorem LK_fr (hI : LK h) (hO : OW h) (hT : TH E τ h) (hF : Fr τ W h h') (hw : avd W [(16, 0), (10, 15), (114, 0), (115, 0), (67, 0), (68, 0), (69, 0)] = true) : LK h' := fun m a0 a1 => by
  rw [ln_fr hO hT hF (avd_of hw (by decide)) (avd_of hw (by decide)) a0 a1, Fr_aI hF (tf (q := 89) (t := 67) hT rfl rfl) (avd_of hw (by decide))]
  refine ⟨(hI m a0 a1).1, fun k b0 b1 => ?_⟩
  rw [vm_fr (u := 114) hO hT hF (avd_of hw (by decide)) (avd_of hw (by decide)) (Or.inl ⟨rfl, rfl⟩) a0 a1, vm_fr (u := 115) hO hT hF (avd_of hw (by decide)) (avd_of hw (by decide)) (Or.inr ⟨rfl, rfl⟩) a0 a1, Fr_aI hF (tf (q := 90) (t := 68) hT rfl rfl) (avd_of hw (by decide)), Fr_aI hF (tf (q := 91) (t := 69) hT rfl rfl) (avd_of hw (by decide))]
  exact (hI m a0 a1).2 k b0 b1
theorem avd_sub {l l' : List (Nat × Nat)} (hw : avd W l = true) (hs : Wsub l' l = true) : avd W l' = true := by
  unfold avd at hw ⊢
  rw [List.all_eq_true] at hw ⊢
  intro p hp
  exact hw p (Wsub_of hs hp)
theorem I9_fr (hI : I9 h) (hT : TH E τ h) (hF : Fr τ W h h') (hw : avd W [(15, 0), (16, 0), (9, 0), (9, 6), (9, 7), (10, 0), (10, 13), (10, 14), (10, 15), (112, 0), (113, 0), (114, 0), (115, 0), (52, 0), (53, 0), (67, 0), (68, 0), (69, 0)] = true) : I9 h' :=
  ⟨OW_fr hI.1 hT hF (avd_sub hw (by decide)), GO_fr hI.2.1 hI.1 hT hF (avd_sub hw (by decide)), CO_fr hI.2.2.1 hI.1 hT hF (avd_sub hw (by decide)), LK_fr hI.2.2.2 hI.1 hT hF (avd_sub hw (by decide))⟩
end REL
/-! what the calls do to these rows, as class and reference tell it -/
def PRain (Q : Nat) (h h' : List mE) (a b z : Int) : Prop := ((a < 0 ∨ 999 < a ∨ b < 0 ∨ 1 < b) ∧ z = -1 ∧ Same Q h h') ∨ (0 ≤ a ∧ a ≤ 999 ∧ 0 ≤ b ∧ b ≤ 1 ∧ z = aI h Q a ∧ Set1 Q h h' a b)
def PTown (Q a b : Nat) (h h' : List mE) (p : Int) : Prop := ((p < 0 ∨ 1 < p) ∧ Same Q h h') ∨ (0 ≤ p ∧ p ≤ 1 ∧ 12 ≤ fI h a b ∧ Same Q h h') ∨ (0 ≤ p ∧ p ≤ 1 ∧ fI h a b ≤ 11 ∧ Set1 Q h h' (fI h a b) p)
def PFound (h h' : List mE) (p : Int) : Prop := (12 ≤ fI h 6 3 ∧ Same 7 h h') ∨ (fI h 6 3 ≤ 11 ∧ ∃ x : Int, ((p = 1 ∧ x = 1) ∨ (p ≠ 1 ∧ x = 0)) ∧ Set1 7 h h' (fI h 6 3) x)
def PGoC (h h' : List mE) (t o b z : Int) : Prop := ((t < 0 ∨ fI h 4 5 ≤ t ∨ o < 0 ∨ fI h 4 5 ≤ o ∨ t = o ∨ b < 0 ∨ 1 < b) ∧ z = -1 ∧ h' = h) ∨ (0 ≤ t ∧ t < fI h 4 5 ∧ 0 ≤ o ∧ o < fI h 4 5 ∧ t ≠ o ∧ 0 ≤ b ∧ b ≤ 1 ∧ ∃ (r rc : Nat) (x : Int), aR h 34 t = some r ∧ fR h r 7 = some rc ∧ z = aI h rc o ∧ x = b ∧ AUp h rc o x h')
def PGoR (h h' : List mE) (t o b z : Int) : Prop := ((t < 0 ∨ fI h 64 7 ≤ t ∨ o < 0 ∨ fI h 64 7 ≤ o ∨ t = o ∨ b < 0 ∨ 1 < b) ∧ z = -1 ∧ Same 74 h h') ∨ (0 ≤ t ∧ t < fI h 64 7 ∧ 0 ≤ o ∧ o < fI h 64 7 ∧ t ≠ o ∧ 0 ≤ b ∧ b ≤ 1 ∧ z = aI h 74 (15 * t + o) ∧ Set1 74 h h' (15 * t + o) b)
def PCoC (h h' : List mE) (t o b z : Int) : Prop := ((t < 0 ∨ fI h 4 5 ≤ t ∨ o < 0 ∨ 15 < o ∨ b < 0 ∨ 9999 < b) ∧ z = -1 ∧ h' = h) ∨ (0 ≤ t ∧ t < fI h 4 5 ∧ 0 ≤ o ∧ o ≤ 15 ∧ 0 ≤ b ∧ b ≤ 9999 ∧ ∃ (r rc : Nat), aR h 34 t = some r ∧ fR h r 6 = some rc ∧ z = aI h rc o ∧ AUp h rc o b h')
def PCoR (h h' : List mE) (t o b z : Int) : Prop := ((t < 0 ∨ fI h 64 7 ≤ t ∨ o < 0 ∨ 15 < o ∨ b < 0 ∨ 9999 < b) ∧ z = -1 ∧ Same 75 h h') ∨ (0 ≤ t ∧ t < fI h 64 7 ∧ 0 ≤ o ∧ o ≤ 15 ∧ 0 ≤ b ∧ b ≤ 9999 ∧ z = aI h 75 (16 * t + o) ∧ Set1 75 h h' (16 * t + o) b)
def PAdd (h h' : List mE) (q : Nat) (o b z : Int) : Prop := (5 ≤ fI h q 15 ∧ z = -3 ∧ h' = h) ∨ (fI h q 15 ≤ 4 ∧ z = fI h q 15 + 1 ∧ ∃ (ro rr : Nat) (h1 h2 : List mE) (i1 i2 w : Int), i1 = fI h q 15 ∧ i2 = fI h q 15 ∧ w = fI h q 15 + 1 ∧ fR h q 13 = some ro ∧ fR h q 14 = some rr ∧ AUp h ro i1 o h1 ∧ AUp h1 rr i2 b h2 ∧ FUp h2 q 15 (vI w) h')
def PLkC (h h' : List mE) (m o b z : Int) : Prop := ((m < 0 ∨ fI h 4 7 ≤ m ∨ o < 0 ∨ 9 < o ∨ b < 1 ∨ 9999 < b) ∧ z = -1 ∧ h' = h) ∨ (0 ≤ m ∧ m < fI h 4 7 ∧ 0 ≤ o ∧ o ≤ 9 ∧ 1 ≤ b ∧ b ≤ 9999 ∧ ∃ r : Nat, aR h 35 m = some r ∧ PAdd h h' r o b z)
def PLkR (h h' : List mE) (m o b z : Int) : Prop := ((m < 0 ∨ fI h 64 15 ≤ m ∨ o < 0 ∨ 9 < o ∨ b < 1 ∨ 9999 < b) ∧ z = -1 ∧ Same 89 h h' ∧ Same 90 h h' ∧ Same 91 h h') ∨ (0 ≤ m ∧ m < fI h 64 15 ∧ 0 ≤ o ∧ o ≤ 9 ∧ 1 ≤ b ∧ b ≤ 9999 ∧ ((5 ≤ aI h 89 m ∧ z = -3 ∧ Same 89 h h' ∧ Same 90 h h' ∧ Same 91 h h') ∨ (aI h 89 m ≤ 4 ∧ z = aI h 89 m + 1 ∧ Set1 89 h h' m (aI h 89 m + 1) ∧ Set1 90 h h' (5 * m + aI h 89 m) o ∧ Set1 91 h h' (5 * m + aI h 89 m) b)))
def PLay (τ : List Nat) (h h' : List mE) (a b m z : Int) : Prop := ((a < 0 ∨ fI h 6 3 ≤ a ∨ b < 0 ∨ fI h 6 3 ≤ b) ∧ z = -1 ∧ h' = h) ∨ (0 ≤ a ∧ a < fI h 6 3 ∧ 0 ≤ b ∧ b < fI h 6 3 ∧ ∃ ra rb : Nat, aR h 8 a = some ra ∧ aR h 8 b = some rb ∧ ((aI h ra b ≠ 0 ∧ aI h ra b ≤ m ∧ z = aI h ra b ∧ h' = h) ∨ ((aI h ra b = 0 ∨ m < aI h ra b) ∧ z = m ∧ ∃ h1 h2 : List mE, AUp h ra b m h1 ∧ AUp h1 rb a m h2 ∧ Fr τ [(123, 0)] h2 h' ∧ LIv h h' a b m (fI h 6 3) 0)))
def PRdC (τ : List Nat) (h h' : List mE) (a b m z : Int) : Prop := ((a < 0 ∨ fI h 6 3 ≤ a ∨ b < 0 ∨ fI h 6 3 ≤ b ∨ a = b ∨ m < 1 ∨ 300 < m) ∧ z = -1 ∧ h' = h) ∨ (0 ≤ a ∧ a < fI h 6 3 ∧ 0 ≤ b ∧ b < fI h 6 3 ∧ a ≠ b ∧ 1 ≤ m ∧ m ≤ 300 ∧ PLay τ h h' a b m z)
def PRdR (h h' : List mE) (a b m z : Int) : Prop := ((a < 0 ∨ fI h 64 2 ≤ a ∨ b < 0 ∨ fI h 64 2 ≤ b ∨ a = b ∨ m < 1 ∨ 300 < m) ∧ z = -1 ∧ Same 66 h h' ∧ Same 67 h h') ∨ (0 ≤ a ∧ a < fI h 64 2 ∧ 0 ≤ b ∧ b < fI h 64 2 ∧ a ≠ b ∧ 1 ≤ m ∧ m ≤ 300 ∧ (((aI h 66 (12 * a + b) = 0 ∨ m < aI h 66 (12 * a + b)) ∧ z = m) ∨ (aI h 66 (12 * a + b) ≠ 0 ∧ aI h 66 (12 * a + b) ≤ m ∧ z = aI h 66 (12 * a + b))) ∧ (∀ i : Int, 0 ≤ i → aI h' 66 i = if i = 12 * b + a then z else if i = 12 * a + b then z else aI h 66 i) ∧ Sp (fI h' 64 2) (wf h') (rf h'))
def PTyC (h h' : List mE) (z : Int) : Prop := h' = h ∨ ∃ r : Nat, z = fI h 4 5 ∧ (∀ j : Int, 0 ≤ j → aR h' 34 j = if j = z then some r else aR h 34 j) ∧ fI h' r 0 = z ∧ fR h' r 6 = some (r + 1) ∧ fR h' r 7 = some (r + 2) ∧ (∀ j : Int, aI h' (r + 1) j = 0) ∧ (∀ j : Int, aI h' (r + 2) j = 0)
def PMcC (h h' : List mE) (z : Int) : Prop := h' = h ∨ ∃ r : Nat, z = fI h 4 7 ∧ (∀ j : Int, 0 ≤ j → aR h' 35 j = if j = z then some r else aR h 35 j) ∧ fI h' r 0 = z ∧ fR h' r 13 = some (r + 1) ∧ fR h' r 14 = some (r + 2) ∧ fI h' r 15 = 0 ∧ (∀ j : Int, aI h' (r + 1) j = 0) ∧ (∀ j : Int, aI h' (r + 2) j = 0)
theorem PTown_of {h h' : List mE} {p : Int} (h0 : 0 ≤ p ∧ p ≤ 1) (hp : PFound h h' p) : PTown 7 6 3 h h' p := by
  rcases hp with ⟨a, s⟩ | ⟨a, x, e, s⟩
  · exact Or.inr (Or.inl ⟨h0.1, h0.2, a, s⟩)
  · refine Or.inr (Or.inr ⟨h0.1, h0.2, a, ?_⟩)
    have ex : x = p := by omega
    rw [← ex]; exact s
/-- the value behind a road that was laid -/
theorem lay_val {h h1 h2 h3 : List mE} {τ : List Nat} {ra rb : Nat} {a b m : Int} (hu : AUp h ra b m h1) (hv : AUp h1 rb a m h2) (hF : Fr τ [(123, 0)] h2 h3) (ht : ty τ ra 122) (hm : -2147483648 ≤ m ∧ m ≤ 2147483647) (a0 : 0 ≤ a) (b0 : 0 ≤ b) : aI h3 ra b = m := by
  rw [Fr_aI hF ht rfl]
  by_cases e : ra = rb
  · subst e
    rw [AUp_aI hv hm.1 hm.2 a0 b0, AUp_aI hu hm.1 hm.2 b0 b0, if_pos rfl]
    split <;> rfl
  · rw [AUp_aIne hv e, AUp_aI hu hm.1 hm.2 b0 b0, if_pos rfl]
def PVal (b : Nat) (d : Int) (h : List mE) (q : Nat) (i z : Int) : Prop := (0 ≤ i ∧ i < fI h q 15 ∧ ∃ ro : Nat, fR h q b = some ro ∧ z = aI h ro i) ∨ ((i < 0 ∨ fI h q 15 ≤ i) ∧ z = d)
def PChC (h : List mE) (m i w z : Int) : Prop := ((m < 0 ∨ fI h 4 7 ≤ m ∨ w < 0 ∨ 1 < w) ∧ z = -1) ∨ (0 ≤ m ∧ m < fI h 4 7 ∧ ∃ r : Nat, aR h 35 m = some r ∧ (((i < 0 ∨ fI h r 15 ≤ i) ∧ z = -1) ∨ (0 ≤ i ∧ i < fI h r 15 ∧ 0 ≤ w ∧ w ≤ 1 ∧ ((w = 0 ∧ PVal 13 (-1) h r i z) ∨ (w = 1 ∧ ∃ x y k : Int, k = i + 1 ∧ PVal 14 0 h r i x ∧ PVal 14 0 h r k y ∧ ((x < y ∧ z = 1) ∨ (y ≤ x ∧ z = 0)))))))
def PChR (h : List mE) (m i w z : Int) : Prop := ((m < 0 ∨ fI h 64 15 ≤ m ∨ i < 0 ∨ aI h 89 m ≤ i ∨ w < 0 ∨ 1 < w) ∧ z = -1) ∨ (0 ≤ m ∧ m < fI h 64 15 ∧ 0 ≤ i ∧ i < aI h 89 m ∧ 0 ≤ w ∧ w ≤ 1 ∧ ((w = 0 ∧ z = aI h 90 (5 * m + i)) ∨ (w = 1 ∧ ((i + 1 < aI h 89 m ∧ aI h 91 (5 * m + i) < aI h 91 (5 * m + i + 1) ∧ z = 1) ∨ ((aI h 89 m ≤ i + 1 ∨ aI h 91 (5 * m + i + 1) ≤ aI h 91 (5 * m + i)) ∧ z = 0)))))
def PRkC (h : List mE) (m i z : Int) : Prop := ((m < 0 ∨ fI h 4 7 ≤ m) ∧ z = -1) ∨ (0 ≤ m ∧ m < fI h 4 7 ∧ ∃ r : Nat, aR h 35 m = some r ∧ (((i < 0 ∨ fI h r 15 ≤ i) ∧ z = -1) ∨ (0 ≤ i ∧ i < fI h r 15 ∧ ∃ k : Int, k = fI h r 15 - 1 - i ∧ PVal 13 (-1) h r k z)))
def PRkR (h : List mE) (m i z : Int) : Prop := ((m < 0 ∨ fI h 64 15 ≤ m ∨ i < 0 ∨ aI h 89 m ≤ i) ∧ z = -1) ∨ (0 ≤ m ∧ m < fI h 64 15 ∧ 0 ≤ i ∧ i < aI h 89 m ∧ ∃ k : Int, k = 5 * m + aI h 89 m - 1 - i ∧ z = aI h 90 k)
