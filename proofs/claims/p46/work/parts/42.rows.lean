/-! ROWS OVER TYPED CELLS -/
def Ext (σ τ : List Nat) : Prop := ∀ i t : Nat, σ[i]? = some t → τ[i]? = some t
theorem Ext_rf (σ : List Nat) : Ext σ σ := fun _ _ h => h
theorem Ext_ty {σ τ : List Nat} {q t : Nat} (he : Ext σ τ) (ht : ty σ q t) : ty τ q t := ⟨ht.1, he _ _ ht.2⟩
theorem Ext_tr {σ τ ρ : List Nat} (h1 : Ext σ τ) (h2 : Ext τ ρ) : Ext σ ρ := fun i t h => h2 i t (h1 i t h)
theorem mget_own {X h : List mE} {q : Nat} {e : mE} (hq : mown h q = some e) : mget X h q = some e := by
  obtain ⟨h4, hq⟩ := g_own hq
  unfold mget
  rw [if_neg (by omega), hq]
section WPB
variable {X : List mE} {d m pc npc tg a b c i q r t u j ci cj nlo nhi : Nat} {ret : Option FieldType} {L L' : mL} {S T : List Value} {h h0 : List mE} {Q : Option Value → List mE → Prop} {x y z lo hi : Int} {σ τ : List Nat} {W : List (Nat × Nat)} {ft : FT} {E : EP}
theorem ary_of {k c : Nat} {ft : FT} (hd : ary t = some (k, c, ft, nlo, nhi)) : ∃ fts, tyd t = (k, c, fts, nlo, nhi) ∧ elt fts = ft := by
  unfold ary at hd
  split at hd
  · cases hd
  · rename_i k' c' fts n1 n2 _ he
    split at hd
    · cases hd
      exact ⟨fts, he, rfl⟩
    · cases hd
theorem TW_i {c : Nat} (hT : TW τ h) (ht : ty τ q t) (hd : ary t = some (1, c, (0, lo, hi), nlo, nhi)) : ∃ n f, mown h q = some (.inl (c, (n, .inl f))) ∧ nlo ≤ n ∧ n ≤ nhi ∧ (∀ i, lo ≤ (f i).toInt ∧ (f i).toInt ≤ hi) ∧ aF h q = f ∧ aN h q = n := by
  obtain ⟨fts, he, hft⟩ := ary_of hd
  obtain ⟨e, hx, hok⟩ := TW_at hT ht
  rw [he] at hok
  obtain ⟨n, f, rfl, h1, h2, h3⟩ := hok
  rw [hft] at h3
  refine ⟨n, f, hx, h1, h2, h3, ?_, ?_⟩
  · unfold aF; rw [hx]
  · unfold aN; rw [hx]
theorem TW_j {c : Nat} (hT : TW τ h) (ht : ty τ q t) (hd : ary t = some (2, c, ft, nlo, nhi)) : ∃ n f, mown h q = some (.inl (c, (n, .inr (.inl f)))) ∧ nlo ≤ n ∧ n ≤ nhi ∧ aN h q = n := by
  obtain ⟨fts, he, hft⟩ := ary_of hd
  obtain ⟨e, hx, hok⟩ := TW_at hT ht
  rw [he] at hok
  obtain ⟨n, f, rfl, h1, h2⟩ := hok
  refine ⟨n, f, hx, h1, h2, ?_⟩
  unfold aN; rw [hx]
theorem TW_o {c : Nat} (hT : TW τ h) (ht : ty τ q t) (hd : ary t = some (3, c, ft, nlo, nhi)) : ∃ n f, mown h q = some (.inl (c, (n, .inr (.inr (.inr (.inr f)))))) ∧ nlo ≤ n ∧ n ≤ nhi ∧ (∀ i, i < n → okV τ ft (va_rf (f i))) ∧ aO h q = f ∧ aN h q = n := by
  obtain ⟨fts, he, hft⟩ := ary_of hd
  obtain ⟨e, hx, hok⟩ := TW_at hT ht
  rw [he] at hok
  obtain ⟨n, f, rfl, h1, h2, h3⟩ := hok
  rw [hft] at h3
  refine ⟨n, f, hx, h1, h2, h3, ?_, ?_⟩
  · unfold aO; rw [hx]
  · unfold aN; rw [hx]
theorem mib_of {n : Nat} (h1 : 0 ≤ x) (h2 : x < (n : Int)) (h3 : x ≤ 2147483647) : mib (Int32.ofInt x) n = true ∧ (Int32.ofInt x).toNatClampNeg = x.toNat := by
  have e : (Int32.ofInt x).toNatClampNeg = x.toNat := by
    rw [← Int32.toNat_toInt, to_of (by omega) h3]
  refine ⟨?_, e⟩
  unfold mib
  have h4 : ¬ (Int32.ofInt x < 0) := by
    rw [Int32.lt_iff_toInt_lt, to_of (by omega) h3]
    show ¬ x < 0
    omega
  have h5 : ¬ n ≤ (Int32.ofInt x).toNatClampNeg := by rw [e]; omega
  simp [h4, h5]
/-- fields -/
theorem fI_bd (hT : TH E τ h) (ht : ty τ q t) (hd : fld t b = some (ci, (0, lo, hi))) : lo ≤ fI h q b ∧ fI h q b ≤ hi := by
  obtain ⟨fs, v, h1, h2, hok, hv, hb⟩ := TW_fld hT.1 ht hd
  obtain ⟨w, rfl, h3, h4⟩ := hok
  have e : fI h q b = w.toInt := by unfold fI; rw [hv]
  rw [e]
  exact ⟨h3, h4⟩
theorem aN_hi (hT : TH E τ h) (ht : ty τ q t) (hd : ary t = some (1, c, (0, lo, hi), nlo, nhi)) : (aN h q : Int) ≤ (nhi : Int) := by
  obtain ⟨n2, f, h1, h2, h3, h4, h5, h6⟩ := TW_i hT.1 ht hd
  rw [h6]; omega
theorem aI_bd (hT : TH E τ h) (ht : ty τ q t) (hd : ary t = some (1, c, (0, lo, hi), nlo, nhi)) (j : Int) : lo ≤ aI h q j ∧ aI h q j ≤ hi := by
  obtain ⟨n2, f, h1, h2, h3, h4, h5, h6⟩ := TW_i hT.1 ht hd
  unfold aI
  rw [h5]
  exact h4 _
theorem st_getI (hc : CF m pc ret (.getfield j) ci b npc tg) (hT : TH E τ h) (ht : ty τ q t) (hd : fld t b = some (ci, (0, lo, hi))) (k : lo ≤ fI h q b → fI h q b ≤ hi → MR X d m npc L (vI (fI h q b) :: T) h Q) : MR X d m pc L (.ref q :: T) h Q := by
  obtain ⟨fs, v, h1, h2, hok, hv, hb⟩ := TW_fld hT.1 ht hd
  obtain ⟨n, q1, hc, rfl, rfl⟩ := hc
  obtain ⟨w, rfl, h3, h4⟩ := hok
  have e : fI h q b = w.toInt := by unfold fI; rw [hv]
  rw [e] at k
  refine MR_go hc ?_ (k h3 h4)
  dsimp only [mx]
  rw [h1]
  dsimp only
  rw [if_pos rfl, h2, ← vI_to]
  rfl
theorem st_getR (hc : CF m pc ret (.getfield j) ci b npc tg) (hT : TH E τ h) (ht : ty τ q t) (hd : fld t b = some (ci, (2, x, y))) (hu : x.toNat = u) (k : ∀ r, fR h q b = some r → ty τ r u → MR X d m npc L (.ref r :: T) h Q) : MR X d m pc L (.ref q :: T) h Q := by
  obtain ⟨fs, v, h1, h2, hok, hv, hb⟩ := TW_fld hT.1 ht hd
  obtain ⟨n, q1, hc, rfl, rfl⟩ := hc
  obtain ⟨w, rfl, h3⟩ := hok
  rw [hu] at h3
  refine MR_go hc ?_ (k w (by unfold fR; rw [hv]) h3)
  dsimp only [mx]
  rw [h1]
  dsimp only
  rw [if_pos rfl, h2]
  rfl
theorem st_getN (hc : CF m pc ret (.getfield j) ci b npc tg) (hT : TH E τ h) (ht : ty τ q t) (hd : fld t b = some (ci, (3, x, y))) (hu : x.toNat = u) (k0 : fR h q b = none → MR X d m npc L (.null :: T) h Q) (k : ∀ r, fR h q b = some r → ty τ r u → MR X d m npc L (.ref r :: T) h Q) : MR X d m pc L (.ref q :: T) h Q := by
  obtain ⟨fs, v, h1, h2, hok, hv, hb⟩ := TW_fld hT.1 ht hd
  obtain ⟨n, q1, hc, rfl, rfl⟩ := hc
  rcases hok with rfl | ⟨w, rfl, h3⟩
  · refine MR_go hc ?_ (k0 (by unfold fR; rw [hv]))
    dsimp only [mx]
    rw [h1]
    dsimp only
    rw [if_pos rfl, h2]
    rfl
  · rw [hu] at h3
    refine MR_go hc ?_ (k w (by unfold fR; rw [hv]) h3)
    dsimp only [mx]
    rw [h1]
    dsimp only
    rw [if_pos rfl, h2]
    rfl
theorem st_getNr (hc : CF m pc ret (.getfield j) ci b npc tg) (hT : TH E τ h) (ht : ty τ q t) (hd : fld t b = some (ci, ft)) (he : fR h q b = some r) (k : MR X d m npc L (.ref r :: T) h Q) : MR X d m pc L (.ref q :: T) h Q := by
  obtain ⟨fs, v, h1, h2, hok, hv, hb⟩ := TW_fld hT.1 ht hd
  obtain ⟨n, q1, hc, rfl, rfl⟩ := hc
  have hv2 : v = .ref r := by
    unfold fR at he
    rw [hv] at he
    split at he
    · cases he; rfl
    · cases he
  subst hv2
  refine MR_go hc ?_ k
  dsimp only [mx]
  rw [h1]
  dsimp only
  rw [if_pos rfl, h2]
  rfl
theorem st_getNn (hc : CF m pc ret (.getfield j) ci b npc tg) (hT : TH E τ h) (ht : ty τ q t) (hd : fld t b = some (ci, (3, x, y))) (he : fR h q b = none) (k : MR X d m npc L (.null :: T) h Q) : MR X d m pc L (.ref q :: T) h Q := by
  obtain ⟨fs, v, h1, h2, hok, hv, hb⟩ := TW_fld hT.1 ht hd
  obtain ⟨n, q1, hc, rfl, rfl⟩ := hc
  rcases hok with rfl | ⟨w, rfl, h3⟩
  · refine MR_go hc ?_ k
    dsimp only [mx]
    rw [h1]
    dsimp only
    rw [if_pos rfl, h2]
    rfl
  · unfold fR at he
    rw [hv] at he
    cases he
theorem st_getX (hc : CF m pc ret (.getfield j) ci b npc tg) (hT : TH E τ h) (ht : ty τ q t) (hd : fld t b = some (ci, (4, x, y))) (hu : x.toNat = u) (k : MR X d m npc L (.ref u :: T) h Q) : MR X d m pc L (.ref q :: T) h Q := by
  obtain ⟨fs, v, h1, h2, hok, hv, hb⟩ := TW_fld hT.1 ht hd
  obtain ⟨n, q1, hc, rfl, rfl⟩ := hc
  cases hok
  subst hu
  refine MR_go hc ?_ k
  dsimp only [mx]
  rw [h1]
  dsimp only
  rw [if_pos rfl, h2]
  rfl
theorem okC_set {fts : List FT} {n1 n2 : Nat} {fs : List Value} {v : Value} (hok : okC τ (0, ci, fts, n1, n2) (.inr (ci, fs))) (hf : fts[b]? = some ft) (hv : okV τ ft v) : okC τ (0, ci, fts, n1, n2) (.inr (ci, fs.set b v)) := by
  obtain ⟨fs', e, hlen, hall⟩ := hok
  cases e
  refine ⟨_, rfl, by rw [List.length_set, hlen], fun k f2 v2 h1 h2 => ?_⟩
  by_cases e : k = b
  · subst e
    have hb : k < fs.length := by rw [hlen]; exact (List.getElem?_eq_some_iff.mp hf).1
    rw [List.getElem?_set_self hb] at h2
    cases h2
    cases h1.symm.trans hf
    exact hv
  · rw [List.getElem?_set_ne (Ne.symm e)] at h2
    exact hall k f2 v2 h1 h2
theorem st_put {v : Value} (hc : CF m pc ret (.putfield j) ci b npc tg) (hT : TH E τ h) (ht : ty τ q t) (hd : fld t b = some (ci, ft)) (hv : okV τ ft v) (hm : ∀ yy, mfty ci b = some yy → mfit yy v = true) (hE : Ext σ τ) (hS : Stb E W) (hF : Fr σ W h0 h) (hw : W.contains (t, b) = true) (k : ∀ h', TH E τ h' → Fr σ W h0 h' → FUp h q b v h' → MR X d m npc L T h' Q) : MR X d m pc L (v :: .ref q :: T) h Q := by
  obtain ⟨fs, v0, h1, h2, hok, hv0, hb⟩ := TW_fld hT.1 ht hd
  obtain ⟨fts, n1, n2, he, hf, hp⟩ := fld_of hd
  obtain ⟨e, hx, hok2⟩ := TW_at hT.1 ht
  rw [h1] at hx
  cases hx
  have hok3 : okC τ (tyd t) (.inr (ci, fs.set b v)) := by
    rw [he] at hok2 ⊢
    exact okC_set hok2 hf hv
  have hU : FUp h q b v (mput h q (.inr (ci, fs.set b v))) := ⟨ci, fs, h1, hb, rfl⟩
  obtain ⟨n, q1, hc, rfl, rfl⟩ := hc
  obtain ⟨yy, hy⟩ : ∃ yy, mfty ci b = some yy := by
    cases hy : mfty ci b with
    | none => rw [hy] at hp; cases hp
    | some yy => exact ⟨yy, rfl⟩
  refine MR_go hc ?_ (k _ (TH_put hT h1 ht hok3 (FUp_1 hU ht) (Stb_1 hS hw)) (FUp_Fr hF hU (fun u hu => by rw [ty_1 (Ext_ty hE hu) ht]; exact List.contains_iff_mem.mp hw)) hU)
  dsimp only [mx]
  rw [h1]
  dsimp only
  rw [if_pos ⟨rfl, hb⟩, hy]
  dsimp only
  rw [if_pos (hm yy hy)]
  rfl
theorem st_putI (hc : CF m pc ret (.putfield j) ci b npc tg) (hT : TH E τ h) (ht : ty τ q t) (hd : fld t b = some (ci, (0, lo, hi))) (hr : -2147483648 ≤ z ∧ z ≤ 2147483647) (hz : lo ≤ z ∧ z ≤ hi) (hE : Ext σ τ) (hS : Stb E W) (hF : Fr σ W h0 h) (hw : W.contains (t, b) = true) (k : ∀ h', TH E τ h' → Fr σ W h0 h' → FUp h q b (vI z) h' → MR X d m npc L T h' Q) : MR X d m pc L (vI z :: .ref q :: T) h Q := by
  refine st_put hc hT ht hd ⟨_, rfl, ?_, ?_⟩ (fun yy hy => ?_) hE hS hF hw k
  · rw [to_of hr.1 hr.2]; exact hz.1
  · rw [to_of hr.1 hr.2]; exact hz.2
  · obtain ⟨fts, n1, n2, he, hf, hp⟩ := fld_of hd
    rw [hy] at hp
    cases yy with
    | int => rfl
    | boolean =>
      simp only [pfk, Bool.and_eq_true, decide_eq_true_eq] at hp
      rcases (by omega : z = 0 ∨ z = 1) with rfl | rfl <;> rfl
    | object C => cases hp
    | array w => cases hp
    | _ => cases hp
theorem pf_ref {v : Value} (hd : fld t b = some (ci, ft)) (h2 : Nat.ble 2 ft.1 = true) (hv : v = .null ∨ ∃ r, v = .ref r) : ∀ yy, mfty ci b = some yy → mfit yy v = true := by
  intro yy hy
  obtain ⟨fts, n1, n2, he, hf, hp⟩ := fld_of hd
  have h3 := Nat.le_of_ble_eq_true h2
  rw [hy] at hp
  cases yy with
  | int =>
    have : ft.1 = 0 := by simpa [pfk] using hp
    omega
  | boolean =>
    simp only [pfk, Bool.and_eq_true, beq_iff_eq] at hp
    omega
  | object C => rcases hv with rfl | ⟨r, rfl⟩ <;> rfl
  | array w => rcases hv with rfl | ⟨r, rfl⟩ <;> rfl
  | _ => cases hp
theorem st_putN (hc : CF m pc ret (.putfield j) ci b npc tg) (hT : TH E τ h) (ht : ty τ q t) (hd : fld t b = some (ci, (3, x, y))) (hE : Ext σ τ) (hS : Stb E W) (hF : Fr σ W h0 h) (hw : W.contains (t, b) = true) (k : ∀ h', TH E τ h' → Fr σ W h0 h' → FUp h q b .null h' → MR X d m npc L T h' Q) : MR X d m pc L (.null :: .ref q :: T) h Q :=
  st_put hc hT ht hd (Or.inl rfl) (pf_ref hd rfl (Or.inl rfl)) hE hS hF hw k
theorem st_putR (hc : CF m pc ret (.putfield j) ci b npc tg) (hT : TH E τ h) (ht : ty τ q t) (hd : fld t b = some (ci, (3, x, y))) (hu : ty τ r x.toNat) (hE : Ext σ τ) (hS : Stb E W) (hF : Fr σ W h0 h) (hw : W.contains (t, b) = true) (k : ∀ h', TH E τ h' → Fr σ W h0 h' → FUp h q b (.ref r) h' → MR X d m npc L T h' Q) : MR X d m pc L (.ref r :: .ref q :: T) h Q :=
  st_put hc hT ht hd (Or.inr ⟨r, rfl, hu⟩) (pf_ref hd rfl (Or.inr ⟨r, rfl⟩)) hE hS hF hw k
theorem st_putR2 (hc : CF m pc ret (.putfield j) ci b npc tg) (hT : TH E τ h) (ht : ty τ q t) (hd : fld t b = some (ci, (2, x, y))) (hu : ty τ r x.toNat) (hE : Ext σ τ) (hS : Stb E W) (hF : Fr σ W h0 h) (hw : W.contains (t, b) = true) (k : ∀ h', TH E τ h' → Fr σ W h0 h' → FUp h q b (.ref r) h' → MR X d m npc L T h' Q) : MR X d m pc L (.ref r :: .ref q :: T) h Q :=
  st_put hc hT ht hd ⟨r, rfl, hu⟩ (pf_ref hd rfl (Or.inr ⟨r, rfl⟩)) hE hS hF hw k
theorem st_getstatic (hc : CF m pc ret (.getstatic j) a b npc tg) (hu : a + 1 = u) (k : MR X d m npc L (.ref u :: S) h Q) : MR X d m pc L S h Q := by
  subst hu
  obtain ⟨n, q1, hc, rfl, rfl⟩ := hc
  exact MR_go hc rfl k
/-- arrays -/
theorem st_alenC {kk : Nat} (hc : CF m pc ret .arraylength a b npc tg) (hT : TH E τ h) (ht : ty τ q t) (hd : ary t = some (kk, c, ft, nlo, nlo)) (hk : Nat.ble 1 kk = true) (hk2 : Nat.blt c 9 = true) (hz : (nlo : Int) = z) (k : MR X d m npc L (vI z :: T) h Q) : MR X d m pc L (.ref q :: T) h Q := by
  obtain ⟨n, q1, hc, rfl, rfl⟩ := hc
  obtain ⟨fts, he, -⟩ := ary_of hd
  obtain ⟨e, hx, hok⟩ := TW_at hT.1 ht
  rw [he] at hok
  subst hz
  refine MR_go hc ?_ k
  dsimp only [mx]
  rw [mget_own hx]
  have hk3 : kk < 4 := by
    unfold ary at hd
    rw [he] at hd
    split at hd
    · cases hd
    · rename_i h1
      cases h1
      split at hd
      · assumption
      · cases hd
  match kk, hk, hk3, hok with
  | 1, _, _, hok =>
    obtain ⟨n2, f, rfl, h1, h2, -⟩ := hok
    have : n2 = nlo := by omega
    subst this
    dsimp only
    rw [if_pos (Nat.blt_eq.mp hk2), ← Int32.ofInt_eq_ofNat]
    rfl
  | 2, _, _, hok =>
    obtain ⟨n2, f, rfl, h1, h2⟩ := hok
    have : n2 = nlo := by omega
    subst this
    dsimp only
    rw [if_pos (Nat.blt_eq.mp hk2), ← Int32.ofInt_eq_ofNat]
    rfl
  | 3, _, _, hok =>
    obtain ⟨n2, f, rfl, h1, h2, -⟩ := hok
    have : n2 = nlo := by omega
    subst this
    dsimp only
    rw [if_pos (Nat.blt_eq.mp hk2), ← Int32.ofInt_eq_ofNat]
    rfl
theorem st_alenI (hc : CF m pc ret .arraylength a b npc tg) (hT : TH E τ h) (ht : ty τ q t) (hd : ary t = some (1, c, (0, lo, hi), nlo, nhi)) (hk2 : Nat.blt c 9 = true) (k : (nlo : Int) ≤ (aN h q : Int) → (aN h q : Int) ≤ (nhi : Int) → MR X d m npc L (vI (aN h q : Int) :: T) h Q) : MR X d m pc L (.ref q :: T) h Q := by
  obtain ⟨n, q1, hc, rfl, rfl⟩ := hc
  obtain ⟨n2, f, h1, h2, h3, h4, h5, h6⟩ := TW_i hT.1 ht hd
  refine MR_go hc ?_ (k (by omega) (by omega))
  dsimp only [mx]
  rw [mget_own h1]
  dsimp only
  rw [if_pos (Nat.blt_eq.mp hk2), ← Int32.ofInt_eq_ofNat, h6]
  rfl
theorem st_iald (hc : CF m pc ret .iaload a b npc tg) (hT : TH E τ h) (ht : ty τ q t) (hd : ary t = some (1, 0, (0, lo, hi), nlo, nhi)) (hi1 : 0 ≤ x ∧ x ≤ 2147483647 ∧ (x < (nlo : Int) ∨ x < (aN h q : Int))) (k : lo ≤ aI h q x → aI h q x ≤ hi → MR X d m npc L (vI (aI h q x) :: T) h Q) : MR X d m pc L (vI x :: .ref q :: T) h Q := by
  obtain ⟨n, q1, hc, rfl, rfl⟩ := hc
  obtain ⟨n2, f, h1, h2, h3, h4, h5, h6⟩ := TW_i hT.1 ht hd
  have hm := mib_of (x := x) (n := n2) hi1.1 (by rcases hi1.2.2 with h | h <;> omega) hi1.2.1
  have e : aI h q x = (f x.toNat).toInt := by unfold aI; rw [h5]
  rw [e] at k
  refine MR_go hc ?_ (k (h4 _).1 (h4 _).2)
  show (match mget X h q with
        | some (.inl (0, (n, .inl f))) => if mib (Int32.ofInt x) n then mgo _ L (.int (f (Int32.ofInt x).toNatClampNeg) :: T) h else none
        | _ => none) = _
  rw [mget_own h1]
  refine (if_pos hm.1).trans ?_
  rw [hm.2, ← vI_to]
  rfl
theorem st_bald (hc : CF m pc ret .baload a b npc tg) (hT : TH E τ h) (ht : ty τ q t) (hd : ary t = some (1, c, (0, lo, hi), nlo, nhi)) (hcc : c = 1 ∨ c = 8) (hi1 : 0 ≤ x ∧ x ≤ 2147483647 ∧ (x < (nlo : Int) ∨ x < (aN h q : Int))) (k : lo ≤ aI h q x → aI h q x ≤ hi → MR X d m npc L (vI (aI h q x) :: T) h Q) : MR X d m pc L (vI x :: .ref q :: T) h Q := by
  obtain ⟨n, q1, hc, rfl, rfl⟩ := hc
  obtain ⟨n2, f, h1, h2, h3, h4, h5, h6⟩ := TW_i hT.1 ht hd
  have hm := mib_of (x := x) (n := n2) hi1.1 (by rcases hi1.2.2 with h | h <;> omega) hi1.2.1
  have e : aI h q x = (f x.toNat).toInt := by unfold aI; rw [h5]
  rw [e] at k
  refine MR_go hc ?_ (k (h4 _).1 (h4 _).2)
  rcases hcc with rfl | rfl
  · show (match mown h q with
        | some (.inl (1, (n, .inl f))) => if mib (Int32.ofInt x) n then mgo _ L (.int (f (Int32.ofInt x).toNatClampNeg) :: T) h else none
        | some (.inl (8, (n, .inl f))) => if mib (Int32.ofInt x) n then mgo _ L (.int (f (Int32.ofInt x).toNatClampNeg) :: T) h else none
        | _ => none) = _
    rw [h1]
    refine (if_pos hm.1).trans ?_
    rw [hm.2, ← vI_to]
    rfl
  · show (match mown h q with
        | some (.inl (1, (n, .inl f))) => if mib (Int32.ofInt x) n then mgo _ L (.int (f (Int32.ofInt x).toNatClampNeg) :: T) h else none
        | some (.inl (8, (n, .inl f))) => if mib (Int32.ofInt x) n then mgo _ L (.int (f (Int32.ofInt x).toNatClampNeg) :: T) h else none
        | _ => none) = _
    rw [h1]
    refine (if_pos hm.1).trans ?_
    rw [hm.2, ← vI_to]
    rfl
theorem okC_upd {fts : List FT} {n : Nat} {f : Nat → Int32} {p : Nat} (he : elt fts = (0, lo, hi)) (h2 : nlo ≤ n) (h3 : n ≤ nhi) (h4 : ∀ i, lo ≤ (f i).toInt ∧ (f i).toInt ≤ hi) (hr : -2147483648 ≤ z ∧ z ≤ 2147483647) (hz : lo ≤ z ∧ z ≤ hi) : okC τ (1, c, fts, nlo, nhi) (.inl (c, (n, .inl (upd f p (Int32.ofInt z))))) := by
  refine ⟨n, _, rfl, h2, h3, fun i => ?_⟩
  rw [he]
  unfold upd
  by_cases e : i = p
  · rw [if_pos e, to_of hr.1 hr.2]; exact hz
  · rw [if_neg e]; exact h4 i
theorem st_iast (hc : CF m pc ret .iastore a b npc tg) (hT : TH E τ h) (ht : ty τ q t) (hd : ary t = some (1, 0, (0, lo, hi), nlo, nhi)) (hi1 : 0 ≤ x ∧ x ≤ 2147483647 ∧ (x < (nlo : Int) ∨ x < (aN h q : Int))) (hr : -2147483648 ≤ z ∧ z ≤ 2147483647) (hz : lo ≤ z ∧ z ≤ hi) (hE : Ext σ τ) (hS : Stb E W) (hF : Fr σ W h0 h) (hw : W.contains (t, 0) = true) (k : ∀ h', TH E τ h' → Fr σ W h0 h' → AUp h q x z h' → MR X d m npc L T h' Q) : MR X d m pc L (vI z :: vI x :: .ref q :: T) h Q := by
  obtain ⟨n, q1, hc, rfl, rfl⟩ := hc
  obtain ⟨n2, f, h1, h2, h3, h4, h5, h6⟩ := TW_i hT.1 ht hd
  obtain ⟨fts, he, hft⟩ := ary_of hd
  have hm := mib_of (x := x) (n := n2) hi1.1 (by rcases hi1.2.2 with h | h <;> omega) hi1.2.1
  have hU : AUp h q x z (mput h q (.inl (0, (n2, .inl (upd f x.toNat (Int32.ofInt z)))))) := ⟨0, n2, f, h1, rfl⟩
  refine MR_go hc ?_ (k _ (TH_put hT h1 ht (by rw [he]; exact okC_upd hft h2 h3 h4 hr hz) (AUp_1 hU ht) (Stb_1 hS hw)) (AUp_Fr hF hU (fun u hu => by rw [ty_1 (Ext_ty hE hu) ht]; exact List.contains_iff_mem.mp hw)) hU)
  show (match mown h q with
          | some (.inl (0, (n, .inl f))) => if mib (Int32.ofInt x) n then mgo _ L T (mput h q (.inl (0, (n, .inl (upd f (Int32.ofInt x).toNatClampNeg (Int32.ofInt z)))))) else none
          | _ => none) = _
  rw [h1]
  refine (if_pos hm.1).trans ?_
  rw [hm.2]
  rfl
theorem st_zast (hc : CF m pc ret .bastore a b npc tg) (hT : TH E τ h) (ht : ty τ q t) (hd : ary t = some (1, 1, (0, 0, 1), nlo, nhi)) (hi1 : 0 ≤ x ∧ x ≤ 2147483647 ∧ (x < (nlo : Int) ∨ x < (aN h q : Int))) (hz : 0 ≤ z ∧ z ≤ 1) (hE : Ext σ τ) (hS : Stb E W) (hF : Fr σ W h0 h) (hw : W.contains (t, 0) = true) (k : ∀ h', TH E τ h' → Fr σ W h0 h' → AUp h q x z h' → MR X d m npc L T h' Q) : MR X d m pc L (vI z :: vI x :: .ref q :: T) h Q := by
  obtain ⟨n, q1, hc, rfl, rfl⟩ := hc
  obtain ⟨n2, f, h1, h2, h3, h4, h5, h6⟩ := TW_i hT.1 ht hd
  obtain ⟨fts, he, hft⟩ := ary_of hd
  have hm := mib_of (x := x) (n := n2) hi1.1 (by rcases hi1.2.2 with h | h <;> omega) hi1.2.1
  have hU : AUp h q x z (mput h q (.inl (1, (n2, .inl (upd f x.toNat (Int32.ofInt z)))))) := ⟨1, n2, f, h1, rfl⟩
  have h01 : (decide (Int32.ofInt z = 0) || decide (Int32.ofInt z = 1)) = true := by
    rcases (by omega : z = 0 ∨ z = 1) with rfl | rfl <;> rfl
  refine MR_go hc ?_ (k _ (TH_put hT h1 ht (by rw [he]; exact okC_upd hft h2 h3 h4 (by omega) hz) (AUp_1 hU ht) (Stb_1 hS hw)) (AUp_Fr hF hU (fun u hu => by rw [ty_1 (Ext_ty hE hu) ht]; exact List.contains_iff_mem.mp hw)) hU)
  show (match mown h q with
          | some (.inl (1, (n, .inl f))) => if mib (Int32.ofInt x) n && (decide (Int32.ofInt z = 0) || decide (Int32.ofInt z = 1)) then mgo _ L T (mput h q (.inl (1, (n, .inl (upd f (Int32.ofInt x).toNatClampNeg (Int32.ofInt z)))))) else none
          | some (.inl (8, (n, .inl f))) => if mib (Int32.ofInt x) n then mgo _ L T (mput h q (.inl (8, (n, .inl (upd f (Int32.ofInt x).toNatClampNeg (Int32.ofInt z).toInt8.toInt32))))) else none
          | _ => none) = _
  rw [h1]
  refine (if_pos (by rw [hm.1, h01]; rfl)).trans ?_
  rw [hm.2]
  rfl
theorem b8 (h1 : -128 ≤ z) (h2 : z ≤ 127) : (Int32.ofInt z).toInt8.toInt32 = Int32.ofInt z := by
  apply Int32.toInt_inj.mp
  rw [Int32.toInt8_ofInt, Int8.toInt_toInt32, Int8.toInt_ofInt_of_le (by omega) (by omega), to_of (by omega) (by omega)]
theorem st_bast (hc : CF m pc ret .bastore a b npc tg) (hT : TH E τ h) (ht : ty τ q t) (hd : ary t = some (1, 8, (0, lo, hi), nlo, nhi)) (hi1 : 0 ≤ x ∧ x ≤ 2147483647 ∧ (x < (nlo : Int) ∨ x < (aN h q : Int))) (hr : -128 ≤ z ∧ z ≤ 127) (hz : lo ≤ z ∧ z ≤ hi) (hE : Ext σ τ) (hS : Stb E W) (hF : Fr σ W h0 h) (hw : W.contains (t, 0) = true) (k : ∀ h', TH E τ h' → Fr σ W h0 h' → AUp h q x z h' → MR X d m npc L T h' Q) : MR X d m pc L (vI z :: vI x :: .ref q :: T) h Q := by
  obtain ⟨n, q1, hc, rfl, rfl⟩ := hc
  obtain ⟨n2, f, h1, h2, h3, h4, h5, h6⟩ := TW_i hT.1 ht hd
  obtain ⟨fts, he, hft⟩ := ary_of hd
  have hm := mib_of (x := x) (n := n2) hi1.1 (by rcases hi1.2.2 with h | h <;> omega) hi1.2.1
  have hU : AUp h q x z (mput h q (.inl (8, (n2, .inl (upd f x.toNat (Int32.ofInt z)))))) := ⟨8, n2, f, h1, rfl⟩
  refine MR_go hc ?_ (k _ (TH_put hT h1 ht (by rw [he]; exact okC_upd hft h2 h3 h4 (by omega) hz) (AUp_1 hU ht) (Stb_1 hS hw)) (AUp_Fr hF hU (fun u hu => by rw [ty_1 (Ext_ty hE hu) ht]; exact List.contains_iff_mem.mp hw)) hU)
  show (match mown h q with
          | some (.inl (1, (n, .inl f))) => if mib (Int32.ofInt x) n && (decide (Int32.ofInt z = 0) || decide (Int32.ofInt z = 1)) then mgo _ L T (mput h q (.inl (1, (n, .inl (upd f (Int32.ofInt x).toNatClampNeg (Int32.ofInt z)))))) else none
          | some (.inl (8, (n, .inl f))) => if mib (Int32.ofInt x) n then mgo _ L T (mput h q (.inl (8, (n, .inl (upd f (Int32.ofInt x).toNatClampNeg (Int32.ofInt z).toInt8.toInt32))))) else none
          | _ => none) = _
  rw [h1]
  refine (if_pos hm.1).trans ?_
  rw [b8 hr.1 hr.2, hm.2]
  rfl
theorem st_jald (hc : CF m pc ret .laload a b npc tg) (hT : TH E τ h) (ht : ty τ q t) (hd : ary t = some (2, 2, ft, nlo, nhi)) (hi1 : 0 ≤ x ∧ x < (nlo : Int) ∧ x ≤ 2147483647) (k : ∀ w : Int64, MR X d m npc L (.long w :: T) h Q) : MR X d m pc L (vI x :: .ref q :: T) h Q := by
  obtain ⟨n, q1, hc, rfl, rfl⟩ := hc
  obtain ⟨n2, f, h1, h2, h3, h4⟩ := TW_j hT.1 ht hd
  have hm := mib_of (x := x) (n := n2) hi1.1 (by omega) hi1.2.2
  refine MR_go hc ?_ (k (f x.toNat))
  show (match mget X h q with
        | some (.inl (2, (n, .inr (.inl f)))) => if mib (Int32.ofInt x) n then mgo _ L (.long (f (Int32.ofInt x).toNatClampNeg) :: T) h else none
        | _ => none) = _
  rw [mget_own h1]
  refine (if_pos hm.1).trans ?_
  rw [hm.2]
  rfl
theorem st_dig {Ln : Nat} {xs : Nat → Int32} (hc : CF m pc ret .laload a b npc tg) (hi1 : 0 ≤ x ∧ x < 6) (k : ∀ w : Int64, w ≠ 0 → MR (mex Ln xs) d m npc L (.long w :: T) h Q) : MR (mex Ln xs) d m pc L (vI x :: .ref 1 :: T) h Q := by
  obtain ⟨n, q1, hc, rfl, rfl⟩ := hc
  have hm := mib_of (x := x) (n := 6) hi1.1 hi1.2 (by omega)
  refine MR_go hc ?_ (k (mDg.getD x.toNat 0) ?_)
  · show (match mget (mex Ln xs) h 1 with
        | some (.inl (2, (n, .inr (.inl f)))) => if mib (Int32.ofInt x) n then mgo _ L (.long (f (Int32.ofInt x).toNatClampNeg) :: T) h else none
        | _ => none) = _
    rw [show mget (mex Ln xs) h 1 = some (.inl (2, (6, .inr (.inl (fun j => mDg.getD j 0))))) from rfl]
    refine (if_pos hm.1).trans ?_
    rw [hm.2]
    rfl
  · obtain ⟨w, hw⟩ : ∃ w : Nat, x = w := ⟨x.toNat, by omega⟩
    subst hw
    rcases (by omega : w = 0 ∨ w = 1 ∨ w = 2 ∨ w = 3 ∨ w = 4 ∨ w = 5) with rfl | rfl | rfl | rfl | rfl | rfl <;> decide
theorem st_nms {Ln : Nat} {xs : Nat → Int32} (hc : CF m pc ret .laload a b npc tg) (hi1 : 0 ≤ x ∧ x < 14) (k : MR (mex Ln xs) d m npc L (.long (mNm.getD x.toNat 0) :: T) h Q) : MR (mex Ln xs) d m pc L (vI x :: .ref 2 :: T) h Q := by
  obtain ⟨n, q1, hc, rfl, rfl⟩ := hc
  have hm := mib_of (x := x) (n := 14) hi1.1 hi1.2 (by omega)
  refine MR_go hc ?_ k
  show (match mget (mex Ln xs) h 2 with
        | some (.inl (2, (n, .inr (.inl f)))) => if mib (Int32.ofInt x) n then mgo _ L (.long (f (Int32.ofInt x).toNatClampNeg) :: T) h else none
        | _ => none) = _
  rw [show mget (mex Ln xs) h 2 = some (.inl (2, (14, .inr (.inl (fun j => mNm.getD j 0))))) from rfl]
  refine (if_pos hm.1).trans ?_
  rw [hm.2]
  rfl
theorem st_jast {w : Int64} (hc : CF m pc ret .lastore a b npc tg) (hT : TH E τ h) (ht : ty τ q t) (hd : ary t = some (2, 2, ft, nlo, nhi)) (hi1 : 0 ≤ x ∧ x < (nlo : Int) ∧ x ≤ 2147483647) (hS : Stb E W) (hF : Fr σ W h0 h) (k : ∀ h', TH E τ h' → Fr σ W h0 h' → JUp h h' → MR X d m npc L T h' Q) : MR X d m pc L (.long w :: vI x :: .ref q :: T) h Q := by
  obtain ⟨n, q1, hc, rfl, rfl⟩ := hc
  obtain ⟨n2, f, h1, h2, h3, h4⟩ := TW_j hT.1 ht hd
  obtain ⟨fts, he, hft⟩ := ary_of hd
  have hm := mib_of (x := x) (n := n2) hi1.1 (by omega) hi1.2.2
  have hU : JUp h (mput h q (.inl (2, (n2, .inr (.inl (vp_updL f x.toNat w)))))) := fun q' => by
    unfold aF aO aN rV
    by_cases e : q' = q
    · subst e
      rw [mown_put h1, h1]
      exact ⟨rfl, rfl, rfl, fun _ => rfl⟩
    · rw [mown_put_ne (g_own h1).1 e]
      exact ⟨rfl, rfl, rfl, fun _ => rfl⟩
  refine MR_go hc ?_ (k _ (TH_put hT h1 ht (by rw [he]; exact ⟨n2, _, rfl, h2, h3⟩) (JUp_0 (W := W) hU) hS) (JUp_Fr hF hU) hU)
  show (match mown h q with
          | some (.inl (2, (n, .inr (.inl f)))) => if mib (Int32.ofInt x) n then mgo _ L T (mput h q (.inl (2, (n, .inr (.inl (vp_updL f (Int32.ofInt x).toNatClampNeg w)))))) else none
          | _ => none) = _
  rw [h1]
  refine (if_pos hm.1).trans ?_
  rw [hm.2]
  rfl
theorem st_aald (hc : CF m pc ret .aaload a b npc tg) (hT : TH E τ h) (ht : ty τ q t) (hd : ary t = some (3, c, (3, y, z), nlo, nhi)) (hcc : (Nat.ble 3 c && Nat.blt c 8) = true) (hu : y.toNat = u) (hi1 : 0 ≤ x ∧ x < (nlo : Int) ∧ x ≤ 2147483647) (k0 : aR h q x = none → MR X d m npc L (.null :: T) h Q) (k : ∀ r, aR h q x = some r → ty τ r u → MR X d m npc L (.ref r :: T) h Q) : MR X d m pc L (vI x :: .ref q :: T) h Q := by
  obtain ⟨n, q1, hc, rfl, rfl⟩ := hc
  obtain ⟨n2, f, h1, h2, h3, h4, h5, h6⟩ := TW_o hT.1 ht hd
  have hm := mib_of (x := x) (n := n2) hi1.1 (by omega) hi1.2.2
  have hcc2 : 3 ≤ c ∧ c < 8 := by
    rw [Bool.and_eq_true] at hcc
    exact ⟨Nat.le_of_ble_eq_true hcc.1, Nat.blt_eq.mp hcc.2⟩
  have hx : mx ret X (.aaload, n, a, b, q1) pc L (vI x :: .ref q :: T) h = some (.inl (pc + n, L, va_rf (f x.toNat) :: T, h)) := by
    show (match mown h q with
        | some (.inl (t, (n2, .inr (.inr (.inr (.inr f)))))) => if mib (Int32.ofInt x) n2 && decide (3 ≤ t ∧ t < 8) then mgo _ L (va_rf (f (Int32.ofInt x).toNatClampNeg) :: T) h else none
        | _ => none) = _
    rw [h1]
    dsimp only
    rw [hm.1, hm.2, decide_eq_true hcc2]
    rfl
  have hok := h4 x.toNat (by omega)
  have e : aR h q x = f x.toNat := by unfold aR; rw [h5]
  rw [e] at k0 k
  cases hf : f x.toNat with
  | none =>
    rw [hf] at hx
    exact MR_go hc hx (k0 hf)
  | some r =>
    rw [hf] at hx hok
    rcases hok with h7 | ⟨r', h7, h8⟩
    · cases h7
    · cases h7
      rw [hu] at h8
      exact MR_go hc hx (k r hf h8)
theorem st_aaldr {kk : Nat} (hc : CF m pc ret .aaload a b npc tg) (hT : TH E τ h) (ht : ty τ q t) (hd : ary t = some (3, c, (kk, y, z), nlo, nhi)) (hcc : (Nat.ble 3 c && Nat.blt c 8) = true) (hi1 : 0 ≤ x ∧ x < (nlo : Int) ∧ x ≤ 2147483647) (he : aR h q x = some r) (k : MR X d m npc L (.ref r :: T) h Q) : MR X d m pc L (vI x :: .ref q :: T) h Q := by
  obtain ⟨n, q1, hc, rfl, rfl⟩ := hc
  obtain ⟨n2, f, h1, h2, h3, h4, h5, h6⟩ := TW_o hT.1 ht hd
  have hm := mib_of (x := x) (n := n2) hi1.1 (by omega) hi1.2.2
  have hcc2 : 3 ≤ c ∧ c < 8 := by
    rw [Bool.and_eq_true] at hcc
    exact ⟨Nat.le_of_ble_eq_true hcc.1, Nat.blt_eq.mp hcc.2⟩
  have e : f x.toNat = some r := by rw [← he]; unfold aR; rw [h5]
  refine MR_go hc ?_ k
  show (match mown h q with
        | some (.inl (t, (n2, .inr (.inr (.inr (.inr f)))))) => if mib (Int32.ofInt x) n2 && decide (3 ≤ t ∧ t < 8) then mgo _ L (va_rf (f (Int32.ofInt x).toNatClampNeg) :: T) h else none
        | _ => none) = _
  rw [h1]
  dsimp only
  rw [hm.1, hm.2, decide_eq_true hcc2, e]
  rfl
theorem st_aaldn {kk : Nat} (hc : CF m pc ret .aaload a b npc tg) (hT : TH E τ h) (ht : ty τ q t) (hd : ary t = some (3, c, (kk, y, z), nlo, nhi)) (hcc : (Nat.ble 3 c && Nat.blt c 8) = true) (hi1 : 0 ≤ x ∧ x < (nlo : Int) ∧ x ≤ 2147483647) (he : aR h q x = none) (k : MR X d m npc L (.null :: T) h Q) : MR X d m pc L (vI x :: .ref q :: T) h Q := by
  obtain ⟨n, q1, hc, rfl, rfl⟩ := hc
  obtain ⟨n2, f, h1, h2, h3, h4, h5, h6⟩ := TW_o hT.1 ht hd
  have hm := mib_of (x := x) (n := n2) hi1.1 (by omega) hi1.2.2
  have hcc2 : 3 ≤ c ∧ c < 8 := by
    rw [Bool.and_eq_true] at hcc
    exact ⟨Nat.le_of_ble_eq_true hcc.1, Nat.blt_eq.mp hcc.2⟩
  have e : f x.toNat = none := by rw [← he]; unfold aR; rw [h5]
  refine MR_go hc ?_ k
  show (match mown h q with
        | some (.inl (t, (n2, .inr (.inr (.inr (.inr f)))))) => if mib (Int32.ofInt x) n2 && decide (3 ≤ t ∧ t < 8) then mgo _ L (va_rf (f (Int32.ofInt x).toNatClampNeg) :: T) h else none
        | _ => none) = _
  rw [h1]
  dsimp only
  rw [hm.1, hm.2, decide_eq_true hcc2, e]
  rfl
theorem st_aald2 (hc : CF m pc ret .aaload a b npc tg) (hT : TH E τ h) (ht : ty τ q t) (hd : ary t = some (3, c, (2, y, z), nlo, nhi)) (hcc : (Nat.ble 3 c && Nat.blt c 8) = true) (hu : y.toNat = u) (hi1 : 0 ≤ x ∧ x < (nlo : Int) ∧ x ≤ 2147483647) (k : ∀ r, aR h q x = some r → ty τ r u → MR X d m npc L (.ref r :: T) h Q) : MR X d m pc L (vI x :: .ref q :: T) h Q := by
  obtain ⟨n, q1, hc, rfl, rfl⟩ := hc
  obtain ⟨n2, f, h1, h2, h3, h4, h5, h6⟩ := TW_o hT.1 ht hd
  have hm := mib_of (x := x) (n := n2) hi1.1 (by omega) hi1.2.2
  have hcc2 : 3 ≤ c ∧ c < 8 := by
    rw [Bool.and_eq_true] at hcc
    exact ⟨Nat.le_of_ble_eq_true hcc.1, Nat.blt_eq.mp hcc.2⟩
  have hx : mx ret X (.aaload, n, a, b, q1) pc L (vI x :: .ref q :: T) h = some (.inl (pc + n, L, va_rf (f x.toNat) :: T, h)) := by
    show (match mown h q with
        | some (.inl (t, (n2, .inr (.inr (.inr (.inr f)))))) => if mib (Int32.ofInt x) n2 && decide (3 ≤ t ∧ t < 8) then mgo _ L (va_rf (f (Int32.ofInt x).toNatClampNeg) :: T) h else none
        | _ => none) = _
    rw [h1]
    dsimp only
    rw [hm.1, hm.2, decide_eq_true hcc2]
    rfl
  have hok := h4 x.toNat (by omega)
  have e : aR h q x = f x.toNat := by unfold aR; rw [h5]
  rw [e] at k
  cases hf : f x.toNat with
  | none =>
    rw [hf] at hok
    obtain ⟨r', h7, h8⟩ := hok
    cases h7
  | some r =>
    rw [hf] at hx hok
    obtain ⟨r', h7, h8⟩ := hok
    cases h7
    rw [hu] at h8
    exact MR_go hc hx (k r hf h8)
theorem okC_up {fts : List FT} {n : Nat} {f : Nat → Option Nat} {p : Nat} {o : Option Nat} (he : elt fts = ft) (h2 : nlo ≤ n) (h3 : n ≤ nhi) (h4 : ∀ i, i < n → okV τ ft (va_rf (f i))) (ho : okV τ ft (va_rf o)) : okC τ (3, c, fts, nlo, nhi) (.inl (c, (n, .inr (.inr (.inr (.inr (va_up f p o))))))) := by
  refine ⟨n, _, rfl, h2, h3, fun i hi => ?_⟩
  rw [he]
  unfold va_up
  by_cases e : i = p
  · rw [if_pos e]; exact ho
  · rw [if_neg e]; exact h4 i hi
theorem st_aast {ft2 : FT} (hc : CF m pc ret .aastore a b npc tg) (hT : TH E τ h) (ht : ty τ q t) (hd : ary t = some (3, c, (3, y, z), nlo, nhi)) (hr : ty τ r u) (hu : y.toNat = u) (hd2 : fld u 0 = some (cj, ft2)) (he1 : mEl[c]? = some (some cj)) (hi1 : 0 ≤ x ∧ x < (nlo : Int) ∧ x ≤ 2147483647) (hE : Ext σ τ) (hS : Stb E W) (hF : Fr σ W h0 h) (hw : W.contains (t, 0) = true) (k : ∀ h', TH E τ h' → Fr σ W h0 h' → OUp h q x (some r) h' → MR X d m npc L T h' Q) : MR X d m pc L (.ref r :: vI x :: .ref q :: T) h Q := by
  obtain ⟨n, q1, hc, rfl, rfl⟩ := hc
  obtain ⟨n2, f, h1, h2, h3, h4, h5, h6⟩ := TW_o hT.1 ht hd
  obtain ⟨fts, he, hft⟩ := ary_of hd
  obtain ⟨fs, h7⟩ := TW_cls hT.1 hr hd2
  have hm := mib_of (x := x) (n := n2) hi1.1 (by omega) hi1.2.2
  have hU : OUp h q x (some r) (mput h q (.inl (c, (n2, .inr (.inr (.inr (.inr (va_up f x.toNat (some r))))))))) := ⟨c, n2, f, h1, rfl⟩
  refine MR_go hc ?_ (k _ (TH_put hT h1 ht (by rw [he]; exact okC_up hft h2 h3 h4 (Or.inr ⟨r, rfl, by rw [hu]; exact hr⟩)) (OUp_1 hU ht) (Stb_1 hS hw)) (OUp_Fr hF hU (fun u' hu' => by rw [ty_1 (Ext_ty hE hu') ht]; exact List.contains_iff_mem.mp hw)) hU)
  show (match mown h q, mown h r with
          | some (.inl (t, (n, .inr (.inr (.inr (.inr f)))))), some (.inr (ci, _)) =>
              if mib (Int32.ofInt x) n && decide (mEl[t]? = some (some ci)) then mgo _ L T (mput h q (.inl (t, (n, .inr (.inr (.inr (.inr (va_up f (Int32.ofInt x).toNatClampNeg (some r))))))))) else none
          | _, _ => none) = _
  rw [h1, h7]
  dsimp only
  rw [hm.1, hm.2, decide_eq_true he1]
  rfl
theorem st_aastN (hc : CF m pc ret .aastore a b npc tg) (hT : TH E τ h) (ht : ty τ q t) (hd : ary t = some (3, c, (3, y, z), nlo, nhi)) (hcc : (Nat.ble 3 c && Nat.blt c 7) = true) (hi1 : 0 ≤ x ∧ x < (nlo : Int) ∧ x ≤ 2147483647) (hE : Ext σ τ) (hS : Stb E W) (hF : Fr σ W h0 h) (hw : W.contains (t, 0) = true) (k : ∀ h', TH E τ h' → Fr σ W h0 h' → OUp h q x none h' → MR X d m npc L T h' Q) : MR X d m pc L (.null :: vI x :: .ref q :: T) h Q := by
  obtain ⟨n, q1, hc, rfl, rfl⟩ := hc
  obtain ⟨n2, f, h1, h2, h3, h4, h5, h6⟩ := TW_o hT.1 ht hd
  obtain ⟨fts, he, hft⟩ := ary_of hd
  have hm := mib_of (x := x) (n := n2) hi1.1 (by omega) hi1.2.2
  have hcc2 : 3 ≤ c ∧ c < 7 := by
    rw [Bool.and_eq_true] at hcc
    exact ⟨Nat.le_of_ble_eq_true hcc.1, Nat.blt_eq.mp hcc.2⟩
  have hU : OUp h q x none (mput h q (.inl (c, (n2, .inr (.inr (.inr (.inr (va_up f x.toNat none)))))))) := ⟨c, n2, f, h1, rfl⟩
  refine MR_go hc ?_ (k _ (TH_put hT h1 ht (by rw [he]; exact okC_up hft h2 h3 h4 (Or.inl rfl)) (OUp_1 hU ht) (Stb_1 hS hw)) (OUp_Fr hF hU (fun u' hu' => by rw [ty_1 (Ext_ty hE hu') ht]; exact List.contains_iff_mem.mp hw)) hU)
  show (match mown h q with
          | some (.inl (t, (n, .inr (.inr (.inr (.inr f)))))) => if mib (Int32.ofInt x) n && decide (3 ≤ t ∧ t < 7) then mgo _ L T (mput h q (.inl (t, (n, .inr (.inr (.inr (.inr (va_up f (Int32.ofInt x).toNatClampNeg none)))))))) else none
          | _ => none) = _
  rw [h1]
  dsimp only
  rw [hm.1, hm.2, decide_eq_true hcc2]
  rfl
/-- a call of a typed object's method -/
theorem st_callt {ml : Nat} {as : List Value} {L0 : mL} {Q' : Option Value → List mE → Prop} (hc : CF m pc ret (.invokevirtual j) a b npc tg) (hm : CM a ci ml) (hT : TH E τ h) (ht : ty τ q t) (hd : fld t 0 = some (ci, ft)) (hS : mtake b S [] = some (as, .ref q :: T)) (hT4 : Nat.ble T.length 4 = true) (hl : Nat.ble (lent1 (.ref q :: as)).length ml = true) (hL : lent (.ref q :: as) ml = L0) (hd0 : 0 < d) (hk : MR X (d - 1) a 0 L0 [] h Q')
    (k : ∀ v h', Q' v h' → MR X d m npc L (mpush v T) h' Q) : MR X d m pc L S h Q := by
  obtain ⟨fs, hq⟩ := TW_cls hT.1 ht hd
  exact st_callv hc hm hq hS hT4 hl hL hd0 hk k
end WPB
/-! the fields, the arrays -/
theorem fd_1_0 : fld 1 0 = some (11, (0, 0, 23999)) := by decide +kernel
theorem fd_1_1 : fld 1 1 = some (11, (0, 0, 400)) := by decide +kernel
theorem fd_1_2 : fld 1 2 = some (11, (4, 5, 0)) := by decide +kernel
theorem fd_1_3 : fld 1 3 = some (11, (4, 6, 0)) := by decide +kernel
theorem fd_1_4 : fld 1 4 = some (11, (4, 34, 0)) := by decide +kernel
theorem fd_1_5 : fld 1 5 = some (11, (0, 0, 15)) := by decide +kernel
theorem fd_1_6 : fld 1 6 = some (11, (4, 35, 0)) := by decide +kernel
theorem fd_1_7 : fld 1 7 = some (11, (0, 0, 90)) := by decide +kernel
theorem fd_1_8 : fld 1 8 = some (11, (4, 36, 0)) := by decide +kernel
theorem fd_1_9 : fld 1 9 = some (11, (4, 37, 0)) := by decide +kernel
theorem fd_1_10 : fld 1 10 = some (11, (0, 0, 30)) := by decide +kernel
theorem fd_1_11 : fld 1 11 = some (11, (4, 38, 0)) := by decide +kernel
theorem fd_1_12 : fld 1 12 = some (11, (0, 0, 100)) := by decide +kernel
theorem fd_1_13 : fld 1 13 = some (11, (4, 39, 0)) := by decide +kernel
theorem fd_1_14 : fld 1 14 = some (11, (4, 46, 0)) := by decide +kernel
theorem fd_1_15 : fld 1 15 = some (11, (4, 50, 0)) := by decide +kernel
theorem fd_1_16 : fld 1 16 = some (11, (4, 54, 0)) := by decide +kernel
theorem fd_1_17 : fld 1 17 = some (11, (4, 60, 0)) := by decide +kernel
theorem fd_2_0 : fld 2 0 = some (8, (4, 7, 0)) := by decide +kernel
theorem fd_2_1 : fld 2 1 = some (8, (4, 8, 0)) := by decide +kernel
theorem fd_2_2 : fld 2 2 = some (8, (4, 21, 0)) := by decide +kernel
theorem fd_2_3 : fld 2 3 = some (8, (0, 0, 12)) := by decide +kernel
theorem fd_3_0 : fld 3 0 = some (2, (4, 40, 0)) := by decide +kernel
theorem fd_3_1 : fld 3 1 = some (2, (4, 41, 0)) := by decide +kernel
theorem fd_3_2 : fld 3 2 = some (2, (4, 42, 0)) := by decide +kernel
theorem fd_3_3 : fld 3 3 = some (2, (0, 0, 300)) := by decide +kernel
theorem fd_3_4 : fld 3 4 = some (2, (4, 43, 0)) := by decide +kernel
theorem fd_3_5 : fld 3 5 = some (2, (4, 44, 0)) := by decide +kernel
theorem fd_3_6 : fld 3 6 = some (2, (4, 45, 0)) := by decide +kernel
theorem fd_3_7 : fld 3 7 = some (2, (0, 0, 200)) := by decide +kernel
theorem fd_4_0 : fld 4 0 = some (5, (4, 47, 0)) := by decide +kernel
theorem fd_4_1 : fld 4 1 = some (5, (0, 0, 6)) := by decide +kernel
theorem fd_4_2 : fld 4 2 = some (5, (0, (-2147483648), 2147483647)) := by decide +kernel
theorem fd_4_3 : fld 4 3 = some (5, (4, 48, 0)) := by decide +kernel
theorem fd_4_4 : fld 4 4 = some (5, (4, 49, 0)) := by decide +kernel
theorem fd_5_0 : fld 5 0 = some (3, (4, 51, 0)) := by decide +kernel
theorem fd_5_1 : fld 5 1 = some (3, (0, 0, 5)) := by decide +kernel
theorem fd_5_2 : fld 5 2 = some (3, (4, 52, 0)) := by decide +kernel
theorem fd_5_3 : fld 5 3 = some (3, (0, 0, 5)) := by decide +kernel
theorem fd_5_4 : fld 5 4 = some (3, (4, 53, 0)) := by decide +kernel
theorem fd_6_0 : fld 6 0 = some (9, (4, 55, 0)) := by decide +kernel
theorem fd_6_1 : fld 6 1 = some (9, (0, 0, 200)) := by decide +kernel
theorem fd_6_2 : fld 6 2 = some (9, (4, 56, 0)) := by decide +kernel
theorem fd_6_3 : fld 6 3 = some (9, (4, 57, 0)) := by decide +kernel
theorem fd_6_4 : fld 6 4 = some (9, (4, 58, 0)) := by decide +kernel
theorem fd_6_5 : fld 6 5 = some (9, (0, 0, 201)) := by decide +kernel
theorem fd_6_6 : fld 6 6 = some (9, (0, 0, 201)) := by decide +kernel
theorem fd_6_7 : fld 6 7 = some (9, (0, (-2147483648), 2147483647)) := by decide +kernel
theorem fd_6_8 : fld 6 8 = some (9, (4, 59, 0)) := by decide +kernel
theorem fd_6_9 : fld 6 9 = some (9, (0, 0, 800)) := by decide +kernel
theorem fd_7_0 : fld 7 0 = some (0, (4, 61, 0)) := by decide +kernel
theorem fd_7_1 : fld 7 1 = some (0, (0, 0, 16)) := by decide +kernel
theorem fd_7_2 : fld 7 2 = some (0, (4, 62, 0)) := by decide +kernel
theorem fd_7_3 : fld 7 3 = some (0, (4, 63, 0)) := by decide +kernel
theorem fd_8_0 : fld 8 0 = some (12, (0, (-2147483648), 2147483647)) := by decide +kernel
theorem fd_8_1 : fld 8 1 = some (12, (0, 0, 23999)) := by decide +kernel
theorem fd_8_2 : fld 8 2 = some (12, (0, 0, 12)) := by decide +kernel
theorem fd_8_3 : fld 8 3 = some (12, (4, 65, 0)) := by decide +kernel
theorem fd_8_4 : fld 8 4 = some (12, (4, 66, 0)) := by decide +kernel
theorem fd_8_5 : fld 8 5 = some (12, (4, 67, 0)) := by decide +kernel
theorem fd_8_6 : fld 8 6 = some (12, (4, 68, 0)) := by decide +kernel
theorem fd_8_7 : fld 8 7 = some (12, (0, 0, 15)) := by decide +kernel
theorem fd_8_8 : fld 8 8 = some (12, (4, 69, 0)) := by decide +kernel
theorem fd_8_9 : fld 8 9 = some (12, (4, 70, 0)) := by decide +kernel
theorem fd_8_10 : fld 8 10 = some (12, (4, 71, 0)) := by decide +kernel
theorem fd_8_11 : fld 8 11 = some (12, (4, 72, 0)) := by decide +kernel
theorem fd_8_12 : fld 8 12 = some (12, (4, 73, 0)) := by decide +kernel
theorem fd_8_13 : fld 8 13 = some (12, (4, 74, 0)) := by decide +kernel
theorem fd_8_14 : fld 8 14 = some (12, (4, 75, 0)) := by decide +kernel
theorem fd_8_15 : fld 8 15 = some (12, (0, 0, 90)) := by decide +kernel
theorem fd_8_16 : fld 8 16 = some (12, (4, 76, 0)) := by decide +kernel
theorem fd_8_17 : fld 8 17 = some (12, (4, 77, 0)) := by decide +kernel
theorem fd_8_18 : fld 8 18 = some (12, (4, 78, 0)) := by decide +kernel
theorem fd_8_19 : fld 8 19 = some (12, (4, 79, 0)) := by decide +kernel
theorem fd_8_20 : fld 8 20 = some (12, (4, 80, 0)) := by decide +kernel
theorem fd_8_21 : fld 8 21 = some (12, (4, 81, 0)) := by decide +kernel
theorem fd_8_22 : fld 8 22 = some (12, (4, 82, 0)) := by decide +kernel
theorem fd_8_23 : fld 8 23 = some (12, (4, 83, 0)) := by decide +kernel
theorem fd_8_24 : fld 8 24 = some (12, (4, 84, 0)) := by decide +kernel
theorem fd_8_25 : fld 8 25 = some (12, (4, 85, 0)) := by decide +kernel
theorem fd_8_26 : fld 8 26 = some (12, (4, 86, 0)) := by decide +kernel
theorem fd_8_27 : fld 8 27 = some (12, (4, 87, 0)) := by decide +kernel
theorem fd_8_28 : fld 8 28 = some (12, (4, 88, 0)) := by decide +kernel
theorem fd_8_29 : fld 8 29 = some (12, (4, 89, 0)) := by decide +kernel
theorem fd_8_30 : fld 8 30 = some (12, (4, 90, 0)) := by decide +kernel
theorem fd_8_31 : fld 8 31 = some (12, (4, 91, 0)) := by decide +kernel
theorem fd_8_32 : fld 8 32 = some (12, (0, 0, 490)) := by decide +kernel
theorem fd_8_33 : fld 8 33 = some (12, (0, 0, 400)) := by decide +kernel
theorem fd_8_34 : fld 8 34 = some (12, (4, 92, 0)) := by decide +kernel
theorem fd_8_35 : fld 8 35 = some (12, (4, 93, 0)) := by decide +kernel
theorem fd_8_36 : fld 8 36 = some (12, (4, 94, 0)) := by decide +kernel
theorem fd_8_37 : fld 8 37 = some (12, (0, 0, 200)) := by decide +kernel
theorem fd_8_38 : fld 8 38 = some (12, (4, 95, 0)) := by decide +kernel
theorem fd_8_39 : fld 8 39 = some (12, (4, 96, 0)) := by decide +kernel
theorem fd_8_40 : fld 8 40 = some (12, (4, 97, 0)) := by decide +kernel
theorem fd_8_41 : fld 8 41 = some (12, (0, 0, 300)) := by decide +kernel
theorem fd_8_42 : fld 8 42 = some (12, (4, 98, 0)) := by decide +kernel
theorem fd_8_43 : fld 8 43 = some (12, (4, 99, 0)) := by decide +kernel
theorem fd_8_44 : fld 8 44 = some (12, (4, 100, 0)) := by decide +kernel
theorem fd_8_45 : fld 8 45 = some (12, (0, 0, 30)) := by decide +kernel
theorem fd_8_46 : fld 8 46 = some (12, (4, 101, 0)) := by decide +kernel
theorem fd_8_47 : fld 8 47 = some (12, (4, 102, 0)) := by decide +kernel
theorem fd_8_48 : fld 8 48 = some (12, (0, 0, 100)) := by decide +kernel
theorem fd_8_49 : fld 8 49 = some (12, (4, 103, 0)) := by decide +kernel
theorem fd_8_50 : fld 8 50 = some (12, (4, 104, 0)) := by decide +kernel
theorem fd_8_51 : fld 8 51 = some (12, (4, 105, 0)) := by decide +kernel
theorem fd_8_52 : fld 8 52 = some (12, (4, 106, 0)) := by decide +kernel
theorem fd_8_53 : fld 8 53 = some (12, (4, 107, 0)) := by decide +kernel
theorem fd_8_54 : fld 8 54 = some (12, (4, 108, 0)) := by decide +kernel
theorem fd_8_55 : fld 8 55 = some (12, (4, 109, 0)) := by decide +kernel
theorem fd_8_56 : fld 8 56 = some (12, (4, 110, 0)) := by decide +kernel
theorem fd_8_57 : fld 8 57 = some (12, (4, 111, 0)) := by decide +kernel
theorem fd_8_58 : fld 8 58 = some (12, (4, 112, 0)) := by decide +kernel
theorem fd_8_59 : fld 8 59 = some (12, (4, 113, 0)) := by decide +kernel
theorem fd_8_60 : fld 8 60 = some (12, (4, 114, 0)) := by decide +kernel
theorem fd_8_61 : fld 8 61 = some (12, (4, 115, 0)) := by decide +kernel
theorem fd_8_62 : fld 8 62 = some (12, (0, 0, 6)) := by decide +kernel
theorem fd_8_63 : fld 8 63 = some (12, (4, 116, 0)) := by decide +kernel
theorem fd_8_64 : fld 8 64 = some (12, (0, 0, 1)) := by decide +kernel
theorem fd_8_65 : fld 8 65 = some (12, (0, (-2147483648), 2147483647)) := by decide +kernel
theorem fd_8_66 : fld 8 66 = some (12, (4, 117, 0)) := by decide +kernel
theorem fd_8_67 : fld 8 67 = some (12, (4, 118, 0)) := by decide +kernel
theorem fd_8_68 : fld 8 68 = some (12, (4, 119, 0)) := by decide +kernel
theorem fd_8_69 : fld 8 69 = some (12, (4, 120, 0)) := by decide +kernel
theorem fd_8_70 : fld 8 70 = some (12, (0, 0, 5)) := by decide +kernel
theorem fd_8_71 : fld 8 71 = some (12, (4, 121, 0)) := by decide +kernel
theorem fd_8_72 : fld 8 72 = some (12, (4, 122, 0)) := by decide +kernel
theorem fd_8_73 : fld 8 73 = some (12, (0, 0, 11)) := by decide +kernel
theorem fd_8_74 : fld 8 74 = some (12, (0, 0, 5)) := by decide +kernel
theorem fd_8_75 : fld 8 75 = some (12, (4, 123, 0)) := by decide +kernel
theorem fd_8_76 : fld 8 76 = some (12, (4, 124, 0)) := by decide +kernel
theorem fd_8_77 : fld 8 77 = some (12, (0, 0, 200)) := by decide +kernel
theorem fd_8_78 : fld 8 78 = some (12, (0, 0, 16)) := by decide +kernel
theorem fd_8_79 : fld 8 79 = some (12, (4, 125, 0)) := by decide +kernel
theorem fd_8_80 : fld 8 80 = some (12, (4, 126, 0)) := by decide +kernel
theorem fd_8_81 : fld 8 81 = some (12, (4, 127, 0)) := by decide +kernel
theorem fd_8_82 : fld 8 82 = some (12, (4, 128, 0)) := by decide +kernel
theorem fd_8_83 : fld 8 83 = some (12, (4, 129, 0)) := by decide +kernel
theorem fd_8_84 : fld 8 84 = some (12, (4, 130, 0)) := by decide +kernel
theorem fd_8_85 : fld 8 85 = some (12, (4, 131, 0)) := by decide +kernel
theorem fd_8_86 : fld 8 86 = some (12, (0, 0, 200)) := by decide +kernel
theorem fd_8_87 : fld 8 87 = some (12, (0, 0, 200)) := by decide +kernel
theorem fd_8_88 : fld 8 88 = some (12, (0, (-2147483648), 2147483647)) := by decide +kernel
theorem fd_8_89 : fld 8 89 = some (12, (0, (-2147483648), 2147483647)) := by decide +kernel
theorem fd_8_90 : fld 8 90 = some (12, (0, (-2147483648), 2147483647)) := by decide +kernel
theorem fd_8_91 : fld 8 91 = some (12, (0, 0, 8)) := by decide +kernel
theorem fd_8_92 : fld 8 92 = some (12, (0, 0, 15)) := by decide +kernel
theorem fd_8_93 : fld 8 93 = some (12, (0, 0, 439)) := by decide +kernel
theorem fd_8_94 : fld 8 94 = some (12, (4, 132, 0)) := by decide +kernel
theorem fd_8_95 : fld 8 95 = some (12, (4, 133, 0)) := by decide +kernel
theorem fd_8_96 : fld 8 96 = some (12, (0, (-2147483648), 2147483647)) := by decide +kernel
theorem fd_9_0 : fld 9 0 = some (1, (0, 0, 14)) := by decide +kernel
theorem fd_9_1 : fld 9 1 = some (1, (0, (-2147483648), 2147483647)) := by decide +kernel
theorem fd_9_2 : fld 9 2 = some (1, (0, (-2147483648), 2147483647)) := by decide +kernel
theorem fd_9_3 : fld 9 3 = some (1, (0, (-2147483648), 2147483647)) := by decide +kernel
theorem fd_9_4 : fld 9 4 = some (1, (0, (-2147483648), 2147483647)) := by decide +kernel
theorem fd_9_5 : fld 9 5 = some (1, (0, (-2147483648), 2147483647)) := by decide +kernel
theorem fd_9_6 : fld 9 6 = some (1, (2, 112, 0)) := by decide +kernel
theorem fd_9_7 : fld 9 7 = some (1, (2, 113, 0)) := by decide +kernel
theorem fd_10_0 : fld 10 0 = some (4, (0, (-2147483648), 2147483647)) := by decide +kernel
theorem fd_10_1 : fld 10 1 = some (4, (2, 9, 0)) := by decide +kernel
theorem fd_10_2 : fld 10 2 = some (4, (2, 11, 0)) := by decide +kernel
theorem fd_10_3 : fld 10 3 = some (4, (0, (-2147483648), 2147483647)) := by decide +kernel
theorem fd_10_4 : fld 10 4 = some (4, (0, (-2147483648), 2147483647)) := by decide +kernel
theorem fd_10_5 : fld 10 5 = some (4, (0, (-2147483648), 2147483647)) := by decide +kernel
theorem fd_10_6 : fld 10 6 = some (4, (0, (-2147483648), 2147483647)) := by decide +kernel
theorem fd_10_7 : fld 10 7 = some (4, (0, (-2147483648), 2147483647)) := by decide +kernel
theorem fd_10_8 : fld 10 8 = some (4, (0, (-2147483648), 2147483647)) := by decide +kernel
theorem fd_10_9 : fld 10 9 = some (4, (3, 12, 0)) := by decide +kernel
theorem fd_10_10 : fld 10 10 = some (4, (3, 12, 0)) := by decide +kernel
theorem fd_10_11 : fld 10 11 = some (4, (0, (-2147483648), 2147483647)) := by decide +kernel
theorem fd_10_12 : fld 10 12 = some (4, (0, (-2147483648), 2147483647)) := by decide +kernel
theorem fd_10_13 : fld 10 13 = some (4, (2, 114, 0)) := by decide +kernel
theorem fd_10_14 : fld 10 14 = some (4, (2, 115, 0)) := by decide +kernel
theorem fd_10_15 : fld 10 15 = some (4, (0, 0, 5)) := by decide +kernel
theorem fd_11_0 : fld 11 0 = some (6, (2, 116, 0)) := by decide +kernel
theorem fd_11_1 : fld 11 1 = some (6, (2, 117, 0)) := by decide +kernel
theorem fd_11_2 : fld 11 2 = some (6, (0, 1, 401)) := by decide +kernel
theorem fd_11_3 : fld 11 3 = some (6, (0, 0, 1)) := by decide +kernel
theorem fd_12_0 : fld 12 0 = some (7, (0, (-2147483648), 2147483647)) := by decide +kernel
theorem fd_12_1 : fld 12 1 = some (7, (0, (-2147483648), 2147483647)) := by decide +kernel
theorem fd_12_2 : fld 12 2 = some (7, (0, (-2147483648), 2147483647)) := by decide +kernel
theorem fd_12_3 : fld 12 3 = some (7, (0, (-2147483648), 2147483647)) := by decide +kernel
theorem fd_12_4 : fld 12 4 = some (7, (0, (-2147483648), 2147483647)) := by decide +kernel
theorem fd_12_5 : fld 12 5 = some (7, (2, 9, 0)) := by decide +kernel
theorem fd_12_6 : fld 12 6 = some (7, (0, (-2147483648), 2147483647)) := by decide +kernel
theorem fd_12_7 : fld 12 7 = some (7, (0, (-2147483648), 2147483647)) := by decide +kernel
theorem fd_12_8 : fld 12 8 = some (7, (0, (-2147483648), 2147483647)) := by decide +kernel
theorem fd_12_9 : fld 12 9 = some (7, (0, (-2147483648), 2147483647)) := by decide +kernel
theorem fd_12_10 : fld 12 10 = some (7, (3, 10, 0)) := by decide +kernel
theorem fd_12_11 : fld 12 11 = some (7, (0, (-2147483648), 2147483647)) := by decide +kernel
theorem fd_12_12 : fld 12 12 = some (7, (0, (-2147483648), 2147483647)) := by decide +kernel
theorem fd_12_13 : fld 12 13 = some (7, (2, 118, 0)) := by decide +kernel
theorem fd_12_14 : fld 12 14 = some (7, (2, 119, 0)) := by decide +kernel
theorem fd_12_15 : fld 12 15 = some (7, (2, 120, 0)) := by decide +kernel
theorem fd_13_0 : fld 13 0 = some (10, (0, (-2147483648), 2147483647)) := by decide +kernel
theorem fd_13_1 : fld 13 1 = some (10, (0, (-2147483648), 2147483647)) := by decide +kernel
theorem fd_13_2 : fld 13 2 = some (10, (0, (-2147483648), 2147483647)) := by decide +kernel
theorem fd_13_3 : fld 13 3 = some (10, (2, 121, 0)) := by decide +kernel
theorem ay_14 : ary 14 = some (1, 1, (0, 0, 1), 1000, 1000) := by decide +kernel
theorem ay_15 : ary 15 = some (3, 3, (3, 9, 0), 15, 15) := by decide +kernel
theorem ay_16 : ary 16 = some (3, 4, (3, 10, 0), 90, 90) := by decide +kernel
theorem ay_17 : ary 17 = some (1, 0, (0, 0, 11), 30, 30) := by decide +kernel
theorem ay_18 : ary 18 = some (1, 0, (0, 0, 255), 30, 30) := by decide +kernel
theorem ay_19 : ary 19 = some (3, 5, (3, 12, 0), 100, 100) := by decide +kernel
theorem ay_20 : ary 20 = some (1, 1, (0, 0, 1), 12, 12) := by decide +kernel
theorem ay_21 : ary 21 = some (3, 7, (2, 122, 0), 12, 12) := by decide +kernel
theorem ay_22 : ary 22 = some (3, 7, (2, 123, 0), 12, 12) := by decide +kernel
theorem ay_23 : ary 23 = some (1, 0, (0, (-2147483648), 2147483647), 300, 300) := by decide +kernel
theorem ay_24 : ary 24 = some (1, 0, (0, (-2147483648), 2147483647), 300, 300) := by decide +kernel
theorem ay_25 : ary 25 = some (1, 0, (0, (-2147483648), 2147483647), 300, 300) := by decide +kernel
theorem ay_26 : ary 26 = some (1, 0, (0, (-2147483648), 2147483647), 200, 200) := by decide +kernel
theorem ay_27 : ary 27 = some (1, 0, (0, (-2147483648), 2147483647), 200, 200) := by decide +kernel
theorem ay_28 : ary 28 = some (1, 0, (0, (-2147483648), 2147483647), 200, 200) := by decide +kernel
theorem ay_29 : ary 29 = some (3, 5, (3, 12, 0), 6, 6) := by decide +kernel
theorem ay_30 : ary 30 = some (2, 2, (1, 0, 0), 64, 64) := by decide +kernel
theorem ay_31 : ary 31 = some (2, 2, (1, 0, 0), 6, 6) := by decide +kernel
theorem ay_32 : ary 32 = some (3, 4, (3, 10, 0), 5, 5) := by decide +kernel
theorem ay_33 : ary 33 = some (3, 4, (3, 10, 0), 5, 5) := by decide +kernel
theorem ay_34 : ary 34 = some (1, 0, (0, 0, 4), 5, 5) := by decide +kernel
theorem ay_35 : ary 35 = some (1, 0, (0, 0, 255), 200, 200) := by decide +kernel
theorem ay_36 : ary 36 = some (1, 0, (0, (-2147483648), 2147483647), 201, 201) := by decide +kernel
theorem ay_37 : ary 37 = some (1, 0, (0, (-2147483648), 2147483647), 201, 201) := by decide +kernel
theorem ay_38 : ary 38 = some (1, 0, (0, (-2147483648), 2147483647), 201, 201) := by decide +kernel
theorem ay_39 : ary 39 = some (1, 0, (0, (-2147483648), 2147483647), 800, 800) := by decide +kernel
theorem ay_40 : ary 40 = some (3, 6, (3, 13, 0), 16, 16) := by decide +kernel
theorem ay_41 : ary 41 = some (1, 0, (0, (-2147483648), 2147483647), 14, 14) := by decide +kernel
theorem ay_42 : ary 42 = some (1, 0, (0, (-2147483648), 2147483647), 64, 64) := by decide +kernel
theorem ay_43 : ary 43 = some (1, 1, (0, 0, 1), 12, 12) := by decide +kernel
theorem ay_44 : ary 44 = some (1, 0, (0, 0, 300), 144, 144) := by decide +kernel
theorem ay_45 : ary 45 = some (1, 0, (0, 0, 1000000), 144, 144) := by decide +kernel
theorem ay_46 : ary 46 = some (1, 1, (0, 0, 1), 1000, 1000) := by decide +kernel
theorem ay_47 : ary 47 = some (1, 0, (0, (-2147483648), 2147483647), 15, 15) := by decide +kernel
theorem ay_48 : ary 48 = some (1, 0, (0, (-2147483648), 2147483647), 15, 15) := by decide +kernel
theorem ay_49 : ary 49 = some (1, 0, (0, (-2147483648), 2147483647), 15, 15) := by decide +kernel
theorem ay_50 : ary 50 = some (1, 0, (0, (-2147483648), 2147483647), 15, 15) := by decide +kernel
theorem ay_51 : ary 51 = some (1, 0, (0, (-2147483648), 2147483647), 15, 15) := by decide +kernel
theorem ay_52 : ary 52 = some (1, 1, (0, 0, 1), 225, 225) := by decide +kernel
theorem ay_53 : ary 53 = some (1, 0, (0, (-2147483648), 2147483647), 240, 240) := by decide +kernel
theorem ay_54 : ary 54 = some (1, 0, (0, 0, 14), 90, 90) := by decide +kernel
theorem ay_55 : ary 55 = some (1, 0, (0, (-2147483648), 2147483647), 90, 90) := by decide +kernel
theorem ay_56 : ary 56 = some (1, 0, (0, (-2147483648), 2147483647), 90, 90) := by decide +kernel
theorem ay_57 : ary 57 = some (1, 0, (0, 0, 11), 90, 90) := by decide +kernel
theorem ay_58 : ary 58 = some (1, 0, (0, (-2147483648), 2147483647), 90, 90) := by decide +kernel
theorem ay_59 : ary 59 = some (1, 1, (0, 0, 1), 90, 90) := by decide +kernel
theorem ay_60 : ary 60 = some (1, 0, (0, (-2147483648), 2147483647), 90, 90) := by decide +kernel
theorem ay_61 : ary 61 = some (1, 0, (0, (-2147483648), 2147483647), 90, 90) := by decide +kernel
theorem ay_62 : ary 62 = some (1, 0, (0, (-2147483648), 2147483647), 90, 90) := by decide +kernel
theorem ay_63 : ary 63 = some (1, 0, (0, (-2147483648), 2147483647), 90, 90) := by decide +kernel
theorem ay_64 : ary 64 = some (1, 0, (0, (-1), 99), 90, 90) := by decide +kernel
theorem ay_65 : ary 65 = some (1, 0, (0, (-2147483648), 2147483647), 90, 90) := by decide +kernel
theorem ay_66 : ary 66 = some (1, 0, (0, (-2147483648), 2147483647), 90, 90) := by decide +kernel
theorem ay_67 : ary 67 = some (1, 0, (0, 0, 5), 90, 90) := by decide +kernel
theorem ay_68 : ary 68 = some (1, 0, (0, (-2147483648), 2147483647), 450, 450) := by decide +kernel
theorem ay_69 : ary 69 = some (1, 0, (0, 0, 9999), 450, 450) := by decide +kernel
theorem ay_70 : ary 70 = some (1, 0, (0, (-2147483648), 2147483647), 490, 490) := by decide +kernel
theorem ay_71 : ary 71 = some (1, 0, (0, (-2147483648), 2147483647), 490, 490) := by decide +kernel
theorem ay_72 : ary 72 = some (1, 0, (0, (-2147483648), 2147483647), 490, 490) := by decide +kernel
theorem ay_73 : ary 73 = some (1, 0, (0, (-2147483648), 2147483647), 200, 200) := by decide +kernel
theorem ay_74 : ary 74 = some (1, 0, (0, (-2147483648), 2147483647), 200, 200) := by decide +kernel
theorem ay_75 : ary 75 = some (1, 0, (0, (-2147483648), 2147483647), 200, 200) := by decide +kernel
theorem ay_76 : ary 76 = some (1, 0, (0, (-2147483648), 2147483647), 300, 300) := by decide +kernel
theorem ay_77 : ary 77 = some (1, 0, (0, (-2147483648), 2147483647), 300, 300) := by decide +kernel
theorem ay_78 : ary 78 = some (1, 0, (0, (-2147483648), 2147483647), 300, 300) := by decide +kernel
theorem ay_79 : ary 79 = some (1, 0, (0, 0, 11), 30, 30) := by decide +kernel
theorem ay_80 : ary 80 = some (1, 0, (0, (-2147483648), 2147483647), 30, 30) := by decide +kernel
theorem ay_81 : ary 81 = some (1, 0, (0, 0, 29), 100, 100) := by decide +kernel
theorem ay_82 : ary 82 = some (1, 0, (0, 0, 14), 100, 100) := by decide +kernel
theorem ay_83 : ary 83 = some (1, 0, (0, 0, 23999), 100, 100) := by decide +kernel
theorem ay_84 : ary 84 = some (1, 0, (0, (-2147483648), 2147483647), 100, 100) := by decide +kernel
theorem ay_85 : ary 85 = some (1, 0, (0, (-2147483648), 2147483647), 100, 100) := by decide +kernel
theorem ay_86 : ary 86 = some (1, 0, (0, (-2147483648), 2147483647), 100, 100) := by decide +kernel
theorem ay_87 : ary 87 = some (1, 0, (0, (-2147483648), 2147483647), 100, 100) := by decide +kernel
theorem ay_88 : ary 88 = some (1, 0, (0, (-1), 89), 100, 100) := by decide +kernel
theorem ay_89 : ary 89 = some (1, 0, (0, (-1), 2147483647), 100, 100) := by decide +kernel
theorem ay_90 : ary 90 = some (1, 0, (0, (-1), 23999), 100, 100) := by decide +kernel
theorem ay_91 : ary 91 = some (1, 0, (0, (-2147483648), 2147483647), 6000, 6000) := by decide +kernel
theorem ay_92 : ary 92 = some (1, 0, (0, (-2147483648), 2147483647), 200, 200) := by decide +kernel
theorem ay_93 : ary 93 = some (1, 0, (0, (-2147483648), 2147483647), 200, 200) := by decide +kernel
theorem ay_94 : ary 94 = some (1, 0, (0, 0, 99), 6, 6) := by decide +kernel
theorem ay_95 : ary 95 = some (1, 1, (0, 0, 1), 90, 90) := by decide +kernel
theorem ay_96 : ary 96 = some (1, 0, (0, (-1), 89), 6, 6) := by decide +kernel
theorem ay_97 : ary 97 = some (2, 2, (1, 0, 0), 64, 64) := by decide +kernel
theorem ay_98 : ary 98 = some (2, 2, (1, 0, 0), 540, 540) := by decide +kernel
theorem ay_99 : ary 99 = some (1, 0, (0, 0, 89), 5, 5) := by decide +kernel
theorem ay_100 : ary 100 = some (1, 0, (0, (-1), 5), 5, 5) := by decide +kernel
theorem ay_101 : ary 101 = some (1, 0, (0, (-2147483648), 2147483647), 5, 5) := by decide +kernel
theorem ay_102 : ary 102 = some (1, 8, (0, (-128), 127), 200, 200) := by decide +kernel
theorem ay_103 : ary 103 = some (1, 0, (0, (-2147483648), 2147483647), 16, 16) := by decide +kernel
theorem ay_104 : ary 104 = some (1, 0, (0, (-2147483648), 2147483647), 16, 16) := by decide +kernel
theorem ay_105 : ary 105 = some (1, 0, (0, (-2147483648), 2147483647), 16, 16) := by decide +kernel
theorem ay_106 : ary 106 = some (1, 0, (0, 0, 220), 17, 17) := by decide +kernel
theorem ay_107 : ary 107 = some (1, 0, (0, (-2147483648), 2147483647), 3740, 3740) := by decide +kernel
theorem ay_108 : ary 108 = some (1, 0, (0, (-2147483648), 2147483647), 3740, 3740) := by decide +kernel
theorem ay_109 : ary 109 = some (1, 0, (0, (-2147483648), 2147483647), 3740, 3740) := by decide +kernel
theorem ay_110 : ary 110 = some (1, 0, (0, (-2147483648), 2147483647), 14, 14) := by decide +kernel
theorem ay_111 : ary 111 = some (1, 0, (0, (-2147483648), 2147483647), 220, 220) := by decide +kernel
theorem ay_112 : ary 112 = some (1, 0, (0, (-2147483648), 2147483647), 16, 16) := by decide +kernel
theorem ay_113 : ary 113 = some (1, 1, (0, 0, 1), 15, 15) := by decide +kernel
theorem ay_114 : ary 114 = some (1, 0, (0, (-2147483648), 2147483647), 5, 5) := by decide +kernel
theorem ay_115 : ary 115 = some (1, 0, (0, (-2147483648), 2147483647), 5, 5) := by decide +kernel
theorem ay_116 : ary 116 = some (1, 0, (0, (-2147483648), 2147483647), 4, 802) := by decide +kernel
theorem ay_117 : ary 117 = some (1, 0, (0, (-2147483648), 2147483647), 4, 802) := by decide +kernel
theorem ay_118 : ary 118 = some (1, 1, (0, 0, 1), 60, 60) := by decide +kernel
theorem ay_119 : ary 119 = some (1, 0, (0, (-2147483648), 2147483647), 2, 2) := by decide +kernel
theorem ay_120 : ary 120 = some (1, 0, (0, (-2147483648), 2147483647), 2, 2) := by decide +kernel
theorem ay_121 : ary 121 = some (1, 0, (0, (-2147483648), 2147483647), 0, 800) := by decide +kernel
theorem ay_122 : ary 122 = some (1, 0, (0, 0, 300), 12, 12) := by decide +kernel
theorem ay_123 : ary 123 = some (1, 0, (0, (-2147483648), 2147483647), 12, 12) := by decide +kernel
