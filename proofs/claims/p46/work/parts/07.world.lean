/-! THE TWO MACHINES' STATES, side by side -/
def g_ad (xs : Nat → Nat) (b q : Nat) : Nat := if q < 4 then xs q else b + (q - 4)
def g_V (g : Nat → Nat) (v : Value) : Value := match v with
  | .ref q => .ref (g q)
  | v => v
def g_E (g : Nat → Nat) (aC : Nat → ClassId) (e : mE) : va_E := match e with
  | .inl (t, (n, .inl f)) => .inl (aC t, (n, .inl f))
  | .inl (t, (n, .inr (.inl f))) => .inl (aC t, (n, .inr (.inl f)))
  | .inl (t, (n, .inr (.inr (.inl f)))) => .inl (aC t, (n, .inr (.inr (.inl f))))
  | .inl (t, (n, .inr (.inr (.inr (.inl f))))) => .inl (aC t, (n, .inr (.inr (.inr (.inl f)))))
  | .inl (t, (n, .inr (.inr (.inr (.inr f))))) => .inl (aC t, (n, .inr (.inr (.inr (.inr (fun j => (f j).map g))))))
  | .inr (ci, fs) => .inr (ci, fs.map (g_V g))
/-- the real heap holds the cells h, from b on, and nothing behind them -/
def g_W (xs : Nat → Nat) (b : Nat) (aC : Nat → ClassId) (D : va_G) (h : List mE) (H : Heap) : Prop :=
  H.size = b + h.length ∧ ∀ (i : Nat) (e : mE), h[i]? = some e → va_at D vwCl (b + i, g_E (g_ad xs b) aC e) H
abbrev g_A (b : Nat) : Nat → Prop := fun q => b ≤ q
theorem g_cat (g : Nat → Nat) (v : Value) : (g_V g v).category = v.category := by cases v <;> rfl
theorem g_mcat (g : Nat → Nat) (S : List Value) : ((S.map (g_V g)).map fun v => v.category).sum = mcat S := by
  unfold mcat
  rw [List.map_map]
  congr 1
  exact List.map_congr_left fun v _ => g_cat g v
theorem g_ad4 {xs : Nat → Nat} {b q : Nat} (h : 4 ≤ q) : g_ad xs b q = b + (q - 4) := by
  unfold g_ad
  rw [if_neg (by omega)]
theorem g_own {h : List mE} {q : Nat} {e : mE} (hq : mown h q = some e) : 4 ≤ q ∧ h[q - 4]? = some e := by
  unfold mown at hq
  by_cases h4 : q < 4
  · rw [if_pos h4] at hq; cases hq
  · rw [if_neg h4] at hq; exact ⟨by omega, hq⟩
section GW
variable {xs : Nat → Nat} {b : Nat} {aC : Nat → ClassId} {D : va_G} {h : List mE} {H H1 : Heap}
theorem g_at {q : Nat} {e : mE} (hW : g_W xs b aC D h H) (hq : mown h q = some e) : va_at D vwCl (g_ad xs b q, g_E (g_ad xs b) aC e) H := by
  obtain ⟨h4, hq⟩ := g_own hq
  rw [g_ad4 h4]
  exact hW.2 _ _ hq
theorem g_Aq {q : Nat} (h4 : 4 ≤ q) : g_A b (g_ad xs b q) := by
  show b ≤ g_ad xs b q
  rw [g_ad4 h4]
  omega
theorem g_set {q : Nat} {e0 e : mE} {A : Nat → Prop} {H0 : Heap} {locs1 : List Loc} (hW : g_W xs b aC D h H) (hq : mown h q = some e0) (hst : x_st D vwCl A H0 H (g_ad xs b q) (g_E (g_ad xs b) aC e) H1 locs1) : g_W xs b aC D (mput h q e) H1 := by
  obtain ⟨h4, hq⟩ := g_own hq
  obtain ⟨z, ha, o, -⟩ := hst
  rw [g_ad4 h4] at ha o
  have hl : q - 4 < h.length := (List.getElem?_eq_some_iff.mp hq).1
  refine ⟨by rw [z, hW.1, mput, List.length_set], fun i x hi => ?_⟩
  unfold mput at hi
  by_cases hk : i = q - 4
  · subst hk
    rw [List.getElem?_set_self hl] at hi
    cases hi
    exact ha
  · rw [List.getElem?_set_ne (Ne.symm hk)] at hi
    refine (hW.2 i x hi).kept (o _ ?_)
    intro e
    exact hk (by omega)
theorem g_push {e : mE} {A : Nat → Prop} {H0 : Heap} {locs1 : List Loc} (hW : g_W xs b aC D h H) (hn : x_nw D vwCl A H0 H (g_E (g_ad xs b) aC e) H1 locs1) : g_W xs b aC D (h ++ [e]) H1 := by
  obtain ⟨z, ha, o, -⟩ := hn
  rw [hW.1] at ha
  refine ⟨by rw [z, hW.1, List.length_append]; rfl, fun i x hi => ?_⟩
  by_cases hl : i < h.length
  · rw [List.getElem?_append_left hl] at hi
    exact (hW.2 i x hi).kept (o _ (by rw [hW.1]; show b + i < b + h.length; omega))
  · rw [List.getElem?_append_right (by omega)] at hi
    have hz : i - h.length < 1 := (List.getElem?_eq_some_iff.mp hi).1
    have e1 : i = h.length := by omega
    subst e1
    rw [Nat.sub_self] at hi
    cases hi
    exact ha
theorem g_ref (hW : g_W xs b aC D h H) : (Value.ref H.size) = g_V (g_ad xs b) (.ref (h.length + 4)) := by
  show _ = Value.ref (g_ad xs b (h.length + 4))
  rw [g_ad4 (by omega), hW.1]
  congr 1
end GW
/-! locals -/
def g_L (g : Nat → Nat) (L : mL) : List (Nat × Value) := (List.range L.length).filterMap fun i => match L[i]? with
  | some (some v) => some (i, g_V g v)
  | _ => none
theorem g_L_mem {g : Nat → Nat} {L : mL} {q : Nat × Value} : q ∈ g_L g L ↔ ∃ v, L[q.1]? = some (some v) ∧ q.2 = g_V g v := by
  obtain ⟨i, w⟩ := q
  unfold g_L
  rw [List.mem_filterMap]
  constructor
  · rintro ⟨a, -, h⟩
    split at h
    · rename_i v hv
      cases h
      exact ⟨v, hv, rfl⟩
    · cases h
  · rintro ⟨v, hv, hw⟩
    refine ⟨i, List.mem_range.mpr (List.getElem?_eq_some_iff.mp hv).1, ?_⟩
    show (match L[i]? with
      | some (some v) => some (i, g_V g v)
      | _ => none) = _
    have hv' : L[i]? = some (some v) := hv
    rw [hv']
    show some (i, g_V g v) = some (i, w)
    rw [show w = g_V g v from hw]
/-- the real locals ls hold what L lists -/
def g_H (g : Nat → Nat) (ls : Array Slot) (L : mL) : Prop := lv_has ls L.length (g_L g L)
theorem g_lget {L : mL} {i : Nat} {v : Value} (h : lget L i = some v) : L[i]? = some (some v) := by
  unfold lget at h
  split at h
  · rename_i w hw
    cases h
    exact hw
  · cases h
theorem g_rd {g : Nat → Nat} {ls : Array Slot} {L : mL} {i : Nat} {v : Value} (h : g_H g ls L) (hi : lget L i = some v) : ls[i]? = some (.val (g_V g v)) := h.2.2 (i, g_V g v) (g_L_mem.mpr ⟨v, g_lget hi, rfl⟩)
theorem lclr_s (L : mL) (i : Nat) : lclr L (i + 1) = (match L[i]? with
    | some (some (.long _)) => L.set i none
    | some (some (.double _)) => L.set i none
    | _ => L) := rfl
theorem lclr_len (L : mL) (i : Nat) : (lclr L i).length = L.length := by
  cases i with
  | zero => rfl
  | succ i =>
    rw [lclr_s]
    split <;> simp
theorem lset1_len (L : mL) (i : Nat) (v : Value) : (lset1 L i v).length = L.length := by simp [lset1, lclr_len]
theorem lset2_len (L : mL) (i : Nat) (v : Value) : (lset2 L i v).length = L.length := by simp [lset2, lclr_len]
theorem lclr_get {L : mL} {i j : Nat} {v : Value} (h : (lclr L i)[j]? = some (some v)) : L[j]? = some (some v) ∧ ¬ (j + 1 = i ∧ v.category = 2) := by
  cases i with
  | zero => exact ⟨h, fun z => by omega⟩
  | succ i =>
    rw [lclr_s] at h
    by_cases hj : j = i
    · subst hj
      split at h
      · rename_i x hx
        rw [List.getElem?_set] at h
        simp at h
      · rename_i x hx
        rw [List.getElem?_set] at h
        simp at h
      · rename_i h1 h2
        refine ⟨h, fun z => ?_⟩
        cases v with
        | long x => exact h1 x h
        | double x => exact h2 x h
        | _ => simp [Value.category] at z
    · have hne : L[j]? = some (some v) := by
        split at h
        · rwa [List.getElem?_set_ne (Ne.symm hj)] at h
        · rwa [List.getElem?_set_ne (Ne.symm hj)] at h
        · exact h
      exact ⟨hne, fun z => hj (by omega)⟩
theorem lset1_get {L : mL} {i j : Nat} {v w : Value} (h : (lset1 L i v)[j]? = some (some w)) : (j = i ∧ w = v) ∨ (j ≠ i ∧ L[j]? = some (some w) ∧ ¬ (j + 1 = i ∧ w.category = 2)) := by
  unfold lset1 at h
  by_cases hj : j = i
  · subst hj
    rw [List.getElem?_set] at h
    simp at h
    exact Or.inl ⟨rfl, h.2.symm⟩
  · rw [List.getElem?_set_ne (Ne.symm hj)] at h
    have := lclr_get h
    exact Or.inr ⟨hj, this.1, this.2⟩
theorem lset2_get {L : mL} {i j : Nat} {v w : Value} (h : (lset2 L i v)[j]? = some (some w)) : (j = i ∧ w = v) ∨ (j ≠ i ∧ j ≠ i + 1 ∧ L[j]? = some (some w) ∧ ¬ (j + 1 = i ∧ w.category = 2)) := by
  unfold lset2 at h
  by_cases hj1 : j = i + 1
  · subst hj1
    rw [List.getElem?_set] at h
    simp at h
  · rw [List.getElem?_set_ne (Ne.symm hj1)] at h
    by_cases hj : j = i
    · subst hj
      rw [List.getElem?_set] at h
      simp at h
      exact Or.inl ⟨rfl, h.2.symm⟩
    · rw [List.getElem?_set_ne (Ne.symm hj)] at h
      have := lclr_get h
      exact Or.inr ⟨hj, hj1, this.1, this.2⟩
theorem g_st1 {g : Nat → Nat} {ls : Array Slot} {L : mL} {i : Nat} {v : Value} (h : lv_has ls L.length ((i, g_V g v) :: (g_L g L).filter (fun q => !(q.1 == i) && !(q.1 + 1 == i && q.2.category == 2)))) : g_H g ls (lset1 L i v) := by
  refine ⟨by rw [lset1_len]; exact h.1, h.2.1, fun q hq => h.2.2 q ?_⟩
  obtain ⟨w, hw, he⟩ := g_L_mem.mp hq
  rcases lset1_get hw with ⟨h1, h2⟩ | ⟨h1, h2, h3⟩
  · obtain ⟨q1, q2⟩ := q
    cases h1; cases h2; cases he
    exact List.mem_cons_self
  · refine List.mem_cons_of_mem _ (List.mem_filter.mpr ⟨g_L_mem.mpr ⟨w, h2, he⟩, ?_⟩)
    rw [he, g_cat]
    simp only [Bool.and_eq_true, Bool.not_eq_true', beq_eq_false_iff_ne, Bool.and_eq_false_iff, ne_eq]
    refine ⟨h1, ?_⟩
    by_cases z : q.1 + 1 = i
    · exact Or.inr (fun y => h3 ⟨z, y⟩)
    · exact Or.inl z
theorem g_st2 {g : Nat → Nat} {ls : Array Slot} {L : mL} {i : Nat} {v : Value} (h : lv_has ls L.length ((i, g_V g v) :: (g_L g L).filter (fun q => !(q.1 == i) && (!(q.1 == i + 1) && !(q.1 + 1 == i && q.2.category == 2))))) : g_H g ls (lset2 L i v) := by
  refine ⟨by rw [lset2_len]; exact h.1, h.2.1, fun q hq => h.2.2 q ?_⟩
  obtain ⟨w, hw, he⟩ := g_L_mem.mp hq
  rcases lset2_get hw with ⟨h1, h2⟩ | ⟨h1, h0, h2, h3⟩
  · obtain ⟨q1, q2⟩ := q
    cases h1; cases h2; cases he
    exact List.mem_cons_self
  · refine List.mem_cons_of_mem _ (List.mem_filter.mpr ⟨g_L_mem.mpr ⟨w, h2, he⟩, ?_⟩)
    rw [he, g_cat]
    simp only [Bool.and_eq_true, Bool.not_eq_true', beq_eq_false_iff_ne, Bool.and_eq_false_iff, ne_eq]
    refine ⟨h1, h0, ?_⟩
    by_cases z : q.1 + 1 = i
    · exact Or.inr (fun y => h3 ⟨z, y⟩)
    · exact Or.inl z
theorem lent1_len (g : Nat → Nat) (vs : List Value) : (lg_sl (vs.map (g_V g))).length = (lent1 vs).length := by
  induction vs with
  | nil => rfl
  | cons v vs ih =>
    have e : lg_sl ((v :: vs).map (g_V g)) = (if (g_V g v).category = 2 then [.val (g_V g v), .second] else [.val (g_V g v)]) ++ lg_sl (vs.map (g_V g)) := rfl
    rw [e, g_cat, lent1]
    by_cases hc : v.category = 2
    · simp [hc, ih]
    · simp [hc, ih]
theorem lent1_get (g : Nat → Nat) : ∀ (vs : List Value) (k i : Nat) (v : Value), (lent1 vs)[i]? = some (some v) → (k + i, g_V g v) ∈ lv_args k (vs.map (g_V g))
  | [], k, i, v, h => by simp [lent1] at h
  | w :: vs, k, i, v, h => by
    rw [List.map_cons, lv_args, g_cat]
    rw [lent1] at h
    by_cases hc : w.category = 2
    · rw [if_pos hc] at h ⊢
      match i, h with
      | 0, h => simp at h; subst h; exact List.mem_cons_self
      | 1, h => simp at h
      | i + 2, h =>
        have h2 : (lent1 vs)[i]? = some (some v) := by simpa using h
        have := lent1_get g vs (k + 2) i v h2
        rw [show k + (i + 2) = k + 2 + i by omega]
        exact List.mem_cons_of_mem _ this
    · rw [if_neg hc] at h ⊢
      match i, h with
      | 0, h => simp at h; subst h; exact List.mem_cons_self
      | i + 1, h =>
        have h2 : (lent1 vs)[i]? = some (some v) := by simpa using h
        have := lent1_get g vs (k + 1) i v h2
        rw [show k + (i + 1) = k + 1 + i by omega]
        exact List.mem_cons_of_mem _ this
theorem lent_len {vs : List Value} {n : Nat} (h : (lent1 vs).length ≤ n) : (lent vs n).length = n := by
  simp [lent]; omega
theorem lent_get {vs : List Value} {n i : Nat} {v : Value} (h : (lent vs n)[i]? = some (some v)) : (lent1 vs)[i]? = some (some v) := by
  unfold lent at h
  by_cases hl : i < (lent1 vs).length
  · rwa [List.getElem?_append_left hl] at h
  · rw [List.getElem?_append_right (by omega)] at h
    have := List.eq_of_mem_replicate (List.mem_of_getElem? h)
    cases this
theorem g_ent {g : Nat → Nat} {vs : List Value} {n : Nat} (h : (lent1 vs).length ≤ n) : g_H g ((lg_sl (vs.map (g_V g)) ++ List.replicate (n - (lg_sl (vs.map (g_V g))).length) Slot.unset).toArray) (lent vs n) := by
  have h1 := lv_entry (vs.map (g_V g)) (n := n) (by rw [lent1_len]; exact h)
  refine ⟨by rw [lent_len h]; exact h1.1, h1.2.1, fun q hq => h1.2.2 q ?_⟩
  obtain ⟨w, hw, he⟩ := g_L_mem.mp hq
  have := lent1_get g vs 0 q.1 w (lent_get hw)
  rw [Nat.zero_add] at this
  rw [show q = (q.1, q.2) from rfl, he]
  exact this
