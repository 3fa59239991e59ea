/-! WORDS: the class's search in the one text of all words -/
def tabW : List Nat := [0, 0, 0, 0, 0, 1, 1, 1, 1, 2, 2, 2, 2, 2, 2, 3, 3, 3, 3, 3, 4, 4, 4, 4, 4, 5, 5, 5, 5, 5, 5, 6, 6, 6, 6, 6, 7, 7, 7, 7, 7, 8, 8, 8, 8, 8, 8, 8, 9, 9, 9, 9, 9, 10, 10, 10, 10, 10, 11, 11, 11, 11, 11, 11, 12, 12, 12, 12, 13, 13, 13, 13, 14, 14, 14, 14, 14, 15, 15, 15, 16, 16, 16, 17, 17, 17, 17, 17, 17, 18, 18, 18, 18, 18, 19]
def tabO : List Nat := [0, 1, 2, 3, 4, 0, 1, 2, 3, 0, 1, 2, 3, 4, 5, 0, 1, 2, 3, 4, 0, 1, 2, 3, 4, 0, 1, 2, 3, 4, 5, 0, 1, 2, 3, 4, 0, 1, 2, 3, 4, 0, 1, 2, 3, 4, 5, 6, 0, 1, 2, 3, 4, 0, 1, 2, 3, 4, 0, 1, 2, 3, 4, 5, 0, 1, 2, 3, 0, 1, 2, 3, 0, 1, 2, 3, 4, 0, 1, 2, 0, 1, 2, 0, 1, 2, 3, 4, 5, 0, 1, 2, 3, 4, 0]
abbrev chr (k : Nat) : Int := (mTxt.getD k 0).toInt
theorem tab_ok : ∀ k : Nat, k < 94 → tabW.getD k 0 < 19 ∧ (chr k = 32 → tabO.getD k 0 = (wd (tabW.getD k 0)).length ∧ tabW.getD (k + 1) 0 = tabW.getD k 0 + 1 ∧ tabO.getD (k + 1) 0 = 0) ∧ (chr k ≠ 32 → tabO.getD k 0 < (wd (tabW.getD k 0)).length ∧ (wd (tabW.getD k 0)).getD (tabO.getD k 0) 0 = chr k ∧ tabW.getD (k + 1) 0 = tabW.getD k 0 ∧ tabO.getD (k + 1) 0 = tabO.getD k 0 + 1 ∧ 97 ≤ chr k ∧ chr k ≤ 122) := by decide +kernel
/-- so far: w words don't fit; of this one what was held against it fits (sm = 1), or not -/
def WI (T : Int → Int) (f e k w i sm : Int) : Prop := w = (tabW.getD k.toNat 0 : Nat) ∧ (∀ q : Nat, q < tabW.getD k.toNat 0 → ¬ Eqw T f e (wd q)) ∧ ((sm = 1 ∧ i = f + (tabO.getD k.toNat 0 : Nat) ∧ ∀ j : Nat, j < tabO.getD k.toNat 0 → T (f + (j : Int)) = (wd (tabW.getD k.toNat 0)).getD j 0) ∨ (sm = 0 ∧ ¬ Eqw T f e (wd (tabW.getD k.toNat 0))))
section WRD
variable {T : Int → Int} {f e k w i i' sm : Int}
theorem WI_0 : WI T f e 0 0 f 1 := ⟨rfl, fun q hq => absurd hq (Nat.not_lt_zero _), Or.inl ⟨rfl, by show f = f + ((0 : Nat) : Int); omega, fun j hj => absurd hj (Nat.not_lt_zero _)⟩⟩
theorem kk (k0 : 0 ≤ k) : (k + 1).toNat = k.toNat + 1 := by omega
theorem WI_ret (h : WI T f e k w i sm) (k0 : 0 ≤ k) (k1 : k < 94) (hc : (mTxt.getD k.toNat 0).toInt = 32) (hs : sm ≠ 0) (hi : i = e) : WS T f e w := by
  obtain ⟨h1, h2, h3⟩ := h
  obtain ⟨t1, t2, -⟩ := tab_ok k.toNat (by omega)
  obtain ⟨t3, t4, t5⟩ := t2 hc
  rcases h3 with ⟨a1, a2, a3⟩ | ⟨a1, -⟩
  · refine Or.inl ⟨tabW.getD k.toNat 0, t1, h1, by rw [← t3]; omega, fun j hj => a3 j (by rw [t3]; exact hj)⟩
  · exact absurd a1 hs
theorem WI_sp (h : WI T f e k w i sm) (k0 : 0 ≤ k) (k1 : k < 94) (hc : (mTxt.getD k.toNat 0).toInt = 32) (hn : sm = 0 ∨ i ≠ e) : WI T f e (k + 1) (w + 1) f 1 := by
  obtain ⟨h1, h2, h3⟩ := h
  obtain ⟨t1, t2, -⟩ := tab_ok k.toNat (by omega)
  obtain ⟨t3, t4, t5⟩ := t2 hc
  have no : ¬ Eqw T f e (wd (tabW.getD k.toNat 0)) := by
    rcases h3 with ⟨a1, a2, a3⟩ | ⟨-, a2⟩
    · intro he
      have := he.1
      rw [← t3] at this
      omega
    · exact a2
  unfold WI
  rw [kk k0, t4, t5]
  refine ⟨by omega, fun q hq => ?_, Or.inl ⟨rfl, by omega, fun j hj => absurd hj (Nat.not_lt_zero _)⟩⟩
  by_cases eq : q = tabW.getD k.toNat 0
  · rw [eq]; exact no
  · exact h2 q (by omega)
theorem WI_let (h : WI T f e k w i sm) (k0 : 0 ≤ k) (k1 : k < 94) (hc : (mTxt.getD k.toNat 0).toInt ≠ 32) (hs : sm ≠ 0) (ht : T i = (mTxt.getD k.toNat 0).toInt) : WI T f e (k + 1) w (i + 1) sm := by
  obtain ⟨h1, h2, h3⟩ := h
  obtain ⟨t1, -, t2⟩ := tab_ok k.toNat (by omega)
  obtain ⟨t3, t4, t5, t6, t7, t8⟩ := t2 hc
  rcases h3 with ⟨a1, a2, a3⟩ | ⟨a1, -⟩
  · unfold WI
    rw [kk k0, t5, t6]
    refine ⟨h1, h2, Or.inl ⟨a1, by omega, fun j hj => ?_⟩⟩
    by_cases ej : j = tabO.getD k.toNat 0
    · rw [ej, t4, ← a2]; exact ht
    · exact a3 j (by omega)
  · exact absurd a1 hs
theorem WI_no (h : WI T f e k w i sm) (k0 : 0 ≤ k) (k1 : k < 94) (hc : (mTxt.getD k.toNat 0).toInt ≠ 32) (hn : sm = 0 ∨ e ≤ i ∨ T i ≠ (mTxt.getD k.toNat 0).toInt ∨ T i < 97 ∨ 122 < T i) : WI T f e (k + 1) w i' 0 := by
  obtain ⟨h1, h2, h3⟩ := h
  obtain ⟨t1, -, t2⟩ := tab_ok k.toNat (by omega)
  obtain ⟨t3, t4, t5, t6, t7, t8⟩ := t2 hc
  unfold WI
  rw [kk k0, t5, t6]
  refine ⟨h1, h2, Or.inr ⟨rfl, ?_⟩⟩
  rcases h3 with ⟨a1, a2, a3⟩ | ⟨-, a2⟩
  · intro he
    obtain ⟨g1, g2⟩ := he
    have g3 := g2 _ t3
    rw [t4, ← a2] at g3
    have g5 : T i = (mTxt.getD k.toNat 0).toInt := g3
    have g6 : 97 ≤ (mTxt.getD k.toNat 0).toInt := t7
    have g7 : (mTxt.getD k.toNat 0).toInt ≤ 122 := t8
    have g4 : (tabO.getD k.toNat 0 : Int) < ((wd (tabW.getD k.toNat 0)).length : Int) := Int.ofNat_lt.mpr t3
    omega
  · exact a2
theorem WI_end (h : WI T f e k w i sm) (k1 : k = 94) : WS T f e 102 := by
  obtain ⟨-, h2, -⟩ := h
  subst k1
  exact Or.inr ⟨rfl, fun q hq => h2 q hq⟩
end WRD
/-! the reference's words: a number to the base 27 -/
def HI (T : Int → Int) (f : Int) : Nat → Int
  | 0 => 0
  | m + 1 => 27 * HI T f m + (T (f + (m : Int)) - 96)
def HJ (T : Int → Int) (f : Int) : Nat → Int64
  | 0 => 0
  | m + 1 => Int64.ofInt 27 * HJ T f m + Int64.ofInt (T (f + (m : Int))) - Int64.ofInt 96
theorem HJ_eq (T : Int → Int) (f : Int) : ∀ m : Nat, HJ T f m = Int64.ofInt (HI T f m)
  | 0 => (by decide : (0 : Int64) = Int64.ofInt 0)
  | m + 1 => by
    show Int64.ofInt 27 * HJ T f m + Int64.ofInt (T (f + (m : Int))) - Int64.ofInt 96 = Int64.ofInt (27 * HI T f m + (T (f + (m : Int)) - 96))
    rw [HJ_eq T f m, show 27 * HI T f m + (T (f + (m : Int)) - 96) = 27 * HI T f m + T (f + (m : Int)) - 96 by omega, Int64.ofInt_sub, Int64.ofInt_add, Int64.ofInt_mul]
theorem HI_bd {T : Int → Int} {f : Int} : ∀ m : Nat, (∀ j : Nat, j < m → 97 ≤ T (f + (j : Int)) ∧ T (f + (j : Int)) ≤ 122) → 0 ≤ HI T f m ∧ HI T f m < (27 ^ m : Nat)
  | 0, _ => by unfold HI; decide
  | m + 1, h => by
    have ih := HI_bd (T := T) (f := f) m (fun j hj => h j (by omega))
    have d := h m (by omega)
    unfold HI
    have e : (27 ^ (m + 1) : Nat) = 27 * 27 ^ m := by rw [Nat.pow_succ, Nat.mul_comm]
    rw [e]
    omega
theorem HI_un {T U : Int → Int} {f g : Int} : ∀ m k : Nat, (∀ j : Nat, j < m → 97 ≤ T (f + (j : Int)) ∧ T (f + (j : Int)) ≤ 122) → (∀ j : Nat, j < k → 97 ≤ U (g + (j : Int)) ∧ U (g + (j : Int)) ≤ 122) → HI T f m = HI U g k → m = k ∧ ∀ j : Nat, j < m → T (f + (j : Int)) = U (g + (j : Int))
  | 0, 0, _, _, _ => ⟨rfl, fun j hj => absurd hj (Nat.not_lt_zero _)⟩
  | 0, k + 1, _, hu, he => by
    have b := (HI_bd (T := U) (f := g) k (fun j hj => hu j (by omega))).1
    have d := hu k (by omega)
    unfold HI at he
    omega
  | m + 1, 0, ht, _, he => by
    have b := (HI_bd (T := T) (f := f) m (fun j hj => ht j (by omega))).1
    have d := ht m (by omega)
    unfold HI at he
    omega
  | m + 1, k + 1, ht, hu, he => by
    have d := ht m (by omega)
    have d' := hu k (by omega)
    unfold HI at he
    have e1 : T (f + (m : Int)) = U (g + (k : Int)) := by omega
    obtain ⟨em, ej⟩ := HI_un m k (fun j hj => ht j (by omega)) (fun j hj => hu j (by omega)) (by omega)
    subst em
    refine ⟨rfl, fun j hj => ?_⟩
    by_cases ejm : j = m
    · rw [ejm]; exact e1
    · exact ej j (by omega)
/-- the words' own numbers, as the reference has them -/
def hcs : List Int64 := [80155, 1065, 12325519, 358472, 355568, 4562587, 311436, 355280, 38567165, 133554, 158692, 12532058, 11570, 14420, 131638, 583, 555, 6476969, 267347]
def lf (l : List Int) (i : Int) : Int := l.getD i.toNat 0
theorem hcs_ok : ∀ k : Nat, k < 19 → (hcs.getD k 0).toInt = HI (lf (wd k)) 0 (wd k).length ∧ (wd k).length ≤ 12 ∧ ∀ j : Nat, j < (wd k).length → 97 ≤ lf (wd k) (0 + (j : Int)) ∧ lf (wd k) (0 + (j : Int)) ≤ 122 := by decide +kernel
theorem hcs_nm : ∀ k : Nat, k < 14 → mNm.getD k 0 = hcs.getD k 0 := by decide +kernel
/-- the number is the word's just if it is the word -/
theorem HJ_word {T : Int → Int} {f e : Int} {k : Nat} (hk : k < 19) (he : f ≤ e) (h12 : e - f ≤ 12) (hl : ∀ j : Int, f ≤ j → j < e → isL (T j)) : HJ T f (e - f).toNat = hcs.getD k 0 ↔ Eqw T f e (wd k) := by
  obtain ⟨c1, c2, c3⟩ := hcs_ok k hk
  have hd : ∀ j : Nat, j < (e - f).toNat → 97 ≤ T (f + (j : Int)) ∧ T (f + (j : Int)) ≤ 122 := fun j hj => hl (f + (j : Int)) (by omega) (by omega)
  have b := HI_bd _ hd
  have p : (27 ^ (e - f).toNat : Nat) ≤ 27 ^ 12 := Nat.pow_le_pow_right (by decide) (by omega)
  have p2 : (27 ^ 12 : Nat) = 150094635296999121 := by decide +kernel
  have tl : (HJ T f (e - f).toNat).toInt = HI T f (e - f).toNat := by
    rw [HJ_eq]
    exact Int64.toInt_ofInt_of_le (by omega) (by omega)
  constructor
  · intro h
    have h1 : HI T f (e - f).toNat = HI (lf (wd k)) 0 (wd k).length := by rw [← tl, h, c1]
    obtain ⟨em, ej⟩ := HI_un _ _ hd c3 h1
    refine ⟨by omega, fun i hi => ?_⟩
    have := ej i (by omega)
    rw [this]
    show (wd k).getD (0 + (i : Int)).toNat 0 = _
    rw [show (0 + (i : Int)).toNat = i by omega]
  · intro h
    obtain ⟨g1, g2⟩ := h
    apply Int64.toInt_inj.mp
    rw [tl, c1, show (e - f).toNat = (wd k).length by omega]
    have : ∀ m : Nat, m ≤ (wd k).length → HI T f m = HI (lf (wd k)) 0 m := by
      intro m
      induction m with
      | zero => intro _; rfl
      | succ m ih =>
        intro hm
        unfold HI
        rw [ih (by omega), g2 m (by omega)]
        show 27 * _ + ((wd k).getD m 0 - 96) = 27 * _ + ((wd k).getD (0 + (m : Int)).toNat 0 - 96)
        rw [show (0 + (m : Int)).toNat = m by omega]
    exact this _ (Nat.le_refl _)
