def Same (Q : Nat) (h h' : List mE) : Prop := ∀ i : Int, aI h' Q i = aI h Q i
def Set1 (Q : Nat) (h h' : List mE) (x b : Int) : Prop := ∀ i : Int, 0 ≤ i → aI h' Q i = if i = x then b else aI h Q i
/-! SHORTEST WAYS: what lies below every way over the roads w (Mt), and the greatest such (Sp): there is one alone -/
def Mt (n : Int) (w g : Int → Int → Int) : Prop := (∀ x : Int, 0 ≤ x → x < n → g x x = 0) ∧ (∀ x y : Int, 0 ≤ x → x < n → 0 ≤ y → y < n → 0 ≤ g x y ∧ g x y ≤ 1000000 ∧ (w x y = 0 ∨ g x y ≤ w x y)) ∧ (∀ x y z : Int, 0 ≤ x → x < n → 0 ≤ y → y < n → 0 ≤ z → z < n → g x z ≤ g x y + g y z)
def Sp (n : Int) (w f : Int → Int → Int) : Prop := Mt n w f ∧ ∀ g : Int → Int → Int, Mt n w g → ∀ x y : Int, 0 ≤ x → x < n → 0 ≤ y → y < n → g x y ≤ f x y
section SHW
variable {n m a b i j k x y z : Int} {w w' f g : Int → Int → Int}
theorem Sp_un (h1 : Sp n w f) (h2 : Sp n w g) (x0 : 0 ≤ x) (x1 : x < n) (y0 : 0 ≤ y) (y1 : y < n) : f x y = g x y := by
  have a1 := h1.2 g h2.1 x y x0 x1 y0 y1
  have a2 := h2.2 f h1.1 x y x0 x1 y0 y1
  omega
theorem Mt_cg (hM : Mt n w g) (hw : ∀ x y : Int, 0 ≤ x → x < n → 0 ≤ y → y < n → w' x y = w x y) : Mt n w' g := ⟨hM.1, fun x y x0 x1 y0 y1 => by
  rw [hw x y x0 x1 y0 y1]; exact hM.2.1 x y x0 x1 y0 y1, hM.2.2⟩
theorem Mt_cf (hM : Mt n w f) (hf : ∀ x y : Int, 0 ≤ x → x < n → 0 ≤ y → y < n → g x y = f x y) : Mt n w g := by
  refine ⟨fun x x0 x1 => ?_, fun x y x0 x1 y0 y1 => ?_, fun x y z x0 x1 y0 y1 z0 z1 => ?_⟩
  · rw [hf x x x0 x1 x0 x1]; exact hM.1 x x0 x1
  · rw [hf x y x0 x1 y0 y1]; exact hM.2.1 x y x0 x1 y0 y1
  · rw [hf x z x0 x1 z0 z1, hf x y x0 x1 y0 y1, hf y z y0 y1 z0 z1]; exact hM.2.2 x y z x0 x1 y0 y1 z0 z1
theorem Sp_cg (hS : Sp n w f) (hw : ∀ x y : Int, 0 ≤ x → x < n → 0 ≤ y → y < n → w' x y = w x y) : Sp n w' f :=
  ⟨Mt_cg hS.1 hw, fun g hg => hS.2 g (Mt_cg hg (fun x y x0 x1 y0 y1 => (hw x y x0 x1 y0 y1).symm))⟩
theorem Sp_cf (hS : Sp n w f) (hf : ∀ x y : Int, 0 ≤ x → x < n → 0 ≤ y → y < n → g x y = f x y) : Sp n w g :=
  ⟨Mt_cf hS.1 hf, fun q hq x y x0 x1 y0 y1 => by rw [hf x y x0 x1 y0 y1]; exact hS.2 q hq x y x0 x1 y0 y1⟩
/-! a way that is no road's is none, or short: each 300 miles reach one town more, or no town more at all -/
def cn (P : Nat → Bool) : Nat → Nat
  | 0 => 0
  | k + 1 => cn P k + (if P k = true then 1 else 0)
theorem cn_le (P : Nat → Bool) : ∀ k : Nat, cn P k ≤ k
  | 0 => Nat.le_refl _
  | k + 1 => by
    have := cn_le P k
    unfold cn
    split <;> omega
theorem cn_mono {P Q : Nat → Bool} : ∀ k : Nat, (∀ b : Nat, b < k → P b = true → Q b = true) → cn P k ≤ cn Q k
  | 0, _ => Nat.le_refl _
  | k + 1, h => by
    have h1 := cn_mono k (fun b hb => h b (by omega))
    have h2 := h k (by omega)
    unfold cn
    by_cases e : P k = true
    · rw [if_pos e, if_pos (h2 e)]; omega
    · rw [if_neg e]; split <;> omega
theorem cn_lt {P Q : Nat → Bool} : ∀ k : Nat, (∀ b : Nat, b < k → P b = true → Q b = true) → (∃ b : Nat, b < k ∧ Q b = true ∧ ¬ P b = true) → cn P k + 1 ≤ cn Q k
  | 0, _, ⟨b, hb, _⟩ => by omega
  | k + 1, h, ⟨b, hb, h1, h2⟩ => by
    by_cases e : b = k
    · subst e
      have h3 := cn_mono b (fun c hc => h c (by omega))
      unfold cn
      rw [if_neg h2, if_pos h1]; omega
    · have h3 := cn_lt k (fun c hc => h c (by omega)) ⟨b, by omega, h1, h2⟩
      have h4 := h k (by omega)
      unfold cn
      by_cases e : P k = true
      · rw [if_pos e, if_pos (h4 e)]; omega
      · rw [if_neg e]; split <;> omega
/-- nothing more is reached by 300 miles more -/
def Stl (n : Int) (f : Int → Int → Int) (x : Int) (r : Nat) : Prop := ∀ b : Int, 0 ≤ b → b < n → f x b ≤ 300 * ((r : Int) + 1) → f x b ≤ 300 * (r : Int)
theorem Stl_far {r : Nat} (hw : ∀ x y : Int, 0 ≤ x → x < n → 0 ≤ y → y < n → w x y ≤ 300) (hS : Sp n w f) (x0 : 0 ≤ x) (x1 : x < n) (hs : Stl n f x r) (y0 : 0 ≤ y) (y1 : y < n) : f x y = 1000000 ∨ f x y ≤ 300 * (r : Int) := by
  by_cases hy : f x y ≤ 300 * (r : Int)
  · exact Or.inr hy
  refine Or.inl ?_
  obtain ⟨⟨d0, d1, d2⟩, hg⟩ := hS
  obtain ⟨g, hgd⟩ : ∃ g : Int → Int → Int, ∀ u v : Int, g u v = if f x u ≤ 300 * (r : Int) ∧ ¬ f x v ≤ 300 * (r : Int) then 1000000 else f u v := ⟨_, fun _ _ => rfl⟩
  have hM : Mt n w g := by
    refine ⟨fun u u0 u1 => ?_, fun u v u0 u1 v0 v1 => ?_, fun u v q u0 u1 v0 v1 q0 q1 => ?_⟩
    · rw [hgd, if_neg (fun z => z.2 z.1)]
      exact d0 u u0 u1
    · rw [hgd]
      have e1 := d1 u v u0 u1 v0 v1
      split
      · rename_i c
        refine ⟨by omega, by omega, ?_⟩
        have t := d2 x u v x0 x1 u0 u1 v0 v1
        have wv := hw u v u0 u1 v0 v1
        have c1 := c.1
        have c2 := c.2
        rcases e1.2.2 with e | e
        · exact Or.inl e
        · exfalso
          have := hs v v0 v1 (by omega)
          exact c2 this
      · exact e1
    · rw [hgd, hgd, hgd]
      have e1 := d1 u v u0 u1 v0 v1
      have e2 := d1 v q v0 v1 q0 q1
      have e3 := d1 u q u0 u1 q0 q1
      have t := d2 u v q u0 u1 v0 v1 q0 q1
      repeat' split
      all_goals omega
  have k := hg g hM x y x0 x1 y0 y1
  have e0 := d0 x x0 x1
  have e1 := d1 x y x0 x1 y0 y1
  rw [hgd, if_pos ⟨by omega, hy⟩] at k
  omega
theorem Sp_bd (hn : n ≤ 12) (hw : ∀ x y : Int, 0 ≤ x → x < n → 0 ≤ y → y < n → w x y ≤ 300) (hS : Sp n w f) (x0 : 0 ≤ x) (x1 : x < n) (y0 : 0 ≤ y) (y1 : y < n) : f x y = 1000000 ∨ f x y ≤ 3600 := by
  have key : ∀ r : Nat, (∃ q : Nat, q < r ∧ Stl n f x q) ∨ r ≤ cn (fun b => decide (f x (b : Int) ≤ 300 * (r : Int))) n.toNat := by
    intro r
    induction r with
    | zero => exact Or.inr (Nat.zero_le _)
    | succ r ih =>
      rcases ih with ⟨q, h1, h2⟩ | ih
      · exact Or.inl ⟨q, by omega, h2⟩
      · by_cases hs : Stl n f x r
        · exact Or.inl ⟨r, by omega, hs⟩
        · refine Or.inr ?_
          have hx : ∃ b : Nat, b < n.toNat ∧ (f x (b : Int) ≤ 300 * ((r : Int) + 1) ∧ ¬ f x (b : Int) ≤ 300 * (r : Int)) := by
            refine Classical.byContradiction (fun no => hs (fun b b0 b1 hb => Classical.byContradiction (fun hb2 => no ⟨b.toNat, by omega, ?_⟩)))
            rw [show ((b.toNat : Nat) : Int) = b by omega]
            exact ⟨hb, hb2⟩
          obtain ⟨b, b1, b2, b3⟩ := hx
          have := cn_lt (P := fun b => decide (f x (b : Int) ≤ 300 * (r : Int))) (Q := fun b => decide (f x (b : Int) ≤ 300 * ((r + 1 : Nat) : Int))) n.toNat (fun c _ hc => by
            have := of_decide_eq_true hc
            exact decide_eq_true (by omega)) ⟨b, b1, decide_eq_true (by omega), fun hc => b3 (of_decide_eq_true hc)⟩
          omega
  rcases key 13 with ⟨q, q1, q2⟩ | k
  · rcases Stl_far hw hS x0 x1 q2 y0 y1 with e | e
    · exact Or.inl e
    · exact Or.inr (by omega)
  · have := cn_le (fun b => decide (f x (b : Int) ≤ 300 * ((13 : Nat) : Int))) n.toNat
    omega
/-! a road more -/
def Dn (f : Int → Int → Int) (a b m x y : Int) : Int := if f x y ≤ f x a + m + f b y then (if f x y ≤ f x b + m + f a y then f x y else f x b + m + f a y) else if f x a + m + f b y ≤ f x b + m + f a y then f x a + m + f b y else f x b + m + f a y
theorem Dn_c : Dn f a b m x y ≤ f x y ∧ Dn f a b m x y ≤ f x a + m + f b y ∧ Dn f a b m x y ≤ f x b + m + f a y ∧ (Dn f a b m x y = f x y ∨ Dn f a b m x y = f x a + m + f b y ∨ Dn f a b m x y = f x b + m + f a y) := by
  unfold Dn
  repeat' split
  all_goals omega
theorem Dn_tri (hM : Mt n w f) (hm : 0 ≤ m) (a0 : 0 ≤ a) (a1 : a < n) (b0 : 0 ≤ b) (b1 : b < n) (x0 : 0 ≤ x) (x1 : x < n) (y0 : 0 ≤ y) (y1 : y < n) (z0 : 0 ≤ z) (z1 : z < n) : Dn f a b m x z ≤ Dn f a b m x y + Dn f a b m y z := by
  obtain ⟨d0, d1, d2⟩ := hM
  obtain ⟨p1, p2, p3, -⟩ := Dn_c (f := f) (a := a) (b := b) (m := m) (x := x) (y := z)
  obtain ⟨-, -, -, q⟩ := Dn_c (f := f) (a := a) (b := b) (m := m) (x := x) (y := y)
  obtain ⟨-, -, -, r⟩ := Dn_c (f := f) (a := a) (b := b) (m := m) (x := y) (y := z)
  have t1 := d2 x y z x0 x1 y0 y1 z0 z1
  have t2 := d2 x y a x0 x1 y0 y1 a0 a1
  have t3 := d2 b y z b0 b1 y0 y1 z0 z1
  have t4 := d2 x y b x0 x1 y0 y1 b0 b1
  have t5 := d2 a y z a0 a1 y0 y1 z0 z1
  have t6 := d2 x a z x0 x1 a0 a1 z0 z1
  have t7 := d2 x b z x0 x1 b0 b1 z0 z1
  have n1 := (d1 b y b0 b1 y0 y1).1
  have n2 := (d1 y a y0 y1 a0 a1).1
  have n3 := (d1 a y a0 a1 y0 y1).1
  have n4 := (d1 y b y0 y1 b0 b1).1
  rcases q with q | q | q <;> rcases r with r | r | r <;> omega
theorem Sp_lay (hS : Sp n w f) (a0 : 0 ≤ a) (a1 : a < n) (b0 : 0 ≤ b) (b1 : b < n) (hm : 1 ≤ m ∧ m ≤ 300) (hlt : w a b = 0 ∨ m < w a b) (hlt2 : w b a = 0 ∨ m < w b a) (hw : ∀ x y : Int, 0 ≤ x → x < n → 0 ≤ y → y < n → w' x y = if (x = a ∧ y = b) ∨ (x = b ∧ y = a) then m else w x y) : Sp n w' (Dn f a b m) := by
  obtain ⟨hM, hg⟩ := hS
  have hM2 := hM
  obtain ⟨d0, d1, d2⟩ := hM2
  refine ⟨⟨fun x x0 x1 => ?_, fun x y x0 x1 y0 y1 => ?_, fun x y z x0 x1 y0 y1 z0 z1 => Dn_tri hM (by omega) a0 a1 b0 b1 x0 x1 y0 y1 z0 z1⟩, fun g hG x y x0 x1 y0 y1 => ?_⟩
  · obtain ⟨p1, -, -, q⟩ := Dn_c (f := f) (a := a) (b := b) (m := m) (x := x) (y := x)
    have e := d0 x x0 x1
    have n1 := (d1 x a x0 x1 a0 a1).1
    have n2 := (d1 b x b0 b1 x0 x1).1
    have n3 := (d1 x b x0 x1 b0 b1).1
    have n4 := (d1 a x a0 a1 x0 x1).1
    omega
  · obtain ⟨p1, p2, p3, q⟩ := Dn_c (f := f) (a := a) (b := b) (m := m) (x := x) (y := y)
    have e := d1 x y x0 x1 y0 y1
    have n1 := (d1 x a x0 x1 a0 a1).1
    have n2 := (d1 b y b0 b1 y0 y1).1
    have n3 := (d1 x b x0 x1 b0 b1).1
    have n4 := (d1 a y a0 a1 y0 y1).1
    refine ⟨by omega, by omega, ?_⟩
    rw [hw x y x0 x1 y0 y1]
    have za := d0 a a0 a1
    have zb := d0 b b0 b1
    split
    · rename_i c
      rcases c with ⟨rfl, rfl⟩ | ⟨rfl, rfl⟩
      · exact Or.inr (by omega)
      · exact Or.inr (by omega)
    · rcases e.2.2 with e2 | e2
      · exact Or.inl e2
      · exact Or.inr (by omega)
  · have hG2 : Mt n w g := ⟨hG.1, fun u v u0 u1 v0 v1 => by
      have e := hG.2.1 u v u0 u1 v0 v1
      rw [hw u v u0 u1 v0 v1] at e
      refine ⟨e.1, e.2.1, ?_⟩
      have e3 := e.2.2
      split at e3
      · rename_i c
        rcases c with ⟨rfl, rfl⟩ | ⟨rfl, rfl⟩
        · omega
        · omega
      · exact e3, hG.2.2⟩
    have k := hg g hG2
    obtain ⟨-, g1, g2⟩ := hG
    have eab : g a b ≤ m := by
      have e := (g1 a b a0 a1 b0 b1).2.2
      rw [hw a b a0 a1 b0 b1, if_pos (Or.inl ⟨rfl, rfl⟩)] at e
      omega
    have eba : g b a ≤ m := by
      have e := (g1 b a b0 b1 a0 a1).2.2
      rw [hw b a b0 b1 a0 a1, if_pos (Or.inr ⟨rfl, rfl⟩)] at e
      omega
    have k1 := k x y x0 x1 y0 y1
    have k2 := k x a x0 x1 a0 a1
    have k3 := k b y b0 b1 y0 y1
    have k4 := k x b x0 x1 b0 b1
    have k5 := k a y a0 a1 y0 y1
    have t1 := g2 x a y x0 x1 a0 a1 y0 y1
    have t2 := g2 a b y a0 a1 b0 b1 y0 y1
    have t3 := g2 x b y x0 x1 b0 b1 y0 y1
    have t4 := g2 b a y b0 b1 a0 a1 y0 y1
    obtain ⟨-, -, -, q⟩ := Dn_c (f := f) (a := a) (b := b) (m := m) (x := x) (y := y)
    omega
/-! a town more -/
theorem Sp_town (hS : Sp n w f) (hn : 0 ≤ n) (hw : ∀ x y : Int, 0 ≤ x → x < n → 0 ≤ y → y < n → w' x y = w x y) (hz : ∀ x : Int, 0 ≤ x → x ≤ n → w' x n = 0 ∧ w' n x = 0) (hf : ∀ x y : Int, 0 ≤ x → x < n → 0 ≤ y → y < n → g x y = f x y) (hq : ∀ x : Int, 0 ≤ x → x < n → g x n = 1000000 ∧ g n x = 1000000) (h0 : g n n = 0) : Sp (n + 1) w' g := by
  obtain ⟨⟨d0, d1, d2⟩, hg⟩ := hS
  have c1 : ∀ x y : Int, 0 ≤ x → x < n + 1 → 0 ≤ y → y < n + 1 → 0 ≤ g x y ∧ g x y ≤ 1000000 ∧ (w' x y = 0 ∨ g x y ≤ w' x y) := fun x y x0 x1 y0 y1 => by
    by_cases ex : x = n
    · subst ex
      have z := (hz y y0 (by omega)).2
      by_cases ey : y = x
      · subst ey
        exact ⟨by omega, by omega, Or.inl z⟩
      · have := (hq y y0 (by omega)).2
        exact ⟨by omega, by omega, Or.inl z⟩
    · by_cases ey : y = n
      · subst ey
        have z := (hz x x0 (by omega)).1
        have := (hq x x0 (by omega)).1
        exact ⟨by omega, by omega, Or.inl z⟩
      · rw [hf x y x0 (by omega) y0 (by omega), hw x y x0 (by omega) y0 (by omega)]
        exact d1 x y x0 (by omega) y0 (by omega)
  refine ⟨⟨fun x x0 x1 => ?_, c1, fun x y z x0 x1 y0 y1 z0 z1 => ?_⟩, fun q hQ x y x0 x1 y0 y1 => ?_⟩
  · by_cases ex : x = n
    · rw [ex]; exact h0
    · rw [hf x x x0 (by omega) x0 (by omega)]; exact d0 x x0 (by omega)
  · have p1 := c1 x y x0 x1 y0 y1
    have p2 := c1 y z y0 y1 z0 z1
    have p3 := c1 x z x0 x1 z0 z1
    by_cases ex : x = n
    · subst ex
      by_cases ez : z = x
      · subst ez
        omega
      · by_cases ey : y = x
        · subst ey
          omega
        · have := (hq y y0 (by omega)).2
          omega
    · by_cases ez : z = n
      · subst ez
        by_cases ey : y = z
        · subst ey
          omega
        · have := (hq y y0 (by omega)).1
          omega
      · by_cases ey : y = n
        · subst ey
          have := (hq x x0 (by omega)).1
          omega
        · rw [hf x z x0 (by omega) z0 (by omega), hf x y x0 (by omega) y0 (by omega), hf y z y0 (by omega) z0 (by omega)]
          exact d2 x y z x0 (by omega) y0 (by omega) z0 (by omega)
  · have e := hQ.2.1 x y x0 x1 y0 y1
    by_cases ex : x = n
    · subst ex
      by_cases ey : y = x
      · subst ey
        have := hQ.1 y x0 x1
        omega
      · have := (hq y y0 (by omega)).2
        omega
    · by_cases ey : y = n
      · subst ey
        have := (hq x x0 (by omega)).1
        omega
      · rw [hf x y x0 (by omega) y0 (by omega)]
        refine hg q ⟨fun u u0 u1 => hQ.1 u u0 (by omega), fun u v u0 u1 v0 v1 => ?_, fun u v r u0 u1 v0 v1 r0 r1 => hQ.2.2 u v r u0 (by omega) v0 (by omega) r0 (by omega)⟩ x y x0 (by omega) y0 (by omega)
        have := hQ.2.1 u v u0 (by omega) v0 (by omega)
        rw [hw u v u0 u1 v0 v1] at this
        exact this
/-! all at once: three loops -/
def Ini (w : Int → Int → Int) (x y : Int) : Int := if x = y then 0 else if w x y = 0 then 1000000 else w x y
def FW (n : Int) (w : Int → Int → Int) (k : Int) (f : Int → Int → Int) : Prop := (∀ x : Int, 0 ≤ x → x < n → f x x = 0) ∧ (∀ x y : Int, 0 ≤ x → x < n → 0 ≤ y → y < n → 0 ≤ f x y ∧ f x y ≤ 1000000 ∧ (w x y = 0 ∨ f x y ≤ w x y)) ∧ (∀ j x y : Int, 0 ≤ j → j < k → j < n → 0 ≤ x → x < n → 0 ≤ y → y < n → f x y ≤ f x j + f j y) ∧ (∀ g : Int → Int → Int, Mt n w g → ∀ x y : Int, 0 ≤ x → x < n → 0 ≤ y → y < n → g x y ≤ f x y)
theorem FW_0 (hw : ∀ x y : Int, 0 ≤ x → x < n → 0 ≤ y → y < n → 0 ≤ w x y ∧ w x y ≤ 300) (hf : ∀ x y : Int, 0 ≤ x → x < n → 0 ≤ y → y < n → f x y = Ini w x y) : FW n w 0 f := by
  refine ⟨fun x x0 x1 => ?_, fun x y x0 x1 y0 y1 => ?_, fun j x y j0 j1 => by omega, fun g hg x y x0 x1 y0 y1 => ?_⟩
  · rw [hf x x x0 x1 x0 x1]; unfold Ini; rw [if_pos rfl]
  · rw [hf x y x0 x1 y0 y1]
    have := hw x y x0 x1 y0 y1
    unfold Ini
    repeat' split
    all_goals omega
  · rw [hf x y x0 x1 y0 y1]
    have e := hg.2.1 x y x0 x1 y0 y1
    unfold Ini
    split
    · rename_i c
      rw [c]
      rw [hg.1 y y0 y1]
      exact Int.le_refl _
    · split <;> omega
theorem FW_end (hF : FW n w k f) (hk : n ≤ k) : Sp n w f := ⟨⟨hF.1, hF.2.1, fun x y z x0 x1 y0 y1 z0 z1 => hF.2.2.1 y x z y0 (by omega) y1 x0 x1 z0 z1⟩, hF.2.2.2⟩
def FS (n : Int) (w : Int → Int → Int) (k a b : Int) (f' : Int → Int → Int) : Prop := ∃ f : Int → Int → Int, FW n w k f ∧ ∀ x y : Int, 0 ≤ x → x < n → 0 ≤ y → y < n → f' x y = if x < a ∨ (x = a ∧ y < b) then (if f x k + f k y < f x y then f x k + f k y else f x y) else f x y
theorem FS_0 (hF : FW n w k f) : FS n w k 0 0 f := ⟨f, hF, fun x y x0 x1 y0 y1 => by rw [if_neg (by omega)]⟩
theorem FS_row {f' : Int → Int → Int} (hF : FS n w k a b f') (hb : n ≤ b) : FS n w k (a + 1) 0 f' := by
  obtain ⟨f, h1, h2⟩ := hF
  refine ⟨f, h1, fun x y x0 x1 y0 y1 => ?_⟩
  rw [h2 x y x0 x1 y0 y1]
  by_cases c : x < a ∨ (x = a ∧ y < b)
  · rw [if_pos c, if_pos (show x < a + 1 ∨ (x = a + 1 ∧ y < 0) by omega)]
  · rw [if_neg c, if_neg (show ¬ (x < a + 1 ∨ (x = a + 1 ∧ y < 0)) by omega)]
theorem FS_step {f' g' : Int → Int → Int} (hF : FS n w k a b f') (k0 : 0 ≤ k) (k1 : k < n) (a0 : 0 ≤ a) (a1 : a < n) (b0 : 0 ≤ b) (b1 : b < n) (hs : ∀ x y : Int, 0 ≤ x → x < n → 0 ≤ y → y < n → ¬ (x = a ∧ y = b) → g' x y = f' x y) (he : g' a b = if f' a k + f' k b < f' a b then f' a k + f' k b else f' a b) : FS n w k a (b + 1) g' := by
  obtain ⟨f, h1, h2⟩ := hF
  refine ⟨f, h1, fun x y x0 x1 y0 y1 => ?_⟩
  have z := h1.1 k k0 k1
  by_cases c : x = a ∧ y = b
  · obtain ⟨rfl, rfl⟩ := c
    rw [he, if_pos (show x < x ∨ (x = x ∧ y < y + 1) by omega)]
    have e1 : f' x y = f x y := by rw [h2 x y x0 x1 y0 y1, if_neg (by omega)]
    have e2 : f' x k = f x k := by
      rw [h2 x k x0 x1 k0 k1]
      repeat' split
      all_goals omega
    have e3 : f' k y = f k y := by
      rw [h2 k y k0 k1 y0 y1]
      repeat' split
      all_goals omega
    rw [e1, e2, e3]
  · rw [hs x y x0 x1 y0 y1 c, h2 x y x0 x1 y0 y1]
    by_cases c2 : x < a ∨ (x = a ∧ y < b)
    · rw [if_pos c2, if_pos (show x < a ∨ (x = a ∧ y < b + 1) by omega)]
    · rw [if_neg c2, if_neg (show ¬ (x < a ∨ (x = a ∧ y < b + 1)) by omega)]
theorem FS_end {f' : Int → Int → Int} (hF : FS n w k a b f') (k0 : 0 ≤ k) (k1 : k < n) (ha : n ≤ a) : FW n w (k + 1) f' := by
  obtain ⟨f, ⟨d0, d1, d2, dg⟩, h2⟩ := hF
  have h3 : ∀ x y : Int, 0 ≤ x → x < n → 0 ≤ y → y < n → f' x y = if f x k + f k y < f x y then f x k + f k y else f x y := fun x y x0 x1 y0 y1 => by
    rw [h2 x y x0 x1 y0 y1, if_pos (by omega)]
  refine ⟨fun x x0 x1 => ?_, fun x y x0 x1 y0 y1 => ?_, fun j x y j0 j1 j2 x0 x1 y0 y1 => ?_, fun g hg x y x0 x1 y0 y1 => ?_⟩
  · rw [h3 x x x0 x1 x0 x1]
    have e := d0 x x0 x1
    have n1 := (d1 x k x0 x1 k0 k1).1
    have n2 := (d1 k x k0 k1 x0 x1).1
    split <;> omega
  · rw [h3 x y x0 x1 y0 y1]
    have e := d1 x y x0 x1 y0 y1
    have n1 := (d1 x k x0 x1 k0 k1).1
    have n2 := (d1 k y k0 k1 y0 y1).1
    split <;> omega
  · rw [h3 x y x0 x1 y0 y1, h3 x j x0 x1 j0 j2, h3 j y j0 j2 y0 y1]
    have z := d0 k k0 k1
    have n1 := (d1 j k j0 j2 k0 k1).1
    have n2 := (d1 k j k0 k1 j0 j2).1
    by_cases e : j = k
    · subst e
      have n3 := (d1 x j x0 x1 j0 j2).1
      have n4 := (d1 j y j0 j2 y0 y1).1
      repeat' split
      all_goals omega
    · have t1 := d2 j x y j0 (by omega) j2 x0 x1 y0 y1
      have t2 := d2 j x k j0 (by omega) j2 x0 x1 k0 k1
      have t3 := d2 j k y j0 (by omega) j2 k0 k1 y0 y1
      repeat' split
      all_goals omega
  · rw [h3 x y x0 x1 y0 y1]
    have e1 := dg g hg x y x0 x1 y0 y1
    have e2 := dg g hg x k x0 x1 k0 k1
    have e3 := dg g hg k y k0 k1 y0 y1
    have t := hg.2.2 x k y x0 x1 k0 k1 y0 y1
    split <;> omega
end SHW
/-! in the cells: the class's least ways, the reference's, the roads -/
def cf (h : List mE) (x y : Int) : Int := if aI h (22 + x.toNat) y < 0 then 1000000 else aI h (22 + x.toNat) y
def rf (h : List mE) (x y : Int) : Int := aI h 67 (12 * x + y)
def wf (h : List mE) (x y : Int) : Int := aI h 66 (12 * x + y)
def RW (h : List mE) : Prop := ∀ x : Int, 0 ≤ x → x < 12 → aR h 21 x = some (22 + x.toNat)
def ID (h : List mE) : Prop := RW h ∧ Sp (fI h 6 3) (wf h) (cf h) ∧ Sp (fI h 64 2) (wf h) (rf h) ∧ (∀ x y : Int, 0 ≤ x → x < 12 → 0 ≤ y → y < 12 → fI h 6 3 ≤ x ∨ fI h 6 3 ≤ y → wf h x y = 0) ∧ (∀ x : Int, 0 ≤ x → x < 12 → aI h (22 + x.toNat) x = 0) ∧ (∀ x y : Int, 0 ≤ x → x < 12 → 0 ≤ y → y < 12 → aI h (22 + x.toNat) y < 1000000)
/-- a town founded: so far as i -/
def FOi (h hc : List mE) (i : Int) : Prop := RW hc ∧ ∀ x y : Int, 0 ≤ x → x < 12 → 0 ≤ y → y < 12 → aI hc (22 + x.toNat) y = if (y = fI h 6 3 ∧ x < i) ∨ (x = fI h 6 3 ∧ y < i) then -1 else aI h (22 + x.toNat) y
/-- a road laid: so far as i, j -/
def LIv (h hc : List mE) (a b m i j : Int) : Prop := RW hc ∧ (∀ x y : Int, 0 ≤ x → x < fI h 6 3 → 0 ≤ y → y < fI h 6 3 → cf hc x y = if x < i ∨ (x = i ∧ y < j) then Dn (cf h) a b m x y else cf h x y) ∧ (∀ x y : Int, 0 ≤ x → x < 12 → 0 ≤ y → y < 12 → fI h 6 3 ≤ x ∨ fI h 6 3 ≤ y → aI hc (22 + x.toNat) y = aI h (22 + x.toNat) y) ∧ (∀ x y : Int, 0 ≤ x → x < 12 → 0 ≤ y → y < 12 → aI hc (22 + x.toNat) y < 1000000)
def PSh (h h' : List mE) (i j s1 m s2 : Int) : Prop := (h' = h ∧ (s1 < 0 ∨ s2 < 0 ∨ i < 0 ∨ fI h 6 3 ≤ i ∨ j < 0 ∨ fI h 6 3 ≤ j)) ∨ (∃ r : Nat, aR h 21 i = some r ∧ 0 ≤ s1 ∧ 0 ≤ s2 ∧ ((0 ≤ aI h r j ∧ aI h r j ≤ s1 + m + s2 ∧ h' = h) ∨ ((aI h r j < 0 ∨ s1 + m + s2 < aI h r j) ∧ ∃ x : Int, x = s1 + m + s2 ∧ AUp h r j x h')))
def IN (h hc : List mE) (a b : Int) : Prop := ∀ x y : Int, 0 ≤ x → x < fI h 64 2 → 0 ≤ y → y < fI h 64 2 → x < a ∨ (x = a ∧ y < b) → rf hc x y = Ini (wf h) x y
def PTnC (h h' : List mE) : Prop := (fI h' 6 3 = fI h 6 3 ∧ RW h' ∧ ∀ x y : Int, 0 ≤ x → x < 12 → aI h' (22 + x.toNat) y = aI h (22 + x.toNat) y) ∨ (fI h' 6 3 = fI h 6 3 + 1 ∧ fI h 6 3 ≤ 11 ∧ FOi h h' (fI h 6 3))
def PTnR (h h' : List mE) : Prop := (fI h' 64 2 = fI h 64 2 ∧ Same 67 h h') ∨ Sp (fI h' 64 2) (wf h') (rf h')
def PWay (h : List mE) (a b z : Int) : Prop := ((a < 0 ∨ fI h 6 3 ≤ a ∨ b < 0 ∨ fI h 6 3 ≤ b) ∧ z = -1) ∨ (0 ≤ a ∧ a < fI h 6 3 ∧ 0 ≤ b ∧ b < fI h 6 3 ∧ ∃ r : Nat, aR h 21 a = some r ∧ z = aI h r b)
def PFarC (h : List mE) (a b z : Int) : Prop := ((a < 0 ∨ fI h 6 3 ≤ a ∨ b < 0 ∨ fI h 6 3 ≤ b) ∧ z = -1) ∨ (0 ≤ a ∧ a < fI h 6 3 ∧ 0 ≤ b ∧ b < fI h 6 3 ∧ ∃ x : Int, PWay h a b x ∧ ((x < 0 ∧ z = -2) ∨ (0 ≤ x ∧ z = x)))
def PFarR (h : List mE) (a b z : Int) : Prop := ((a < 0 ∨ fI h 64 2 ≤ a ∨ b < 0 ∨ fI h 64 2 ≤ b) ∧ z = -1) ∨ (0 ≤ a ∧ a < fI h 64 2 ∧ 0 ≤ b ∧ b < fI h 64 2 ∧ ((1000000 ≤ aI h 67 (12 * a + b) ∧ z = -2) ∨ (aI h 67 (12 * a + b) < 1000000 ∧ z = aI h 67 (12 * a + b))))
section FAH
variable {τ σ : List Nat} {h h' hc h0 h1 h2 : List mE} {W W1 W2 : List (Nat × Nat)} {E E1 E2 : EP} {q r t ra rb : Nat} {n m a b i j k x y z v s1 s2 z1 z2 : Int} {w : Int → Int → Int}
theorem lst_ty (hT : TH E τ h) {a : Int} (a0 : 0 ≤ a) (a1 : a < 12) : ty τ (22 + a.toNat) 123 := by
  obtain ⟨n, hn⟩ : ∃ n : Nat, n = a.toNat := ⟨_, rfl⟩
  rw [← hn]
  have hn2 : n < 12 := by omega
  match n, hn2 with
  | 0, _ => exact tf hT rfl rfl
  | 1, _ => exact tf hT rfl rfl
  | 2, _ => exact tf hT rfl rfl
  | 3, _ => exact tf hT rfl rfl
  | 4, _ => exact tf hT rfl rfl
  | 5, _ => exact tf hT rfl rfl
  | 6, _ => exact tf hT rfl rfl
  | 7, _ => exact tf hT rfl rfl
  | 8, _ => exact tf hT rfl rfl
  | 9, _ => exact tf hT rfl rfl
  | 10, _ => exact tf hT rfl rfl
  | 11, _ => exact tf hT rfl rfl
  | n + 12, hn => omega
theorem n_le (hT : TH E τ h) : 0 ≤ fI h 6 3 ∧ fI h 6 3 ≤ 12 := fI_bd hT (tf (q := 6) (t := 2) hT rfl rfl) fd_2_3
theorem n_le2 (hT : TH E τ h) : 0 ≤ fI h 64 2 ∧ fI h 64 2 ≤ 12 := fI_bd hT (tf (q := 64) (t := 8) hT rfl rfl) fd_8_2
theorem w_bd (hT : TH E τ h) (x y : Int) : 0 ≤ wf h x y ∧ wf h x y ≤ 300 := aI_bd hT (tf (q := 66) (t := 44) hT rfl rfl) ay_44 _
theorem ID_fr (hI : ID h) (hT : TH E τ h) (hF : Fr τ W h h') (hw : avd W [(2, 3), (8, 2), (22, 0), (123, 0), (44, 0), (45, 0)] = true) : ID h' := by
  have e1 := Fr_fI hF (tf (q := 6) (t := 2) hT rfl rfl) (b := 3) (avd_of hw (by decide))
  have e2 := Fr_fI hF (tf (q := 64) (t := 8) hT rfl rfl) (b := 2) (avd_of hw (by decide))
  have e3 : ∀ x : Int, aR h' 21 x = aR h 21 x := fun x => Fr_aR hF (tf (q := 21) (t := 22) hT rfl rfl) (avd_of hw (by decide)) x
  have e4 : ∀ x y : Int, 0 ≤ x → x < 12 → aI h' (22 + x.toNat) y = aI h (22 + x.toNat) y := fun x y x0 x1 => Fr_aI hF (lst_ty hT x0 x1) (avd_of hw (by decide)) y
  have e5 : ∀ x y : Int, wf h' x y = wf h x y := fun x y => Fr_aI hF (tf (q := 66) (t := 44) hT rfl rfl) (avd_of hw (by decide)) _
  have e6 : ∀ x y : Int, rf h' x y = rf h x y := fun x y => Fr_aI hF (tf (q := 67) (t := 45) hT rfl rfl) (avd_of hw (by decide)) _
  have hn := n_le hT
  obtain ⟨a1, a2, a3, a4, a5, a6⟩ := hI
  refine ⟨fun x x0 x1 => by rw [e3]; exact a1 x x0 x1, ?_, ?_, fun x y x0 x1 y0 y1 hh => by rw [e5]; rw [e1] at hh; exact a4 x y x0 x1 y0 y1 hh, fun x x0 x1 => by rw [e4 x x x0 x1]; exact a5 x x0 x1, fun x y x0 x1 y0 y1 => by rw [e4 x y x0 x1]; exact a6 x y x0 x1 y0 y1⟩
  · rw [e1]
    exact Sp_cf (Sp_cg a2 (fun x y _ _ _ _ => e5 x y)) (fun x y x0 x1 y0 y1 => by unfold cf; rw [e4 x y x0 (by omega)])
  · rw [e2]
    exact Sp_cf (Sp_cg a3 (fun x y _ _ _ _ => e5 x y)) (fun x y _ _ _ _ => e6 x y)
/-! founding -/
theorem FOi_0 (hR : RW h) (hu : AUp h 7 x y hc) : FOi h hc 0 := ⟨fun x x0 x1 => by rw [AUp_aR hu]; exact hR x x0 x1, fun x y x0 x1 y0 y1 => by
  rw [AUp_aIne (q' := 22 + x.toNat) hu (by omega), if_neg (by omega)]⟩
theorem FOi_step (hF : FOi h hc i) (hn : 0 ≤ fI h 6 3 ∧ fI h 6 3 < 12) (i0 : 0 ≤ i) (i1 : i < fI h 6 3) (er : aR hc 21 i = some ra) (hx : x = fI h 6 3) (hu : AUp hc ra x (-1) h1) (er2 : aR h1 21 y = some rb) (hy : y = fI h 6 3) (hv : AUp h1 rb i (-1) h2) : FOi h h2 (i + 1) := by
  obtain ⟨hR, hA⟩ := hF
  have ea : ra = 22 + i.toNat := by
    cases (hR i i0 (by omega)).symm.trans er
    rfl
  have eb : rb = 22 + y.toNat := by
    rw [AUp_aR hu] at er2
    cases (hR y (by omega) (by omega)).symm.trans er2
    rfl
  subst ea
  subst eb
  refine ⟨fun u u0 u1 => by rw [AUp_aR hv, AUp_aR hu]; exact hR u u0 u1, fun u v u0 u1 v0 v1 => ?_⟩
  have k := hA u v u0 u1 v0 v1
  have s1 : aI h1 (22 + u.toNat) v = if u = i ∧ v = x then -1 else aI hc (22 + u.toNat) v := by
    by_cases e : u = i
    · subst e
      rw [AUp_aI hu (by omega) (by omega) (by omega) v0]
      repeat' split
      all_goals omega
    · rw [AUp_aIne (q' := 22 + u.toNat) hu (by omega), if_neg (fun z => e z.1)]
  have s2 : aI h2 (22 + u.toNat) v = if u = y ∧ v = i then -1 else aI h1 (22 + u.toNat) v := by
    by_cases e : u = y
    · subst e
      rw [AUp_aI hv (by omega) (by omega) i0 v0]
      repeat' split
      all_goals omega
    · rw [AUp_aIne (q' := 22 + u.toNat) hv (by omega), if_neg (fun z => e z.1)]
  rw [s2, s1, k]
  repeat' split
  all_goals omega
theorem FOi_F {c : Nat} {vv : Value} (hF : FOi h hc i) (hu : FUp hc 6 c vv h1) : FOi h h1 i := ⟨fun x x0 x1 => by rw [FUp_aR hu]; exact hF.1 x x0 x1, fun x y x0 x1 y0 y1 => by rw [FUp_aI hu]; exact hF.2 x y x0 x1 y0 y1⟩
/-! laying -/
theorem LIv_0 (hT : TH E τ h) (hI : ID h) (ta : ty τ ra 122) (tb : ty τ rb 122) {u v : Int} (hu : AUp h ra u x h1) (hv : AUp h1 rb v y h2) : LIv h h2 a b m 0 0 := by
  obtain ⟨a1, a2, a3, a4, a5, a6⟩ := hI
  have e4 : ∀ x y : Int, 0 ≤ x → x < 12 → aI h2 (22 + x.toNat) y = aI h (22 + x.toNat) y := fun x y x0 x1 => by
    have k1 : 22 + x.toNat ≠ ra := fun e => by
      have := lst_ty hT x0 x1
      rw [e] at this
      exact absurd (ty_1 this ta) (by decide)
    have k2 : 22 + x.toNat ≠ rb := fun e => by
      have := lst_ty hT x0 x1
      rw [e] at this
      exact absurd (ty_1 this tb) (by decide)
    rw [AUp_aIne hv k2, AUp_aIne hu k1]
  have hn := n_le hT
  refine ⟨fun x x0 x1 => by rw [AUp_aR hv, AUp_aR hu]; exact a1 x x0 x1, fun x y x0 x1 y0 y1 => ?_, fun x y x0 x1 _ _ _ => e4 x y x0 x1, fun x y x0 x1 y0 y1 => by rw [e4 x y x0 x1]; exact a6 x y x0 x1 y0 y1⟩
  rw [if_neg (by omega)]
  unfold cf
  rw [e4 x y x0 (by omega)]
theorem LIv_row (hL : LIv h hc a b m i j) (hj : fI h 6 3 ≤ j) : LIv h hc a b m (i + 1) 0 := by
  obtain ⟨l1, l2, l3, l4⟩ := hL
  refine ⟨l1, fun x y x0 x1 y0 y1 => ?_, l3, l4⟩
  rw [l2 x y x0 x1 y0 y1]
  by_cases c : x < i ∨ (x = i ∧ y < j)
  · rw [if_pos c, if_pos (show x < i + 1 ∨ (x = i + 1 ∧ y < 0) by omega)]
  · rw [if_neg c, if_neg (show ¬ (x < i + 1 ∨ (x = i + 1 ∧ y < 0)) by omega)]
theorem LIv_end (hL : LIv h hc a b m i 0) (hi : fI h 6 3 ≤ i) : LIv h hc a b m (fI h 6 3) 0 := by
  obtain ⟨l1, l2, l3, l4⟩ := hL
  refine ⟨l1, fun x y x0 x1 y0 y1 => ?_, l3, l4⟩
  rw [l2 x y x0 x1 y0 y1, if_pos (show x < i ∨ (x = i ∧ y < 0) by omega), if_pos (show x < fI h 6 3 ∨ (x = fI h 6 3 ∧ y < 0) by omega)]
/-- one try to shorten one way -/
theorem SH1 (hR : RW hc) (hn : fI hc 6 3 ≤ 12) (i0 : 0 ≤ i) (i1 : i < fI hc 6 3) (j0 : 0 ≤ j) (j1 : j < fI hc 6 3) (hm : 1 ≤ m ∧ m ≤ 300) (hs : s1 ≤ 100000 ∧ s2 ≤ 100000) (hc1 : cf hc i j ≤ 1000000) (hb : aI hc (22 + i.toNat) j < 1000000) (p : PSh hc h1 i j s1 m s2) :
    RW h1 ∧ fI h1 6 3 = fI hc 6 3 ∧ (∀ x y : Int, 0 ≤ x → x < 12 → 0 ≤ y → ¬ (x = i ∧ y = j) → aI h1 (22 + x.toNat) y = aI hc (22 + x.toNat) y) ∧ aI h1 (22 + i.toNat) j < 1000000 ∧ cf h1 i j = if (if s1 < 0 then 1000000 else s1) + m + (if s2 < 0 then 1000000 else s2) < cf hc i j then (if s1 < 0 then 1000000 else s1) + m + (if s2 < 0 then 1000000 else s2) else cf hc i j := by
  rcases p with ⟨rfl, p⟩ | ⟨r, er, p1, p2, p⟩
  · refine ⟨hR, rfl, fun _ _ _ _ _ _ => rfl, hb, ?_⟩
    rw [if_neg]
    intro k
    rcases p with p | p | p
    · rw [if_pos p] at k
      split at k <;> omega
    · rw [if_pos p] at k
      split at k <;> omega
    · omega
  · have ea : r = 22 + i.toNat := by
      cases (hR i i0 (by omega)).symm.trans er
      rfl
    subst ea
    rw [if_neg (show ¬ s1 < 0 by omega), if_neg (show ¬ s2 < 0 by omega)]
    rcases p with ⟨g1, g2, rfl⟩ | ⟨g1, x, ex, hu⟩
    · refine ⟨hR, rfl, fun _ _ _ _ _ _ => rfl, hb, ?_⟩
      have e : cf h1 i j = aI h1 (22 + i.toNat) j := by unfold cf; rw [if_neg (by omega)]
      rw [if_neg (by omega)]
    · have e1 : aI h1 (22 + i.toNat) j = x := by rw [AUp_aI hu (by omega) (by omega) j0 j0, if_pos rfl]
      refine ⟨fun u u0 u1 => by rw [AUp_aR hu]; exact hR u u0 u1, AUp_fI hu, fun u v u0 u1 v0 hne => ?_, by omega, ?_⟩
      · by_cases e : u = i
        · subst e
          rw [AUp_aI hu (by omega) (by omega) j0 v0, if_neg (by omega)]
        · exact AUp_aIne hu (by omega) v
      · have e2 : cf h1 i j = x := by unfold cf; rw [e1, if_neg (by omega)]
        rw [e2, if_pos]
        · exact ex
        · unfold cf
          split <;> omega
theorem cf_of (hb : aI hc (22 + x.toNat) y < 1000000) (hc1 : cf hc x y = 1000000 ∨ cf hc x y ≤ 20000) : aI hc (22 + x.toNat) y ≤ 20000 ∧ (if aI hc (22 + x.toNat) y < 0 then 1000000 else aI hc (22 + x.toNat) y) = cf hc x y := by
  refine ⟨?_, rfl⟩
  unfold cf at hc1
  split at hc1 <;> omega
theorem sw0 {c E D u1 u2 v1 v2 m : Int} (hc : c = E ∨ c = D) (q1 : E ≤ D) (q4 : E = D ∨ E = u1 + m + u2 ∨ E = v1 + m + v2) (hm : 1 ≤ m ∧ m ≤ 300) (bD : D = 1000000 ∨ D ≤ 3600) (b1 : u1 = 1000000 ∨ u1 ≤ 3600) (b2 : u2 = 1000000 ∨ u2 ≤ 3600) (b3 : v1 = 1000000 ∨ v1 ≤ 3600) (b4 : v2 = 1000000 ∨ v2 ≤ 3600) (n0 : 0 ≤ D) (n1 : 0 ≤ u1) (n2 : 0 ≤ u2) (n3 : 0 ≤ v1) (n4 : 0 ≤ v2) : E ≤ c ∧ c ≤ D ∧ (c = 1000000 ∨ c ≤ 7500) ∧ 0 ≤ c := by omega
theorem sw1 {R E Ea Eb Eaj Eab c1 c2 cij D d1 d2 m z1 z2 : Int} (hR : R = if c1 + m + c2 < cij then c1 + m + c2 else cij) (hm : 1 ≤ m ∧ m ≤ 300) (e0 : E ≤ cij) (eD : cij ≤ D) (l1 : Ea ≤ c1) (l2 : Eb ≤ c2) (u1 : c1 ≤ d1) (u2 : c2 ≤ d2) (t1 : E ≤ Ea + Eaj) (t2 : Eaj ≤ Eab + Eb) (t3 : Eab ≤ z1 + m + z2) (za : z1 = 0) (zb : z2 = 0) (b1 : c1 = 1000000 ∨ c1 ≤ 7500) (b2 : c2 = 1000000 ∨ c2 ≤ 7500) (b3 : cij = 1000000 ∨ cij ≤ 7500) (n1 : 0 ≤ c1) (n2 : 0 ≤ c2) : E ≤ R ∧ R ≤ D ∧ (R = 1000000 ∨ R ≤ 20000) ∧ R ≤ d1 + m + d2 := by
  split at hR <;> omega
theorem sw2 {R E Eib Eaj Ebj Eba c3 c4 r1 D dia dbj dib daj m z1 z2 : Int} (hR : R = if c3 + m + c4 < r1 then c3 + m + c4 else r1) (q4 : E = D ∨ E = dia + m + dbj ∨ E = dib + m + daj) (e1 : E ≤ r1) (e2 : r1 ≤ D) (e3 : r1 ≤ dia + m + dbj) (l3 : Eib ≤ c3) (u3 : c3 ≤ dib) (l4 : Eaj ≤ c4) (u4 : c4 ≤ daj) (t1 : E ≤ Eib + Ebj) (t2 : Ebj ≤ Eba + Eaj) (t3 : Eba ≤ z1 + m + z2) (za : z1 = 0) (zb : z2 = 0) : R = E := by
  split at hR <;> omega
set_option maxHeartbeats 0 in
theorem LIv_half (hT : TH E τ h) (hI : ID h) (hL : LIv h hc a b m i j) (hn1 : fI hc 6 3 = fI h 6 3) (a0 : 0 ≤ a) (a1 : a < fI h 6 3) (b0 : 0 ≤ b) (b1 : b < fI h 6 3) (i0 : 0 ≤ i) (i1 : i < fI h 6 3) (j0 : 0 ≤ j) (j1 : j < fI h 6 3) (hm : 1 ≤ m ∧ m ≤ 300) (e1 : s1 = aI hc (22 + i.toNat) a) (e2 : s2 = aI hc (22 + b.toNat) j) (p1 : PSh hc h1 i j s1 m s2) : RW h1 ∧ fI h1 6 3 = fI h 6 3 ∧ (∀ x y : Int, 0 ≤ x → x < 12 → 0 ≤ y → ¬ (x = i ∧ y = j) → aI h1 (22 + x.toNat) y = aI hc (22 + x.toNat) y) ∧ (∀ x y : Int, 0 ≤ x → x < 12 → 0 ≤ y → y < 12 → aI h1 (22 + x.toNat) y < 1000000) ∧ (∀ x y : Int, 0 ≤ x → x < fI h 6 3 → 0 ≤ y → y < fI h 6 3 → Dn (cf h) a b m x y ≤ cf h1 x y ∧ cf h1 x y ≤ cf h x y ∧ (cf h1 x y = 1000000 ∨ cf h1 x y ≤ 20000)) ∧ cf h1 i j ≤ cf h i a + m + cf h b j := by
  obtain ⟨l1, l2, l3, l4⟩ := hL
  obtain ⟨-, hS, -, -, -, -⟩ := hI
  have hn := n_le hT
  have hM := hS.1
  have hM2 := hM
  obtain ⟨d0, d1, d2⟩ := hM2
  have n12 : ∀ x : Int, x < fI h 6 3 → x < 12 := fun x hx => Int.lt_of_lt_of_le hx hn.2
  have bd : ∀ x y : Int, 0 ≤ x → x < fI h 6 3 → 0 ≤ y → y < fI h 6 3 → cf h x y = 1000000 ∨ cf h x y ≤ 3600 := fun x y x0 x1 y0 y1 => Sp_bd hn.2 (fun u v _ _ _ _ => (w_bd hT u v).2) hS x0 x1 y0 y1
  -- what now stands lies between what comes and what stood
  have cu : ∀ x y : Int, 0 ≤ x → x < fI h 6 3 → 0 ≤ y → y < fI h 6 3 → Dn (cf h) a b m x y ≤ cf hc x y ∧ cf hc x y ≤ cf h x y ∧ (cf hc x y = 1000000 ∨ cf hc x y ≤ 7500) ∧ 0 ≤ cf hc x y := fun x y x0 x1 y0 y1 => by
    have k := l2 x y x0 x1 y0 y1
    have q := Dn_c (f := cf h) (a := a) (b := b) (m := m) (x := x) (y := y)
    have hk : cf hc x y = Dn (cf h) a b m x y ∨ cf hc x y = cf h x y := by
      split at k
      · exact Or.inl k
      · exact Or.inr k
    exact sw0 hk q.1 q.2.2.2 hm (bd x y x0 x1 y0 y1) (bd x a x0 x1 a0 a1) (bd b y b0 b1 y0 y1) (bd x b x0 x1 b0 b1) (bd a y a0 a1 y0 y1) (d1 x y x0 x1 y0 y1).1 (d1 x a x0 x1 a0 a1).1 (d1 b y b0 b1 y0 y1).1 (d1 x b x0 x1 b0 b1).1 (d1 a y a0 a1 y0 y1).1
  have u1 := cu i a i0 i1 a0 a1
  have u2 := cu b j b0 b1 j0 j1
  have u5 := cu i j i0 i1 j0 j1
  have w20 : ∀ c : Int, c = 1000000 ∨ c ≤ 7500 → c = 1000000 ∨ c ≤ 20000 := fun c hc => hc.elim Or.inl (fun k => Or.inr (Int.le_trans k (by decide)))
  obtain ⟨v1, v2⟩ := cf_of (l4 i a i0 (n12 i i1) a0 (n12 a a1)) (w20 _ u1.2.2.1)
  obtain ⟨v3, v4⟩ := cf_of (l4 b j b0 (n12 b b1) j0 (n12 j j1)) (w20 _ u2.2.2.1)
  rw [← e1] at v1 v2
  rw [← e2] at v3 v4
  have le5 : cf hc i j ≤ 1000000 := by
    rcases u5.2.2.1 with k | k
    · exact Int.le_of_eq k
    · exact Int.le_trans k (by decide)
  obtain ⟨k1, k2, k3, k4, k5⟩ := SH1 l1 (by rw [hn1]; exact hn.2) i0 (by rw [hn1]; exact i1) j0 (by rw [hn1]; exact j1) hm ⟨Int.le_trans v1 (by decide), Int.le_trans v3 (by decide)⟩ le5 (l4 i j i0 (n12 i i1) j0 (n12 j j1)) p1
  rw [v2, v4] at k5
  have w3 := sw1 k5 hm u5.1 u5.2.1 u1.1 u2.1 u1.2.1 u2.2.1 (Dn_tri hM (by omega) a0 a1 b0 b1 i0 i1 a0 a1 j0 j1) (Dn_tri hM (by omega) a0 a1 b0 b1 a0 a1 b0 b1 j0 j1) (Dn_c (f := cf h) (a := a) (b := b) (m := m) (x := a) (y := b)).2.1 (d0 a a0 a1) (d0 b b0 b1) u1.2.2.1 u2.2.2.1 u5.2.2.1 u1.2.2.2 u2.2.2.2
  refine ⟨k1, k2.trans hn1, k3, fun x y x0 x1 y0 y1 => ?_, fun x y x0 x1 y0 y1 => ?_, w3.2.2.2⟩
  · by_cases e : x = i ∧ y = j
    · obtain ⟨rfl, rfl⟩ := e
      exact k4
    · rw [k3 x y x0 x1 y0 e]; exact l4 x y x0 x1 y0 y1
  · by_cases e : x = i ∧ y = j
    · obtain ⟨rfl, rfl⟩ := e
      exact ⟨w3.1, w3.2.1, w3.2.2.1⟩
    · have c1 : cf h1 x y = cf hc x y := by
        unfold cf
        rw [k3 x y x0 (n12 x x1) y0 e]
      have c2 := cu x y x0 x1 y0 y1
      rw [c1]
      exact ⟨c2.1, c2.2.1, w20 _ c2.2.2.1⟩
theorem LIv_mid (hT : TH E τ h) (hI : ID h) (hL : LIv h hc a b m i j) (hn1 : fI hc 6 3 = fI h 6 3) (a0 : 0 ≤ a) (a1 : a < fI h 6 3) (b0 : 0 ≤ b) (b1 : b < fI h 6 3) (i0 : 0 ≤ i) (i1 : i < fI h 6 3) (j0 : 0 ≤ j) (j1 : j < fI h 6 3) (hm : 1 ≤ m ∧ m ≤ 300) (e1 : s1 = aI hc (22 + i.toNat) a) (e2 : s2 = aI hc (22 + b.toNat) j) (p1 : PSh hc h1 i j s1 m s2) : RW h1 ∧ ∀ x y : Int, 0 ≤ x → x < 12 → 0 ≤ y → y < 12 → aI h1 (22 + x.toNat) y < 1000000 := by
  obtain ⟨k1, -, -, k4, -, -⟩ := LIv_half hT hI hL hn1 a0 a1 b0 b1 i0 i1 j0 j1 hm e1 e2 p1
  exact ⟨k1, k4⟩
set_option maxHeartbeats 0 in
theorem LIv_step (hT : TH E τ h) (hI : ID h) (hL : LIv h hc a b m i j) (hn1 : fI hc 6 3 = fI h 6 3) (a0 : 0 ≤ a) (a1 : a < fI h 6 3) (b0 : 0 ≤ b) (b1 : b < fI h 6 3) (i0 : 0 ≤ i) (i1 : i < fI h 6 3) (j0 : 0 ≤ j) (j1 : j < fI h 6 3) (hm : 1 ≤ m ∧ m ≤ 300) {s3 s4 : Int} (e1 : s1 = aI hc (22 + i.toNat) a) (e2 : s2 = aI hc (22 + b.toNat) j) (p1 : PSh hc h1 i j s1 m s2) (e3 : s3 = aI h1 (22 + i.toNat) b) (e4 : s4 = aI h1 (22 + a.toNat) j) (p2 : PSh h1 h2 i j s3 m s4) : LIv h h2 a b m i (j + 1) := by
  obtain ⟨k1, k2, k3, l4', k5, k6⟩ := LIv_half hT hI hL hn1 a0 a1 b0 b1 i0 i1 j0 j1 hm e1 e2 p1
  obtain ⟨l1, l2, l3, l4⟩ := hL
  obtain ⟨-, hS, -, -, -, -⟩ := hI
  have hn := n_le hT
  have hM := hS.1
  have hM2 := hM
  obtain ⟨d0, d1, d2⟩ := hM2
  have n12 : ∀ x : Int, x < fI h 6 3 → x < 12 := fun x hx => Int.lt_of_lt_of_le hx hn.2
  have x3 := k5 i b i0 i1 b0 b1
  have x4 := k5 a j a0 a1 j0 j1
  have x5 := k5 i j i0 i1 j0 j1
  obtain ⟨v5, v6⟩ := cf_of (l4' i b i0 (n12 i i1) b0 (n12 b b1)) x3.2.2
  obtain ⟨v7, v8⟩ := cf_of (l4' a j a0 (n12 a a1) j0 (n12 j j1)) x4.2.2
  rw [← e3] at v5 v6
  rw [← e4] at v7 v8
  have le5 : cf h1 i j ≤ 1000000 := Int.le_trans x5.2.1 (d1 i j i0 i1 j0 j1).2.1
  obtain ⟨m1, m2, m3, m4, m5⟩ := SH1 k1 (by rw [k2]; exact hn.2) i0 (by rw [k2]; exact i1) j0 (by rw [k2]; exact j1) hm ⟨Int.le_trans v5 (by decide), Int.le_trans v7 (by decide)⟩ le5 (l4' i j i0 (n12 i i1) j0 (n12 j j1)) p2
  rw [v6, v8] at m5
  have fin : cf h2 i j = Dn (cf h) a b m i j := sw2 m5 (Dn_c (f := cf h) (a := a) (b := b) (m := m) (x := i) (y := j)).2.2.2 x5.1 x5.2.1 k6 x3.1 x3.2.1 x4.1 x4.2.1 (Dn_tri hM (by omega) a0 a1 b0 b1 i0 i1 b0 b1 j0 j1) (Dn_tri hM (by omega) a0 a1 b0 b1 b0 b1 a0 a1 j0 j1) (Dn_c (f := cf h) (a := a) (b := b) (m := m) (x := b) (y := a)).2.2.1 (d0 b b0 b1) (d0 a a0 a1)
  refine ⟨m1, fun x y x0 x1 y0 y1 => ?_, fun x y x0 x1 y0 y1 hh => ?_, fun x y x0 x1 y0 y1 => ?_⟩
  · by_cases e : x = i ∧ y = j
    · obtain ⟨rfl, rfl⟩ := e
      rw [fin, if_pos (Or.inr ⟨rfl, Int.lt_succ y⟩)]
    · have e5 : cf h2 x y = cf hc x y := by
        unfold cf
        rw [m3 x y x0 (n12 x x1) y0 e, k3 x y x0 (n12 x x1) y0 e]
      rw [e5, l2 x y x0 x1 y0 y1]
      clear e1 e2 e3 e4 p1 p2 m5 fin v5 v6 v7 v8 x3 x4 x5 k5 k6 l4 l4' m3 m4 k3
      by_cases c : x < i ∨ (x = i ∧ y < j)
      · rw [if_pos c, if_pos (show x < i ∨ (x = i ∧ y < j + 1) by omega)]
      · rw [if_neg c, if_neg (show ¬ (x < i ∨ (x = i ∧ y < j + 1)) by omega)]
  · have e : ¬ (x = i ∧ y = j) := fun z => by
      rcases hh with hh | hh
      · exact absurd (Int.lt_of_lt_of_le i1 (by rw [← z.1]; exact hh)) (Int.lt_irrefl _)
      · exact absurd (Int.lt_of_lt_of_le j1 (by rw [← z.2]; exact hh)) (Int.lt_irrefl _)
    rw [m3 x y x0 x1 y0 e, k3 x y x0 x1 y0 e]
    exact l3 x y x0 x1 y0 y1 hh
  · by_cases e : x = i ∧ y = j
    · obtain ⟨rfl, rfl⟩ := e
      exact m4
    · rw [m3 x y x0 x1 y0 e]; exact l4' x y x0 x1 y0 y1
theorem LIv_bd (hL : LIv h hc a b m i j) (x0 : 0 ≤ x) (x1 : x < 12) (y0 : 0 ≤ y) (y1 : y < 12) (er : aR hc 21 x = some r) : r = 22 + x.toNat ∧ aI hc r y ≤ 1000000 := by
  have ea : r = 22 + x.toNat := by
    cases (hL.1 x x0 x1).symm.trans er
    rfl
  have := hL.2.2.2 x y x0 x1 y0 y1
  rw [← ea] at this
  exact ⟨ea, by omega⟩
/-! the reference's three loops -/
theorem IN_0 : IN h h 0 0 := fun x y x0 x1 y0 y1 hh => by omega
theorem IN_row (hI : IN h hc a b) (hb : fI h 64 2 ≤ b) : IN h hc (a + 1) 0 := fun x y x0 x1 y0 y1 hh => hI x y x0 x1 y0 y1 (by omega)
theorem IN_step (hI : IN h hc a b) (hn : fI h 64 2 ≤ 12) (a0 : 0 ≤ a) (a1 : a < fI h 64 2) (b0 : 0 ≤ b) (b1 : b < fI h 64 2) (hu : AUp hc 67 i v h1) (hi : i = 12 * a + b) (hv : v = Ini (wf h) a b) (hr : 0 ≤ v ∧ v ≤ 1000000) : IN h h1 a (b + 1) := fun x y x0 x1 y0 y1 hh => by
  unfold rf
  rw [AUp_aI hu (by omega) (by omega) (by omega) (by omega)]
  by_cases e : x = a ∧ y = b
  · rw [e.1, e.2, if_pos (by omega)]; exact hv
  · rw [if_neg (by omega)]
    exact hI x y x0 x1 y0 y1 (by omega)
theorem FW_of_IN (hT : TH E τ h) (hI : IN h hc a b) (ha : fI h 64 2 ≤ a) : FW (fI h 64 2) (wf h) 0 (rf hc) := FW_0 (fun x y _ _ _ _ => w_bd hT x y) (fun x y x0 x1 y0 y1 => hI x y x0 x1 y0 y1 (by omega))
theorem FS_A (hF : FS n w k a b (rf hc)) (hn : n ≤ 12) (k0 : 0 ≤ k) (k1 : k < n) (a0 : 0 ≤ a) (a1 : a < n) (b0 : 0 ≤ b) (b1 : b < n) (hu : AUp hc 67 i v h1) (hi : i = 12 * a + b) (hv : v = aI hc 67 (12 * a + k) + aI hc 67 (12 * k + b)) (hl : v < aI hc 67 (12 * a + b)) (hr : -2147483648 ≤ v ∧ v ≤ 2147483647) : FS n w k a (b + 1) (rf h1) := by
  refine FS_step hF k0 k1 a0 a1 b0 b1 (fun x y x0 x1 y0 y1 hne => ?_) ?_
  · unfold rf
    rw [AUp_aI hu hr.1 hr.2 (by omega) (by omega), if_neg (by omega)]
  · unfold rf
    rw [AUp_aI hu hr.1 hr.2 (by omega) (by omega), if_pos hi.symm, if_pos (by omega)]
    exact hv
theorem FS_N (hF : FS n w k a b (rf hc)) (k0 : 0 ≤ k) (k1 : k < n) (a0 : 0 ≤ a) (a1 : a < n) (b0 : 0 ≤ b) (b1 : b < n) (hl : aI hc 67 (12 * a + b) ≤ aI hc 67 (12 * a + k) + aI hc 67 (12 * k + b)) : FS n w k a (b + 1) (rf hc) :=
  FS_step hF k0 k1 a0 a1 b0 b1 (fun x y _ _ _ _ _ => rfl) (by unfold rf; rw [if_neg (by omega)])
/-! a call on both -/
theorem Sp_mv (hT : TH E τ h) (hF : Fr τ W h h1) (hw : avd W [(8, 2), (44, 0)] = true) (p : Sp (fI h 64 2) (wf h) (rf h1)) : Sp (fI h1 64 2) (wf h1) (rf h1) := by
  rw [Fr_fI hF (tf (q := 64) (t := 8) hT rfl rfl) (b := 2) (avd_of hw (by decide))]
  exact Sp_cg p (fun x y _ _ _ _ => Fr_aI hF (tf (q := 66) (t := 44) hT rfl rfl) (avd_of hw (by decide)) _)
theorem PTnR_of (hI : Sp (fI h 64 2) (wf h) (rf h)) (hw : Same 66 h h1) (p : PTnR h h1) : Sp (fI h1 64 2) (wf h1) (rf h1) := by
  rcases p with ⟨e, s⟩ | p
  · rw [e]
    exact Sp_cf (Sp_cg hI (fun x y _ _ _ _ => hw _)) (fun x y _ _ _ _ => s _)
  · exact p
theorem S_town4 (hI : ID h) (hT : TH E τ h) (hT1 : TH E1 τ h1) (F1 : Fr τ W1 h h1) (w1 : avd W1 [(8, 2), (22, 0), (44, 0), (45, 0)] = true) (F2 : Fr τ W2 h1 h2) (w2 : avd W2 [(2, 3), (22, 0), (123, 0), (44, 0)] = true) (p1 : PTnC h h1) (p2 : PTnR h1 h2) : ID h2 := by
  obtain ⟨a1, a2, a3, a4, a5, a6⟩ := hI
  have hn := n_le hT
  have n1 : fI h2 6 3 = fI h1 6 3 := Fr_fI F2 (tf (q := 6) (t := 2) hT1 rfl rfl) (avd_of w2 (by decide))
  have n2 : fI h1 64 2 = fI h 64 2 := Fr_fI F1 (tf (q := 64) (t := 8) hT rfl rfl) (avd_of w1 (by decide))
  have r2 : ∀ x : Int, aR h2 21 x = aR h1 21 x := fun x => Fr_aR F2 (tf (q := 21) (t := 22) hT1 rfl rfl) (avd_of w2 (by decide)) x
  have l2 : ∀ x y : Int, 0 ≤ x → x < 12 → aI h2 (22 + x.toNat) y = aI h1 (22 + x.toNat) y := fun x y x0 x1 => Fr_aI F2 (lst_ty hT1 x0 x1) (avd_of w2 (by decide)) y
  have s66 : Same 66 h h1 := fun i => Fr_aI F1 (tf (q := 66) (t := 44) hT rfl rfl) (avd_of w1 (by decide)) i
  have s67 : Same 67 h h1 := fun i => Fr_aI F1 (tf (q := 67) (t := 45) hT rfl rfl) (avd_of w1 (by decide)) i
  have t66 : Same 66 h1 h2 := fun i => Fr_aI F2 (tf (q := 66) (t := 44) hT1 rfl rfl) (avd_of w2 (by decide)) i
  have ew : ∀ x y : Int, wf h2 x y = wf h x y := fun x y => (t66 _).trans (s66 _)
  have b3 : Sp (fI h1 64 2) (wf h1) (rf h1) := by
    rw [n2]
    exact Sp_cf (Sp_cg a3 (fun x y _ _ _ _ => s66 _)) (fun x y _ _ _ _ => s67 _)
  have c3 := PTnR_of b3 t66 p2
  rcases p1 with ⟨e, rw1, s⟩ | ⟨e, e11, rw1, s⟩
  · refine ⟨fun x x0 x1 => by rw [r2]; exact rw1 x x0 x1, ?_, c3, fun x y x0 x1 y0 y1 hh => by rw [ew]; exact a4 x y x0 x1 y0 y1 (by omega), fun x x0 x1 => by rw [l2 x x x0 x1, s x x x0 x1]; exact a5 x x0 x1, fun x y x0 x1 y0 y1 => by rw [l2 x y x0 x1, s x y x0 x1]; exact a6 x y x0 x1 y0 y1⟩
    rw [n1, e]
    exact Sp_cf (Sp_cg a2 (fun x y _ _ _ _ => ew x y)) (fun x y x0 x1 y0 y1 => by unfold cf; rw [l2 x y x0 (by omega), s x y x0 (by omega)])
  · refine ⟨fun x x0 x1 => by rw [r2]; exact rw1 x x0 x1, ?_, c3, fun x y x0 x1 y0 y1 hh => by rw [ew]; exact a4 x y x0 x1 y0 y1 (by omega), fun x x0 x1 => ?_, fun x y x0 x1 y0 y1 => ?_⟩
    · rw [n1, e]
      refine Sp_town a2 hn.1 (fun x y _ _ _ _ => ew x y) (fun x x0 x1 => ⟨?_, ?_⟩) (fun x y x0 x1 y0 y1 => ?_) (fun x x0 x1 => ⟨?_, ?_⟩) ?_
      · rw [ew]; exact a4 x (fI h 6 3) x0 (by omega) hn.1 (by omega) (Or.inr (Int.le_refl _))
      · rw [ew]; exact a4 (fI h 6 3) x hn.1 (by omega) x0 (by omega) (Or.inl (Int.le_refl _))
      · unfold cf
        rw [l2 x y x0 (by omega), s x y x0 (by omega) y0 (by omega), if_neg (show ¬ ((y = fI h 6 3 ∧ x < fI h 6 3) ∨ (x = fI h 6 3 ∧ y < fI h 6 3)) by omega)]
      · unfold cf
        rw [l2 x _ x0 (by omega), s x _ x0 (by omega) hn.1 (by omega), if_pos (show (fI h 6 3 = fI h 6 3 ∧ x < fI h 6 3) ∨ (x = fI h 6 3 ∧ fI h 6 3 < fI h 6 3) by omega), if_pos (by decide)]
      · unfold cf
        rw [l2 _ x hn.1 (by omega), s _ x hn.1 (by omega) x0 (by omega), if_pos (show (x = fI h 6 3 ∧ fI h 6 3 < fI h 6 3) ∨ (fI h 6 3 = fI h 6 3 ∧ x < fI h 6 3) by omega), if_pos (by decide)]
      · unfold cf
        rw [l2 _ _ hn.1 (by omega), s _ _ hn.1 (by omega) hn.1 (by omega), if_neg (show ¬ ((fI h 6 3 = fI h 6 3 ∧ fI h 6 3 < fI h 6 3) ∨ (fI h 6 3 = fI h 6 3 ∧ fI h 6 3 < fI h 6 3)) by omega), a5 _ hn.1 (by omega)]
        rfl
    · rw [l2 x x x0 x1, s x x x0 x1 x0 x1, if_neg (by omega)]
      exact a5 x x0 x1
    · rw [l2 x y x0 x1, s x y x0 x1 y0 y1]
      split
      · omega
      · exact a6 x y x0 x1 y0 y1
theorem S_far4 (hI : ID h) (hT : TH E τ h) (hn : fI h 6 3 = fI h 64 2) (p1 : PFarC h a b z1) (p2 : PFarR h a b z2) : z1 = z2 := by
  rcases p1 with ⟨c1, e1⟩ | ⟨c1, c2, c3, c4, x, hx, p1⟩
  · rcases p2 with ⟨d1, e2⟩ | ⟨d1, d2, d3, d4, -⟩ <;> omega
  · rcases p2 with ⟨d1, e2⟩ | ⟨d1, d2, d3, d4, p2⟩
    · omega
    · rcases hx with ⟨k, -⟩ | ⟨-, -, -, -, r, er, ex⟩
      · omega
      · obtain ⟨a1, a2, a3, a4, a5, a6⟩ := hI
        have bn := n_le hT
        have ea : r = 22 + a.toNat := by
          cases (a1 a c1 (by omega)).symm.trans er
          rfl
        subst ea
        rw [← hn] at a3
        have e := Sp_un a2 a3 c1 c2 c3 c4
        have hb := a6 a b c1 (by omega) c3 (by omega)
        unfold cf rf at e
        split at e <;> omega
end FAH
