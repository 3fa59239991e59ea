/-! TEXTS in the cells: the class's pieces and its reader -/
/-- the pieces lie in the rows; behind them END at the text's end -/
def TB (S F : Int → Int) (h : List mE) : Prop := ∀ a : Int, 0 ≤ a → 0 ≤ F a ∧ ((a < fI h 54 5 ∧ S a = aI h 56 a ∧ F a = aI h 58 a) ∨ (fI h 54 5 ≤ a ∧ S a = 101 ∧ F a = fI h 54 1))
def FL (F : Int → Int) (h h' : List mE) : Prop := fI h' 54 6 = fI h 54 6 ∧ ((0 ≤ fI h 54 7 ∧ fI h' 54 7 = fI h 54 7) ∨ (fI h 54 7 < 0 ∧ fI h' 54 7 = F (fI h 54 6)))
def ND (S F : Int → Int) (c : Int) (h h' : List mE) : Prop := (S (fI h 54 6) = c ∧ fI h' 54 6 = fI h 54 6 + 1 ∧ fI h' 54 7 = fI h 54 7) ∨ (S (fI h 54 6) ≠ c ∧ FL F h h')
def CMx (S F : Int → Int) (md : Nat) (o : Int) (h h' : List mE) : Prop := (0 ≤ fI h 54 7 → fI h' 54 7 = fI h 54 7) ∧ (fI h 54 7 < 0 → (∃ b : Int, PRr S md o (fI h 54 6) (1, b) ∧ fI h' 54 7 = fI h 54 7 ∧ fI h' 54 6 = b) ∨ (∃ i : Int, PRr S md o (fI h 54 6) (2, i) ∧ fI h' 54 7 = F i ∧ 0 ≤ F i))
def CL (S F : Int → Int) (md ml : Nat) (o : Int) (h hc : List mE) : Prop := (0 ≤ fI h 54 7 → fI hc 54 7 = fI h 54 7) ∧ (fI h 54 7 < 0 → (∃ i : Int, PRr S md o (fI h 54 6) (2, i) ∧ fI hc 54 7 = F i ∧ 0 ≤ F i) ∨ (fI hc 54 7 = fI h 54 7 ∧ ∀ r : Int × Int, PRr S ml o (fI hc 54 6) r → PRr S md o (fI h 54 6) r))
def CI (S F : Int → Int) (hc : List mE) (m : Int) : Prop := (∃ i : Int, PRr S 6 0 0 (2, i) ∧ fI hc 54 7 = F i ∧ 0 ≤ F i) ∨ (fI hc 54 7 = -1 ∧ ((m = 1 ∧ ∀ r : Int × Int, PRr S 6 0 (fI hc 54 6) r → PRr S 6 0 0 r) ∨ (m = 0 ∧ S (fI hc 54 6) ≠ 1059 ∧ (S (fI hc 54 6) = 101 → ∃ b : Int, PRr S 6 0 0 (1, b)) ∧ (S (fI hc 54 6) ≠ 101 → PRr S 6 0 0 (2, fI hc 54 6)))))
def RunI (P : Int → Prop) (p q : Int) : Prop := ∀ j : Int, p ≤ j → j < q → P j
def PAT (h h' : List mE) (s p : Int) : Prop := fI h 54 5 ≤ 200 → (fI h' 54 5 = fI h 54 5 + 1 ∧ Set1 56 h h' (fI h 54 5) s ∧ Set1 58 h h' (fI h 54 5) p)
/-- cut so far: up to p -/
def CTi (T : Int → Int) (n : Int) (hc : List mE) (p : Int) : Prop := 0 ≤ fI hc 54 5 ∧ (∀ i : Int, 0 ≤ i → i < fI hc 54 5 → aI hc 56 i = cS T n i ∧ aI hc 58 i = cF T n i ∧ cS T n i ≠ 101) ∧ cP T n (fI hc 54 5) ≤ p ∧ p ≤ n ∧ (∀ j : Int, cP T n (fI hc 54 5) ≤ j → j < p → T j = 32)
section CLS
variable {τ σ : List Nat} {h h' hc h0 h1 h2 h3 h4 h5 h6 h7 hk : List mE} {W : List (Nat × Nat)} {E : EP} {S F T : Int → Int} {n o a b i j p q e s v x y : Int} {md ml : Nat}
theorem TB_fr (hI : TB S F h) (hT : TH E τ h) (hF : Fr τ W h h') (hw : avd W [(6, 1), (6, 5), (36, 0), (38, 0)] = true) : TB S F h' := fun a ha => by
  rw [Fr_fI hF (tf (q := 54) (t := 6) hT rfl rfl) (avd_of hw (by decide)), Fr_fI hF (tf (q := 54) (t := 6) hT rfl rfl) (b := 1) (avd_of hw (by decide)), Fr_aI hF (tf (q := 56) (t := 36) hT rfl rfl) (avd_of hw (by decide)), Fr_aI hF (tf (q := 58) (t := 38) hT rfl rfl) (avd_of hw (by decide))]
  exact hI a ha
theorem TB_at (hI : TB S F h) (ha : 0 ≤ a) : 0 ≤ F a ∧ ((a < fI h 54 5 ∧ S a = aI h 56 a ∧ F a = aI h 58 a) ∨ (fI h 54 5 ≤ a ∧ S a = 101 ∧ F a = fI h 54 1)) := hI a ha
theorem CM_same (k : CMx S F md o h1 h2) (e1 : fI h1 54 6 = fI h 54 6) (e2 : fI h1 54 7 = fI h 54 7) : CMx S F md o h h2 := by
  unfold CMx at k ⊢
  rw [e1, e2] at k
  exact k
theorem CM_one (hs : S (fI h 54 6) = 100 ∨ (0 ≤ S (fI h 54 6) ∧ S (fI h 54 6) < 14)) (ha : fI h' 54 6 = fI h 54 6 + 1) (hf : fI h' 54 7 = fI h 54 7) : CMx S F 2 o h h' := ⟨fun _ => hf, fun _ => Or.inl ⟨_, P2_one hs, hf, ha⟩⟩
theorem CM_num (hs : S (fI h 54 6) = 100) (k : ND S F 100 h h1) (e1 : fI h' 54 6 = fI h1 54 6) (e2 : fI h' 54 7 = fI h1 54 7) : CMx S F 2 o h h' := by
  rcases k with ⟨-, k1, k2⟩ | ⟨k1, -⟩
  · exact CM_one (Or.inl hs) (by omega) (by omega)
  · exact absurd hs k1
theorem CM_pf (hI : TB S F h) (b0 : 0 ≤ fI h 54 6) (hp : S (fI h 54 6) = 17 ∨ S (fI h 54 6) = 18) (ka : fI hk 54 6 = fI h 54 6 + 1) (kf : fI hk 54 7 = fI h 54 7) (hq : 0 ≤ fI h 54 7 ∨ 8 ≤ o ∨ S (fI hk 54 6) ≠ 1040) (fl : FL F hk h') : CMx S F 2 o h h' := by
  obtain ⟨f1, f2⟩ := fl
  rw [ka] at hq f2
  refine ⟨fun g => by omega, fun g => Or.inr ⟨fI h 54 6 + 1, P2_pf hp (by omega), by omega, (hI _ (by omega)).1⟩⟩
theorem CM_nf (hI : TB S F h) (b0 : 0 ≤ fI h 54 6) (h1 : ¬ (S (fI h 54 6) = 100 ∨ (0 ≤ S (fI h 54 6) ∧ S (fI h 54 6) < 14))) (h2 : ¬ (S (fI h 54 6) = 17 ∨ S (fI h 54 6) = 18)) (ka : fI hk 54 6 = fI h 54 6) (kf : fI hk 54 7 = fI h 54 7) (hq : 0 ≤ fI h 54 7 ∨ 8 ≤ o ∨ S (fI hk 54 6) ≠ 1040) (fl : FL F hk h') : CMx S F 2 o h h' := by
  obtain ⟨f1, f2⟩ := fl
  rw [ka] at hq f2
  refine ⟨fun g => by omega, fun g => Or.inr ⟨fI h 54 6, P2_nf h1 h2 (by omega), by omega, (hI _ b0).1⟩⟩
theorem CM_n (hI : TB S F h) (ho : o < 8) (hf : fI h 54 7 < 0) (hs : S (fI h 54 6) = 1040) (ka : fI h1 54 6 = fI h 54 6 + 1) (kf : fI h1 54 7 = fI h 54 7) (c : CMx S F 0 (o + 1) h1 h2) (nd : ND S F 1041 h2 h3) (b2 : 0 ≤ fI h2 54 6) : CMx S F 2 o h h3 := by
  refine ⟨fun g => by omega, fun _ => ?_⟩
  have c2 := c.2 (by omega)
  rw [ka] at c2
  rcases c2 with ⟨b, p, e1, e2⟩ | ⟨i, p, e1, e2⟩
  · rcases nd with ⟨d1, d2, d3⟩ | ⟨d1, d2, d3⟩
    · rw [e2] at d1 d2
      exact Or.inl ⟨b + 1, P2_n3 ho hs p d1, by omega, d2⟩
    · rw [e2] at d1 d3
      exact Or.inr ⟨b, P2_n2 ho hs p d1, by omega, (hI b (by omega)).1⟩
  · refine Or.inr ⟨i, P2_n1 ho hs p, ?_, e2⟩
    rcases nd with ⟨d1, d2, d3⟩ | ⟨d1, d2, d3⟩ <;> omega
theorem CM_p (hI : TB S F h) (ho : o < 8) (hf : fI h 54 7 < 0) (hp : S (fI h 54 6) = 17 ∨ S (fI h 54 6) = 18) (ka : fI h1 54 6 = fI h 54 6 + 1) (hs : S (fI h1 54 6) = 1040) (kb : fI h2 54 6 = fI h1 54 6 + 1) (kf : fI h2 54 7 = fI h 54 7) (c : CMx S F 0 (o + 1) h2 h3) (nd : ND S F 1044 h3 h4) (b3 : 0 ≤ fI h3 54 6) (c' : CMx S F 0 (o + 1) h4 h5) (e1 : fI h6 54 6 = fI h5 54 6) (e2 : fI h6 54 7 = fI h5 54 7) (b5 : 0 ≤ fI h5 54 6) (nd' : ND S F 1041 h6 h7) : CMx S F 2 o h h7 := by
  refine ⟨fun g => by omega, fun _ => ?_⟩
  rw [ka] at hs
  have c2 := c.2 (by omega)
  rw [show fI h2 54 6 = fI h 54 6 + 1 + 1 by omega] at c2
  -- a fault stays
  have keep : 0 ≤ fI h4 54 7 → fI h7 54 7 = fI h4 54 7 := fun g => by
    have := c'.1 g
    rcases nd' with ⟨d1, d2, d3⟩ | ⟨d1, d2, d3⟩ <;> omega
  rcases c2 with ⟨b, p, f1, f2⟩ | ⟨i, p, f1, f2⟩
  · rcases nd with ⟨d1, d2, d3⟩ | ⟨d1, d2, d3⟩
    · rw [f2] at d1 d2
      have c3 := c'.2 (by omega)
      rw [d2] at c3
      rcases c3 with ⟨c, p2, g1, g2⟩ | ⟨i, p2, g1, g2⟩
      · rcases nd' with ⟨k1, k2, k3⟩ | ⟨k1, k2, k3⟩
        · rw [e1, g2] at k1
          exact Or.inl ⟨c + 1, P2_p5 hp ho hs p d1 p2 k1, by omega, by omega⟩
        · rw [e1, g2] at k1 k3
          exact Or.inr ⟨c, P2_p4 hp ho hs p d1 p2 k1, by omega, (hI c (by omega)).1⟩
      · refine Or.inr ⟨i, P2_p3 hp ho hs p d1 p2, ?_, g2⟩
        rcases nd' with ⟨k1, k2, k3⟩ | ⟨k1, k2, k3⟩ <;> omega
    · rw [f2] at d1 d3
      have z := (hI b (by omega)).1
      have k := keep (by omega)
      exact Or.inr ⟨b, P2_p2 hp ho hs p d1, by omega, z⟩
  · have k4 : fI h4 54 7 = fI h3 54 7 := by
      rcases nd with ⟨d1, d2, d3⟩ | ⟨d1, d2, d3⟩ <;> omega
    have k := keep (by omega)
    exact Or.inr ⟨i, P2_p1 hp ho hs p, by omega, f2⟩
theorem CL_0 (c : CMx S F 1 o h h1) : CL S F 0 3 o h h1 := ⟨c.1, fun g => by
  rcases c.2 g with ⟨b, p, e1, e2⟩ | ⟨i, p, e1, e2⟩
  · exact Or.inr ⟨e1, fun r hr => by rw [e2] at hr; exact P0_ok p hr⟩
  · exact Or.inl ⟨i, P0_no p, e1, e2⟩⟩
theorem CL_1 (c : CMx S F 2 o h h1) : CL S F 1 4 o h h1 := ⟨c.1, fun g => by
  rcases c.2 g with ⟨b, p, e1, e2⟩ | ⟨i, p, e1, e2⟩
  · exact Or.inr ⟨e1, fun r hr => by rw [e2] at hr; exact P1_ok p hr⟩
  · exact Or.inl ⟨i, P1_no p, e1, e2⟩⟩
theorem CL_end0 (c : CL S F 0 3 o h hc) (hs : 0 ≤ fI hc 54 7 ∨ (S (fI hc 54 6) ≠ 1043 ∧ S (fI hc 54 6) ≠ 1045)) : CMx S F 0 o h hc := ⟨c.1, fun g => by
  rcases c.2 g with ⟨i, p, e1, e2⟩ | ⟨e1, k⟩
  · exact Or.inr ⟨i, p, e1, e2⟩
  · exact Or.inl ⟨_, k _ (P3_stop (hs.resolve_left (by omega))), e1, rfl⟩⟩
theorem CL_end1 (c : CL S F 1 4 o h hc) (hs : 0 ≤ fI hc 54 7 ∨ (S (fI hc 54 6) ≠ 1042 ∧ S (fI hc 54 6) ≠ 1047)) : CMx S F 1 o h hc := ⟨c.1, fun g => by
  rcases c.2 g with ⟨i, p, e1, e2⟩ | ⟨e1, k⟩
  · exact Or.inr ⟨i, p, e1, e2⟩
  · exact Or.inl ⟨_, k _ (P4_stop (hs.resolve_left (by omega))), e1, rfl⟩⟩
theorem CL_s0 (c : CL S F 0 3 o h hc) (hn : fI hc 54 7 < 0) (hs : S (fI hc 54 6) = 1043 ∨ S (fI hc 54 6) = 1045) (ka : fI h1 54 6 = fI hc 54 6 + 1) (kf : fI h1 54 7 = fI hc 54 7) (m : CMx S F 1 o h1 h2) (e1 : fI h3 54 6 = fI h2 54 6) (e2 : fI h3 54 7 = fI h2 54 7) : CL S F 0 3 o h h3 := by
  refine ⟨fun g => ?_, fun g => ?_⟩
  · have := c.1 g
    omega
  · rcases c.2 g with ⟨i, p, f1, f2⟩ | ⟨f1, k⟩
    · omega
    · have m2 := m.2 (by omega)
      rw [ka] at m2
      rcases m2 with ⟨b, p, g1, g2⟩ | ⟨i, p, g1, g2⟩
      · refine Or.inr ⟨by omega, fun r hr => k r (P3_ok hs p ?_)⟩
        rw [e1, g2] at hr
        exact hr
      · exact Or.inl ⟨i, k _ (P3_no hs p), by omega, g2⟩
theorem CL_s1 (c : CL S F 1 4 o h hc) (hn : fI hc 54 7 < 0) (hs : S (fI hc 54 6) = 1042 ∨ S (fI hc 54 6) = 1047) (ka : fI h1 54 6 = fI hc 54 6 + 1) (kf : fI h1 54 7 = fI hc 54 7) (m : CMx S F 2 o h1 h2) (e1 : fI h3 54 6 = fI h2 54 6) (e2 : fI h3 54 7 = fI h2 54 7) : CL S F 1 4 o h h3 := by
  refine ⟨fun g => ?_, fun g => ?_⟩
  · have := c.1 g
    omega
  · rcases c.2 g with ⟨i, p, f1, f2⟩ | ⟨f1, k⟩
    · omega
    · have m2 := m.2 (by omega)
      rw [ka] at m2
      rcases m2 with ⟨b, p, g1, g2⟩ | ⟨i, p, g1, g2⟩
      · refine Or.inr ⟨by omega, fun r hr => k r (P4_ok hs p ?_)⟩
        rw [e1, g2] at hr
        exact hr
      · exact Or.inl ⟨i, k _ (P4_no hs p), by omega, g2⟩
/-! a step -/
theorem CM_s0 (hq : 0 ≤ fI h 54 7 ∨ S (fI h 54 6) ≠ 14) (ka : fI h1 54 6 = fI h 54 6) (kf : fI h1 54 7 = fI h 54 7) (c : CMx S F 0 0 h1 h2) (e1 : fI h3 54 6 = fI h2 54 6) (e2 : fI h3 54 7 = fI h2 54 7) : CMx S F 5 0 h h3 := by
  refine ⟨fun g => ?_, fun g => ?_⟩
  · have := c.1 (by omega)
    omega
  · have c2 := c.2 (by omega)
    rw [ka] at c2
    rcases c2 with ⟨b, p, f1, f2⟩ | ⟨i, p, f1, f2⟩
    · exact Or.inl ⟨b, P5_n (hq.resolve_left (by omega)) p, by omega, by omega⟩
    · exact Or.inr ⟨i, P5_n (hq.resolve_left (by omega)) p, by omega, f2⟩
/-- behind from: a number, then to and a number -/
theorem CM_s1 (hI : TB S F h) (b0 : 0 ≤ fI h 54 6) (hf : fI h 54 7 < 0) (hs : S (fI h 54 6) = 14) (ka : fI h1 54 6 = fI h 54 6 + 1) (kf : fI h1 54 7 = fI h 54 7) (n1 : ND S F 100 h1 h2) (g2 : fI h2 54 7 < 0) (t : S (fI h2 54 6) = 16) (ka3 : fI h3 54 6 = fI h2 54 6 + 1) (kf3 : fI h3 54 7 = fI h2 54 7) (n2 : ND S F 100 h3 h4) (ka5 : fI h5 54 6 = fI h4 54 6) (kf5 : fI h5 54 7 = fI h4 54 7) (c : CMx S F 0 0 h5 h6) (e1 : fI h7 54 6 = fI h6 54 6) (e2 : fI h7 54 7 = fI h6 54 7) : CMx S F 5 0 h h7 := by
  refine ⟨fun g => by omega, fun _ => ?_⟩
  have z1 := (hI (fI h 54 6 + 1) (by omega)).1
  rcases n1 with ⟨d1, d2, d3⟩ | ⟨d1, d2, d3⟩
  · rw [ka] at d1 d2
    rw [show fI h2 54 6 = fI h 54 6 + 1 + 1 by omega] at t
    have z3 := (hI (fI h 54 6 + 1 + 1 + 1) (by omega)).1
    rcases n2 with ⟨k1, k2, k3⟩ | ⟨k1, k2, k3⟩
    · rw [show fI h3 54 6 = fI h 54 6 + 1 + 1 + 1 by omega] at k1
      have c2 := c.2 (by omega)
      rw [show fI h5 54 6 = fI h 54 6 + 1 + 1 + 1 + 1 by omega] at c2
      rcases c2 with ⟨b, p, f1, f2⟩ | ⟨i, p, f1, f2⟩
      · exact Or.inl ⟨b, P5_to hs d1 t k1 p, by omega, by omega⟩
      · exact Or.inr ⟨i, P5_to hs d1 t k1 p, by omega, f2⟩
    · rw [show fI h3 54 6 = fI h 54 6 + 1 + 1 + 1 by omega] at k1 k3
      have c2 := c.1 (by omega)
      exact Or.inr ⟨_, P5_3 hs d1 t k1, by omega, z3⟩
  · rw [ka] at d1 d3
    omega
/-- behind from: a number, then up -/
theorem CM_s2 (hI : TB S F h) (b0 : 0 ≤ fI h 54 6) (hf : fI h 54 7 < 0) (hs : S (fI h 54 6) = 14) (ka : fI h1 54 6 = fI h 54 6 + 1) (kf : fI h1 54 7 = fI h 54 7) (n1 : ND S F 100 h1 h2) (t : 0 ≤ fI h2 54 7 ∨ S (fI h2 54 6) ≠ 16) (ka3 : fI h3 54 6 = fI h2 54 6) (kf3 : fI h3 54 7 = fI h2 54 7) (n2 : ND S F 15 h3 h4) (ka5 : fI h5 54 6 = fI h4 54 6) (kf5 : fI h5 54 7 = fI h4 54 7) (c : CMx S F 0 0 h5 h6) (e1 : fI h7 54 6 = fI h6 54 6) (e2 : fI h7 54 7 = fI h6 54 7) : CMx S F 5 0 h h7 := by
  refine ⟨fun g => by omega, fun _ => ?_⟩
  have z1 := (hI (fI h 54 6 + 1) (by omega)).1
  have z2 := (hI (fI h 54 6 + 1 + 1) (by omega)).1
  rcases n1 with ⟨d1, d2, d3⟩ | ⟨d1, d2, d3⟩
  · rw [ka] at d1 d2
    rw [show fI h2 54 6 = fI h 54 6 + 1 + 1 by omega] at t
    have t2 := t.resolve_left (by omega)
    rcases n2 with ⟨k1, k2, k3⟩ | ⟨k1, k2, k3⟩
    · rw [show fI h3 54 6 = fI h 54 6 + 1 + 1 by omega] at k1
      have c2 := c.2 (by omega)
      rw [show fI h5 54 6 = fI h 54 6 + 1 + 1 + 1 by omega] at c2
      rcases c2 with ⟨b, p, f1, f2⟩ | ⟨i, p, f1, f2⟩
      · exact Or.inl ⟨b, P5_up hs d1 k1 p, by omega, by omega⟩
      · exact Or.inr ⟨i, P5_up hs d1 k1 p, by omega, f2⟩
    · rw [show fI h3 54 6 = fI h 54 6 + 1 + 1 by omega] at k1 k3
      have c2 := c.1 (by omega)
      exact Or.inr ⟨_, P5_2 hs d1 t2 k1, by omega, z2⟩
  · rw [ka] at d1 d3
    have k4 : fI h4 54 7 = fI h3 54 7 := by
      rcases n2 with ⟨k1, k2, k3⟩ | ⟨k1, k2, k3⟩ <;> omega
    have c2 := c.1 (by omega)
    exact Or.inr ⟨_, P5_1 hs d1, by omega, z1⟩
/-! all steps -/
theorem CI_0 (ha : fI hc 54 6 = 0) (hf : fI hc 54 7 = -1) : CI S F hc 1 := Or.inr ⟨hf, Or.inl ⟨rfl, fun r hr => by rw [ha] at hr; exact hr⟩⟩
theorem CI_s1 (hI : CI S F hc x) (hx : x ≠ 0) (c : CMx S F 5 0 hc h1) (hf : fI h1 54 7 < 0) (hs : S (fI h1 54 6) = 1059) (ka : fI h2 54 6 = fI h1 54 6 + 1) (kf : fI h2 54 7 = fI h1 54 7) : CI S F h2 1 := by
  rcases hI with ⟨i, p, e1, e2⟩ | ⟨e1, k⟩
  · have := c.1 (by omega)
    omega
  · rcases k with ⟨-, k⟩ | ⟨k, -⟩
    · rcases c.2 (by omega) with ⟨b, p, f1, f2⟩ | ⟨i, p, f1, f2⟩
      · refine Or.inr ⟨by omega, Or.inl ⟨rfl, fun r hr => k r (P6_more p (by rw [← f2]; exact hs) ?_)⟩⟩
        rw [show fI h2 54 6 = b + 1 by omega] at hr
        exact hr
      · omega
    · exact absurd k hx
theorem CI_s0 (hI : CI S F hc x) (hx : x ≠ 0) (c : CMx S F 5 0 hc h1) (hs : 0 ≤ fI h1 54 7 ∨ S (fI h1 54 6) ≠ 1059) (ka : fI h2 54 6 = fI h1 54 6) (kf : fI h2 54 7 = fI h1 54 7) : CI S F h2 0 := by
  rcases hI with ⟨i, p, e1, e2⟩ | ⟨e1, k⟩
  · have := c.1 (by omega)
    exact Or.inl ⟨i, p, by omega, e2⟩
  · rcases k with ⟨-, k⟩ | ⟨k, -⟩
    · rcases c.2 (by omega) with ⟨b, p, f1, f2⟩ | ⟨i, p, f1, f2⟩
      · have hs2 := hs.resolve_left (by omega)
        rw [f2] at hs2
        refine Or.inr ⟨by omega, Or.inr ⟨rfl, by rw [ka, f2]; exact hs2, fun g => ?_, fun g => ?_⟩⟩
        · rw [ka, f2] at g
          exact ⟨b, k _ (P6_end p g)⟩
        · rw [ka, f2] at g ⊢
          exact k _ (P6_bad p hs2 g)
      · exact Or.inl ⟨i, k _ (P6_no p), by omega, f2⟩
    · exact absurd k hx
theorem CI_end {z : Int} (hI : CI (cS T n) (cF T n) hc x) (hb : TB (cS T n) (cF T n) hc) (b0 : 0 ≤ fI hc 54 6) (hx : x = 0 ∨ 0 ≤ fI hc 54 7) (hz : (cS T n (fI hc 54 6) = 101 ∧ z = fI hc 54 7) ∨ (cS T n (fI hc 54 6) ≠ 101 ∧ ((0 ≤ fI hc 54 7 ∧ z = fI hc 54 7) ∨ (fI hc 54 7 < 0 ∧ z = cF T n (fI hc 54 6))))) : CP T n z := by
  have f0 := (hb _ b0).1
  rcases hI with ⟨i, p, e1, e2⟩ | ⟨e1, k⟩
  · exact Or.inr ⟨i, p, by omega, by omega⟩
  · rcases k with ⟨k, -⟩ | ⟨-, k1, k2, k3⟩
    · omega
    · rcases hz with ⟨g1, g2⟩ | ⟨g1, g2⟩
      · obtain ⟨b, p⟩ := k2 g1
        exact Or.inl ⟨b, p, by omega⟩
      · exact Or.inr ⟨_, k3 g1, by omega, by omega⟩
/-! cutting -/
theorem RunI_1 {P : Int → Prop} (hp : P p) : RunI P p (p + 1) := fun j a b => by
  rw [show j = p by omega]; exact hp
theorem RunI_s {P : Int → Prop} (hr : RunI P p q) (hq : P q) : RunI P p (q + 1) := fun j a b => by
  by_cases e : j = q
  · rw [e]; exact hq
  · exact hr j a (by omega)
theorem CT_0 (hn : 0 ≤ n) (h5 : fI hc 54 5 = 0) : CTi T n hc 0 := ⟨by omega, fun i a b => by omega, by rw [h5]; exact Int.le_refl _, hn, fun j a b => by
  rw [h5] at a
  have : cP T n 0 = 0 := rfl
  omega⟩
theorem CT_blank (hI : CTi T n hc p) (hb : T p = 32) (hp : p < n) : CTi T n hc (p + 1) := by
  obtain ⟨c0, c1, c2, c3, c4⟩ := hI
  refine ⟨c0, c1, by omega, by omega, fun j a b => ?_⟩
  by_cases e : j = p
  · rw [e]; exact hb
  · exact c4 j a (by omega)
/-- a piece more -/
theorem CT_add (hs : ∀ i : Int, 0 ≤ T i) (hI : CTi T n hc p) (hn : 0 ≤ n) (hb : T p ≠ 32) (h2 : fI hc 54 5 ≤ 200) (hp : p < n) (ht : (isL (T p) ∧ Run1 (fun i => isL (T i)) n p e ∧ WS T p e s) ∨ (isD (T p) ∧ Run1 (fun i => isD (T i)) n p e ∧ ((6 < e - p ∧ s = 102) ∨ (e - p ≤ 6 ∧ s = 100))) ∨ (¬ isL (T p) ∧ ¬ isD (T p) ∧ e = p + 1 ∧ s = 1000 + T p)) (hA : PAT hc h1 s p) : CTi T n h1 e := by
  obtain ⟨c0, c1, c2, c3, c4⟩ := hI
  obtain ⟨a1, a2, a3⟩ := hA h2
  have tk : Tok T n (cP T n (fI hc 54 5)) p e s := by
    refine ⟨⟨c2, c3, c4, Or.inr hb⟩, Or.inr ?_⟩
    rcases ht with ⟨t1, t2, t3⟩ | ⟨t1, t2, t3⟩ | ⟨t1, t2, t3, t4⟩
    · exact Or.inl ⟨hp, t1, t2, t3⟩
    · exact Or.inr (Or.inl ⟨hp, t1, t2, t3⟩)
    · exact Or.inr (Or.inr ⟨hp, t1, t2, t3, t4⟩)
  have st := ST_c T hn hs
  obtain ⟨k1, k2, k3⟩ := ST_tok st c0 tk
  have hs2 : s ≠ 101 := by
    rcases ht with ⟨t1, t2, t3⟩ | ⟨t1, t2, t3⟩ | ⟨t1, t2, t3, t4⟩
    · rcases t3 with ⟨k, k0, k1, -⟩ | ⟨k1, -⟩ <;> omega
    · omega
    · have := hs p
      omega
  have bd := Tok_bd tk
  refine ⟨by omega, fun i i0 i1 => ?_, ?_, by omega, fun j j0 j1 => ?_⟩
  · rw [a2 i i0, a3 i i0]
    by_cases ei : i = fI hc 54 5
    · rw [if_pos ei, if_pos ei, ei]
      exact ⟨k3.symm, k1.symm, by rw [k3]; exact hs2⟩
    · rw [if_neg ei, if_neg ei]
      exact c1 i i0 (by omega)
  · rw [a1, k2]
    exact Int.le_refl _
  · rw [a1, k2] at j0
    omega
theorem CT_end (hs : ∀ i : Int, 0 ≤ T i) (hI : CTi T n hc p) (hn : 0 ≤ n) (hp : n ≤ p) (h2 : fI hc 54 5 ≤ 200) (hA : PAT hc h1 101 n) (hl : fI h1 54 1 = n) : TB (cS T n) (cF T n) h1 := by
  obtain ⟨c0, c1, c2, c3, c4⟩ := hI
  obtain ⟨a1, a2, a3⟩ := hA h2
  have st := ST_c T hn hs
  have ep : p = n := by omega
  subst ep
  have tk : Tok T p (cP T p (fI hc 54 5)) p p 101 := ⟨⟨c2, c3, c4, Or.inl rfl⟩, Or.inl ⟨rfl, rfl, rfl⟩⟩
  obtain ⟨k1, k2, k3⟩ := ST_tok st c0 tk
  intro a ha
  refine ⟨(ST_F st ha).1, ?_⟩
  by_cases e : a < fI h1 54 5
  · refine Or.inl ⟨e, ?_⟩
    rw [a2 a ha, a3 a ha]
    by_cases ea : a = fI hc 54 5
    · rw [if_pos ea, if_pos ea, ea]
      exact ⟨k3, k1⟩
    · rw [if_neg ea, if_neg ea]
      have := c1 a ha (by omega)
      exact ⟨this.1.symm, this.2.1.symm⟩
  · have g := ST_ge st c0 k3 (b := a) (by omega)
    exact Or.inr ⟨by omega, g.1, by rw [hl]; exact g.2⟩
end CLS
