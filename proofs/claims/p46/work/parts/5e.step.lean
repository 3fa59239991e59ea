/-! A CALL ON BOTH: what they hold alike stands again, and they answer alike -/
section STP
variable {τ σ : List Nat} {h h' h0 h1 h2 : List mE} {W W1 W2 : List (Nat × Nat)} {E E1 E2 : EP} {a b m o p t z1 z2 : Int}
theorem S_rain (hR : IA h) (f1 : Same 68 h h1) (f2 : Same 5 h1 h2) (p1 : PRain 5 h h1 a b z1) (p2 : PRain 68 h1 h2 a b z2) : IA h2 ∧ z1 = z2 := by
  rcases p1 with ⟨c1, e1, s1⟩ | ⟨c1, c2, c3, c4, e1, s1⟩
  · rcases p2 with ⟨d1, e2, s2⟩ | ⟨d1, d2, d3, d4, e2, s2⟩
    · exact ⟨fun i i0 i1 => by rw [f2 i, s1 i, s2 i, f1 i]; exact hR i i0 i1, by omega⟩
    · omega
  · rcases p2 with ⟨d1, e2, s2⟩ | ⟨d1, d2, d3, d4, e2, s2⟩
    · omega
    · exact ⟨fun i i0 i1 => by rw [f2 i, s1 i i0, s2 i i0, f1 i, hR i i0 i1], by rw [e1, e2, f1 a]; exact hR a c1 (by omega)⟩
theorem S_town (hR : IB h) (f1 : Same 65 h h1) (f2 : Same 7 h1 h2) (hn : fI h 6 3 = fI h1 64 2) (p1 : PTown 7 6 3 h h1 p) (p2 : PTown 65 64 2 h1 h2 p) : IB h2 := by
  rcases p1 with ⟨c1, s1⟩ | ⟨c1, c2, c3, s1⟩ | ⟨c1, c2, c3, s1⟩
  · rcases p2 with ⟨d1, s2⟩ | ⟨d1, d2, d3, s2⟩ | ⟨d1, d2, d3, s2⟩
    · exact fun i i0 i1 => by rw [f2 i, s1 i, s2 i, f1 i]; exact hR i i0 i1
    · omega
    · omega
  · rcases p2 with ⟨d1, s2⟩ | ⟨d1, d2, d3, s2⟩ | ⟨d1, d2, d3, s2⟩
    · omega
    · exact fun i i0 i1 => by rw [f2 i, s1 i, s2 i, f1 i]; exact hR i i0 i1
    · omega
  · rcases p2 with ⟨d1, s2⟩ | ⟨d1, d2, d3, s2⟩ | ⟨d1, d2, d3, s2⟩
    · omega
    · omega
    · exact fun i i0 i1 => by rw [f2 i, s1 i i0, s2 i i0, f1 i, hR i i0 i1, hn]
set_option maxHeartbeats 0 in
theorem S_road (hR : IC h) (hT : TH E τ h) (hT1 : TH E1 τ h1) (hb : fI h 6 3 ≤ 12) (hn : fI h 6 3 = fI h1 64 2) (F1 : Fr τ W1 h h1) (w1 : avd W1 [(21, 0), (44, 0)] = true) (F2 : Fr τ W2 h1 h2) (w2 : avd W2 [(21, 0), (122, 0)] = true) (p1 : PRdC τ h h1 a b m z1) (p2 : PRdR h1 h2 a b m z2) : IC h2 ∧ z1 = z2 := by
  have f1 : Same 66 h h1 := fun i => Fr_aI F1 (tf (q := 66) (t := 44) hT rfl rfl) (avd_of w1 (by decide)) i
  have g1 : ∀ x : Int, aR h1 8 x = aR h 8 x := fun x => Fr_aR F1 (tf (q := 8) (t := 21) hT rfl rfl) (avd_of w1 (by decide)) x
  have g2 : ∀ x : Int, aR h2 8 x = aR h1 8 x := fun x => Fr_aR F2 (tf (q := 8) (t := 21) hT1 rfl rfl) (avd_of w2 (by decide)) x
  have f2 : ∀ x y : Int, 0 ≤ x → x < 12 → aI h2 (9 + x.toNat) y = aI h1 (9 + x.toNat) y := fun x y x0 x1 => Fr_aI F2 (tld_ty hT1 x0 x1) (avd_of w2 (by decide)) y
  have r1 : ∀ x : Int, 0 ≤ x → x < 12 → aR h2 8 x = some (9 + x.toNat) := fun x x0 x1 => by rw [g2, g1]; exact hR.1 x x0 x1
  rcases p1 with ⟨c1, e1, rfl⟩ | ⟨c1, c2, c3, c4, c5, c6, c7, p1⟩
  · rcases p2 with ⟨d1, e2, s2, -⟩ | ⟨d1, d2, d3, d4, d5, d6, d7, d8, s2, -⟩
    · refine ⟨⟨r1, fun x y x0 x1 y0 y1 => ?_⟩, by omega⟩
      rw [f2 x y x0 x1, s2 _, s2 _]
      exact hR.2 x y x0 x1 y0 y1
    · omega
  · rcases p2 with ⟨d1, e2, s2, -⟩ | ⟨d1, d2, d3, d4, d5, d6, d7, d8, s2, -⟩
    · omega
    · rcases p1 with ⟨k1, -, -⟩ | ⟨-, -, -, -, ra, rb, ea, eb, p1⟩
      · omega
      · have ea2 : ra = 9 + a.toNat := by
          have := (hR.1 a c1 (by omega)).symm.trans ea
          cases this
          rfl
        have eb2 : rb = 9 + b.toNat := by
          have := (hR.1 b c3 (by omega)).symm.trans eb
          cases this
          rfl
        subst ea2
        subst eb2
        have t0 := hR.2 a b c1 (by omega) c3 (by omega)
        have u0 := f1 (12 * a + b)
        rcases p1 with ⟨k1, k2, k3, rfl⟩ | ⟨k1, k2, k3, k4, hu, hv, hF, -⟩
        · have ez : z1 = z2 := by omega
          refine ⟨⟨r1, fun x y x0 x1 y0 y1 => ?_⟩, ez⟩
          have t1 := hR.2 x y x0 x1 y0 y1
          have q1 : ∀ i : Int, 0 ≤ i → aI h2 66 i = aI h1 66 i := fun i i0 => by
            rw [s2 i i0]
            split
            · rename_i e
              rw [e, ← t0.2, ← t0.1]; omega
            · split
              · rename_i e
                rw [e, ← t0.1]; omega
              · rfl
          rw [f2 x y x0 x1, q1 (12 * x + y) (by omega), q1 (12 * y + x) (by omega)]
          exact t1
        · have ez : z1 = z2 := by omega
          refine ⟨⟨r1, fun x y x0 x1 y0 y1 => ?_⟩, ez⟩
          have t1 := hR.2 x y x0 x1 y0 y1
          have tb := tld_ty hT c3 (show b < 12 by omega)
          have ta := tld_ty hT c1 (show a < 12 by omega)
          have tx := tld_ty hT x0 x1
          have mr : -2147483648 ≤ m ∧ m ≤ 2147483647 := by omega
          have v2 : aI h1 (9 + x.toNat) y = aI k4 (9 + x.toNat) y := Fr_aI hF tx rfl y
          have v3 : aI k4 (9 + x.toNat) y = if x = b ∧ y = a then m else aI k3 (9 + x.toNat) y := by
            by_cases e : x = b
            · subst e
              rw [AUp_aI hv mr.1 mr.2 c1 y0]
              by_cases e2 : y = a
              · rw [if_pos e2, if_pos ⟨rfl, e2⟩]
              · rw [if_neg e2, if_neg (fun z => e2 z.2)]
            · rw [AUp_aIne (q' := 9 + x.toNat) hv (by omega), if_neg (fun z => e z.1)]
          have v4 : aI k3 (9 + x.toNat) y = if x = a ∧ y = b then m else aI h (9 + x.toNat) y := by
            by_cases e : x = a
            · subst e
              rw [AUp_aI hu mr.1 mr.2 c3 y0]
              by_cases e2 : y = b
              · rw [if_pos e2, if_pos ⟨rfl, e2⟩]
              · rw [if_neg e2, if_neg (fun z => e2 z.2)]
            · rw [AUp_aIne (q' := 9 + x.toNat) hu (by omega), if_neg (fun z => e z.1)]
          have w1 : aI h2 66 (12 * x + y) = if x = b ∧ y = a then m else if x = a ∧ y = b then m else aI h 66 (12 * x + y) := by
            rw [s2 (12 * x + y) (by omega), f1 _, ← ez, k2]
            repeat' split
            all_goals omega
          have w2 : aI h2 66 (12 * y + x) = if x = b ∧ y = a then m else if x = a ∧ y = b then m else aI h 66 (12 * y + x) := by
            rw [s2 (12 * y + x) (by omega), f1 _, ← ez, k2]
            repeat' split
            all_goals omega
          rw [f2 x y x0 x1, v2, v3, v4, w1, w2, t1.1, t1.2]
          exact ⟨rfl, rfl⟩
set_option maxHeartbeats 0 in
theorem S_road4 (hI : ID h) (hR : IC h) (hT : TH E τ h) (hT1 : TH E1 τ h1) (hn : fI h 6 3 = fI h1 64 2) (F1 : Fr τ W1 h h1) (w1 : avd W1 [(2, 3), (8, 2), (22, 0), (44, 0), (45, 0)] = true) (F2 : Fr τ W2 h1 h2) (w2 : avd W2 [(2, 3), (8, 2), (22, 0), (123, 0)] = true) (p1 : PRdC τ h h1 a b m z1) (p2 : PRdR h1 h2 a b m z2) (ez : z1 = z2) : ID h2 := by
  obtain ⟨a1, a2, a3, a4, a5, a6⟩ := hI
  have bn := n_le hT
  have n1 : fI h1 6 3 = fI h 6 3 := Fr_fI F1 (tf (q := 6) (t := 2) hT rfl rfl) (avd_of w1 (by decide))
  have n2 : fI h2 6 3 = fI h1 6 3 := Fr_fI F2 (tf (q := 6) (t := 2) hT1 rfl rfl) (avd_of w2 (by decide))
  have n3 : fI h1 64 2 = fI h 64 2 := Fr_fI F1 (tf (q := 64) (t := 8) hT rfl rfl) (avd_of w1 (by decide))
  have n4 : fI h2 64 2 = fI h1 64 2 := Fr_fI F2 (tf (q := 64) (t := 8) hT1 rfl rfl) (avd_of w2 (by decide))
  have r1 : ∀ x : Int, aR h1 21 x = aR h 21 x := fun x => Fr_aR F1 (tf (q := 21) (t := 22) hT rfl rfl) (avd_of w1 (by decide)) x
  have r2 : ∀ x : Int, aR h2 21 x = aR h1 21 x := fun x => Fr_aR F2 (tf (q := 21) (t := 22) hT1 rfl rfl) (avd_of w2 (by decide)) x
  have l2 : ∀ x y : Int, 0 ≤ x → x < 12 → aI h2 (22 + x.toNat) y = aI h1 (22 + x.toNat) y := fun x y x0 x1 => Fr_aI F2 (lst_ty hT1 x0 x1) (avd_of w2 (by decide)) y
  have s66 : Same 66 h h1 := fun i => Fr_aI F1 (tf (q := 66) (t := 44) hT rfl rfl) (avd_of w1 (by decide)) i
  have s67 : Same 67 h h1 := fun i => Fr_aI F1 (tf (q := 67) (t := 45) hT rfl rfl) (avd_of w1 (by decide)) i
  have rw2 : RW h2 := fun x x0 x1 => by rw [r2, r1]; exact a1 x x0 x1
  rcases p1 with ⟨c1, e1, rfl⟩ | ⟨c1, c2, c3, c4, c5, c6, c7, p1⟩
  · rcases p2 with ⟨d1, e2, t66, t67⟩ | ⟨d1, d2, d3, d4, d5, d6, d7, d8, s2, sp⟩
    · refine ⟨rw2, ?_, ?_, fun x y x0 x1 y0 y1 hh => (t66 _).trans (a4 x y x0 x1 y0 y1 (by omega)), fun x x0 x1 => by rw [l2 x x x0 x1]; exact a5 x x0 x1, fun x y x0 x1 y0 y1 => by rw [l2 x y x0 x1]; exact a6 x y x0 x1 y0 y1⟩
      · rw [n2]
        exact Sp_cf (Sp_cg a2 (fun x y _ _ _ _ => t66 _)) (fun x y x0 x1 y0 y1 => by unfold cf; rw [l2 x y x0 (by omega)])
      · rw [n4]
        exact Sp_cf (Sp_cg a3 (fun x y _ _ _ _ => t66 _)) (fun x y _ _ _ _ => t67 _)
    · omega
  · rcases p2 with ⟨d1, e2, t66, t67⟩ | ⟨d1, d2, d3, d4, d5, d6, d7, d8, s2, sp⟩
    · omega
    · rcases p1 with ⟨k1, -, -⟩ | ⟨-, -, -, -, ra, rb, ea, eb, p1⟩
      · omega
      · have ea2 : ra = 9 + a.toNat := by
          cases (hR.1 a c1 (by omega)).symm.trans ea
          rfl
        subst ea2
        have t0 := hR.2 a b c1 (by omega) c3 (by omega)
        have u0 := s66 (12 * a + b)
        have ew : ∀ x y : Int, 0 ≤ x → x < 12 → 0 ≤ y → y < 12 → wf h2 x y = if (x = a ∧ y = b) ∨ (x = b ∧ y = a) then z1 else wf h x y := fun x y x0 x1 y0 y1 => by
          unfold wf
          rw [s2 (12 * x + y) (by omega), s66 _, ez]
          repeat' split
          all_goals omega
        have z4 : ∀ x y : Int, 0 ≤ x → x < 12 → 0 ≤ y → y < 12 → fI h2 6 3 ≤ x ∨ fI h2 6 3 ≤ y → wf h2 x y = 0 := fun x y x0 x1 y0 y1 hh => by
          rw [ew x y x0 x1 y0 y1, if_neg (by omega)]
          exact a4 x y x0 x1 y0 y1 (by omega)
        rcases p1 with ⟨k1, k2, k3, rfl⟩ | ⟨k1, k2, k3, k4, hu, hv, hF, hL⟩
        · have ew2 : ∀ x y : Int, 0 ≤ x → x < 12 → 0 ≤ y → y < 12 → wf h2 x y = wf h1 x y := fun x y x0 x1 y0 y1 => by
            rw [ew x y x0 x1 y0 y1]
            split
            · rename_i c
              unfold wf
              rcases c with ⟨rfl, rfl⟩ | ⟨rfl, rfl⟩
              · omega
              · omega
            · rfl
          refine ⟨rw2, ?_, sp, z4, fun x x0 x1 => by rw [l2 x x x0 x1]; exact a5 x x0 x1, fun x y x0 x1 y0 y1 => by rw [l2 x y x0 x1]; exact a6 x y x0 x1 y0 y1⟩
          rw [n2]
          exact Sp_cf (Sp_cg a2 (fun x y x0 x1 y0 y1 => ew2 x y x0 (by omega) y0 (by omega))) (fun x y x0 x1 y0 y1 => by unfold cf; rw [l2 x y x0 (by omega)])
        · obtain ⟨L1, L2, L3, L4⟩ := hL
          have spn : Sp (fI h2 6 3) (wf h2) (cf h2) := by
            rw [n2, n1]
            refine Sp_cf (Sp_lay (w := wf h) a2 c1 c2 c3 c4 ⟨c6, c7⟩ ?_ ?_ (fun x y x0 x1 y0 y1 => ?_)) (fun x y x0 x1 y0 y1 => ?_)
            · unfold wf; omega
            · unfold wf; omega
            · rw [ew x y x0 (by omega) y0 (by omega), k2]
            · have k := L2 x y x0 x1 y0 y1
              rw [if_pos (show x < fI h 6 3 ∨ (x = fI h 6 3 ∧ y < 0) by omega)] at k
              rw [← k]
              unfold cf
              rw [l2 x y x0 (by omega)]
          refine ⟨rw2, spn, sp, z4, fun x x0 x1 => ?_, fun x y x0 x1 y0 y1 => by rw [l2 x y x0 x1]; exact L4 x y x0 x1 y0 y1⟩
          by_cases e : x < fI h 6 3
          · have k := spn.1.1 x x0 (by omega)
            unfold cf at k
            split at k
            · omega
            · exact k
          · rw [l2 x x x0 x1, L3 x x x0 x1 x0 x1 (Or.inl (by omega))]
            exact a5 x x0 x1
/-! kinds' and machines' own rows -/
def VE (h h' : List mE) : Prop := (∀ t j : Int, 0 ≤ t → t < 15 → vw h' 34 1 t j = vw h 34 1 t j) ∧ (∀ t j : Int, 0 ≤ t → t < 15 → vw h' 34 2 t j = vw h 34 2 t j) ∧ (∀ m : Int, 0 ≤ m → m < 90 → lkn h' m = lkn h m) ∧ (∀ m j : Int, 0 ≤ m → m < 90 → vw h' 35 1 m j = vw h 35 1 m j) ∧ (∀ m j : Int, 0 ≤ m → m < 90 → vw h' 35 2 m j = vw h 35 2 m j)
theorem VE_fr (hO : OW h) (hT : TH E τ h) (hF : Fr τ W h h') (hw : avd W [(15, 0), (16, 0), (10, 15), (112, 0), (113, 0), (114, 0), (115, 0)] = true) : VE h h' :=
  ⟨fun t j a0 a1 => vk_fr (u := 112) hO hT hF (avd_of hw (by decide)) (avd_of hw (by decide)) (Or.inl ⟨rfl, rfl⟩) a0 a1 j,
   fun t j a0 a1 => vk_fr (u := 113) hO hT hF (avd_of hw (by decide)) (avd_of hw (by decide)) (Or.inr ⟨rfl, rfl⟩) a0 a1 j,
   fun m a0 a1 => ln_fr hO hT hF (avd_of hw (by decide)) (avd_of hw (by decide)) a0 a1,
   fun t j a0 a1 => vm_fr (u := 114) hO hT hF (avd_of hw (by decide)) (avd_of hw (by decide)) (Or.inl ⟨rfl, rfl⟩) a0 a1 j,
   fun t j a0 a1 => vm_fr (u := 115) hO hT hF (avd_of hw (by decide)) (avd_of hw (by decide)) (Or.inr ⟨rfl, rfl⟩) a0 a1 j⟩
theorem OW_A {q : Nat} {i x : Int} (hO : OW h) (hu : AUp h q i x h1) : OW h1 := by
  refine ⟨fun t r a0 a1 e => ?_, fun t r a0 a1 e => ?_⟩
  · rw [AUp_aR hu] at e
    rw [AUp_fI hu, AUp_fR hu, AUp_fR hu]
    exact hO.1 t r a0 a1 e
  · rw [AUp_aR hu] at e
    rw [AUp_fI hu, AUp_fR hu, AUp_fR hu]
    exact hO.2 t r a0 a1 e
theorem vA_ne {q o rc : Nat} {i x t j : Int} (hu : AUp h rc i x h1) (hne : ∀ r : Nat, aR h q t = some r → r + o ≠ rc) : vw h1 q o t j = vw h q o t j := by
  unfold vw
  rw [AUp_aR hu]
  cases e : aR h q t with
  | none => rfl
  | some r => exact AUp_aIne hu (hne r e) j
theorem vA_eq {q o r : Nat} {i x t j : Int} (hu : AUp h (r + o) i x h1) (e : aR h q t = some r) (hx : -2147483648 ≤ x ∧ x ≤ 2147483647) (hi : 0 ≤ i) (hj : 0 ≤ j) : vw h1 q o t j = if j = i then x else vw h q o t j := by
  unfold vw
  rw [AUp_aR hu, e]
  exact AUp_aI hu hx.1 hx.2 hi hj
theorem lA {q : Nat} {i x t : Int} (hu : AUp h q i x h1) : lkn h1 t = lkn h t := by
  unfold lkn
  rw [AUp_aR hu]
  cases e : aR h 35 t with
  | none => rfl
  | some r => exact AUp_fI hu
theorem ty_ne {q r u v : Nat} (h1 : ty τ q u) (h2 : ty τ r v) (hn : u ≠ v) : q ≠ r := fun e => by
  subst e
  exact hn (ty_1 h1 h2)
theorem I9_of (hO : OW h2) (hV : VE h h2) (hI : I9 h) (s1 : Same 74 h h2) (s2 : Same 75 h h2) (s3 : Same 89 h h2) (s4 : Same 90 h h2) (s5 : Same 91 h h2) : I9 h2 := by
  obtain ⟨-, hG, hC, hL⟩ := hI
  obtain ⟨v1, v2, v3, v4, v5⟩ := hV
  refine ⟨hO, fun t j a0 a1 b0 b1 => ?_, fun t j a0 a1 b0 b1 => ?_, fun m a0 a1 => ?_⟩
  · rw [v2 t j a0 a1, s1 _]; exact hG t j a0 a1 b0 b1
  · rw [v1 t j a0 a1, s2 _]; exact hC t j a0 a1 b0 b1
  · rw [v3 m a0 a1, s3 _]
    refine ⟨(hL m a0 a1).1, fun k b0 b1 => ?_⟩
    rw [v4 m k a0 a1, v5 m k a0 a1, s4 _, s5 _]
    exact (hL m a0 a1).2 k b0 b1
theorem VE_rf : VE h h := ⟨fun _ _ _ _ => rfl, fun _ _ _ _ => rfl, fun _ _ _ => rfl, fun _ _ _ _ => rfl, fun _ _ _ _ => rfl⟩
theorem S_go (hI : I9 h) (hT : TH E τ h) (hT1 : TH E1 τ h1) (hk : fI h 4 5 ≤ 15) (hn : fI h 4 5 = fI h1 64 7) (F2 : Fr τ W2 h1 h2) (w2 : avd W2 [(15, 0), (16, 0), (9, 0), (9, 6), (9, 7), (10, 0), (10, 13), (10, 14), (10, 15), (112, 0), (113, 0), (114, 0), (115, 0), (53, 0), (67, 0), (68, 0), (69, 0)] = true) (p1 : PGoC h h1 t o b z1) (p2 : PGoR h1 h2 t o b z2) : I9 h2 ∧ z1 = z2 := by
  have s2 : Same 75 h1 h2 := fun i => Fr_aI F2 (tf (q := 75) (t := 53) hT1 rfl rfl) (avd_of w2 (by decide)) i
  have s3 : Same 89 h1 h2 := fun i => Fr_aI F2 (tf (q := 89) (t := 67) hT1 rfl rfl) (avd_of w2 (by decide)) i
  have s4 : Same 90 h1 h2 := fun i => Fr_aI F2 (tf (q := 90) (t := 68) hT1 rfl rfl) (avd_of w2 (by decide)) i
  have s5 : Same 91 h1 h2 := fun i => Fr_aI F2 (tf (q := 91) (t := 69) hT1 rfl rfl) (avd_of w2 (by decide)) i
  obtain ⟨hO, hG, hC, hL⟩ := hI
  rcases p1 with ⟨c1, e1, rfl⟩ | ⟨c1, c2, c3, c4, c5, c6, c7, r, rc, x, er, ec, ez, rfl, hu⟩
  · rcases p2 with ⟨d1, e2, s1⟩ | ⟨d1, d2, d3, d4, d5, d6, d7, e2, s1⟩
    · exact ⟨I9_of (OW_fr hO hT F2 (avd_sub w2 (by decide))) (VE_fr hO hT F2 (avd_sub w2 (by decide))) ⟨hO, hG, hC, hL⟩ s1 s2 s3 s4 s5, by omega⟩
    · omega
  · rcases p2 with ⟨d1, e2, s1⟩ | ⟨d1, d2, d3, d4, d5, d6, d7, e2, s1⟩
    · omega
    · obtain ⟨en, e6, e7⟩ := hO.1 t r c1 (by omega) er
      have e8 : rc = r + 2 := by
        cases e7.symm.trans ec
        rfl
      subst e8
      obtain ⟨ty1, ty2, ty3⟩ := kd_ty hO hT c1 (by omega) er
      have hx : -2147483648 ≤ x ∧ x ≤ 2147483647 := by omega
      have hO1 := OW_A hO hu
      obtain ⟨v1, v2, v3, v4, v5⟩ := VE_fr hO1 hT1 F2 (avd_sub w2 (by decide))
      have g : ∀ t' j : Int, 0 ≤ t' → t' < 15 → 0 ≤ j → vw h1 34 2 t' j = if t' = t ∧ j = o then x else vw h 34 2 t' j := fun t' j a0 a1 b0 => by
        by_cases e : t' = t
        · subst e
          rw [vA_eq hu er hx c3 b0]
          by_cases e2 : j = o
          · rw [if_pos e2, if_pos ⟨rfl, e2⟩]
          · rw [if_neg e2, if_neg (fun z => e2 z.2)]
        · rw [if_neg (fun z => e z.1)]
          exact vA_ne hu (fun r' er' => by
            have := (hO.1 t' r' a0 a1 er').1
            intro e3
            have e4 : r' = r := by omega
            subst e4
            omega)
      refine ⟨⟨OW_fr hO1 hT1 F2 (avd_sub w2 (by decide)), fun t' j a0 a1 b0 b1 => ?_, fun t' j a0 a1 b0 b1 => ?_, fun m a0 a1 => ?_⟩, ?_⟩
      · rw [v2 t' j a0 a1, g t' j a0 a1 b0, s1 (15 * t' + j) (by omega), AUp_aIne hu (ty_ne (tf (q := 74) (t := 52) hT rfl rfl) ty3 (by decide)), ← hG t' j a0 a1 b0 b1]
        repeat' split
        all_goals omega
      · rw [v1 t' j a0 a1, vA_ne hu (fun r' er' => ty_ne (kd_ty hO hT a0 a1 er').2.1 ty3 (by decide)), s2 _, AUp_aIne hu (ty_ne (tf (q := 75) (t := 53) hT rfl rfl) ty3 (by decide))]
        exact hC t' j a0 a1 b0 b1
      · rw [v3 m a0 a1, lA hu, s3 _, AUp_aIne hu (ty_ne (tf (q := 89) (t := 67) hT rfl rfl) ty3 (by decide))]
        refine ⟨(hL m a0 a1).1, fun k b0 b1 => ?_⟩
        rw [v4 m k a0 a1, v5 m k a0 a1, vA_ne hu (fun r' er' => ty_ne (mc_ty hO hT a0 a1 er').2.1 ty3 (by decide)), vA_ne hu (fun r' er' => ty_ne (mc_ty hO hT a0 a1 er').2.2 ty3 (by decide)), s4 _, s5 _, AUp_aIne hu (ty_ne (tf (q := 90) (t := 68) hT rfl rfl) ty3 (by decide)), AUp_aIne hu (ty_ne (tf (q := 91) (t := 69) hT rfl rfl) ty3 (by decide))]
        exact (hL m a0 a1).2 k b0 b1
      · have k := hG t o c1 (by omega) c3 (by omega)
        unfold vw at k
        rw [er] at k
        dsimp only at k
        rw [ez, k, e2]
        exact (AUp_aIne hu (ty_ne (tf (q := 74) (t := 52) hT rfl rfl) ty3 (by decide)) _).symm
theorem S_co (hI : I9 h) (hT : TH E τ h) (hT1 : TH E1 τ h1) (hk : fI h 4 5 ≤ 15) (hn : fI h 4 5 = fI h1 64 7) (F2 : Fr τ W2 h1 h2) (w2 : avd W2 [(15, 0), (16, 0), (9, 0), (9, 6), (9, 7), (10, 0), (10, 13), (10, 14), (10, 15), (112, 0), (113, 0), (114, 0), (115, 0), (52, 0), (67, 0), (68, 0), (69, 0)] = true) (p1 : PCoC h h1 t o b z1) (p2 : PCoR h1 h2 t o b z2) : I9 h2 ∧ z1 = z2 := by
  have s2 : Same 74 h1 h2 := fun i => Fr_aI F2 (tf (q := 74) (t := 52) hT1 rfl rfl) (avd_of w2 (by decide)) i
  have s3 : Same 89 h1 h2 := fun i => Fr_aI F2 (tf (q := 89) (t := 67) hT1 rfl rfl) (avd_of w2 (by decide)) i
  have s4 : Same 90 h1 h2 := fun i => Fr_aI F2 (tf (q := 90) (t := 68) hT1 rfl rfl) (avd_of w2 (by decide)) i
  have s5 : Same 91 h1 h2 := fun i => Fr_aI F2 (tf (q := 91) (t := 69) hT1 rfl rfl) (avd_of w2 (by decide)) i
  obtain ⟨hO, hG, hC, hL⟩ := hI
  rcases p1 with ⟨c1, e1, rfl⟩ | ⟨c1, c2, c3, c4, c6, c7, r, rc, er, ec, ez, hu⟩
  · rcases p2 with ⟨d1, e2, s1⟩ | ⟨d1, d2, d3, d4, d6, d7, e2, s1⟩
    · exact ⟨I9_of (OW_fr hO hT F2 (avd_sub w2 (by decide))) (VE_fr hO hT F2 (avd_sub w2 (by decide))) ⟨hO, hG, hC, hL⟩ s2 s1 s3 s4 s5, by omega⟩
    · omega
  · rcases p2 with ⟨d1, e2, s1⟩ | ⟨d1, d2, d3, d4, d6, d7, e2, s1⟩
    · omega
    · obtain ⟨en, e6, e7⟩ := hO.1 t r c1 (by omega) er
      have e8 : rc = r + 1 := by
        cases e6.symm.trans ec
        rfl
      subst e8
      obtain ⟨ty1, ty2, ty3⟩ := kd_ty hO hT c1 (by omega) er
      have hx : -2147483648 ≤ b ∧ b ≤ 2147483647 := by omega
      have hO1 := OW_A hO hu
      obtain ⟨v1, v2, v3, v4, v5⟩ := VE_fr hO1 hT1 F2 (avd_sub w2 (by decide))
      have g : ∀ t' j : Int, 0 ≤ t' → t' < 15 → 0 ≤ j → vw h1 34 1 t' j = if t' = t ∧ j = o then b else vw h 34 1 t' j := fun t' j a0 a1 b0 => by
        by_cases e : t' = t
        · subst e
          rw [vA_eq hu er hx c3 b0]
          by_cases e2 : j = o
          · rw [if_pos e2, if_pos ⟨rfl, e2⟩]
          · rw [if_neg e2, if_neg (fun z => e2 z.2)]
        · rw [if_neg (fun z => e z.1)]
          exact vA_ne hu (fun r' er' => by
            have := (hO.1 t' r' a0 a1 er').1
            intro e3
            have e4 : r' = r := by omega
            subst e4
            omega)
      refine ⟨⟨OW_fr hO1 hT1 F2 (avd_sub w2 (by decide)), fun t' j a0 a1 b0 b1 => ?_, fun t' j a0 a1 b0 b1 => ?_, fun m a0 a1 => ?_⟩, ?_⟩
      · rw [v2 t' j a0 a1, vA_ne hu (fun r' er' => ty_ne (kd_ty hO hT a0 a1 er').2.2 ty2 (by decide)), s2 _, AUp_aIne hu (ty_ne (tf (q := 74) (t := 52) hT rfl rfl) ty2 (by decide))]
        exact hG t' j a0 a1 b0 b1
      · rw [v1 t' j a0 a1, g t' j a0 a1 b0, s1 (16 * t' + j) (by omega), AUp_aIne hu (ty_ne (tf (q := 75) (t := 53) hT rfl rfl) ty2 (by decide)), ← hC t' j a0 a1 b0 b1]
        repeat' split
        all_goals omega
      · rw [v3 m a0 a1, lA hu, s3 _, AUp_aIne hu (ty_ne (tf (q := 89) (t := 67) hT rfl rfl) ty2 (by decide))]
        refine ⟨(hL m a0 a1).1, fun k b0 b1 => ?_⟩
        rw [v4 m k a0 a1, v5 m k a0 a1, vA_ne hu (fun r' er' => ty_ne (mc_ty hO hT a0 a1 er').2.1 ty2 (by decide)), vA_ne hu (fun r' er' => ty_ne (mc_ty hO hT a0 a1 er').2.2 ty2 (by decide)), s4 _, s5 _, AUp_aIne hu (ty_ne (tf (q := 90) (t := 68) hT rfl rfl) ty2 (by decide)), AUp_aIne hu (ty_ne (tf (q := 91) (t := 69) hT rfl rfl) ty2 (by decide))]
        exact (hL m a0 a1).2 k b0 b1
      · have k := hC t o c1 (by omega) c3 (by omega)
        unfold vw at k
        rw [er] at k
        dsimp only at k
        rw [ez, k, e2]
        exact (AUp_aIne hu (ty_ne (tf (q := 75) (t := 53) hT rfl rfl) ty2 (by decide)) _).symm
theorem vF {q q' o c : Nat} {v : Value} {t j : Int} (hu : FUp h q' c v h1) : vw h1 q o t j = vw h q o t j := by
  unfold vw
  rw [FUp_aR hu]
  cases e : aR h q t with
  | none => rfl
  | some r => exact FUp_aI hu j
theorem OW_F {q c : Nat} {v : Value} (hO : OW h) (hu : FUp h q c v h1) (h0 : c ≠ 0) (h6 : c ≠ 6) (h7 : c ≠ 7) (h13 : c ≠ 13) (h14 : c ≠ 14) : OW h1 := by
  refine ⟨fun t r a0 a1 e => ?_, fun t r a0 a1 e => ?_⟩
  · rw [FUp_aR hu] at e
    rw [FUp_fIne hu (fun z => h0 z.2.symm), FUp_fRne hu (fun z => h6 z.2.symm), FUp_fRne hu (fun z => h7 z.2.symm)]
    exact hO.1 t r a0 a1 e
  · rw [FUp_aR hu] at e
    rw [FUp_fIne hu (fun z => h0 z.2.symm), FUp_fRne hu (fun z => h13 z.2.symm), FUp_fRne hu (fun z => h14 z.2.symm)]
    exact hO.2 t r a0 a1 e
theorem mc_inj (hO : OW h) {m m' : Int} {r r' : Nat} (a0 : 0 ≤ m) (a1 : m < 90) (b0 : 0 ≤ m') (b1 : m' < 90) (e : aR h 35 m = some r) (e' : aR h 35 m' = some r') (hn : m' ≠ m) : r' ≠ r := fun k => by
  subst k
  have := (hO.2 m _ a0 a1 e).1
  have := (hO.2 m' _ b0 b1 e').1
  omega
theorem S_add {k1 k2 : List mE} {r : Nat} {i1 i2 w : Int} (hO : OW h) (hT : TH E τ h) (m0 : 0 ≤ m) (m1 : m < 90) (er : aR h 35 m = some r) (hu : AUp h (r + 1) i1 o k1) (hv : AUp k1 (r + 2) i2 b k2) (hw : FUp k2 r 15 (vI w) h1) (i0 : 0 ≤ i1 ∧ 0 ≤ i2) (ho : 0 ≤ o ∧ o ≤ 9) (hb : 0 ≤ b ∧ b ≤ 9999) (hw2 : 0 ≤ w ∧ w ≤ 5) :
    OW h1 ∧ (∀ t j : Int, 0 ≤ t → t < 15 → vw h1 34 1 t j = vw h 34 1 t j) ∧ (∀ t j : Int, 0 ≤ t → t < 15 → vw h1 34 2 t j = vw h 34 2 t j) ∧ (∀ m' : Int, 0 ≤ m' → m' < 90 → lkn h1 m' = if m' = m then w else lkn h m') ∧ (∀ m' j : Int, 0 ≤ m' → m' < 90 → 0 ≤ j → vw h1 35 1 m' j = if m' = m ∧ j = i1 then o else vw h 35 1 m' j) ∧ (∀ m' j : Int, 0 ≤ m' → m' < 90 → 0 ≤ j → vw h1 35 2 m' j = if m' = m ∧ j = i2 then b else vw h 35 2 m' j) := by
  obtain ⟨ty1, ty2, ty3⟩ := mc_ty hO hT m0 m1 er
  have er1 : aR k1 35 m = some r := by rw [AUp_aR hu]; exact er
  have ri : ∀ (m' : Int) (r' : Nat), 0 ≤ m' → m' < 90 → m' ≠ m → aR h 35 m' = some r' → r' ≠ r := fun m' r' b0 b1 hn e => mc_inj hO m0 m1 b0 b1 er e hn
  refine ⟨OW_F (OW_A (OW_A hO hu) hv) hw (by decide) (by decide) (by decide) (by decide) (by decide), fun t j a0 a1 => ?_, fun t j a0 a1 => ?_, fun m' a0 a1 => ?_, fun m' j a0 a1 b0 => ?_, fun m' j a0 a1 b0 => ?_⟩
  · rw [vF hw, vA_ne hv (fun r' e => by
      rw [AUp_aR hu] at e
      exact ty_ne (kd_ty hO hT a0 a1 e).2.1 ty3 (by decide))]
    exact vA_ne hu (fun r' e => ty_ne (kd_ty hO hT a0 a1 e).2.1 ty2 (by decide))
  · rw [vF hw, vA_ne hv (fun r' e => by
      rw [AUp_aR hu] at e
      exact ty_ne (kd_ty hO hT a0 a1 e).2.2 ty3 (by decide))]
    exact vA_ne hu (fun r' e => ty_ne (kd_ty hO hT a0 a1 e).2.2 ty2 (by decide))
  · by_cases e : m' = m
    · subst e
      rw [if_pos rfl]
      unfold lkn
      rw [FUp_aR hw, AUp_aR hv, AUp_aR hu, er]
      exact FUp_fI hw (by omega) (by omega)
    · rw [if_neg e]
      unfold lkn
      rw [FUp_aR hw, AUp_aR hv, AUp_aR hu]
      cases e2 : aR h 35 m' with
      | none => rfl
      | some r' =>
        dsimp only
        rw [FUp_fIne hw (fun z => ri m' r' a0 a1 e e2 z.1), AUp_fI hv, AUp_fI hu]
  · rw [vF hw, vA_ne hv (fun r' e => by
      rw [AUp_aR hu] at e
      exact ty_ne (mc_ty hO hT a0 a1 e).2.1 ty3 (by decide))]
    by_cases e : m' = m
    · subst e
      rw [vA_eq hu er (by omega) i0.1 b0]
      repeat' split
      all_goals omega
    · rw [if_neg (fun z => e z.1)]
      exact vA_ne hu (fun r' e2 z => ri m' r' a0 a1 e e2 (by omega))
  · by_cases e : m' = m
    · subst e
      rw [vF hw, vA_eq hv er1 (by omega) i0.2 b0, vA_ne hu (fun r' e2 => ty_ne (mc_ty hO hT a0 a1 e2).2.2 ty2 (by decide))]
      repeat' split
      all_goals omega
    · rw [if_neg (fun z => e z.1), vF hw, vA_ne hv (fun r' e2 z => by
        rw [AUp_aR hu] at e2
        exact ri m' r' a0 a1 e e2 (by omega))]
      exact vA_ne hu (fun r' e2 => ty_ne (mc_ty hO hT a0 a1 e2).2.2 ty2 (by decide))
theorem S_lk (hI : I9 h) (hT : TH E τ h) (hT1 : TH E1 τ h1) (hk : fI h 4 7 ≤ 90) (hn : fI h 4 7 = fI h1 64 15) (F2 : Fr τ W2 h1 h2) (w2 : avd W2 [(15, 0), (16, 0), (9, 0), (9, 6), (9, 7), (10, 0), (10, 13), (10, 14), (10, 15), (112, 0), (113, 0), (114, 0), (115, 0), (52, 0), (53, 0)] = true) (p1 : PLkC h h1 m o b z1) (p2 : PLkR h1 h2 m o b z2) : I9 h2 ∧ z1 = z2 := by
  have s1 : Same 74 h1 h2 := fun i => Fr_aI F2 (tf (q := 74) (t := 52) hT1 rfl rfl) (avd_of w2 (by decide)) i
  have s2 : Same 75 h1 h2 := fun i => Fr_aI F2 (tf (q := 75) (t := 53) hT1 rfl rfl) (avd_of w2 (by decide)) i
  obtain ⟨hO, hG, hC, hL⟩ := hI
  rcases p1 with ⟨c1, e1, rfl⟩ | ⟨c1, c2, c3, c4, c5, c6, r, er, p1⟩
  · rcases p2 with ⟨d1, e2, s3, s4, s5⟩ | ⟨d1, d2, d3, d4, d5, d6, p2⟩
    · exact ⟨I9_of (OW_fr hO hT F2 (avd_sub w2 (by decide))) (VE_fr hO hT F2 (avd_sub w2 (by decide))) ⟨hO, hG, hC, hL⟩ s1 s2 s3 s4 s5, by omega⟩
    · omega
  · rcases p2 with ⟨d1, e2, s3, s4, s5⟩ | ⟨d1, d2, d3, d4, d5, d6, p2⟩
    · omega
    · have lm : fI h r 15 = aI h 89 m := by
        have := (hL m c1 (by omega)).1
        unfold lkn at this
        rw [er] at this
        exact this
      obtain ⟨ty1, ty2, ty3⟩ := mc_ty hO hT c1 (show m < 90 by omega) er
      rcases p1 with ⟨k0, e1, rfl⟩ | ⟨k0, e1, ro, rr, h3, h4, i1, i2, w, j1, j2, jw, f13, f14, hu, hv, hw⟩
      · rcases p2 with ⟨g0, e2, s3, s4, s5⟩ | ⟨g0, e2, s3, s4, s5⟩
        · exact ⟨I9_of (OW_fr hO hT F2 (avd_sub w2 (by decide))) (VE_fr hO hT F2 (avd_sub w2 (by decide))) ⟨hO, hG, hC, hL⟩ s1 s2 s3 s4 s5, by omega⟩
        · omega
      · obtain ⟨-, g13, g14⟩ := hO.2 m r c1 (by omega) er
        have x1 : ro = r + 1 := by
          cases g13.symm.trans f13
          rfl
        have x2 : rr = r + 2 := by
          cases g14.symm.trans f14
          rfl
        subst x1
        subst x2
        have ln := (hL m c1 (by omega)).1
        have lb : 0 ≤ fI h r 15 := (fI_bd hT ty1 fd_10_15).1
        have same : ∀ (Q u : Nat), ty τ Q u → u ≠ 114 → u ≠ 115 → Same Q h h1 := fun Q u hq n1 n2 i => by
          rw [FUp_aI hw, AUp_aIne hv (ty_ne hq ty3 n2), AUp_aIne hu (ty_ne hq ty2 n1)]
        have a89 := same 89 67 (tf hT rfl rfl) (by decide) (by decide)
        have a90 := same 90 68 (tf hT rfl rfl) (by decide) (by decide)
        have a91 := same 91 69 (tf hT rfl rfl) (by decide) (by decide)
        have q89 := a89 m
        rcases p2 with ⟨g0, e2, s3, s4, s5⟩ | ⟨g0, e2, s3, s4, s5⟩
        · omega
        · obtain ⟨hO1, x1, x2, x3, x4, x5⟩ := S_add hO hT c1 (show m < 90 by omega) er hu hv hw (by omega) (by omega) (by omega) (by omega)
          obtain ⟨v1, v2, v3, v4, v5⟩ := VE_fr hO1 hT1 F2 (avd_sub w2 (by decide))
          refine ⟨⟨OW_fr hO1 hT1 F2 (avd_sub w2 (by decide)), fun t' j a0 a1 b0 b1 => ?_, fun t' j a0 a1 b0 b1 => ?_, fun m' a0 a1 => ?_⟩, by omega⟩
          · rw [v2 t' j a0 a1, x2 t' j a0 a1, s1 _, same 74 52 (tf hT rfl rfl) (by decide) (by decide) _]
            exact hG t' j a0 a1 b0 b1
          · rw [v1 t' j a0 a1, x1 t' j a0 a1, s2 _, same 75 53 (tf hT rfl rfl) (by decide) (by decide) _]
            exact hC t' j a0 a1 b0 b1
          · obtain ⟨y0, y1⟩ := hL m' a0 a1
            refine ⟨?_, fun k b0 b1 => ?_⟩
            · rw [v3 m' a0 a1, x3 m' a0 a1, s3 m' a0, a89 m']
              repeat' split
              all_goals omega
            · obtain ⟨z3, z4⟩ := y1 k b0 b1
              rw [v4 m' k a0 a1, v5 m' k a0 a1, x4 m' k a0 a1 b0, x5 m' k a0 a1 b0, s4 (5 * m' + k) (by omega), s5 (5 * m' + k) (by omega), a90 (5 * m' + k), a91 (5 * m' + k), z3, z4]
              constructor
              · repeat' split
                all_goals omega
              · repeat' split
                all_goals omega
/-- a new kind, a new machine: their own rows are 0, as the reference's are -/
theorem S_type (hI : I9 h) (h8 : I8 h) (hT : TH E τ h) (hk : 0 ≤ fI h 4 5) (hc : z1 ≠ fI h 4 5 ∨ fI h 4 5 ≤ 14) (F1 : Fr τ W1 h h1) (w1 : avd W1 [(16, 0), (9, 0), (9, 6), (9, 7), (10, 0), (10, 13), (10, 14), (10, 15), (112, 0), (113, 0), (114, 0), (115, 0), (52, 0), (53, 0), (67, 0), (68, 0), (69, 0)] = true) (p1 : PTyC h h1 z1) : I9 h1 := by
  rcases p1 with rfl | ⟨r, ez, hR, e0, e6, e7, n1, n2⟩
  · exact hI
  obtain ⟨hO, hG, hC, hL⟩ := hI
  have nn : aR h 34 z1 = none := by
    rcases I8_at h8.1 (i := z1) (by omega) (by omega) with ⟨-, k⟩ | ⟨k, -⟩
    · omega
    · exact k
  have g35 : ∀ m : Int, aR h1 35 m = aR h 35 m := fun m => Fr_aR F1 (tf (q := 35) (t := 16) hT rfl rfl) (avd_of w1 (by decide)) m
  have hO1 : OW h1 := by
    refine ⟨fun t r' a0 a1 e => ?_, fun m r' a0 a1 e => ?_⟩
    · rw [hR t a0] at e
      by_cases et : t = z1
      · rw [if_pos et] at e
        cases e
        exact ⟨by omega, e6, e7⟩
      · rw [if_neg et] at e
        have k := (kd_ty hO hT a0 a1 e).1
        rw [Fr_fI F1 k (avd_of w1 (by decide)), Fr_fR F1 k (avd_of w1 (by decide)), Fr_fR F1 k (avd_of w1 (by decide))]
        exact hO.1 t r' a0 a1 e
    · rw [g35] at e
      have k := (mc_ty hO hT a0 a1 e).1
      rw [Fr_fI F1 k (avd_of w1 (by decide)), Fr_fR F1 k (avd_of w1 (by decide)), Fr_fR F1 k (avd_of w1 (by decide))]
      exact hO.2 m r' a0 a1 e
  have vk : ∀ (o u : Nat), ((o = 1 ∧ u = 112) ∨ (o = 2 ∧ u = 113)) → W1.contains (u, 0) = false → ∀ t j : Int, 0 ≤ t → t < 15 → vw h1 34 o t j = vw h 34 o t j := fun o u hou wu t j a0 a1 => by
    unfold vw
    rw [hR t a0]
    by_cases et : t = z1
    · rw [if_pos et, et, nn]
      rcases hou with ⟨rfl, -⟩ | ⟨rfl, -⟩
      · exact n1 j
      · exact n2 j
    · rw [if_neg et]
      cases e : aR h 34 t with
      | none => rfl
      | some r' =>
        obtain ⟨-, k1, k2⟩ := kd_ty hO hT a0 a1 e
        rcases hou with ⟨rfl, rfl⟩ | ⟨rfl, rfl⟩
        · exact Fr_aI F1 k1 wu j
        · exact Fr_aI F1 k2 wu j
  refine I9_of hO1 ⟨vk 1 112 (Or.inl ⟨rfl, rfl⟩) (avd_of w1 (by decide)), vk 2 113 (Or.inr ⟨rfl, rfl⟩) (avd_of w1 (by decide)), fun m a0 a1 => ln_fr hO hT F1 (avd_of w1 (by decide)) (avd_of w1 (by decide)) a0 a1, fun t j a0 a1 => vm_fr (u := 114) hO hT F1 (avd_of w1 (by decide)) (avd_of w1 (by decide)) (Or.inl ⟨rfl, rfl⟩) a0 a1 j, fun t j a0 a1 => vm_fr (u := 115) hO hT F1 (avd_of w1 (by decide)) (avd_of w1 (by decide)) (Or.inr ⟨rfl, rfl⟩) a0 a1 j⟩ ⟨hO, hG, hC, hL⟩ ?_ ?_ ?_ ?_ ?_
  · exact fun i => Fr_aI F1 (tf (q := 74) (t := 52) hT rfl rfl) (avd_of w1 (by decide)) i
  · exact fun i => Fr_aI F1 (tf (q := 75) (t := 53) hT rfl rfl) (avd_of w1 (by decide)) i
  · exact fun i => Fr_aI F1 (tf (q := 89) (t := 67) hT rfl rfl) (avd_of w1 (by decide)) i
  · exact fun i => Fr_aI F1 (tf (q := 90) (t := 68) hT rfl rfl) (avd_of w1 (by decide)) i
  · exact fun i => Fr_aI F1 (tf (q := 91) (t := 69) hT rfl rfl) (avd_of w1 (by decide)) i
theorem S_mach (hI : I9 h) (h8 : I8 h) (hT : TH E τ h) (hk : 0 ≤ fI h 4 7) (hc : z1 ≠ fI h 4 7 ∨ fI h 4 7 ≤ 89) (F1 : Fr τ W1 h h1) (w1 : avd W1 [(15, 0), (9, 0), (9, 6), (9, 7), (10, 0), (10, 13), (10, 14), (10, 15), (112, 0), (113, 0), (114, 0), (115, 0), (52, 0), (53, 0), (67, 0), (68, 0), (69, 0)] = true) (p1 : PMcC h h1 z1) : I9 h1 := by
  rcases p1 with rfl | ⟨r, ez, hR, e0, e6, e7, e15, n1, n2⟩
  · exact hI
  obtain ⟨hO, hG, hC, hL⟩ := hI
  have nn : aR h 35 z1 = none := by
    rcases I8_at h8.2.1 (i := z1) (by omega) (by omega) with ⟨-, k⟩ | ⟨k, -⟩
    · omega
    · exact k
  have g34 : ∀ m : Int, aR h1 34 m = aR h 34 m := fun m => Fr_aR F1 (tf (q := 34) (t := 15) hT rfl rfl) (avd_of w1 (by decide)) m
  have hO1 : OW h1 := by
    refine ⟨fun t r' a0 a1 e => ?_, fun t r' a0 a1 e => ?_⟩
    · rw [g34] at e
      have k := (kd_ty hO hT a0 a1 e).1
      rw [Fr_fI F1 k (avd_of w1 (by decide)), Fr_fR F1 k (avd_of w1 (by decide)), Fr_fR F1 k (avd_of w1 (by decide))]
      exact hO.1 t r' a0 a1 e
    · rw [hR t a0] at e
      by_cases et : t = z1
      · rw [if_pos et] at e
        cases e
        exact ⟨by omega, e6, e7⟩
      · rw [if_neg et] at e
        have k := (mc_ty hO hT a0 a1 e).1
        rw [Fr_fI F1 k (avd_of w1 (by decide)), Fr_fR F1 k (avd_of w1 (by decide)), Fr_fR F1 k (avd_of w1 (by decide))]
        exact hO.2 t r' a0 a1 e
  have vm : ∀ (o u : Nat), ((o = 1 ∧ u = 114) ∨ (o = 2 ∧ u = 115)) → W1.contains (u, 0) = false → ∀ t j : Int, 0 ≤ t → t < 90 → vw h1 35 o t j = vw h 35 o t j := fun o u hou wu t j a0 a1 => by
    unfold vw
    rw [hR t a0]
    by_cases et : t = z1
    · rw [if_pos et, et, nn]
      rcases hou with ⟨rfl, -⟩ | ⟨rfl, -⟩
      · exact n1 j
      · exact n2 j
    · rw [if_neg et]
      cases e : aR h 35 t with
      | none => rfl
      | some r' =>
        obtain ⟨-, k1, k2⟩ := mc_ty hO hT a0 a1 e
        rcases hou with ⟨rfl, rfl⟩ | ⟨rfl, rfl⟩
        · exact Fr_aI F1 k1 wu j
        · exact Fr_aI F1 k2 wu j
  have lk : ∀ t : Int, 0 ≤ t → t < 90 → lkn h1 t = lkn h t := fun t a0 a1 => by
    unfold lkn
    rw [hR t a0]
    by_cases et : t = z1
    · rw [if_pos et, et, nn]
      exact e15
    · rw [if_neg et]
      cases e : aR h 35 t with
      | none => rfl
      | some r' => exact Fr_fI F1 (mc_ty hO hT a0 a1 e).1 (avd_of w1 (by decide))
  refine I9_of hO1 ⟨fun t j a0 a1 => vk_fr (u := 112) hO hT F1 (avd_of w1 (by decide)) (avd_of w1 (by decide)) (Or.inl ⟨rfl, rfl⟩) a0 a1 j, fun t j a0 a1 => vk_fr (u := 113) hO hT F1 (avd_of w1 (by decide)) (avd_of w1 (by decide)) (Or.inr ⟨rfl, rfl⟩) a0 a1 j, lk, vm 1 114 (Or.inl ⟨rfl, rfl⟩) (avd_of w1 (by decide)), vm 2 115 (Or.inr ⟨rfl, rfl⟩) (avd_of w1 (by decide))⟩ ⟨hO, hG, hC, hL⟩ ?_ ?_ ?_ ?_ ?_
  · exact fun i => Fr_aI F1 (tf (q := 74) (t := 52) hT rfl rfl) (avd_of w1 (by decide)) i
  · exact fun i => Fr_aI F1 (tf (q := 75) (t := 53) hT rfl rfl) (avd_of w1 (by decide)) i
  · exact fun i => Fr_aI F1 (tf (q := 89) (t := 67) hT rfl rfl) (avd_of w1 (by decide)) i
  · exact fun i => Fr_aI F1 (tf (q := 90) (t := 68) hT rfl rfl) (avd_of w1 (by decide)) i
  · exact fun i => Fr_aI F1 (tf (q := 91) (t := 69) hT rfl rfl) (avd_of w1 (by decide)) i
/-- an owner, a rate of a link -/
theorem vw_link (hI : I9 h) {m i : Int} {r ro : Nat} (m0 : 0 ≤ m) (m1 : m < 90) (i0 : 0 ≤ i) (i1 : i < 5) (er : aR h 35 m = some r) : (fR h r 13 = some ro → aI h ro i = aI h 90 (5 * m + i)) ∧ (fR h r 14 = some ro → aI h ro i = aI h 91 (5 * m + i)) ∧ fI h r 15 = aI h 89 m := by
  obtain ⟨hO, -, -, hL⟩ := hI
  obtain ⟨-, g13, g14⟩ := hO.2 m r m0 m1 er
  obtain ⟨l0, l1⟩ := hL m m0 m1
  obtain ⟨v1, v2⟩ := l1 i i0 i1
  unfold vw at v1 v2
  unfold lkn at l0
  rw [er] at v1 v2 l0
  refine ⟨fun e => ?_, fun e => ?_, l0⟩
  · cases g13.symm.trans e
    exact v1
  · cases g14.symm.trans e
    exact v2
theorem ln_link (hI : I9 h) {m : Int} {r : Nat} (m0 : 0 ≤ m) (m1 : m < 90) (er : aR h 35 m = some r) : fI h r 15 = aI h 89 m := (vw_link (i := 0) (ro := 0) hI m0 m1 (by decide) (by decide) er).2.2
theorem S_chain {i w : Int} (hI : I9 h) (hT : TH E τ h) (hk : fI h 4 7 ≤ 90) (hn : fI h 4 7 = fI h 64 15) (p1 : PChC h m i w z1) (p2 : PChR h m i w z2) : z1 = z2 := by
  rcases p1 with ⟨c1, e1⟩ | ⟨m0, m1, r, er, p1⟩
  · rcases p2 with ⟨d1, e2⟩ | ⟨d0, d1, d2, d3, d4, d5, -⟩ <;> omega
  · have ln := ln_link hI m0 (by omega) er
    have lb := fI_bd hT (mc_ty hI.1 hT m0 (by omega) er).1 fd_10_15
    rcases p1 with ⟨c1, e1⟩ | ⟨c1, c2, c3, c4, p1⟩
    · rcases p2 with ⟨d1, e2⟩ | ⟨d0, d1, d2, d3, d4, d5, -⟩ <;> omega
    · rcases p2 with ⟨d1, e2⟩ | ⟨d0, d1, d2, d3, d4, d5, p2⟩
      · omega
      · rcases p1 with ⟨w0, p1⟩ | ⟨w1, x, y, k, ek, px, py, p1⟩
        · rcases p1 with ⟨-, -, ro, ero, ez⟩ | ⟨g, -⟩
          · have v := (vw_link hI m0 (by omega) c1 (by omega) er).1 ero
            rcases p2 with ⟨w2, ez2⟩ | ⟨w2, -⟩
            · omega
            · omega
          · omega
        · rcases p2 with ⟨w2, -⟩ | ⟨w2, p2⟩
          · omega
          · rcases px with ⟨-, -, rx, erx, ex⟩ | ⟨g, -⟩
            · have v := (vw_link hI m0 (by omega) c1 (by omega) er).2.1 erx
              rcases py with ⟨g1, g2, ry, ery, ey⟩ | ⟨g1, ey⟩
              · have v2 := (vw_link (i := k) hI m0 (by omega) g1 (by omega) er).2.1 ery
                rw [ek, show 5 * m + (i + 1) = 5 * m + i + 1 by omega] at v2
                rw [ek] at ey
                rcases p1 with ⟨a1, a2⟩ | ⟨a1, a2⟩ <;> rcases p2 with ⟨b1, b2, b3⟩ | ⟨b1, b3⟩ <;> omega
              · have rb := aI_bd hT (tf (q := 91) (t := 69) hT rfl rfl) ay_69 (5 * m + i)
                rcases p1 with ⟨a1, a2⟩ | ⟨a1, a2⟩ <;> rcases p2 with ⟨b1, b2, b3⟩ | ⟨b1, b3⟩ <;> omega
            · omega
theorem S_rank {i : Int} (hI : I9 h) (hT : TH E τ h) (hk : fI h 4 7 ≤ 90) (hn : fI h 4 7 = fI h 64 15) (p1 : PRkC h m i z1) (p2 : PRkR h m i z2) : z1 = z2 := by
  rcases p1 with ⟨c1, e1⟩ | ⟨m0, m1, r, er, p1⟩
  · rcases p2 with ⟨d1, e2⟩ | ⟨d0, d1, d2, d3, -⟩ <;> omega
  · have ln := ln_link hI m0 (by omega) er
    have lb := fI_bd hT (mc_ty hI.1 hT m0 (by omega) er).1 fd_10_15
    rcases p1 with ⟨c1, e1⟩ | ⟨c1, c2, k, ek, p1⟩
    · rcases p2 with ⟨d1, e2⟩ | ⟨d0, d1, d2, d3, -⟩ <;> omega
    · rcases p2 with ⟨d1, e2⟩ | ⟨d0, d1, d2, d3, j, ej, ez2⟩
      · omega
      · rcases p1 with ⟨g1, g2, ro, ero, ez⟩ | ⟨g, -⟩
        · have v := (vw_link (i := k) hI m0 (by omega) g1 (by omega) er).1 ero
          rw [ez, v, ez2]
          congr 1
          omega
        · omega
theorem IB_at (hI : IB h) (i : Int) : i < 0 ∨ 12 ≤ i ∨ aI h 7 i = aI h 65 i := by
  by_cases a : i < 0
  · exact Or.inl a
  · by_cases b : 12 ≤ i
    · exact Or.inr (Or.inl b)
    · exact Or.inr (Or.inr (hI i (by omega) (by omega)))
end STP
/-! THEY HOLD AT THE START -/
theorem I8_0 : I8 H0 := by
  refine ⟨fun i a1 a2 => Or.inr ⟨?_, rfl⟩, fun i a1 a2 => Or.inr ⟨?_, rfl⟩, fun i a1 a2 => Or.inr ⟨?_, rfl⟩⟩
  · have e : fI H0 4 5 = 0 := rfl
    omega
  · have e : fI H0 4 7 = 0 := rfl
    omega
  · have e : fI H0 4 12 = 0 := rfl
    omega
theorem IA_0 : IA H0 := fun i _ _ => by
  have e1 : aI H0 5 i = 0 := rfl
  have e2 : aI H0 68 i = 0 := rfl
  omega
theorem IB_0 : IB H0 := fun i _ _ => by
  have e1 : aI H0 7 i = 0 := rfl
  have e2 : aI H0 65 i = 0 := rfl
  omega
theorem IC_0 : IC H0 := by
  have e66 : ∀ i : Int, aI H0 66 i = 0 := fun _ => rfl
  refine ⟨fun a a0 a1 => ?_, fun a b a0 a1 b0 b1 => ⟨?_, by rw [e66, e66]⟩⟩
  · obtain ⟨n, hn⟩ : ∃ n : Nat, n = a.toNat := ⟨_, rfl⟩
    unfold aR
    rw [← hn]
    have hn2 : n < 12 := by omega
    match n, hn2 with
    | 0, _ => rfl
    | 1, _ => rfl
    | 2, _ => rfl
    | 3, _ => rfl
    | 4, _ => rfl
    | 5, _ => rfl
    | 6, _ => rfl
    | 7, _ => rfl
    | 8, _ => rfl
    | 9, _ => rfl
    | 10, _ => rfl
    | 11, _ => rfl
    | n + 12, hn => omega
  · rw [e66]
    obtain ⟨n, hn⟩ : ∃ n : Nat, n = a.toNat := ⟨_, rfl⟩
    rw [← hn]
    have hn2 : n < 12 := by omega
    match n, hn2 with
    | 0, _ => rfl
    | 1, _ => rfl
    | 2, _ => rfl
    | 3, _ => rfl
    | 4, _ => rfl
    | 5, _ => rfl
    | 6, _ => rfl
    | 7, _ => rfl
    | 8, _ => rfl
    | 9, _ => rfl
    | 10, _ => rfl
    | 11, _ => rfl
    | n + 12, hn => omega
theorem I9_0 : I9 H0 := by
  have n34 : ∀ t : Int, aR H0 34 t = none := fun _ => rfl
  have n35 : ∀ t : Int, aR H0 35 t = none := fun _ => rfl
  refine ⟨⟨fun t r _ _ e => ?_, fun t r _ _ e => ?_⟩, fun t j _ _ _ _ => ?_, fun t j _ _ _ _ => ?_, fun m _ _ => ⟨?_, fun k _ _ => ⟨?_, ?_⟩⟩⟩
  · rw [n34] at e; cases e
  · rw [n35] at e; cases e
  · unfold vw; rw [n34]; rfl
  · unfold vw; rw [n34]; rfl
  · unfold lkn; rw [n35]; rfl
  · unfold vw; rw [n35]; rfl
  · unfold vw; rw [n35]; rfl
theorem ID_0 : ID H0 := by
  have n1 : fI H0 6 3 = 0 := rfl
  have n2 : fI H0 64 2 = 0 := rfl
  have e66 : ∀ i : Int, aI H0 66 i = 0 := fun _ => rfl
  have sp : ∀ w f : Int → Int → Int, Sp 0 w f := fun w f => ⟨⟨fun x x0 x1 => by omega, fun x y x0 x1 => by omega, fun x y z x0 x1 => by omega⟩, fun g _ x y x0 x1 => by omega⟩
  have rows : ∀ n : Nat, n < 12 → aO H0 21 n = some (22 + n) ∧ ∀ y : Int, aI H0 (22 + n) y = 0 := fun n hn2 => by
    match n, hn2 with
    | 0, _ => exact ⟨rfl, fun _ => rfl⟩
    | 1, _ => exact ⟨rfl, fun _ => rfl⟩
    | 2, _ => exact ⟨rfl, fun _ => rfl⟩
    | 3, _ => exact ⟨rfl, fun _ => rfl⟩
    | 4, _ => exact ⟨rfl, fun _ => rfl⟩
    | 5, _ => exact ⟨rfl, fun _ => rfl⟩
    | 6, _ => exact ⟨rfl, fun _ => rfl⟩
    | 7, _ => exact ⟨rfl, fun _ => rfl⟩
    | 8, _ => exact ⟨rfl, fun _ => rfl⟩
    | 9, _ => exact ⟨rfl, fun _ => rfl⟩
    | 10, _ => exact ⟨rfl, fun _ => rfl⟩
    | 11, _ => exact ⟨rfl, fun _ => rfl⟩
    | n + 12, hn => omega
  refine ⟨fun x x0 x1 => (rows x.toNat (by omega)).1, by rw [n1]; exact sp _ _, by rw [n2]; exact sp _ _, fun x y _ _ _ _ _ => e66 _, fun x x0 x1 => (rows x.toNat (by omega)).2 x, fun x y x0 x1 _ _ => ?_⟩
  rw [(rows x.toNat (by omega)).2 y]
  decide
theorem IE_0 : IE H0 := fun i => by
  have e1 : aI H0 55 i = 0 := rfl
  have e2 : aI H0 124 i = 0 := rfl
  unfold TT un
  rw [e1, e2]
  rfl
