/-! exact rows: shifts, bytes, longs -/
section XRW
variable {X : List mE} {d m pc npc tg a b : Nat} {ret : Option FieldType} {L : mL} {V : List Value} {h : List mE} {Q : Option Value → List mE → Prop} {x y : Int} {x1 y1 : Int64}
theorem st_ishrx (hc : CF m pc ret (.ishr) a b npc tg) (k : MR X d m npc L (vI (SHR x y) :: V) h Q) : MR X d m pc L (vI y :: vI x :: V) h Q := by
  obtain ⟨n, q1, hc, rfl, rfl⟩ := hc
  refine MR_go hc ?_ k
  unfold SHR
  rw [← vI_to]
  rfl
theorem st_iushrx (hc : CF m pc ret (.iushr) a b npc tg) (k : MR X d m npc L (vI (USH x y) :: V) h Q) : MR X d m pc L (vI y :: vI x :: V) h Q := by
  obtain ⟨n, q1, hc, rfl, rfl⟩ := hc
  refine MR_go hc ?_ k
  unfold USH
  rw [← vI_to]
  rfl
theorem st_iandx (hc : CF m pc ret (.iand) a b npc tg) (k : MR X d m npc L (vI (AND x y) :: V) h Q) : MR X d m pc L (vI y :: vI x :: V) h Q := by
  obtain ⟨n, q1, hc, rfl, rfl⟩ := hc
  refine MR_go hc ?_ k
  unfold AND
  rw [← vI_to]
  rfl
theorem st_i2bx (hc : CF m pc ret (.i2b) a b npc tg) (k : MR X d m npc L (vI (I2B x) :: V) h Q) : MR X d m pc L (vI x :: V) h Q := by
  obtain ⟨n, q1, hc, rfl, rfl⟩ := hc
  refine MR_go hc ?_ k
  unfold I2B
  rw [← vI_to]
  rfl
theorem i2l_of (hx : -2147483648 ≤ x ∧ x ≤ 2147483647) : (Int32.ofInt x).toInt64 = Int64.ofInt x := by
  apply Int64.toInt_inj.mp
  rw [Int32.toInt_toInt64, to_of hx.1 hx.2]
  exact (Int64.toInt_ofInt_of_le (by omega) (by omega)).symm
theorem st_i2lx (hc : CF m pc ret (.i2l) a b npc tg) (hx : -2147483648 ≤ x ∧ x ≤ 2147483647) (k : MR X d m npc L (.long (Int64.ofInt x) :: V) h Q) : MR X d m pc L (vI x :: V) h Q := by
  obtain ⟨n, q1, hc, rfl, rfl⟩ := hc
  refine MR_go hc ?_ k
  rw [← i2l_of hx]
  rfl
theorem st_lmulx (hc : CF m pc ret (.lmul) a b npc tg) (k : MR X d m npc L (.long (x1 * y1) :: V) h Q) : MR X d m pc L (.long y1 :: .long x1 :: V) h Q := by
  obtain ⟨n, q1, hc, rfl, rfl⟩ := hc
  exact MR_go hc rfl k
theorem st_laddx (hc : CF m pc ret (.ladd) a b npc tg) (k : MR X d m npc L (.long (x1 + y1) :: V) h Q) : MR X d m pc L (.long y1 :: .long x1 :: V) h Q := by
  obtain ⟨n, q1, hc, rfl, rfl⟩ := hc
  exact MR_go hc rfl k
theorem st_lsubx (hc : CF m pc ret (.lsub) a b npc tg) (k : MR X d m npc L (.long (x1 - y1) :: V) h Q) : MR X d m pc L (.long y1 :: .long x1 :: V) h Q := by
  obtain ⟨n, q1, hc, rfl, rfl⟩ := hc
  exact MR_go hc rfl k
theorem lg_0 : (lg_cmp x1 y1).toInt = 0 ↔ x1 = y1 := by
  unfold lg_cmp
  by_cases e : x1 > y1
  · rw [if_pos e]
    constructor
    · intro k
      exact absurd k (by decide)
    · intro k
      subst k
      have := Int64.lt_irrefl (a := x1)
      exact absurd e this
  · rw [if_neg e]
    by_cases e2 : x1 = y1
    · rw [if_pos e2]
      exact ⟨fun _ => e2, fun _ => by decide⟩
    · rw [if_neg e2]
      constructor
      · intro k
        exact absurd k (by decide)
      · intro k
        exact absurd k e2
theorem st_lcmpx (hc : CF m pc ret (.lcmp) a b npc tg) (k : ∀ w : Int, -2147483648 ≤ w → w ≤ 2147483647 → (w = 0 ↔ x1 = y1) → MR X d m npc L (vI w :: V) h Q) : MR X d m pc L (.long y1 :: .long x1 :: V) h Q := by
  obtain ⟨n, q1, hc, rfl, rfl⟩ := hc
  refine MR_go hc ?_ (k (lg_cmp x1 y1).toInt (to_lo _) (to_hi _) lg_0)
  rw [← vI_to]
  rfl
end XRW
theorem AND_bd (x : Int) : 0 ≤ AND x 255 ∧ AND x 255 ≤ 255 := by
  have k := and_le (x := Int32.ofInt x) (y := Int32.ofInt 255) (by decide)
  have e : (Int32.ofInt 255).toInt = 255 := by decide
  unfold AND
  omega
theorem I2B_bd (x : Int) : -128 ≤ I2B x ∧ I2B x ≤ 127 := by
  unfold I2B
  rw [Int8.toInt_toInt32]
  have h1 := Int8.le_toInt (Int32.ofInt x).toInt8
  have h2 := Int8.toInt_lt (Int32.ofInt x).toInt8
  omega
theorem HJ_0 {T : Int → Int} {f : Int} : Int64.ofInt 0 = HJ T f (f - f).toNat := by
  rw [Int.sub_self]
  exact (by decide : Int64.ofInt 0 = (0 : Int64))
theorem HJ_s {T : Int → Int} {f i : Int} {w : Int64} (hx : w = HJ T f (i - f).toNat) (hi : f ≤ i) : Int64.ofInt 27 * w + Int64.ofInt (T i) - Int64.ofInt 96 = HJ T f (i + 1 - f).toNat := by
  rw [show (i + 1 - f).toNat = (i - f).toNat + 1 by omega]
  show _ = Int64.ofInt 27 * HJ T f (i - f).toNat + Int64.ofInt (T (f + ((i - f).toNat : Int))) - Int64.ofInt 96
  rw [← hx, show f + ((i - f).toNat : Int) = i by omega]
theorem WH_mk {h : List mE} {i : Int} {w v : Int64} (h1 : fI h 64 88 = 1) (h2 : fI h 64 87 - fI h 64 86 ≤ 12) (hx : w = HJ (aI h 124) (fI h 64 86) (i - fI h 64 86).toNat) (hi : i = fI h 64 87) (hv : w = v) : WH h v := by
  subst hi
  exact ⟨h1, h2, by rw [← hx]; exact hv⟩
theorem WH_no {h : List mE} {i : Int} {w v : Int64} (hx : w = HJ (aI h 124) (fI h 64 86) (i - fI h 64 86).toNat) (hi : i = fI h 64 87) (hv : ¬ w = v) : ¬ WH h v := fun hw => by
  subst hi
  exact hv (by rw [hx]; exact hw.2.2)
theorem WH_n0 {h : List mE} {v : Int64} (hn : fI h 64 88 ≠ 1 ∨ 12 < fI h 64 87 - fI h 64 86) : ¬ WH h v := fun hw => by
  have a := hw.1
  have b := hw.2.1
  omega
/-! what the calls do to the texts -/
def PApp (h h' : List mE) (v : Int) : Prop := fI h 54 1 ≤ 196 → (fI h' 54 1 = fI h 54 1 + 4 ∧ ∀ j : Int, 0 ≤ j → aI h' 55 j = ap (aI h 55) (fI h 54 1) v j)
def AIn (h hc : List mE) (v : Int) : Prop := ∀ j : Int, 0 ≤ j → aI hc 55 j = if fI h 54 1 ≤ j ∧ j < fI hc 54 1 then Bt v (3 - (j - fI h 54 1)) else aI h 55 j
def RIn (h hc : List mE) (v : Int) : Prop := ∀ j : Int, 0 ≤ j → TT hc j = if fI h 64 77 ≤ j ∧ j < fI hc 64 77 then Bt v (3 - (j - fI h 64 77)) else TT h j
def PFe1 (h h' : List mE) (v : Int) : Prop := fI h' 64 77 = fI h 64 77 + 4 ∧ ∀ j : Int, 0 ≤ j → TT h' j = ap (TT h) (fI h 64 77) v j
def ap5 (f : Int → Int) (L a b c d e j : Int) : Int := ap (ap (ap (ap (ap f L a) (L + 4) b) (L + 8) c) (L + 12) d) (L + 16) e j
def PFeC (h h' : List mE) (a b c d e z : Int) : Prop := (181 ≤ fI h 54 1 ∧ z = -3 ∧ fI h' 54 1 = fI h 54 1 ∧ Same 55 h h') ∨ (fI h 54 1 ≤ 180 ∧ z = fI h 54 1 + 20 ∧ fI h' 54 1 = fI h 54 1 + 20 ∧ ∀ j : Int, 0 ≤ j → aI h' 55 j = ap5 (aI h 55) (fI h 54 1) a b c d e j)
def PFeR (h h' : List mE) (a b c d e z : Int) : Prop := (181 ≤ fI h 64 77 ∧ z = -3 ∧ fI h' 64 77 = fI h 64 77 ∧ TT h' = TT h) ∨ (fI h 64 77 ≤ 180 ∧ z = fI h 64 77 + 20 ∧ fI h' 64 77 = fI h 64 77 + 20 ∧ ∀ j : Int, 0 ≤ j → TT h' j = ap5 (TT h) (fI h 64 77) a b c d e j)
def PTmC (h h' : List mE) (u f z : Int) : Prop := Same 55 h h' ∧ (((u < 0 ∨ 1 < u ∨ f < 0 ∨ 999 < f) ∧ z = -1 ∧ fI h' 54 1 = fI h 54 1 ∧ fI h' 60 1 = fI h 60 1) ∨ (0 ≤ u ∧ u ≤ 1 ∧ 0 ≤ f ∧ f ≤ 999 ∧ 16 ≤ fI h 60 1 ∧ z = -3 ∧ fI h' 54 1 = fI h 54 1 ∧ fI h' 60 1 = fI h 60 1) ∨ (0 ≤ u ∧ u ≤ 1 ∧ 0 ≤ f ∧ f ≤ 999 ∧ fI h 60 1 ≤ 15 ∧ fI h' 54 1 = 0 ∧ ∃ x : Int, CP (aI h 55) (fI h 54 1) x ∧ ((0 ≤ x ∧ z = -100 - x ∧ fI h' 60 1 = fI h 60 1) ∨ (x < 0 ∧ z = fI h 60 1 ∧ fI h' 60 1 = fI h 60 1 + 1))))
def PTmR (h h' : List mE) (u f z : Int) : Prop := TT h' = TT h ∧ (((u < 0 ∨ 1 < u ∨ f < 0 ∨ 999 < f) ∧ z = -1 ∧ fI h' 64 77 = fI h 64 77 ∧ fI h' 64 78 = fI h 64 78) ∨ (0 ≤ u ∧ u ≤ 1 ∧ 0 ≤ f ∧ f ≤ 999 ∧ 16 ≤ fI h 64 78 ∧ z = -3 ∧ fI h' 64 77 = fI h 64 77 ∧ fI h' 64 78 = fI h 64 78) ∨ (0 ≤ u ∧ u ≤ 1 ∧ 0 ≤ f ∧ f ≤ 999 ∧ fI h 64 78 ≤ 15 ∧ fI h' 64 77 = 0 ∧ ∃ x : Int, CP (TT h) (fI h 64 77) x ∧ ((0 ≤ x ∧ z = -100 - x ∧ fI h' 64 78 = fI h 64 78) ∨ (x < 0 ∧ z = fI h 64 78 ∧ fI h' 64 78 = fI h 64 78 + 1))))
def IE (h : List mE) : Prop := ∀ i : Int, aI h 55 i = TT h i
section TXS
variable {τ : List Nat} {h h' hc h1 h2 h3 h4 h5 : List mE} {W : List (Nat × Nat)} {E : EP} {a b c d e v i j x y z z1 z2 u f L : Int} {r : Nat}
theorem aI_neg (h : List mE) (q : Nat) (i : Int) : aI h q i = aI h q (i.toNat : Int) := by
  unfold aI
  rw [Int.toNat_natCast]
theorem IE_of (hh : ∀ i : Int, 0 ≤ i → aI h 55 i = TT h i) : IE h := fun i => by
  have := hh (i.toNat : Int) (by omega)
  unfold TT at this ⊢
  rw [aI_neg h 55 i, aI_neg h 124 i]
  exact this
theorem IE_fr (hI : IE h) (hT : TH E τ h) (hF : Fr τ W h h') (hw : avd W [(35, 0), (102, 0)] = true) : IE h' := fun i => by
  rw [Fr_aI hF (tf (q := 55) (t := 35) hT rfl rfl) (avd_of hw (by decide)), TT_fr hT hF (avd_of hw (by decide))]
  exact hI i
theorem AIn_0 : AIn h h v := fun j _ => by rw [if_neg (by omega)]
theorem AIn_s {w n : Int} (hI : AIn h hc v) (hu : AUp hc 55 i w h1) (hi : i = fI hc 54 1) (hv : FUp h1 54 1 (vI n) h2) (hn : n = fI hc 54 1 + 1) (hw : w = Bt v (3 - (fI hc 54 1 - fI h 54 1))) (hL : 0 ≤ fI h 54 1 ∧ fI h 54 1 ≤ fI hc 54 1 ∧ fI hc 54 1 ≤ 200) (hr : -2147483648 ≤ w ∧ w ≤ 2147483647) : AIn h h2 v := fun j j0 => by
  rw [FUp_aI hv, AUp_aI hu hr.1 hr.2 (by omega) j0, FUp_fI hv (by omega) (by omega), hI j j0]
  by_cases ej : j = i
  · rw [if_pos ej, if_pos (by omega), hw, ej, hi]
  · rw [if_neg ej]
    by_cases c : fI h 54 1 ≤ j ∧ j < fI hc 54 1
    · rw [if_pos c, if_pos (by omega)]
    · rw [if_neg c, if_neg (by omega)]
theorem PApp_of (hI : AIn h hc v) (he : fI h 54 1 ≤ 196 → fI hc 54 1 = fI h 54 1 + 4) : PApp h hc v := fun hl => by
  have e := he hl
  refine ⟨e, fun j j0 => ?_⟩
  rw [hI j j0, e]
  rfl
theorem RIn_0 : RIn h h v := fun j _ => by rw [if_neg (by omega)]
theorem RIn_s {w n : Int} (hI : RIn h hc v) (hu : AUp hc 124 i w h1) (hi : i = fI hc 64 77) (hv : FUp h1 64 77 (vI n) h2) (hn : n = fI hc 64 77 + 1) (hw : un w = Bt v (3 - (fI hc 64 77 - fI h 64 77))) (hL : 0 ≤ fI h 64 77 ∧ fI h 64 77 ≤ fI hc 64 77 ∧ fI hc 64 77 ≤ 200) (hr : -2147483648 ≤ w ∧ w ≤ 2147483647) : RIn h h2 v := fun j j0 => by
  have k := hI j j0
  unfold TT at k ⊢
  rw [FUp_aI hv, AUp_aI hu hr.1 hr.2 (by omega) j0, FUp_fI hv (by omega) (by omega)]
  by_cases ej : j = i
  · rw [if_pos ej, if_pos (by omega), hw, ej, hi]
  · rw [if_neg ej, k]
    by_cases c : fI h 64 77 ≤ j ∧ j < fI hc 64 77
    · rw [if_pos c, if_pos (by omega)]
    · rw [if_neg c, if_neg (by omega)]
theorem PFe1_of (hI : RIn h hc v) (e : fI hc 64 77 = fI h 64 77 + 4) : PFe1 h hc v := ⟨e, fun j j0 => by
  rw [hI j j0, e]
  rfl⟩
theorem ap_cg {f g : Int → Int} (hh : ∀ j : Int, 0 ≤ j → f j = g j) : ∀ j : Int, 0 ≤ j → ap f L v j = ap g L v j := fun j j0 => by
  unfold ap
  rw [hh j j0]
theorem ap5_cg {f g : Int → Int} (hh : ∀ j : Int, 0 ≤ j → f j = g j) : ∀ j : Int, 0 ≤ j → ap5 f L a b c d e j = ap5 g L a b c d e j := fun j j0 => by
  unfold ap5
  exact ap_cg (ap_cg (ap_cg (ap_cg (ap_cg hh)))) j j0
theorem PFeC_of (hl : fI h 54 1 ≤ 180) (p1 : PApp h h1 a) (p2 : PApp h1 h2 b) (p3 : PApp h2 h3 c) (p4 : PApp h3 h4 d) (p5 : PApp h4 h5 e) (hz : z = fI h5 54 1) : PFeC h h5 a b c d e z := by
  obtain ⟨e1, k1⟩ := p1 (by omega)
  obtain ⟨e2, k2⟩ := p2 (by omega)
  obtain ⟨e3, k3⟩ := p3 (by omega)
  obtain ⟨e4, k4⟩ := p4 (by omega)
  obtain ⟨e5, k5⟩ := p5 (by omega)
  refine Or.inr ⟨hl, by omega, by omega, fun j j0 => ?_⟩
  rw [k5 j j0, show fI h4 54 1 = fI h 54 1 + 16 by omega]
  unfold ap5
  refine ap_cg (fun j j0 => ?_) j j0
  rw [k4 j j0, show fI h3 54 1 = fI h 54 1 + 12 by omega]
  refine ap_cg (fun j j0 => ?_) j j0
  rw [k3 j j0, show fI h2 54 1 = fI h 54 1 + 8 by omega]
  refine ap_cg (fun j j0 => ?_) j j0
  rw [k2 j j0, e1]
  exact ap_cg k1 j j0
theorem PFeR_of (hl : fI h 64 77 ≤ 180) (p1 : PFe1 h h1 a) (p2 : PFe1 h1 h2 b) (p3 : PFe1 h2 h3 c) (p4 : PFe1 h3 h4 d) (p5 : PFe1 h4 h5 e) (hz : z = fI h5 64 77) : PFeR h h5 a b c d e z := by
  obtain ⟨e1, k1⟩ := p1
  obtain ⟨e2, k2⟩ := p2
  obtain ⟨e3, k3⟩ := p3
  obtain ⟨e4, k4⟩ := p4
  obtain ⟨e5, k5⟩ := p5
  refine Or.inr ⟨hl, by omega, by omega, fun j j0 => ?_⟩
  rw [k5 j j0, show fI h4 64 77 = fI h 64 77 + 16 by omega]
  unfold ap5
  refine ap_cg (fun j j0 => ?_) j j0
  rw [k4 j j0, show fI h3 64 77 = fI h 64 77 + 12 by omega]
  refine ap_cg (fun j j0 => ?_) j j0
  rw [k3 j j0, show fI h2 64 77 = fI h 64 77 + 8 by omega]
  refine ap_cg (fun j j0 => ?_) j j0
  rw [k2 j j0, e1]
  exact ap_cg k1 j j0
/-! a call on both -/
theorem S_feed (hI : IE h) (hn : fI h 54 1 = fI h1 64 77) (f1 : TT h1 = TT h) (f2 : Same 55 h1 h2) (f3 : fI h2 54 1 = fI h1 54 1) (p1 : PFeC h h1 a b c d e z1) (p2 : PFeR h1 h2 a b c d e z2) : IE h2 ∧ z1 = z2 ∧ fI h2 54 1 = fI h2 64 77 := by
  rcases p1 with ⟨c1, e1, l1, s1⟩ | ⟨c1, e1, l1, s1⟩
  · rcases p2 with ⟨d1, e2, l2, s2⟩ | ⟨d1, e2, l2, s2⟩
    · exact ⟨fun i => by rw [f2 i, s1 i, s2, f1]; exact hI i, by omega, by omega⟩
    · omega
  · rcases p2 with ⟨d1, e2, l2, s2⟩ | ⟨d1, e2, l2, s2⟩
    · omega
    · refine ⟨IE_of (fun i i0 => ?_), by omega, by omega⟩
      rw [f2 i, s1 i i0, s2 i i0, f1, hn]
      exact ap5_cg (fun j _ => hI j) i i0
theorem S_terms (hI : IE h) (hn : fI h 54 1 = fI h1 64 77) (hm : fI h 60 1 = fI h1 64 78) (f1 : TT h1 = TT h) (f2 : Same 55 h1 h2) (f3 : fI h2 54 1 = fI h1 54 1) (f4 : fI h2 60 1 = fI h1 60 1) (p1 : PTmC h h1 u f z1) (p2 : PTmR h1 h2 u f z2) : IE h2 ∧ z1 = z2 ∧ fI h2 54 1 = fI h2 64 77 ∧ fI h2 60 1 = fI h2 64 78 := by
  obtain ⟨s1, p1⟩ := p1
  obtain ⟨s2, p2⟩ := p2
  have ei : IE h2 := fun i => by rw [f2 i, s1 i, s2, f1]; exact hI i
  have eT : aI h 55 = TT h1 := by
    rw [f1]
    exact funext hI
  refine ⟨ei, ?_⟩
  rcases p1 with ⟨c1, e1, l1, m1⟩ | ⟨c1, c2, c3, c4, c5, e1, l1, m1⟩ | ⟨c1, c2, c3, c4, c5, l1, x, hx, e1⟩
  · rcases p2 with ⟨d1, e2, l2, m2⟩ | ⟨d1, d2, d3, d4, d5, e2, l2, m2⟩ | ⟨d1, d2, d3, d4, d5, l2, y, hy, e2⟩
    · exact ⟨by omega, by omega, by omega⟩
    · omega
    · omega
  · rcases p2 with ⟨d1, e2, l2, m2⟩ | ⟨d1, d2, d3, d4, d5, e2, l2, m2⟩ | ⟨d1, d2, d3, d4, d5, l2, y, hy, e2⟩
    · omega
    · exact ⟨by omega, by omega, by omega⟩
    · omega
  · rcases p2 with ⟨d1, e2, l2, m2⟩ | ⟨d1, d2, d3, d4, d5, e2, l2, m2⟩ | ⟨d1, d2, d3, d4, d5, l2, y, hy, e2⟩
    · omega
    · omega
    · rw [eT, hn] at hx
      have exy := CP_un hx hy
      exact ⟨by omega, by omega, by omega⟩
end TXS
