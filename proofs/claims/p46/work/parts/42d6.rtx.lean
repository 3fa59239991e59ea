/-! TEXTS in the reference's cells -/
def un (c : Int) : Int := if c < 0 then c + 256 else c
def TT (h : List mE) (i : Int) : Int := un (aI h 124 i)
/-- a piece's sort, its first byte, and how the reference calls it -/
def TC (s c tok : Int) : Prop := (s = 101 ∧ tok = 0) ∨ (((0 ≤ s ∧ s ≤ 18) ∨ s = 102) ∧ isL c ∧ tok = 1) ∨ (s = 100 ∧ isD c ∧ tok = 2) ∨ (s = 102 ∧ isD c ∧ tok = -1) ∨ (s = 1000 + c ∧ ¬ isL c ∧ ¬ isD c ∧ ((33 ≤ c ∧ c ≤ 127 ∧ tok = c) ∨ ((c < 33 ∨ 127 < c) ∧ tok = -1)))
def NX (S F P : Int → Int) (h : List mE) (a : Int) : Prop := ST S F P (TT h) (fI h 64 77) ∧ 0 ≤ a ∧ fI h 64 87 = P a
def CU (S F P : Int → Int) (h : List mE) (a : Int) : Prop := ST S F P (TT h) (fI h 64 77) ∧ 0 ≤ a ∧ fI h 64 86 = F a ∧ fI h 64 87 = P (a + 1) ∧ TC (S a) (TT h (F a)) (fI h 64 88)
def RMx (S F P : Int → Int) (md : Nat) (o : Int) (h h' : List mE) (a : Int) : Prop := (∃ b : Int, PRr S md o a (1, b) ∧ fI h' 64 90 = fI h 64 90 ∧ CU S F P h' b) ∨ (∃ i : Int, PRr S md o a (2, i) ∧ fI h' 64 90 = F i ∧ 0 ≤ F i)
def RLx (S F P : Int → Int) (md ml : Nat) (o : Int) (h hc : List mE) (a : Int) : Prop := (∃ i : Int, PRr S md o a (2, i) ∧ fI hc 64 90 = F i ∧ 0 ≤ F i) ∨ (fI hc 64 90 = fI h 64 90 ∧ ∃ b : Int, CU S F P hc b ∧ ∀ r : Int × Int, PRr S ml o b r → PRr S md o a r)
def RI (S F P : Int → Int) (hc : List mE) : Prop := (∃ i : Int, PRr S 6 0 0 (2, i) ∧ fI hc 64 90 = F i ∧ 0 ≤ F i) ∨ (fI hc 64 90 = -1 ∧ ∃ a b : Int, CU S F P hc b ∧ PRr S 5 0 a (1, b) ∧ ∀ r : Int × Int, PRr S 6 0 a r → PRr S 6 0 0 r)
def WH (h : List mE) (v : Int64) : Prop := fI h 64 88 = 1 ∧ fI h 64 87 - fI h 64 86 ≤ 12 ∧ HJ (aI h 124) (fI h 64 86) (fI h 64 87 - fI h 64 86).toNat = v
/-- so far blank -/
def BL (h hc : List mE) (p : Int) : Prop := TT hc = TT h ∧ ∀ j : Int, p ≤ j → j < fI hc 64 86 → TT h j = 32
section RTX
variable {τ σ : List Nat} {h h' hc h0 h1 h2 h3 : List mE} {W : List (Nat × Nat)} {E : EP} {S F P T : Int → Int} {n o a b c i j p s v x y : Int} {md ml k : Nat}
theorem TT_fr (hT : TH E τ h) (hF : Fr τ W h h') (hw : W.contains (102, 0) = false) : TT h' = TT h := funext (fun i => by
  unfold TT
  rw [Fr_aI hF (tf (q := 124) (t := 102) hT rfl rfl) hw])
theorem un_bd (h : -128 ≤ c ∧ c ≤ 127) : 0 ≤ un c ∧ un c ≤ 255 := by
  unfold un
  split <;> omega
theorem TT_bd (hT : TH E τ h) (i : Int) : 0 ≤ TT h i ∧ TT h i ≤ 255 := un_bd (aI_bd hT (tf (q := 124) (t := 102) hT rfl rfl) ay_102 i)
theorem TT_at (hT : TH E τ h) (i : Int) : (TT h i = aI h 124 i ∧ 0 ≤ aI h 124 i) ∨ (TT h i = aI h 124 i + 256 ∧ aI h 124 i < 0 ∧ 128 ≤ TT h i) := by
  have b := aI_bd hT (tf (q := 124) (t := 102) hT rfl rfl) ay_102 i
  unfold TT un
  split <;> omega
theorem CU_fr (hI : CU S F P h a) (hT : TH E τ h) (hF : Fr τ W h h') (hw : avd W [(102, 0), (8, 77), (8, 86), (8, 87), (8, 88)] = true) : CU S F P h' a := by
  unfold CU
  rw [TT_fr hT hF (avd_of hw (by decide)), Fr_fI hF (tf (q := 64) (t := 8) hT rfl rfl) (b := 77) (avd_of hw (by decide)), Fr_fI hF (tf (q := 64) (t := 8) hT rfl rfl) (b := 86) (avd_of hw (by decide)), Fr_fI hF (tf (q := 64) (t := 8) hT rfl rfl) (b := 87) (avd_of hw (by decide)), Fr_fI hF (tf (q := 64) (t := 8) hT rfl rfl) (b := 88) (avd_of hw (by decide))]
  exact hI
theorem NX_fr (hI : NX S F P h a) (hT : TH E τ h) (hF : Fr τ W h h') (hw : avd W [(102, 0), (8, 77), (8, 87)] = true) : NX S F P h' a := by
  unfold NX
  rw [TT_fr hT hF (avd_of hw (by decide)), Fr_fI hF (tf (q := 64) (t := 8) hT rfl rfl) (b := 77) (avd_of hw (by decide)), Fr_fI hF (tf (q := 64) (t := 8) hT rfl rfl) (b := 87) (avd_of hw (by decide))]
  exact hI
theorem CU_nx (hI : CU S F P h a) : NX S F P h (a + 1) := ⟨hI.1, by have := hI.2.1; omega, hI.2.2.2.1⟩
theorem CU_F (hI : CU S F P h a) : 0 ≤ a ∧ fI h 64 86 = F a ∧ 0 ≤ F a := ⟨hI.2.1, hI.2.2.1, (ST_F hI.1 hI.2.1).1⟩
theorem CU_t (hI : CU S F P h a) (hc : 33 ≤ c ∧ c ≤ 127) (h1 : ¬ isL c) (h2 : ¬ isD c) : (fI h 64 88 = c ∧ S a = 1000 + c) ∨ (fI h 64 88 ≠ c ∧ S a ≠ 1000 + c) := by
  have k := hI.2.2.2.2
  rcases k with ⟨k1, k2⟩ | ⟨k1, k2, k3⟩ | ⟨k1, k2, k3⟩ | ⟨k1, k2, k3⟩ | ⟨k1, k2, k3, k4⟩ <;> omega
theorem CU_2 (hI : CU S F P h a) : (fI h 64 88 = 2 ∧ S a = 100) ∨ (fI h 64 88 ≠ 2 ∧ S a ≠ 100) := by
  have k := hI.2.2.2.2
  have b := hI.1.2.1.2 (F a)
  rcases k with ⟨k1, k2⟩ | ⟨k1, k2, k3⟩ | ⟨k1, k2, k3⟩ | ⟨k1, k2, k3⟩ | ⟨k1, k2, k3, k4⟩ <;> omega
theorem CU_0 (hI : CU S F P h a) : (fI h 64 88 = 0 ∧ S a = 101) ∨ (fI h 64 88 ≠ 0 ∧ S a ≠ 101) := by
  have k := hI.2.2.2.2
  have b := hI.1.2.1.2 (F a)
  rcases k with ⟨k1, k2⟩ | ⟨k1, k2, k3⟩ | ⟨k1, k2, k3⟩ | ⟨k1, k2, k3⟩ | ⟨k1, k2, k3, k4⟩ <;> omega
/-- the next piece has been read -/
theorem NX_tok (hX : NX S F P h a) (hTT : TT h' = TT h) (hn : fI h' 64 77 = fI h 64 77) (ht : Tok (TT h) (fI h 64 77) (fI h 64 87) (fI h' 64 86) (fI h' 64 87) s) (hc : TC s (TT h (fI h' 64 86)) (fI h' 64 88)) : CU S F P h' a := by
  obtain ⟨st, a0, e⟩ := hX
  rw [e] at ht
  obtain ⟨k1, k2, k3⟩ := ST_tok st a0 ht
  unfold CU
  rw [hTT, hn]
  exact ⟨st, a0, k1.symm, k2.symm, by rw [k3, k1]; exact hc⟩
theorem HJ_cg {U : Int → Int} {f : Int} : ∀ m : Nat, (∀ j : Nat, j < m → U (f + (j : Int)) = T (f + (j : Int))) → HJ U f m = HJ T f m
  | 0, _ => rfl
  | m + 1, hh => by
    unfold HJ
    rw [HJ_cg m (fun j hj => hh j (by omega)), hh m (by omega)]
theorem WH_k (hT : TH E τ h) (hI : CU S F P h a) (hk : k < 19) : WH h (hcs.getD k 0) ↔ S a = (k : Int) := by
  obtain ⟨st, a0, e1, e2, tc⟩ := hI
  have tk := (st.2.2 a a0).2.2
  have bd := ST_F st a0
  have cg : ∀ hl : (∀ j : Int, F a ≤ j → j < P (a + 1) → isL (TT h j)), HJ (aI h 124) (F a) (P (a + 1) - F a).toNat = HJ (TT h) (F a) (P (a + 1) - F a).toNat := fun hl => HJ_cg _ (fun j hj => by
    have l := hl (F a + (j : Int)) (by omega) (by omega)
    have t := TT_at hT (F a + (j : Int))
    omega)
  unfold WH
  rw [e1, e2]
  constructor
  · rintro ⟨g1, g2, g3⟩
    have hl : isL (TT h (F a)) := by
      rcases tc with ⟨k1, k2⟩ | ⟨k1, k2, k3⟩ | ⟨k1, k2, k3⟩ | ⟨k1, k2, k3⟩ | ⟨k1, k2, k3, k4⟩
      · omega
      · exact k2
      · omega
      · omega
      · omega
    obtain ⟨-, tk⟩ := tk
    rcases tk with ⟨t1, t2, t3⟩ | ⟨t1, t2, t3, t4⟩ | ⟨t1, t2, -⟩ | ⟨t1, t2, -⟩
    · exfalso
      rcases tc with ⟨k1, k2⟩ | ⟨k1, k2, k3⟩ | ⟨k1, k2, k3⟩ | ⟨k1, k2, k3⟩ | ⟨k1, k2, k3, k4⟩ <;> omega
    · rw [cg t3.2.2.1] at g3
      exact WS_un t4 (Or.inl ⟨k, hk, rfl, (HJ_word hk bd.2.2.2.1 g2 t3.2.2.1).mp g3⟩)
    · omega
    · exact absurd hl t2
  · intro hs
    obtain ⟨-, tk⟩ := tk
    have b := st.2.1.2 (F a)
    rcases tk with ⟨t1, t2, t3⟩ | ⟨t1, t2, t3, t4⟩ | ⟨t1, t2, t3, t4⟩ | ⟨t1, t2, t3, t4, t5⟩
    · omega
    · have eq : Eqw (TT h) (F a) (P (a + 1)) (wd k) := by
        rcases t4 with ⟨q, q1, q2, q3⟩ | ⟨q1, -⟩
        · have : q = k := by omega
          rw [← this]; exact q3
        · omega
      have l12 : P (a + 1) - F a ≤ 12 := by
        have := (hcs_ok k hk).2.1
        have := eq.1
        omega
      refine ⟨?_, l12, by rw [cg t3.2.2.1]; exact (HJ_word hk bd.2.2.2.1 l12 t3.2.2.1).mpr eq⟩
      rcases tc with ⟨k1, k2⟩ | ⟨k1, k2, k3⟩ | ⟨k1, k2, k3⟩ | ⟨k1, k2, k3⟩ | ⟨k1, k2, k3, k4⟩
      · omega
      · exact k3
      · omega
      · omega
      · exact absurd t2 k2
    · omega
    · omega
theorem WH_nm (hT : TH E τ h) (hI : CU S F P h a) (h0 : 0 ≤ x) (h1 : x < 14) : WH h (mNm.getD x.toNat 0) ↔ S a = x := by
  rw [hcs_nm x.toNat (by omega)]
  have := WH_k (k := x.toNat) hT hI (by omega)
  rw [show ((x.toNat : Nat) : Int) = x by omega] at this
  exact this
/-! the reader -/
theorem RM_ok (p : PRr S md o a (1, b)) (e : fI h' 64 90 = fI h 64 90) (c : CU S F P h' b) : RMx S F P md o h h' a := Or.inl ⟨b, p, e, c⟩
theorem RM_no (p : PRr S md o a (2, i)) (e : fI h' 64 90 = F i) (g : 0 ≤ F i) : RMx S F P md o h h' a := Or.inr ⟨i, p, e, g⟩
theorem RL_0 (m : RMx S F P 1 o h h1 a) : RLx S F P 0 3 o h h1 a := by
  rcases m with ⟨b, p, e, c⟩ | ⟨i, p, e, g⟩
  · exact Or.inr ⟨e, b, c, fun r hr => P0_ok p hr⟩
  · exact Or.inl ⟨i, P0_no p, e, g⟩
theorem RL_1 (m : RMx S F P 2 o h h1 a) : RLx S F P 1 4 o h h1 a := by
  rcases m with ⟨b, p, e, c⟩ | ⟨i, p, e, g⟩
  · exact Or.inr ⟨e, b, c, fun r hr => P1_ok p hr⟩
  · exact Or.inl ⟨i, P1_no p, e, g⟩
theorem RL_f (l : RLx S F P md ml o h hc a) (hf : fI h 64 90 < 0) (hc0 : 0 ≤ fI hc 64 90) : RMx S F P md o h hc a := by
  rcases l with ⟨i, p, e, g⟩ | ⟨e, -⟩
  · exact Or.inr ⟨i, p, e, g⟩
  · omega
theorem RL_g (l : RLx S F P md ml o h hc a) (hc0 : fI hc 64 90 < 0) : fI hc 64 90 = fI h 64 90 ∧ ∃ b : Int, CU S F P hc b ∧ ∀ r : Int × Int, PRr S ml o b r → PRr S md o a r := by
  rcases l with ⟨i, p, e, g⟩ | l
  · omega
  · exact l
theorem RL_s0 (e0 : fI hc 64 90 = fI h 64 90) (k : ∀ r : Int × Int, PRr S 3 o b r → PRr S 0 o a r) (hs : S b = 1043 ∨ S b = 1045) (e1 : fI h1 64 90 = fI hc 64 90) (m : RMx S F P 1 o h1 h2 (b + 1)) (e2 : fI h3 64 90 = fI h2 64 90) (fr : ∀ b : Int, CU S F P h2 b → CU S F P h3 b) : RLx S F P 0 3 o h h3 a := by
  rcases m with ⟨d, p, e, c⟩ | ⟨i, p, e, g⟩
  · exact Or.inr ⟨by omega, d, fr d c, fun r hr => k r (P3_ok hs p hr)⟩
  · exact Or.inl ⟨i, k _ (P3_no hs p), by omega, g⟩
theorem RL_s1 (e0 : fI hc 64 90 = fI h 64 90) (k : ∀ r : Int × Int, PRr S 4 o b r → PRr S 1 o a r) (hs : S b = 1042 ∨ S b = 1047) (e1 : fI h1 64 90 = fI hc 64 90) (m : RMx S F P 2 o h1 h2 (b + 1)) (e2 : fI h3 64 90 = fI h2 64 90) (fr : ∀ b : Int, CU S F P h2 b → CU S F P h3 b) : RLx S F P 1 4 o h h3 a := by
  rcases m with ⟨d, p, e, c⟩ | ⟨i, p, e, g⟩
  · exact Or.inr ⟨by omega, d, fr d c, fun r hr => k r (P4_ok hs p hr)⟩
  · exact Or.inl ⟨i, k _ (P4_no hs p), by omega, g⟩
theorem RM_5 {a' : Int} (f : ∀ r : Int × Int, PRr S 0 0 a' r → PRr S 5 0 a r) (m : RMx S F P 0 0 h1 h2 a') (e1 : fI h1 64 90 = fI h 64 90) (e2 : fI h3 64 90 = fI h2 64 90) (fr : ∀ b : Int, CU S F P h2 b → CU S F P h3 b) : RMx S F P 5 0 h h3 a := by
  rcases m with ⟨b, p, e, c⟩ | ⟨i, p, e, g⟩
  · exact Or.inl ⟨b, f _ p, by omega, fr b c⟩
  · exact Or.inr ⟨i, f _ p, by omega, g⟩
theorem WH_c {v : Int64} (e : v = hcs.getD k 0) (hT : TH E τ h) (hI : CU S F P h a) (hk : k < 19) : WH h v ↔ S a = (k : Int) := by
  rw [e]
  exact WH_k hT hI hk
theorem NX_0 (hT : TH E τ h) (hTT : TT hc = TT h) (hn : fI hc 64 77 = fI h 64 77) (h0 : fI hc 64 87 = 0) (b : 0 ≤ fI h 64 77) : NX (cS (TT h) (fI h 64 77)) (cF (TT h) (fI h 64 77)) (cP (TT h) (fI h 64 77)) hc 0 := by
  unfold NX
  rw [hTT, hn, h0]
  exact ⟨ST_c _ b (fun i => (TT_bd hT i).1), Int.le_refl _, rfl⟩
/-! reading one piece -/
theorem TT_F {q c : Nat} {vv : Value} (hu : FUp hc q c vv h1) : TT h1 = TT hc := funext (fun i => by
  unfold TT
  rw [FUp_aI hu])
theorem BL_0 (hTT : TT h1 = TT h) (e : fI h1 64 86 = p) : BL h h1 p := ⟨hTT, fun j a b => by omega⟩
theorem BL_s (l : BL h hc p) (hTT : TT h1 = TT hc) (e : fI h1 64 86 = fI hc 64 86 + 1) (hb : TT h (fI hc 64 86) = 32) : BL h h1 p := ⟨hTT.trans l.1, fun j a b => by
  by_cases ej : j = fI hc 64 86
  · rw [ej]; exact hb
  · exact l.2 j a (by omega)⟩
theorem BL_m (l : BL h hc p) (hTT : TT h1 = TT hc) (e : fI h1 64 86 = fI hc 64 86) : BL h h1 p := ⟨hTT.trans l.1, fun j a b => l.2 j a (by omega)⟩
def RU (Q : Int → Prop) (hc : List mE) : Prop := ∀ j : Int, fI hc 64 86 ≤ j → j < fI hc 64 87 → Q j
theorem RU_0 {Q : Int → Prop} (e : fI hc 64 87 = fI hc 64 86) : RU Q hc := fun j a b => by omega
theorem RU_s {Q : Int → Prop} (l : RU Q hc) (e : fI h1 64 86 = fI hc 64 86) (e2 : fI h1 64 87 = fI hc 64 87 + 1) (hq : Q (fI hc 64 87)) : RU Q h1 := fun j a b => by
  by_cases ej : j = fI hc 64 87
  · rw [ej]; exact hq
  · exact l j (by omega) (by omega)
theorem NT_bl (l : BL h h' (fI h 64 87)) (h1 : fI h 64 87 ≤ fI h' 64 86) (h2 : fI h' 64 86 ≤ n) (h3 : fI h' 64 86 = n ∨ TT h (fI h' 64 86) ≠ 32) : Run1 (fun i => TT h i = 32) n (fI h 64 87) (fI h' 64 86) := ⟨h1, h2, fun i a b => l.2 i a b, h3⟩
theorem NT_end (hX : NX S F P h a) (l : BL h h' (fI h 64 87)) (hn : fI h' 64 77 = fI h 64 77) (h1 : fI h 64 87 ≤ fI h' 64 86) (hf : fI h' 64 86 = fI h 64 77) (he : fI h' 64 87 = fI h' 64 86) (hk : fI h' 64 88 = 0) : CU S F P h' a := NX_tok hX l.1 hn (s := 101) ⟨NT_bl l h1 (by omega) (Or.inl hf), Or.inl ⟨hf, by omega, rfl⟩⟩ (Or.inl ⟨rfl, hk⟩)
theorem NT_let (hX : NX S F P h a) (l : BL h h' (fI h 64 87)) (hn : fI h' 64 77 = fI h 64 77) (h1 : fI h 64 87 ≤ fI h' 64 86) (hf : fI h' 64 86 < fI h 64 77) (hl : isL (TT h (fI h' 64 86))) (ru : RU (fun i => isL (TT h i)) h') (b1 : fI h' 64 86 ≤ fI h' 64 87) (b2 : fI h' 64 87 ≤ fI h 64 77) (st : fI h' 64 87 = fI h 64 77 ∨ ¬ isL (TT h (fI h' 64 87))) (hk : fI h' 64 88 = 1) : CU S F P h' a := by
  obtain ⟨s, hs⟩ := WS_ex (TT h) (fI h' 64 86) (fI h' 64 87)
  refine NX_tok hX l.1 hn (s := s) ⟨NT_bl l h1 (by omega) (Or.inr (by omega)), Or.inr (Or.inl ⟨hf, hl, ⟨b1, b2, ru, st⟩, hs⟩)⟩ (Or.inr (Or.inl ⟨?_, hl, hk⟩))
  rcases hs with ⟨q, q1, q2, -⟩ | ⟨q1, -⟩ <;> omega
theorem NT_dig (hX : NX S F P h a) (l : BL h h' (fI h 64 87)) (hn : fI h' 64 77 = fI h 64 77) (h1 : fI h 64 87 ≤ fI h' 64 86) (hf : fI h' 64 86 < fI h 64 77) (hl : isD (TT h (fI h' 64 86))) (ru : RU (fun i => isD (TT h i)) h') (b1 : fI h' 64 86 ≤ fI h' 64 87) (b2 : fI h' 64 87 ≤ fI h 64 77) (st : fI h' 64 87 = fI h 64 77 ∨ ¬ isD (TT h (fI h' 64 87))) (hk : (6 < fI h' 64 87 - fI h' 64 86 ∧ fI h' 64 88 = -1) ∨ (fI h' 64 87 - fI h' 64 86 ≤ 6 ∧ fI h' 64 88 = 2)) : CU S F P h' a := by
  rcases hk with ⟨g1, g2⟩ | ⟨g1, g2⟩
  · exact NX_tok hX l.1 hn (s := 102) ⟨NT_bl l h1 (by omega) (Or.inr (by omega)), Or.inr (Or.inr (Or.inl ⟨hf, hl, ⟨b1, b2, ru, st⟩, Or.inl ⟨g1, rfl⟩⟩))⟩ (Or.inr (Or.inr (Or.inr (Or.inl ⟨rfl, hl, g2⟩))))
  · exact NX_tok hX l.1 hn (s := 100) ⟨NT_bl l h1 (by omega) (Or.inr (by omega)), Or.inr (Or.inr (Or.inl ⟨hf, hl, ⟨b1, b2, ru, st⟩, Or.inr ⟨g1, rfl⟩⟩))⟩ (Or.inr (Or.inr (Or.inl ⟨rfl, hl, g2⟩)))
theorem NT_sig (hX : NX S F P h a) (l : BL h h' (fI h 64 87)) (hn : fI h' 64 77 = fI h 64 77) (h1 : fI h 64 87 ≤ fI h' 64 86) (hf : fI h' 64 86 < fI h 64 77) (hl : ¬ isL (TT h (fI h' 64 86))) (hd : ¬ isD (TT h (fI h' 64 86))) (hb : TT h (fI h' 64 86) ≠ 32) (he : fI h' 64 87 = fI h' 64 86 + 1) (hk : (33 ≤ TT h (fI h' 64 86) ∧ TT h (fI h' 64 86) ≤ 127 ∧ fI h' 64 88 = TT h (fI h' 64 86)) ∨ ((TT h (fI h' 64 86) < 33 ∨ 127 < TT h (fI h' 64 86)) ∧ fI h' 64 88 = -1)) : CU S F P h' a :=
  NX_tok hX l.1 hn (s := 1000 + TT h (fI h' 64 86)) ⟨NT_bl l h1 (by omega) (Or.inr hb), Or.inr (Or.inr (Or.inr ⟨hf, hl, hd, he, rfl⟩))⟩ (Or.inr (Or.inr (Or.inr (Or.inr ⟨rfl, hl, hd, hk⟩))))
/-! all steps -/
theorem RI_0 (hf : fI h 64 90 = -1) (m : RMx S F P 5 0 h h1 0) : RI S F P h1 := by
  rcases m with ⟨b, p, e, c⟩ | ⟨i, p, e, g⟩
  · exact Or.inr ⟨by omega, 0, b, c, p, fun r hr => hr⟩
  · exact Or.inl ⟨i, P6_no p, e, g⟩
theorem RI_s (e0 : fI hc 64 90 = -1) (p0 : PRr S 5 0 a (1, b)) (k : ∀ r : Int × Int, PRr S 6 0 a r → PRr S 6 0 0 r) (hs : S b = 1059) (e1 : fI h1 64 90 = fI hc 64 90) (m : RMx S F P 5 0 h1 h2 (b + 1)) : RI S F P h2 := by
  rcases m with ⟨d, p, e, c⟩ | ⟨i, p, e, g⟩
  · exact Or.inr ⟨by omega, b + 1, d, c, p, fun r hr => k r (P6_more p0 hs hr)⟩
  · exact Or.inl ⟨i, k _ (P6_more p0 hs (P6_no p)), e, g⟩
theorem RI_g (l : RI S F P hc) (h0 : fI hc 64 90 < 0) : fI hc 64 90 = -1 ∧ ∃ a b : Int, CU S F P hc b ∧ PRr S 5 0 a (1, b) ∧ ∀ r : Int × Int, PRr S 6 0 a r → PRr S 6 0 0 r := by
  rcases l with ⟨i, p, e, g⟩ | l
  · omega
  · exact l
theorem RI_f (l : RI (cS T n) (cF T n) P hc) (h0 : 0 ≤ fI hc 64 90) (hx : x = fI hc 64 90) : CP T n x := by
  rcases l with ⟨i, p, e, g⟩ | ⟨e, -⟩
  · exact Or.inr ⟨i, p, by omega, by omega⟩
  · omega
theorem RI_ok (p0 : PRr (cS T n) 5 0 a (1, b)) (k : ∀ r : Int × Int, PRr (cS T n) 6 0 a r → PRr (cS T n) 6 0 0 r) (hs : cS T n b = 101) (hx : x = -1) : CP T n x := Or.inl ⟨b, k _ (P6_end p0 hs), hx⟩
theorem RI_no (p0 : PRr (cS T n) 5 0 a (1, b)) (k : ∀ r : Int × Int, PRr (cS T n) 6 0 a r → PRr (cS T n) 6 0 0 r) (h1 : cS T n b ≠ 1059) (h2 : cS T n b ≠ 101) (hx : x = cF T n b) (hg : 0 ≤ cF T n b) : CP T n x := Or.inr ⟨b, k _ (P6_bad p0 h1 h2), hx, by omega⟩
end RTX
/-! BYTES of a number: as the class cuts them, as the reference does -/
def Bt (v k : Int) : Int := (((Int32.ofInt v).toBitVec.extractLsb' (8 * k.toNat) 8).toNat : Nat)
def SHR (x y : Int) : Int := (Int32.ofInt x >>> (Int32.ofInt y &&& 31)).toInt
def I2B (x : Int) : Int := ((Int32.ofInt x).toInt8.toInt32).toInt
def USH (x y : Int) : Int := (((Int32.ofInt x).toUInt32 >>> ((Int32.ofInt y).toUInt32 &&& Int32.toUInt32 31)).toInt32).toInt
def AND (x y : Int) : Int := (Int32.ofInt x &&& Int32.ofInt y).toInt
def ap (f : Int → Int) (L v j : Int) : Int := if L ≤ j ∧ j < L + 4 then Bt v (3 - (j - L)) else f j
theorem i32_of (x : Int32) : Int32.ofInt x.toInt = x := Int32.ofInt_toInt x
theorem ush_1 (x : Int32) (s : Nat) (hs : s = 0 ∨ s = 8 ∨ s = 16 ∨ s = 24) (y : UInt32) (hy : y.toBitVec.toNat = s) : ((x.toUInt32 >>> y).toInt32 &&& Int32.ofInt 255).toInt = ((x.toBitVec.extractLsb' s 8).toNat : Nat) := by
  have e : ((x.toUInt32 >>> y).toInt32 &&& Int32.ofInt 255).toBitVec.toNat = (x.toBitVec.extractLsb' s 8).toNat := by
    have hm : y.toBitVec.toNat % 32 = s := by omega
    simp only [Int32.toBitVec_and, UInt32.toBitVec_toInt32, UInt32.toBitVec_shiftRight, Int32.toBitVec_toUInt32, BitVec.toNat_and, BitVec.extractLsb'_toNat]
    have e255 : (Int32.ofInt 255).toBitVec.toNat = 2 ^ 8 - 1 := by decide
    rw [e255, Nat.and_two_pow_sub_one_eq_mod]
    congr 1
    show (x.toBitVec >>> (y.toBitVec % 32#32)).toNat = _
    rw [BitVec.ushiftRight_eq', BitVec.toNat_ushiftRight]
    congr 1
  have lt : (x.toBitVec.extractLsb' s 8).toNat < 2 ^ 8 := BitVec.isLt _
  show ((x.toUInt32 >>> y).toInt32 &&& Int32.ofInt 255).toBitVec.toInt = _
  rw [BitVec.toInt_eq_toNat_of_lt (by omega), e]
theorem bt_1 {v k : Int} (h0 : 0 ≤ k) (h3 : k ≤ 3) : AND (USH v (8 * k)) 255 = Bt v k := by
  unfold AND USH Bt
  rw [i32_of]
  rcases (by omega : k = 0 ∨ k = 1 ∨ k = 2 ∨ k = 3) with rfl | rfl | rfl | rfl
  · exact ush_1 _ 0 (by decide) _ (by decide)
  · exact ush_1 _ 8 (by decide) _ (by decide)
  · exact ush_1 _ 16 (by decide) _ (by decide)
  · exact ush_1 _ 24 (by decide) _ (by decide)
theorem shr_1 (x : Int32) (s : Nat) (hs : s = 0 ∨ s = 8 ∨ s = 16 ∨ s = 24) (y : Int32) (hy : y.toBitVec.toNat = s) : un ((x >>> y).toInt8.toInt32.toInt) = ((x.toBitVec.extractLsb' s 8).toNat : Nat) := by
  have e : (x >>> y).toInt8.toBitVec = x.toBitVec.extractLsb' s 8 := by
    apply BitVec.eq_of_getLsbD_eq
    intro i hi
    have hm : (y.toBitVec.smod 32#32).toNat = s := by
      have ey : y.toBitVec = BitVec.ofNat 32 s := by
        apply BitVec.eq_of_toNat_eq
        rw [hy, BitVec.toNat_ofNat]
        omega
      rw [ey]
      rcases hs with rfl | rfl | rfl | rfl <;> decide
    show ((x.toBitVec.sshiftRight' (y.toBitVec.smod 32#32)).signExtend 8).getLsbD i = _
    rw [BitVec.getLsbD_signExtend, BitVec.getLsbD_extractLsb', BitVec.sshiftRight_eq', hm, BitVec.getLsbD_sshiftRight]
    have h1 : ¬ 32 ≤ i := by omega
    have h2 : s + i < 32 := by omega
    simp [hi, h1, h2]
  rw [Int8.toInt_toInt32]
  show un ((x >>> y).toInt8.toBitVec.toInt) = _
  rw [e]
  have lt : (x.toBitVec.extractLsb' s 8).toNat < 2 ^ 8 := BitVec.isLt _
  unfold un
  rw [BitVec.toInt_eq_toNat_cond]
  split <;> split <;> omega
theorem bt_2 {v k : Int} (h0 : 0 ≤ k) (h3 : k ≤ 3) : un (I2B (SHR v (8 * k))) = Bt v k := by
  unfold I2B SHR Bt
  rw [i32_of]
  rcases (by omega : k = 0 ∨ k = 1 ∨ k = 2 ∨ k = 3) with rfl | rfl | rfl | rfl
  · exact shr_1 _ 0 (by decide) _ (by decide)
  · exact shr_1 _ 8 (by decide) _ (by decide)
  · exact shr_1 _ 16 (by decide) _ (by decide)
  · exact shr_1 _ 24 (by decide) _ (by decide)
