/-! TEXTS: how a text is cut into words, numbers and signs -/
def Run1 (P : Int → Prop) (n p q : Int) : Prop := p ≤ q ∧ q ≤ n ∧ (∀ i : Int, p ≤ i → i < q → P i) ∧ (q = n ∨ ¬ P q)
theorem Run1_un {P : Int → Prop} {n p q q' : Int} (h : Run1 P n p q) (h' : Run1 P n p q') : q = q' := by
  obtain ⟨a1, a2, a3, a4⟩ := h
  obtain ⟨b1, b2, b3, b4⟩ := h'
  by_cases e : q < q'
  · exfalso
    have k := b3 q a1 e
    rcases a4 with a4 | a4
    · omega
    · exact a4 k
  · by_cases e' : q' < q
    · exfalso
      have k := a3 q' b1 e'
      rcases b4 with b4 | b4
      · omega
      · exact b4 k
    · omega
theorem Run1_ex (P : Int → Prop) (n : Int) : ∀ (k : Nat) (p : Int), n - p = (k : Int) → ∃ q : Int, Run1 P n p q
  | 0, p, h => ⟨p, by omega, by omega, fun i a b => by omega, Or.inl (by omega)⟩
  | k + 1, p, h => by
    by_cases c : P p
    · obtain ⟨q, q1, q2, q3, q4⟩ := Run1_ex P n k (p + 1) (by omega)
      refine ⟨q, by omega, q2, fun i a b => ?_, q4⟩
      by_cases e : i = p
      · rw [e]; exact c
      · exact q3 i (by omega) b
    · exact ⟨p, by omega, by omega, fun i a b => by omega, Or.inr c⟩
abbrev isL (c : Int) : Prop := 97 ≤ c ∧ c ≤ 122
abbrev isD (c : Int) : Prop := 48 ≤ c ∧ c ≤ 57
/-- the words: NAMES, and the others -/
def wds : List (List Int) := [[100, 97, 121, 115], [97, 108, 108], [119, 101, 101, 107, 115], [114, 101, 115, 116], [114, 97, 116, 101], [104, 111, 117, 114, 115], [111, 118, 101, 114], [114, 97, 105, 110], [98, 114, 111, 107, 101, 110], [102, 117, 101, 108], [104, 97, 114, 109], [119, 111, 114, 116, 104], [111, 119, 110], [115, 117, 98], [102, 114, 111, 109], [117, 112], [116, 111], [108, 101, 97, 115, 116], [109, 111, 115, 116]]
def wd (k : Nat) : List Int := wds.getD k []
def Eqw (T : Int → Int) (f e : Int) (l : List Int) : Prop := e - f = (l.length : Int) ∧ ∀ i : Nat, i < l.length → T (f + (i : Int)) = l.getD i 0
theorem Eqw_un {T : Int → Int} {f e : Int} {l l' : List Int} (h : Eqw T f e l) (h' : Eqw T f e l') : l = l' := by
  have hl : l.length = l'.length := by
    have a := h.1
    have b := h'.1
    omega
  refine List.ext_getElem hl (fun i h1 h2 => ?_)
  have a := h.2 i h1
  have b := h'.2 i h2
  have ea : l.getD i 0 = l[i] := by simp [h1]
  have eb : l'.getD i 0 = l'[i] := by simp [h2]
  exact ea.symm.trans ((a.symm.trans b).trans eb)
theorem wd_inj : ∀ k : Nat, k < 19 → ∀ k' : Nat, k' < 19 → wd k = wd k' → k = k' := by decide +kernel
def WS (T : Int → Int) (f e s : Int) : Prop := (∃ k : Nat, k < 19 ∧ s = (k : Int) ∧ Eqw T f e (wd k)) ∨ (s = 102 ∧ ∀ k : Nat, k < 19 → ¬ Eqw T f e (wd k))
theorem WS_un {T : Int → Int} {f e s s' : Int} (h : WS T f e s) (h' : WS T f e s') : s = s' := by
  rcases h with ⟨k, k1, rfl, k2⟩ | ⟨rfl, k2⟩
  · rcases h' with ⟨q, q1, rfl, q2⟩ | ⟨rfl, q2⟩
    · rw [wd_inj k k1 q q1 (Eqw_un k2 q2)]
    · exact absurd k2 (q2 k k1)
  · rcases h' with ⟨q, q1, rfl, q2⟩ | ⟨rfl, q2⟩
    · exact absurd q2 (k2 q q1)
    · rfl
theorem WS_ex (T : Int → Int) (f e : Int) : ∃ s : Int, WS T f e s := by
  by_cases c : ∃ k : Nat, k < 19 ∧ Eqw T f e (wd k)
  · obtain ⟨k, k1, k2⟩ := c
    exact ⟨k, Or.inl ⟨k, k1, rfl, k2⟩⟩
  · exact ⟨102, Or.inr ⟨rfl, fun k k1 k2 => c ⟨k, k1, k2⟩⟩⟩
/-- from p on: where the next piece begins, where it ends, its sort -/
def Tok (T : Int → Int) (n p f e s : Int) : Prop := Run1 (fun i => T i = 32) n p f ∧ ((f = n ∧ e = n ∧ s = 101) ∨ (f < n ∧ isL (T f) ∧ Run1 (fun i => isL (T i)) n f e ∧ WS T f e s) ∨ (f < n ∧ isD (T f) ∧ Run1 (fun i => isD (T i)) n f e ∧ ((6 < e - f ∧ s = 102) ∨ (e - f ≤ 6 ∧ s = 100))) ∨ (f < n ∧ ¬ isL (T f) ∧ ¬ isD (T f) ∧ e = f + 1 ∧ s = 1000 + T f))
theorem Tok_un {T : Int → Int} {n p f e s f' e' s' : Int} (h : Tok T n p f e s) (h' : Tok T n p f' e' s') : f = f' ∧ e = e' ∧ s = s' := by
  obtain ⟨h1, h2⟩ := h
  obtain ⟨g1, g2⟩ := h'
  have ef := Run1_un h1 g1
  subst ef
  rcases h2 with ⟨a1, a2, a3⟩ | ⟨a1, a2, a3, a4⟩ | ⟨a1, a2, a3, a4⟩ | ⟨a1, a2, a3, a4, a5⟩
  · rcases g2 with ⟨b1, b2, b3⟩ | ⟨b1, -⟩ | ⟨b1, -⟩ | ⟨b1, -⟩
    · exact ⟨rfl, by omega, by omega⟩
    · omega
    · omega
    · omega
  · rcases g2 with ⟨b1, -⟩ | ⟨b1, b2, b3, b4⟩ | ⟨b1, b2, -⟩ | ⟨b1, b2, -⟩
    · omega
    · have ee := Run1_un a3 b3
      subst ee
      exact ⟨rfl, rfl, WS_un a4 b4⟩
    · omega
    · exact absurd a2 b2
  · rcases g2 with ⟨b1, -⟩ | ⟨b1, b2, -⟩ | ⟨b1, b2, b3, b4⟩ | ⟨b1, b2, b3, -⟩
    · omega
    · omega
    · have ee := Run1_un a3 b3
      subst ee
      exact ⟨rfl, rfl, by omega⟩
    · exact absurd a2 b3
  · rcases g2 with ⟨b1, -⟩ | ⟨b1, b2, -⟩ | ⟨b1, b2, -⟩ | ⟨b1, b2, b3, b4, b5⟩
    · omega
    · exact absurd b2 a2
    · exact absurd b2 a3
    · exact ⟨rfl, by omega, by omega⟩
theorem Tok_ex (T : Int → Int) {n p : Int} (hp : p ≤ n) : ∃ f e s : Int, Tok T n p f e s := by
  obtain ⟨f, hf⟩ := Run1_ex (fun i => T i = 32) n (n - p).toNat p (by omega)
  have hf2 := hf.2.1
  by_cases c : f = n
  · exact ⟨f, n, 101, hf, Or.inl ⟨c, rfl, rfl⟩⟩
  · by_cases l : isL (T f)
    · obtain ⟨e, he⟩ := Run1_ex (fun i => isL (T i)) n (n - f).toNat f (by omega)
      obtain ⟨s, hs⟩ := WS_ex T f e
      exact ⟨f, e, s, hf, Or.inr (Or.inl ⟨by omega, l, he, hs⟩)⟩
    · by_cases d : isD (T f)
      · obtain ⟨e, he⟩ := Run1_ex (fun i => isD (T i)) n (n - f).toNat f (by omega)
        by_cases g : 6 < e - f
        · exact ⟨f, e, 102, hf, Or.inr (Or.inr (Or.inl ⟨by omega, d, he, Or.inl ⟨g, rfl⟩⟩))⟩
        · exact ⟨f, e, 100, hf, Or.inr (Or.inr (Or.inl ⟨by omega, d, he, Or.inr ⟨by omega, rfl⟩⟩))⟩
      · exact ⟨f, f + 1, 1000 + T f, hf, Or.inr (Or.inr (Or.inr ⟨by omega, l, d, rfl, rfl⟩))⟩
theorem Tok_bd {T : Int → Int} {n p f e s : Int} (h : Tok T n p f e s) : p ≤ f ∧ f ≤ e ∧ e ≤ n ∧ (s = 101 ∨ f + 1 ≤ e) := by
  obtain ⟨⟨h1, h2, -, -⟩, h3⟩ := h
  rcases h3 with ⟨a1, a2, a3⟩ | ⟨a1, a2, ⟨r1, r2, r3, r4⟩, a4⟩ | ⟨a1, a2, ⟨r1, r2, r3, r4⟩, a4⟩ | ⟨a1, a2, a3, a4, a5⟩
  · omega
  · refine ⟨h1, r1, r2, Or.inr ?_⟩
    by_cases c : e = f
    · exfalso
      rcases r4 with r4 | r4
      · omega
      · rw [c] at r4; exact r4 a2
    · omega
  · refine ⟨h1, r1, r2, Or.inr ?_⟩
    by_cases c : e = f
    · exfalso
      rcases r4 with r4 | r4
      · omega
      · rw [c] at r4; exact r4 a2
    · omega
  · omega
/-- all pieces of a text: sort, place, and up to where those ahead of it go -/
noncomputable def tkf (T : Int → Int) (n p : Int) : Int × Int × Int := @dite _ (∃ t : Int × Int × Int, Tok T n p t.1 t.2.1 t.2.2) (Classical.propDecidable _) (fun h => Classical.choose h) (fun _ => (p, p, 101))
theorem tkf_ok (T : Int → Int) {n p : Int} (hp : p ≤ n) : Tok T n p (tkf T n p).1 (tkf T n p).2.1 (tkf T n p).2.2 := by
  obtain ⟨f, e, s, h⟩ := Tok_ex T hp
  have hx : ∃ t : Int × Int × Int, Tok T n p t.1 t.2.1 t.2.2 := ⟨(f, e, s), h⟩
  unfold tkf
  rw [dif_pos hx]
  exact Classical.choose_spec hx
noncomputable def posn (T : Int → Int) (n : Int) : Nat → Int
  | 0 => 0
  | k + 1 => (tkf T n (posn T n k)).2.1
noncomputable def cS (T : Int → Int) (n a : Int) : Int := (tkf T n (posn T n a.toNat)).2.2
noncomputable def cF (T : Int → Int) (n a : Int) : Int := (tkf T n (posn T n a.toNat)).1
noncomputable def cP (T : Int → Int) (n a : Int) : Int := posn T n a.toNat
theorem posn_bd (T : Int → Int) {n : Int} (hn : 0 ≤ n) : ∀ k : Nat, 0 ≤ posn T n k ∧ posn T n k ≤ n
  | 0 => ⟨Int.le_refl _, hn⟩
  | k + 1 => by
    have ih := posn_bd T hn k
    have h := Tok_bd (tkf_ok T ih.2)
    show 0 ≤ (tkf T n (posn T n k)).2.1 ∧ (tkf T n (posn T n k)).2.1 ≤ n
    omega
def ST (S F P : Int → Int) (T : Int → Int) (n : Int) : Prop := P 0 = 0 ∧ (0 ≤ n ∧ ∀ i : Int, 0 ≤ T i) ∧ ∀ a : Int, 0 ≤ a → 0 ≤ P a ∧ P a ≤ n ∧ Tok T n (P a) (F a) (P (a + 1)) (S a)
theorem ST_c (T : Int → Int) {n : Int} (hn : 0 ≤ n) (hT : ∀ i : Int, 0 ≤ T i) : ST (cS T n) (cF T n) (cP T n) T n := ⟨rfl, ⟨hn, hT⟩, fun a ha => by
  have b := posn_bd T hn a.toNat
  refine ⟨b.1, b.2, ?_⟩
  have e : cP T n (a + 1) = (tkf T n (posn T n a.toNat)).2.1 := by
    unfold cP
    rw [show (a + 1).toNat = a.toNat + 1 by omega]
    rfl
  rw [e]
  exact tkf_ok T b.2⟩
section TX
variable {S F P T : Int → Int} {n a b i p f e s o : Int} {r : Int × Int}
theorem ST_F (h : ST S F P T n) (ha : 0 ≤ a) : 0 ≤ F a ∧ F a ≤ n ∧ P a ≤ F a ∧ F a ≤ P (a + 1) ∧ P (a + 1) ≤ n ∧ (S a = 101 ∨ F a + 1 ≤ P (a + 1)) := by
  have h1 := h.2.2 a ha
  have h2 := Tok_bd h1.2.2
  omega
theorem ST_tok (h : ST S F P T n) (ha : 0 ≤ a) (ht : Tok T n (P a) f e s) : F a = f ∧ P (a + 1) = e ∧ S a = s := Tok_un (h.2.2 a ha).2.2 ht
theorem ST_end1 (h : ST S F P T n) (ha : 0 ≤ a) (hs : P a = n) : S a = 101 ∧ F a = n ∧ P (a + 1) = n := by
  have k := h.2.2 a ha
  have k2 := ST_tok h ha (f := n) (e := n) (s := 101) ⟨⟨by omega, Int.le_refl _, fun i x y => by omega, Or.inl rfl⟩, Or.inl ⟨rfl, rfl, rfl⟩⟩
  exact ⟨k2.2.2, k2.1, k2.2.1⟩
theorem ST_101 (h : ST S F P T n) (ha : 0 ≤ a) (hs : S a = 101) : F a = n ∧ P (a + 1) = n := by
  obtain ⟨-, k⟩ := (h.2.2 a ha).2.2
  rcases k with ⟨k1, k2, -⟩ | ⟨k1, -, -, k4⟩ | ⟨k1, -, -, k4⟩ | ⟨k1, k2, k3, k4, k5⟩
  · exact ⟨k1, k2⟩
  · rcases k4 with ⟨q, q1, q2, -⟩ | ⟨q1, -⟩ <;> omega
  · omega
  · have := h.2.1.2 (F a)
    omega
theorem ST_next (h : ST S F P T n) (ha : 0 ≤ a) (hs : S a = 101) : S (a + 1) = 101 ∧ F (a + 1) = n := by
  have k := ST_end1 h (a := a + 1) (by omega) (ST_101 h ha hs).2
  exact ⟨k.1, k.2.1⟩
theorem ST_stay (h : ST S F P T n) (ha : 0 ≤ a) (hs : S a = 101) : ∀ k : Nat, S (a + (k : Int)) = 101 ∧ F (a + (k : Int)) = n
  | 0 => by
    rw [show a + ((0 : Nat) : Int) = a by omega]
    exact ⟨hs, (ST_101 h ha hs).1⟩
  | k + 1 => by
    have ih := ST_stay h ha hs k
    have e := ST_next h (a := a + (k : Int)) (by omega) ih.1
    rw [show a + ((k + 1 : Nat) : Int) = a + (k : Int) + 1 by omega]
    exact e
theorem ST_ge (h : ST S F P T n) (ha : 0 ≤ a) (hs : S a = 101) (hb : a ≤ b) : S b = 101 ∧ F b = n := by
  have k := ST_stay h ha hs (b - a).toNat
  rw [show a + ((b - a).toNat : Int) = b by omega] at k
  exact k
/-! which sorts make TERMS: 0 sum, 1 product, 2 operand, 3 what follows a product of a sum, 4 what follows an operand of a product, 5 step, 6 all steps; (1, b): up to b; (2, i): a fault at i -/
def sq (r : Int × Int) (k : Int → Int × Int) : Int × Int := if r.1 = 1 then k r.2 else r
def PRs (S : Int → Int) (q : Nat → Int → Int → Int × Int) (md : Nat) (o a : Int) : Int × Int := match md with
  | 0 => sq (q 1 o a) (fun b => q 3 o b)
  | 1 => sq (q 2 o a) (fun b => q 4 o b)
  | 2 => if S a = 100 ∨ (0 ≤ S a ∧ S a < 14) then (1, a + 1) else if S a = 17 ∨ S a = 18 then (if 8 ≤ o ∨ S (a + 1) ≠ 1040 then (2, a + 1) else sq (q 0 (o + 1) (a + 1 + 1)) (fun b => if S b = 1044 then sq (q 0 (o + 1) (b + 1)) (fun c => if S c = 1041 then (1, c + 1) else (2, c)) else (2, b))) else if 8 ≤ o ∨ S a ≠ 1040 then (2, a) else sq (q 0 (o + 1) (a + 1)) (fun b => if S b = 1041 then (1, b + 1) else (2, b))
  | 3 => if S a = 1043 ∨ S a = 1045 then sq (q 1 o (a + 1)) (fun b => q 3 o b) else (1, a)
  | 4 => if S a = 1042 ∨ S a = 1047 then sq (q 2 o (a + 1)) (fun b => q 4 o b) else (1, a)
  | 5 => if S a = 14 then (if S (a + 1) ≠ 100 then (2, a + 1) else if S (a + 1 + 1) = 16 then (if S (a + 1 + 1 + 1) ≠ 100 then (2, a + 1 + 1 + 1) else q 0 0 (a + 1 + 1 + 1 + 1)) else if S (a + 1 + 1) = 15 then q 0 0 (a + 1 + 1 + 1) else (2, a + 1 + 1)) else q 0 0 a
  | 6 => sq (q 5 0 a) (fun b => if S b = 1059 then q 6 0 (b + 1) else if S b = 101 then (1, b) else (2, b))
  | _ => (0, 0)
def PR (S : Int → Int) : Nat → Nat → Int → Int → Int × Int
  | 0 => fun _ _ _ => (0, 0)
  | f + 1 => PRs S (PR S f)
def PRr (S : Int → Int) (md : Nat) (o a : Int) (r : Int × Int) : Prop := r.1 ≠ 0 ∧ ∃ f : Nat, ∀ g : Nat, f ≤ g → PR S g md o a = r
theorem PRr_un {md : Nat} {r' : Int × Int} (h : PRr S md o a r) (h' : PRr S md o a r') : r = r' := by
  obtain ⟨-, f, hf⟩ := h
  obtain ⟨-, g, hg⟩ := h'
  exact (hf (f + g) (by omega)).symm.trans (hg (f + g) (by omega))
theorem PRr_mk {md : Nat} (h0 : r.1 ≠ 0) (f : Nat) (h : ∀ g : Nat, f ≤ g → PRs S (PR S g) md o a = r) : PRr S md o a r := ⟨h0, f + 1, fun g hg => by
  match g, hg with
  | 0, hg => omega
  | g + 1, hg => exact h g (by omega)⟩
theorem nzp {c i : Int} (h : c ≠ 0) : ((c, i) : Int × Int).1 ≠ 0 := h
theorem sq_1 {b : Int} {k : Int → Int × Int} : sq (1, b) k = k b := if_pos rfl
theorem sq_2 {b : Int} {k : Int → Int × Int} : sq (2, b) k = (2, b) := if_neg (show ¬ (2 : Int) = 1 by decide)
theorem P0_ok (h1 : PRr S 1 o a (1, b)) (h2 : PRr S 3 o b r) : PRr S 0 o a r := by
  obtain ⟨-, f, hf⟩ := h1
  obtain ⟨h0, g, hg⟩ := h2
  refine PRr_mk h0 (f + g) (fun k hk => ?_)
  show sq (PR S k 1 o a) (fun b => PR S k 3 o b) = r
  rw [hf k (by omega), sq_1]
  exact hg k (by omega)
theorem P0_no (h1 : PRr S 1 o a (2, i)) : PRr S 0 o a (2, i) := by
  obtain ⟨-, f, hf⟩ := h1
  refine PRr_mk (nzp (by decide)) f (fun k hk => ?_)
  show sq (PR S k 1 o a) (fun b => PR S k 3 o b) = _
  rw [hf k hk, sq_2]
theorem P1_ok (h1 : PRr S 2 o a (1, b)) (h2 : PRr S 4 o b r) : PRr S 1 o a r := by
  obtain ⟨-, f, hf⟩ := h1
  obtain ⟨h0, g, hg⟩ := h2
  refine PRr_mk h0 (f + g) (fun k hk => ?_)
  show sq (PR S k 2 o a) (fun b => PR S k 4 o b) = r
  rw [hf k (by omega), sq_1]
  exact hg k (by omega)
theorem P1_no (h1 : PRr S 2 o a (2, i)) : PRr S 1 o a (2, i) := by
  obtain ⟨-, f, hf⟩ := h1
  refine PRr_mk (nzp (by decide)) f (fun k hk => ?_)
  show sq (PR S k 2 o a) (fun b => PR S k 4 o b) = _
  rw [hf k hk, sq_2]
theorem P3_stop (h : S a ≠ 1043 ∧ S a ≠ 1045) : PRr S 3 o a (1, a) := PRr_mk (nzp (by decide)) 0 (fun k _ => if_neg (by omega))
theorem P4_stop (h : S a ≠ 1042 ∧ S a ≠ 1047) : PRr S 4 o a (1, a) := PRr_mk (nzp (by decide)) 0 (fun k _ => if_neg (by omega))
theorem P3_ok (h : S a = 1043 ∨ S a = 1045) (h1 : PRr S 1 o (a + 1) (1, b)) (h2 : PRr S 3 o b r) : PRr S 3 o a r := by
  obtain ⟨-, f, hf⟩ := h1
  obtain ⟨h0, g, hg⟩ := h2
  refine PRr_mk h0 (f + g) (fun k hk => ?_)
  show (if S a = 1043 ∨ S a = 1045 then sq (PR S k 1 o (a + 1)) (fun b => PR S k 3 o b) else (1, a)) = r
  rw [if_pos h, hf k (by omega), sq_1]
  exact hg k (by omega)
theorem P3_no (h : S a = 1043 ∨ S a = 1045) (h1 : PRr S 1 o (a + 1) (2, i)) : PRr S 3 o a (2, i) := by
  obtain ⟨-, f, hf⟩ := h1
  refine PRr_mk (nzp (by decide)) f (fun k hk => ?_)
  show (if S a = 1043 ∨ S a = 1045 then sq (PR S k 1 o (a + 1)) (fun b => PR S k 3 o b) else (1, a)) = _
  rw [if_pos h, hf k hk, sq_2]
theorem P4_ok (h : S a = 1042 ∨ S a = 1047) (h1 : PRr S 2 o (a + 1) (1, b)) (h2 : PRr S 4 o b r) : PRr S 4 o a r := by
  obtain ⟨-, f, hf⟩ := h1
  obtain ⟨h0, g, hg⟩ := h2
  refine PRr_mk h0 (f + g) (fun k hk => ?_)
  show (if S a = 1042 ∨ S a = 1047 then sq (PR S k 2 o (a + 1)) (fun b => PR S k 4 o b) else (1, a)) = r
  rw [if_pos h, hf k (by omega), sq_1]
  exact hg k (by omega)
theorem P4_no (h : S a = 1042 ∨ S a = 1047) (h1 : PRr S 2 o (a + 1) (2, i)) : PRr S 4 o a (2, i) := by
  obtain ⟨-, f, hf⟩ := h1
  refine PRr_mk (nzp (by decide)) f (fun k hk => ?_)
  show (if S a = 1042 ∨ S a = 1047 then sq (PR S k 2 o (a + 1)) (fun b => PR S k 4 o b) else (1, a)) = _
  rw [if_pos h, hf k hk, sq_2]
theorem P2_one (h : S a = 100 ∨ (0 ≤ S a ∧ S a < 14)) : PRr S 2 o a (1, a + 1) := PRr_mk (nzp (by decide)) 0 (fun k _ => if_pos h)
theorem P2_pf (h : S a = 17 ∨ S a = 18) (h2 : 8 ≤ o ∨ S (a + 1) ≠ 1040) : PRr S 2 o a (2, a + 1) := PRr_mk (nzp (by decide)) 0 (fun k _ => (if_neg (by omega)).trans ((if_pos h).trans (if_pos h2)))
theorem P2_pr (h : S a = 17 ∨ S a = 18) (h2 : o < 8) (h3 : S (a + 1) = 1040) {r1 : Int × Int} (h4 : PRr S 0 (o + 1) (a + 1 + 1) r1) (h0 : r.1 ≠ 0) (f : Nat) (hr : ∀ k : Nat, f ≤ k → sq r1 (fun b => if S b = 1044 then sq (PR S k 0 (o + 1) (b + 1)) (fun c => if S c = 1041 then (1, c + 1) else (2, c)) else (2, b)) = r) : PRr S 2 o a r := by
  obtain ⟨-, g, hg⟩ := h4
  refine PRr_mk h0 (f + g) (fun k hk => (if_neg (by omega)).trans ((if_pos h).trans ((if_neg (by omega)).trans ?_)))
  rw [hg k (by omega)]
  exact hr k (by omega)
theorem P2_p1 (h : S a = 17 ∨ S a = 18) (h2 : o < 8) (h3 : S (a + 1) = 1040) (h4 : PRr S 0 (o + 1) (a + 1 + 1) (2, i)) : PRr S 2 o a (2, i) := P2_pr h h2 h3 h4 (nzp (by decide)) 0 (fun k _ => sq_2)
theorem P2_p2 (h : S a = 17 ∨ S a = 18) (h2 : o < 8) (h3 : S (a + 1) = 1040) (h4 : PRr S 0 (o + 1) (a + 1 + 1) (1, b)) (h5 : S b ≠ 1044) : PRr S 2 o a (2, b) := P2_pr h h2 h3 h4 (nzp (by decide)) 0 (fun k _ => sq_1.trans (if_neg h5))
theorem P2_p3 (h : S a = 17 ∨ S a = 18) (h2 : o < 8) (h3 : S (a + 1) = 1040) (h4 : PRr S 0 (o + 1) (a + 1 + 1) (1, b)) (h5 : S b = 1044) (h6 : PRr S 0 (o + 1) (b + 1) (2, i)) : PRr S 2 o a (2, i) := by
  obtain ⟨-, f, hf⟩ := h6
  refine P2_pr h h2 h3 h4 (nzp (by decide)) f (fun k hk => sq_1.trans ((if_pos h5).trans ?_))
  rw [hf k hk, sq_2]
theorem P2_p4 {c : Int} (h : S a = 17 ∨ S a = 18) (h2 : o < 8) (h3 : S (a + 1) = 1040) (h4 : PRr S 0 (o + 1) (a + 1 + 1) (1, b)) (h5 : S b = 1044) (h6 : PRr S 0 (o + 1) (b + 1) (1, c)) (h7 : S c ≠ 1041) : PRr S 2 o a (2, c) := by
  obtain ⟨-, f, hf⟩ := h6
  refine P2_pr h h2 h3 h4 (nzp (by decide)) f (fun k hk => sq_1.trans ((if_pos h5).trans ?_))
  rw [hf k hk, sq_1, if_neg h7]
theorem P2_p5 {c : Int} (h : S a = 17 ∨ S a = 18) (h2 : o < 8) (h3 : S (a + 1) = 1040) (h4 : PRr S 0 (o + 1) (a + 1 + 1) (1, b)) (h5 : S b = 1044) (h6 : PRr S 0 (o + 1) (b + 1) (1, c)) (h7 : S c = 1041) : PRr S 2 o a (1, c + 1) := by
  obtain ⟨-, f, hf⟩ := h6
  refine P2_pr h h2 h3 h4 (nzp (by decide)) f (fun k hk => sq_1.trans ((if_pos h5).trans ?_))
  rw [hf k hk, sq_1, if_pos h7]
theorem P2_nf (h : ¬ (S a = 100 ∨ (0 ≤ S a ∧ S a < 14))) (h1 : ¬ (S a = 17 ∨ S a = 18)) (h2 : 8 ≤ o ∨ S a ≠ 1040) : PRr S 2 o a (2, a) := PRr_mk (nzp (by decide)) 0 (fun k _ => (if_neg h).trans ((if_neg h1).trans (if_pos h2)))
theorem P2_nr (h2 : o < 8) (h3 : S a = 1040) {r1 : Int × Int} (h4 : PRr S 0 (o + 1) (a + 1) r1) (h0 : r.1 ≠ 0) (hr : sq r1 (fun b => if S b = 1041 then (1, b + 1) else (2, b)) = r) : PRr S 2 o a r := by
  obtain ⟨-, g, hg⟩ := h4
  refine PRr_mk h0 g (fun k hk => (if_neg (by omega)).trans ((if_neg (by omega)).trans ((if_neg (by omega)).trans ?_)))
  rw [hg k hk]
  exact hr
theorem P2_n1 (h2 : o < 8) (h3 : S a = 1040) (h4 : PRr S 0 (o + 1) (a + 1) (2, i)) : PRr S 2 o a (2, i) := P2_nr h2 h3 h4 (nzp (by decide)) sq_2
theorem P2_n2 (h2 : o < 8) (h3 : S a = 1040) (h4 : PRr S 0 (o + 1) (a + 1) (1, b)) (h5 : S b ≠ 1041) : PRr S 2 o a (2, b) := P2_nr h2 h3 h4 (nzp (by decide)) (sq_1.trans (if_neg h5))
theorem P2_n3 (h2 : o < 8) (h3 : S a = 1040) (h4 : PRr S 0 (o + 1) (a + 1) (1, b)) (h5 : S b = 1041) : PRr S 2 o a (1, b + 1) := P2_nr h2 h3 h4 (nzp (by decide)) (sq_1.trans (if_pos h5))
theorem P5_n (h : S a ≠ 14) (h1 : PRr S 0 0 a r) : PRr S 5 0 a r := by
  obtain ⟨h0, f, hf⟩ := h1
  exact PRr_mk h0 f (fun k hk => (if_neg h).trans (hf k hk))
theorem P5_1 (h : S a = 14) (h1 : S (a + 1) ≠ 100) : PRr S 5 0 a (2, a + 1) := PRr_mk (nzp (by decide)) 0 (fun k _ => (if_pos h).trans (if_pos h1))
theorem P5_2 (h : S a = 14) (h1 : S (a + 1) = 100) (h2 : S (a + 1 + 1) ≠ 16) (h3 : S (a + 1 + 1) ≠ 15) : PRr S 5 0 a (2, a + 1 + 1) := PRr_mk (nzp (by decide)) 0 (fun k _ => (if_pos h).trans ((if_neg (by omega)).trans ((if_neg h2).trans (if_neg h3))))
theorem P5_3 (h : S a = 14) (h1 : S (a + 1) = 100) (h2 : S (a + 1 + 1) = 16) (h3 : S (a + 1 + 1 + 1) ≠ 100) : PRr S 5 0 a (2, a + 1 + 1 + 1) := PRr_mk (nzp (by decide)) 0 (fun k _ => (if_pos h).trans ((if_neg (by omega)).trans ((if_pos h2).trans (if_pos h3))))
theorem P5_up (h : S a = 14) (h1 : S (a + 1) = 100) (h2 : S (a + 1 + 1) = 15) (h3 : PRr S 0 0 (a + 1 + 1 + 1) r) : PRr S 5 0 a r := by
  obtain ⟨h0, f, hf⟩ := h3
  exact PRr_mk h0 f (fun k hk => (if_pos h).trans ((if_neg (by omega)).trans ((if_neg (by omega)).trans ((if_pos h2).trans (hf k hk)))))
theorem P5_to (h : S a = 14) (h1 : S (a + 1) = 100) (h2 : S (a + 1 + 1) = 16) (h4 : S (a + 1 + 1 + 1) = 100) (h3 : PRr S 0 0 (a + 1 + 1 + 1 + 1) r) : PRr S 5 0 a r := by
  obtain ⟨h0, f, hf⟩ := h3
  exact PRr_mk h0 f (fun k hk => (if_pos h).trans ((if_neg (by omega)).trans ((if_pos h2).trans ((if_neg (by omega)).trans (hf k hk)))))
theorem P6_no (h : PRr S 5 0 a (2, i)) : PRr S 6 0 a (2, i) := by
  obtain ⟨-, f, hf⟩ := h
  refine PRr_mk (nzp (by decide)) f (fun k hk => ?_)
  show sq (PR S k 5 0 a) (fun b => if S b = 1059 then PR S k 6 0 (b + 1) else if S b = 101 then (1, b) else (2, b)) = _
  rw [hf k hk, sq_2]
theorem P6_more (h : PRr S 5 0 a (1, b)) (h1 : S b = 1059) (h2 : PRr S 6 0 (b + 1) r) : PRr S 6 0 a r := by
  obtain ⟨-, f, hf⟩ := h
  obtain ⟨h0, g, hg⟩ := h2
  refine PRr_mk h0 (f + g) (fun k hk => ?_)
  show sq (PR S k 5 0 a) (fun b => if S b = 1059 then PR S k 6 0 (b + 1) else if S b = 101 then (1, b) else (2, b)) = _
  rw [hf k (by omega), sq_1, if_pos h1]
  exact hg k (by omega)
theorem P6_end (h : PRr S 5 0 a (1, b)) (h1 : S b = 101) : PRr S 6 0 a (1, b) := by
  obtain ⟨-, f, hf⟩ := h
  refine PRr_mk (nzp (by decide)) f (fun k hk => ?_)
  show sq (PR S k 5 0 a) (fun b => if S b = 1059 then PR S k 6 0 (b + 1) else if S b = 101 then (1, b) else (2, b)) = _
  rw [hf k hk, sq_1, if_neg (by omega), if_pos h1]
theorem P6_bad (h : PRr S 5 0 a (1, b)) (h1 : S b ≠ 1059) (h2 : S b ≠ 101) : PRr S 6 0 a (2, b) := by
  obtain ⟨-, f, hf⟩ := h
  refine PRr_mk (nzp (by decide)) f (fun k hk => ?_)
  show sq (PR S k 5 0 a) (fun b => if S b = 1059 then PR S k 6 0 (b + 1) else if S b = 101 then (1, b) else (2, b)) = _
  rw [hf k hk, sq_1, if_neg h1, if_neg h2]
end TX
/-- what a text is worth: its fault's place, or -1 -/
def CP (T : Int → Int) (n z : Int) : Prop := (∃ b : Int, PRr (cS T n) 6 0 0 (1, b) ∧ z = -1) ∨ (∃ i : Int, PRr (cS T n) 6 0 0 (2, i) ∧ z = cF T n i ∧ 0 ≤ z)
theorem CP_un {T : Int → Int} {n z z' : Int} (h : CP T n z) (h' : CP T n z') : z = z' := by
  rcases h with ⟨b, h1, e⟩ | ⟨i, h1, e, -⟩ <;> rcases h' with ⟨b', h1', e'⟩ | ⟨i', h1', e', -⟩
  · omega
  · cases PRr_un h1 h1'
  · cases PRr_un h1 h1'
  · cases PRr_un h1 h1'
    omega
