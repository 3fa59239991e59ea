/-! .. WHAT IT SAYS OF THE SMALL ONE -/
def rAll {α β : Type} (r : α → β → Prop) : List α → List β → Prop
  | [], [] => True
  | a :: as, b :: bs => r a b ∧ rAll r as bs
  | _, _ => False
section RALL
variable {α β : Type} {r : α → β → Prop}
theorem rAll_len : ∀ {as : List α} {bs : List β}, rAll r as bs → as.length = bs.length
  | [], [], _ => rfl
  | _ :: as, _ :: bs, h => by simp [rAll_len h.2]
  | [], _ :: _, h => h.elim
  | _ :: _, [], h => h.elim
theorem rAll_get : ∀ {as : List α} {bs : List β} {i : Nat} {a : α}, rAll r as bs → as[i]? = some a → ∃ b, bs[i]? = some b ∧ r a b
  | [], [], _, _, _, h => by simp at h
  | x :: as, y :: bs, 0, a, h, ha => by
    have e : x = a := by simpa using ha
    subst e
    exact ⟨y, rfl, h.1⟩
  | x :: as, y :: bs, i + 1, a, h, ha => by
    obtain ⟨b, h1, h2⟩ := rAll_get h.2 (by simpa using ha)
    exact ⟨b, by simpa using h1, h2⟩
  | [], _ :: _, _, _, h, _ => h.elim
  | _ :: _, [], _, _, h, _ => h.elim
theorem rAll_none {as : List α} {bs : List β} {i : Nat} (h : rAll r as bs) (ha : as[i]? = none) : bs[i]? = none := by
  rw [List.getElem?_eq_none_iff] at ha ⊢
  rw [← rAll_len h]
  exact ha
theorem rAll_set : ∀ {as : List α} {bs : List β} {i : Nat} {a : α} {b : β}, rAll r as bs → r a b → rAll r (as.set i a) (bs.set i b)
  | [], [], _, _, _, _, _ => trivial
  | x :: as, y :: bs, 0, a, b, h, hr => ⟨hr, h.2⟩
  | x :: as, y :: bs, i + 1, a, b, h, hr => ⟨h.1, rAll_set h.2 hr⟩
  | [], _ :: _, _, _, _, h, _ => h.elim
  | _ :: _, [], _, _, _, h, _ => h.elim
theorem rAll_app : ∀ {as : List α} {bs : List β} {as2 : List α} {bs2 : List β}, rAll r as bs → rAll r as2 bs2 → rAll r (as ++ as2) (bs ++ bs2)
  | [], [], _, _, _, h => h
  | x :: as, y :: bs, _, _, h, h2 => ⟨h.1, rAll_app h.2 h2⟩
  | [], _ :: _, _, _, h, _ => h.elim
  | _ :: _, [], _, _, h, _ => h.elim
theorem rAll_rep {a : α} {b : β} (h : r a b) : ∀ n, rAll r (List.replicate n a) (List.replicate n b)
  | 0 => trivial
  | n + 1 => ⟨h, rAll_rep h n⟩
end RALL
def rI (val : Nat → Int32) (i : yI) (v : Int32) : Prop := match i with
  | .inl c => v = c
  | .inr (some e) => v = yev val e
  | .inr none => True
def rV (val : Nat → Int32) (s : yV) (v : Value) : Prop := match s with
  | .inl i => ∃ z, v = .int z ∧ rI val i z
  | .inr w => v = w
def rO (val : Nat → Int32) (s : Option yV) (v : Option Value) : Prop := match s, v with
  | none, none => True
  | some a, some b => rV val a b
  | _, _ => False
def rC (val : Nat → Int32) (n : Nat) (s : yC) (c : vp_A) : Prop := match s, c.2 with
  | .inl (d, ups), .inl f => ∀ j, j < n → rI val (yget d ups j) (f j)
  | .inr (.inl (d, ups)), .inr (.inr (.inr (.inr f))) => ∀ j, j < n → f j = yget d ups j
  | .inr (.inr _), .inr (.inl _) => True
  | _, _ => False
def rE (val : Nat → Int32) (s : yE) (e : mE) : Prop := match s, e with
  | .inl (t, (n, c)), .inl (t2, c2) => t = t2 ∧ n = c2.1 ∧ rC val n c c2
  | .inr (ci, fs), .inr (ci2, fs2) => ci = ci2 ∧ rAll (rV val) fs fs2
  | _, _ => False
abbrev rS (val : Nat → Int32) := rAll (rV val)
abbrev rLo (val : Nat → Int32) := rAll (rO val)
abbrev rH (val : Nat → Int32) := rAll (rE val)
def rF (val : Nat → Int32) (F : yF) : Prop := (∀ q ∈ F.1, q.2.1 ≤ (yev val q.1).toInt ∧ (yev val q.1).toInt ≤ q.2.2) ∧ ∀ q ∈ F.2, (yev val q.1).toInt ≠ q.2
def rOut (val : Nat → Int32) (o : yO) (z : mO) : Prop := match o, z with
  | .inl (pc, L, S, h), .inl (pc2, L2, S2, h2) => pc = pc2 ∧ rLo val L L2 ∧ rS val S S2 ∧ rH val h h2
  | .inr (.inl (m, as, T)), .inr (.inl (m2, as2, T2)) => m = m2 ∧ rS val as as2 ∧ rS val T T2
  | .inr (.inr v), .inr (.inr v2) => rO val v v2
  | _, _ => False
section RS
variable {val : Nat → Int32}
theorem rS_c {v : yV} {T : List yV} {S0 : List Value} (h : rS val (v :: T) S0) : ∃ v0 T0, S0 = v0 :: T0 ∧ rV val v v0 ∧ rS val T T0 := by
  cases S0 with
  | nil => exact h.elim
  | cons v0 T0 => exact ⟨v0, T0, rfl, h.1, h.2⟩
theorem rS_i {i : yI} {T : List yV} {S0 : List Value} (h : rS val (.inl i :: T) S0) : ∃ x0 T0, S0 = .int x0 :: T0 ∧ rI val i x0 ∧ rS val T T0 := by
  obtain ⟨v0, T0, rfl, ⟨z, rfl, h1⟩, h2⟩ := rS_c h
  exact ⟨z, T0, rfl, h1, h2⟩
theorem rS_r {w : Value} {T : List yV} {S0 : List Value} (h : rS val (.inr w :: T) S0) : ∃ T0, S0 = w :: T0 ∧ rS val T T0 := by
  obtain ⟨v0, T0, rfl, h1, h2⟩ := rS_c h
  have h1 : v0 = w := h1
  subst h1
  exact ⟨T0, rfl, h2⟩
theorem rS_n {S0 : List Value} (h : rS val [] S0) : S0 = [] := by
  cases S0 with
  | nil => rfl
  | cons => exact h.elim
theorem rV_i {i : yI} {z : Int32} (h : rI val i z) : rV val (.inl i) (.int z) := ⟨z, rfl, h⟩
theorem rV_cat {v : yV} {w : Value} (h : rV val v w) : ycat v = w.category := by
  cases v with
  | inl i => obtain ⟨z, rfl, -⟩ := h; rfl
  | inr u => have h : w = u := h; subst h; rfl
theorem rS_cat : ∀ {S : List yV} {S0 : List Value}, rS val S S0 → ymcat S = mcat S0
  | [], [], _ => rfl
  | a :: as, b :: bs, h => by
    have h1 := rS_cat h.2
    have h2 := rV_cat h.1
    simp only [ymcat, mcat, List.map_cons, List.sum_cons] at h1 ⊢
    rw [h1, h2]
  | [], _ :: _, h => h.elim
  | _ :: _, [], h => h.elim
/-! intervals -/
theorem yev_lo (e : yX) : ylo ≤ (yev val e).toInt ∧ (yev val e).toInt ≤ yhi := by
  have h1 := Int32.le_toInt (yev val e)
  have h2 := Int32.toInt_lt (yev val e)
  unfold ylo yhi
  omega
theorem yfd_ok (e : yX) : ∀ F : List (yX × Int × Int), (∀ q ∈ F, q.2.1 ≤ (yev val q.1).toInt ∧ (yev val q.1).toInt ≤ q.2.2) → (yfd F e).1 ≤ (yev val e).toInt ∧ (yev val e).toInt ≤ (yfd F e).2
  | [], _ => yev_lo e
  | (e2, r) :: F, h => by
    unfold yfd
    by_cases he : e2 = e
    · rw [if_pos he]
      subst he
      exact h _ List.mem_cons_self
    · rw [if_neg he]
      exact yfd_ok e F (fun q hq => h q (List.mem_cons_of_mem _ hq))
theorem yexc_ok (e : yX) (k : Int) : ∀ G : List (yX × Int), (∀ q ∈ G, (yev val q.1).toInt ≠ q.2) → yexc G e k = true → (yev val e).toInt ≠ k
  | [], _, h => by cases h
  | (e2, k2) :: G, h, hk => by
    unfold yexc at hk
    simp only [Bool.or_eq_true, Bool.and_eq_true, decide_eq_true_eq] at hk
    rcases hk with ⟨rfl, rfl⟩ | hk
    · exact h (e2, k2) List.mem_cons_self
    · exact yexc_ok e k G (fun q hq => h q (List.mem_cons_of_mem _ hq)) hk
theorem yup_ok {G : List (yX × Int)} (hG : ∀ q ∈ G, (yev val q.1).toInt ≠ q.2) (e : yX) : ∀ (n : Nat) (lo : Int), lo ≤ (yev val e).toInt → yup G e n lo ≤ (yev val e).toInt
  | 0, lo, h => h
  | n + 1, lo, h => by
    unfold yup
    by_cases he : yexc G e lo = true
    · rw [if_pos he]
      have := yexc_ok e lo G hG he
      exact yup_ok hG e n (lo + 1) (by omega)
    · rw [if_neg he]
      exact h
theorem ydn_ok {G : List (yX × Int)} (hG : ∀ q ∈ G, (yev val q.1).toInt ≠ q.2) (e : yX) : ∀ (n : Nat) (hi : Int), (yev val e).toInt ≤ hi → (yev val e).toInt ≤ ydn G e n hi
  | 0, hi, h => h
  | n + 1, hi, h => by
    unfold ydn
    by_cases he : yexc G e hi = true
    · rw [if_pos he]
      have := yexc_ok e hi G hG he
      exact ydn_ok hG e n (hi - 1) (by omega)
    · rw [if_neg he]
      exact h
theorem yiv_ok {F : yF} (hF : rF val F) (e : yX) : (yiv F e).1 ≤ (yev val e).toInt ∧ (yev val e).toInt ≤ (yiv F e).2 := by
  have h := yfd_ok e F.1 hF.1
  unfold yiv
  exact ⟨yup_ok hF.2 e 64 _ h.1, ydn_ok hF.2 e 64 _ h.2⟩
theorem yadd_ok {F : yF} (hF : rF val F) {e : yX} {lo hi : Int} (h1 : lo ≤ (yev val e).toInt) (h2 : (yev val e).toInt ≤ hi) : rF val (yadd F e lo hi) := by
  refine ⟨fun q hq => ?_, hF.2⟩
  rcases List.mem_cons.mp hq with rfl | hq
  · exact ⟨h1, h2⟩
  · exact hF.1 q hq
theorem ynot_ok {F : yF} (hF : rF val F) {e : yX} {k : Int} (h : (yev val e).toInt ≠ k) : rF val (ynot F e k) := by
  refine ⟨hF.1, fun q hq => ?_⟩
  rcases List.mem_cons.mp hq with rfl | hq
  · exact h
  · exact hF.2 q hq
theorem ylt_ok {F : yF} (hF : rF val F) (e : yX) (k : Int) : ∃ q ∈ ylt F e k, rF val q.1 ∧ q.2 = decide ((yev val e).toInt < k) := by
  have h := yiv_ok hF e
  unfold ylt
  generalize yiv F e = r at h
  obtain ⟨lo, hi⟩ := r
  dsimp only at h ⊢
  by_cases h0 : hi < lo
  · exfalso; omega
  rw [if_neg h0]
  by_cases h1 : hi < k
  · rw [if_pos h1]
    exact ⟨_, List.mem_cons_self, hF, (decide_eq_true (by omega)).symm⟩
  rw [if_neg h1]
  by_cases h2 : k ≤ lo
  · rw [if_pos h2]
    exact ⟨_, List.mem_cons_self, hF, (decide_eq_false (by omega)).symm⟩
  rw [if_neg h2]
  by_cases h3 : (yev val e).toInt < k
  · exact ⟨_, List.mem_cons_self, yadd_ok hF h.1 (by omega), (decide_eq_true h3).symm⟩
  · exact ⟨_, List.mem_cons_of_mem _ List.mem_cons_self, yadd_ok hF (by omega) h.2, (decide_eq_false h3).symm⟩
theorem yeq_ok {F : yF} (hF : rF val F) (e : yX) (k : Int) : ∃ q ∈ yeq F e k, rF val q.1 ∧ q.2 = decide ((yev val e).toInt = k) := by
  have h := yiv_ok hF e
  unfold yeq
  generalize yiv F e = r at h
  obtain ⟨lo, hi⟩ := r
  dsimp only at h ⊢
  by_cases h0 : hi < lo
  · exfalso; omega
  rw [if_neg h0]
  by_cases h1 : k < lo ∨ hi < k
  · rw [if_pos h1]
    exact ⟨_, List.mem_cons_self, hF, (decide_eq_false (by omega)).symm⟩
  rw [if_neg h1]
  by_cases h2 : lo = hi
  · rw [if_pos h2]
    exact ⟨_, List.mem_cons_self, hF, (decide_eq_true (by omega)).symm⟩
  rw [if_neg h2]
  by_cases h3 : (yev val e).toInt = k
  · exact ⟨_, List.mem_cons_self, yadd_ok hF (by omega) (by omega), (decide_eq_true h3).symm⟩
  · exact ⟨_, List.mem_cons_of_mem _ List.mem_cons_self, ynot_ok hF h3, (decide_eq_false h3).symm⟩
theorem yneg_ok {l : List (yF × Bool)} {b : Bool} (h : ∃ q ∈ l, rF val q.1 ∧ q.2 = b) : ∃ q ∈ yneg l, rF val q.1 ∧ q.2 = !b := by
  obtain ⟨q, h1, h2, h3⟩ := h
  exact ⟨(q.1, !q.2), List.mem_map.mpr ⟨q, h1, rfl⟩, h2, by rw [← h3]⟩
theorem mcmp_i (c : ClassFile.Cond) (a b : Int32) : mcmp c a b = (match c with
    | .eq => decide (a.toInt = b.toInt)
    | .ne => !decide (a.toInt = b.toInt)
    | .lt => decide (a.toInt < b.toInt)
    | .ge => !decide (a.toInt < b.toInt)
    | .gt => !decide (a.toInt < b.toInt + 1)
    | .le => decide (a.toInt < b.toInt + 1)) := by
  cases c with
  | eq => exact decide_eq_decide.mpr (Int32.toInt_inj).symm
  | ne =>
    show (!decide (a = b)) = _
    rw [decide_eq_decide.mpr (Int32.toInt_inj (x := a) (y := b)).symm]
  | lt => exact decide_eq_decide.mpr Int32.lt_iff_toInt_lt
  | ge =>
    show decide (b ≤ a) = !decide (a.toInt < b.toInt)
    rw [← decide_not]
    refine decide_eq_decide.mpr ?_
    rw [Int32.le_iff_toInt_le]
    omega
  | gt =>
    show decide (b < a) = !decide (a.toInt < b.toInt + 1)
    rw [← decide_not]
    refine decide_eq_decide.mpr ?_
    rw [Int32.lt_iff_toInt_lt]
    omega
  | le =>
    refine decide_eq_decide.mpr ?_
    rw [Int32.le_iff_toInt_le]
    omega
theorem ycx_ok {F : yF} (hF : rF val F) (c : ClassFile.Cond) (e : yX) (b : Int32) : ∃ q ∈ ycx F c e b.toInt, rF val q.1 ∧ q.2 = mcmp c (yev val e) b := by
  rw [mcmp_i]
  cases c with
  | eq => exact yeq_ok hF e _
  | ne => exact yneg_ok (yeq_ok hF e _)
  | lt => exact ylt_ok hF e _
  | ge => exact yneg_ok (ylt_ok hF e _)
  | gt => exact yneg_ok (ylt_ok hF e _)
  | le => exact ylt_ok hF e _
theorem yflip_ok (c : ClassFile.Cond) (a b : Int32) : mcmp c a b = mcmp (yflip c) b a := by
  cases c with
  | eq => exact decide_eq_decide.mpr eq_comm
  | ne => show (!decide (a = b)) = !decide (b = a); rw [decide_eq_decide.mpr (eq_comm (a := a) (b := b))]
  | _ => rfl
theorem yself_ok (c : ClassFile.Cond) (a : Int32) : yself c = mcmp c a a := by
  rw [mcmp_i]
  cases c <;> simp [yself] <;> omega
theorem ycmp_ok {F : yF} (hF : rF val F) (c : ClassFile.Cond) {a b : yI} {u v : Int32} (ha : rI val a u) (hb : rI val b v) : ∃ q ∈ ycmp F c a b, rF val q.1 ∧ q.2 = mcmp c u v := by
  have two : ∃ q ∈ ([(F, true), (F, false)] : List (yF × Bool)), rF val q.1 ∧ q.2 = mcmp c u v := by
    cases mcmp c u v with
    | true => exact ⟨_, List.mem_cons_self, hF, rfl⟩
    | false => exact ⟨_, List.mem_cons_of_mem _ List.mem_cons_self, hF, rfl⟩
  rcases a with a | _ | e <;> rcases b with b | _ | e2
  · have ha : u = a := ha
    have hb : v = b := hb
    subst ha; subst hb
    exact ⟨_, List.mem_cons_self, hF, rfl⟩
  · exact two
  · have ha : u = a := ha
    have hb : v = yev val e2 := hb
    subst ha; subst hb
    rw [yflip_ok]
    exact ycx_ok hF _ _ _
  · exact two
  · exact two
  · exact two
  · have ha : u = yev val e := ha
    have hb : v = b := hb
    subst ha; subst hb
    exact ycx_ok hF _ _ _
  · exact two
  · have ha : u = yev val e := ha
    have hb : v = yev val e2 := hb
    subst ha; subst hb
    show ∃ q ∈ (if e = e2 then [(F, yself c)] else [(F, true), (F, false)]), _
    by_cases he : e = e2
    · rw [if_pos he]
      subst he
      exact ⟨_, List.mem_cons_self, hF, yself_ok c _⟩
    · rw [if_neg he]
      exact two
end RS
