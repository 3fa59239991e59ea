/-! RUNS OF THE SMALL MACHINE: one row an instruction -/
def vI (z : Int) : Value := .int (Int32.ofInt z)
def MR (X : List mE) (d m pc : Nat) (L : mL) (S : List Value) (h : List mE) (Q : Option Value → List mE → Prop) : Prop := ∃ f v h', mrun X f d m pc L S h = some (v, h') ∧ Q v h'
/-- the instruction at a place, with what its method returns -/
def cdr (m pc : Nat) : Option (Option FieldType × mR) := match mrec m with
  | none => none
  | some R => match mcd R.2.2.2.2.2.2.2 pc with
    | none => none
    | some r => some (R.2.2.2.1, r)
/-- where it jumps -/
def mtg (pc : Nat) (J : Instr) : Nat := match J with
  | .ifCond _ o => mjmp pc o
  | .if_icmp _ o => mjmp pc o
  | .if_acmp _ o => mjmp pc o
  | .ifnull o => mjmp pc o
  | .ifnonnull o => mjmp pc o
  | .goto o => mjmp pc o
  | _ => 0
def CF (m pc : Nat) (ret : Option FieldType) (J : Instr) (a b npc tg : Nat) : Prop := ∃ n q, cdr m pc = some (ret, (J, n, a, b, q)) ∧ pc + n = npc ∧ mtg pc J = tg
def cfb (m pc : Nat) (ret : Option FieldType) (J : Instr) (a b npc tg : Nat) : Bool := match cdr m pc with
  | some (ret', (J', n, a', b', _)) => decide (ret' = ret) && decide (J' = J) && (a' == a) && (b' == b) && (pc + n == npc) && (mtg pc J == tg)
  | none => false
theorem CF_of {m pc : Nat} {ret : Option FieldType} {J : Instr} {a b npc tg : Nat} (h : cfb m pc ret J a b npc tg = true) : CF m pc ret J a b npc tg := by
  unfold cfb at h
  split at h
  · rename_i ret' J' n a' b' q hc
    simp only [Bool.and_eq_true, decide_eq_true_eq, beq_iff_eq] at h
    obtain ⟨⟨⟨⟨⟨rfl, rfl⟩, rfl⟩, rfl⟩, h1⟩, h2⟩ := h
    exact ⟨n, q, hc, h1, h2⟩
  · cases h
def CM (m ci ml : Nat) : Prop := ∃ R, mrec m = some R ∧ R.2.2.2.2.1 = ci ∧ R.2.2.1 = ml
def cmb (m ci ml : Nat) : Bool := match mrec m with
  | some R => (R.2.2.2.2.1 == ci) && (R.2.2.1 == ml)
  | none => false
theorem CM_of {m ci ml : Nat} (h : cmb m ci ml = true) : CM m ci ml := by
  unfold cmb at h
  split at h
  · rename_i R hR
    simp only [Bool.and_eq_true, beq_iff_eq] at h
    exact ⟨R, hR, h.1, h.2⟩
  · cases h
/-- one more of fuel -/
theorem mrun_mono1 (X : List mE) : ∀ (f d m pc : Nat) (L : mL) (S : List Value) (h : List mE) (r : Option Value × List mE), mrun X f d m pc L S h = some r → mrun X (f + 1) d m pc L S h = some r := by
  intro f
  induction f with
  | zero => intro d m pc L S h r hr; cases hr
  | succ f ih =>
    intro d m pc L S h r hr
    unfold mrun at hr ⊢
    cases hM : mrec m with
    | none => rw [hM] at hr; cases hr
    | some R =>
    rw [hM] at hr
    dsimp only at hr ⊢
    cases hc : mcd R.2.2.2.2.2.2.2 pc with
    | none => rw [hc] at hr; cases hr
    | some w =>
    rw [hc] at hr
    dsimp only at hr ⊢
    cases hx : mx R.2.2.2.1 X w pc L S h with
    | none => rw [hx] at hr; cases hr
    | some z =>
    rw [hx] at hr
    rcases z with ⟨pc', L', S', h'⟩ | ⟨m', as, T⟩ | v'
    · dsimp only at hr ⊢
      exact ih _ _ _ _ _ _ _ hr
    · dsimp only at hr ⊢
      cases d with
      | zero => cases hr
      | succ d =>
      cases hM' : mrec m' with
      | none => rw [hM'] at hr; cases hr
      | some M' =>
      rw [hM'] at hr
      dsimp only at hr ⊢
      by_cases hl : M'.2.2.1 < (lent1 as).length
      · rw [if_pos hl] at hr; cases hr
      rw [if_neg hl] at hr ⊢
      cases hcall : mrun X f d m' 0 (lent as M'.2.2.1) [] h with
      | none => rw [hcall] at hr; cases hr
      | some y =>
      rw [hcall] at hr
      rw [ih _ _ _ _ _ _ _ hcall]
      dsimp only at hr ⊢
      exact ih _ _ _ _ _ _ _ hr
    · exact hr
theorem mrun_mono {X : List mE} {f g d m pc : Nat} {L : mL} {S : List Value} {h : List mE} {r : Option Value × List mE} (hr : mrun X f d m pc L S h = some r) (hg : f ≤ g) : mrun X g d m pc L S h = some r := by
  induction g with
  | zero => cases Nat.le_zero.mp hg; exact hr
  | succ g ih =>
    rcases Nat.lt_or_ge g f with h1 | h1
    · have : f = g + 1 := by omega
      subst this; exact hr
    · exact mrun_mono1 _ _ _ _ _ _ _ _ _ (ih h1)
section WPA
variable {X : List mE} {d m pc npc tg a b i q t ci : Nat} {ret : Option FieldType} {L L' : mL} {S T : List Value} {h : List mE} {Q : Option Value → List mE → Prop} {x y z : Int}
theorem MR_go {r : mR} {pc' : Nat} {S' : List Value} {h' : List mE} (hc : cdr m pc = some (ret, r)) (hx : mx ret X r pc L S h = some (.inl (pc', L', S', h'))) (k : MR X d m pc' L' S' h' Q) : MR X d m pc L S h Q := by
  obtain ⟨f, v, h1, hr, hq⟩ := k
  refine ⟨f + 1, v, h1, ?_, hq⟩
  unfold cdr at hc
  unfold mrun
  cases hM : mrec m with
  | none => rw [hM] at hc; cases hc
  | some R =>
    rw [hM] at hc
    dsimp only at hc ⊢
    cases hd : mcd R.2.2.2.2.2.2.2 pc with
    | none => rw [hd] at hc; cases hc
    | some r' =>
      rw [hd] at hc
      cases hc
      dsimp only
      rw [hx]
      exact hr
theorem MR_rt {r : mR} {v : Option Value} (hc : cdr m pc = some (ret, r)) (hx : mx ret X r pc L S h = some (.inr (.inr v))) (hq : Q v h) : MR X d m pc L S h Q := by
  refine ⟨1, v, h, ?_, hq⟩
  unfold cdr at hc
  unfold mrun
  cases hM : mrec m with
  | none => rw [hM] at hc; cases hc
  | some R =>
    rw [hM] at hc
    dsimp only at hc ⊢
    cases hd : mcd R.2.2.2.2.2.2.2 pc with
    | none => rw [hd] at hc; cases hc
    | some r' =>
      rw [hd] at hc
      cases hc
      dsimp only
      rw [hx]
theorem MR_call {r : mR} {m' ml : Nat} {as : List Value} {L0 : mL} {Q' : Option Value → List mE → Prop} (hc : cdr m pc = some (ret, r)) (hx : mx ret X r pc L S h = some (.inr (.inl (m', as, T)))) (hm : CM m' ci ml) (hlen : (lent1 as).length ≤ ml) (hL : lent as ml = L0) (hd : 0 < d) (hk : MR X (d - 1) m' 0 L0 [] h Q')
    (k : ∀ v h', Q' v h' → MR X d m (pc + r.2.1) L (mpush v T) h' Q) : MR X d m pc L S h Q := by
  obtain ⟨d, rfl⟩ : ∃ d', d = d' + 1 := ⟨d - 1, by omega⟩
  rw [Nat.add_sub_cancel] at hk
  obtain ⟨f1, v1, h1, hr1, hq1⟩ := hk
  obtain ⟨f2, v2, h2, hr2, hq2⟩ := k v1 h1 hq1
  refine ⟨(f1 + f2) + 1, v2, h2, ?_, hq2⟩
  obtain ⟨R', hM', -, hml⟩ := hm
  unfold cdr at hc
  unfold mrun
  cases hM : mrec m with
  | none => rw [hM] at hc; cases hc
  | some R =>
    rw [hM] at hc
    dsimp only at hc ⊢
    cases hd : mcd R.2.2.2.2.2.2.2 pc with
    | none => rw [hd] at hc; cases hc
    | some r' =>
      rw [hd] at hc
      cases hc
      dsimp only
      rw [hx]
      dsimp only
      rw [hM']
      dsimp only
      rw [if_neg (by omega), hml, hL, mrun_mono hr1 (Nat.le_add_right f1 f2)]
      dsimp only
      exact mrun_mono hr2 (Nat.le_add_left f2 f1)
theorem mc_le : ∀ (T : List Value), mcat T ≤ 2 * T.length
  | [] => Nat.le_refl _
  | v :: T => by
    have h1 := mc_le T
    have h2 : v.category ≤ 2 := by cases v <;> exact Nat.le_of_ble_eq_true rfl
    have h3 : mcat (v :: T) = v.category + mcat T := by simp [mcat]
    rw [h3, List.length_cons]; omega
theorem mc4 (h : Nat.ble T.length 4 = true) : mcat T ≤ 8 := by
  have := mc_le T
  have := Nat.le_of_ble_eq_true h
  omega
theorem MR_wrap {e : Int} (k : ∀ w : Int, -2147483648 ≤ w → w ≤ 2147483647 → (-2147483648 ≤ e → e ≤ 2147483647 → w = e) → MR X d m pc L (vI w :: T) h Q) : MR X d m pc L (vI e :: T) h Q := by
  have h1 := Int32.toInt_lt (Int32.ofInt e)
  have h2 := Int32.le_toInt (Int32.ofInt e)
  have := k (Int32.ofInt e).toInt (by omega) (by omega) (fun a1 a2 => Int32.toInt_ofInt_of_le (by omega) (by omega))
  unfold vI at this ⊢
  rwa [Int32.ofInt_toInt] at this
/-- the locals known less -/
def Lle (L1 L2 : mL) : Prop := L1.length = L2.length ∧ ∀ (i : Nat) (v : Value), L1[i]? = some (some v) → L2[i]? = some (some v)
theorem Lle_0 : Lle [] [] := ⟨rfl, fun i v h => h⟩
theorem Lle_n {A B : mL} {o : Option Value} (h : Lle A B) : Lle (none :: A) (o :: B) := ⟨by simp [h.1], fun i v hv => by
  cases i with
  | zero => cases hv
  | succ i => exact h.2 i v hv⟩
theorem Lle_s {A B : mL} {o : Option Value} (h : Lle A B) : Lle (o :: A) (o :: B) := ⟨by simp [h.1], fun i v hv => by
  cases i with
  | zero => exact hv
  | succ i => exact h.2 i v hv⟩
theorem Lle_lget {A B : mL} {v : Value} (h : Lle A B) (hv : lget A i = some v) : lget B i = some v := by
  have := h.2 i v (g_lget hv)
  unfold lget
  rw [this]
theorem lclr_get2 {A : mL} {j : Nat} {v : Value} (h : A[j]? = some (some v)) (hn : ¬ (j + 1 = i ∧ v.category = 2)) : (lclr A i)[j]? = some (some v) := by
  cases i with
  | zero => exact h
  | succ i =>
    rw [lclr_s]
    by_cases hj : j = i
    · subst hj
      split
      · rename_i w hw; rw [h] at hw; cases hw; exact absurd ⟨rfl, rfl⟩ hn
      · rename_i w hw; rw [h] at hw; cases hw; exact absurd ⟨rfl, rfl⟩ hn
      · exact h
    · split
      · rw [List.getElem?_set_ne (Ne.symm hj)]; exact h
      · rw [List.getElem?_set_ne (Ne.symm hj)]; exact h
      · exact h
theorem Lle_set1 {A B : mL} {v : Value} (h : Lle A B) : Lle (lset1 A i v) (lset1 B i v) := by
  refine ⟨by rw [lset1_len, lset1_len, h.1], fun j w hw => ?_⟩
  have hl := (List.getElem?_eq_some_iff.mp hw).1
  rw [lset1_len, h.1] at hl
  rcases lset1_get hw with ⟨rfl, rfl⟩ | ⟨h1, h2, h3⟩
  · unfold lset1
    rw [List.getElem?_set_self (by rw [lclr_len]; exact hl)]
  · unfold lset1
    rw [List.getElem?_set_ne (Ne.symm h1)]
    exact lclr_get2 (h.2 _ _ h2) h3
theorem Lle_set2 {A B : mL} {v : Value} (h : Lle A B) : Lle (lset2 A i v) (lset2 B i v) := by
  refine ⟨by rw [lset2_len, lset2_len, h.1], fun j w hw => ?_⟩
  have hl := (List.getElem?_eq_some_iff.mp hw).1
  rw [lset2_len, h.1] at hl
  rcases lset2_get hw with ⟨rfl, rfl⟩ | ⟨h1, h0, h2, h3⟩
  · unfold lset2
    rw [List.getElem?_set_ne (by omega), List.getElem?_set_self (by rw [lclr_len]; exact hl)]
  · unfold lset2
    rw [List.getElem?_set_ne (Ne.symm h0), List.getElem?_set_ne (Ne.symm h1)]
    exact lclr_get2 (h.2 _ _ h2) h3
theorem Lle_mx {r : mR} {A B : mL} {pc' : Nat} {A' : mL} {S' : List Value} {h' : List mE} (hl : Lle A B) (hx : mx ret X r pc A S h = some (.inl (pc', A', S', h'))) : ∃ B', mx ret X r pc B S h = some (.inl (pc', B', S', h')) ∧ Lle A' B' := by
  obtain ⟨J, n, a1, b1, q1⟩ := r
  cases J with
  | iload i =>
    dsimp only [mx] at hx ⊢
    split at hx
    · rename_i w hw
      rw [Lle_lget hl hw]
      cases hx
      exact ⟨B, rfl, hl⟩
    · cases hx
  | lload i =>
    dsimp only [mx] at hx ⊢
    split at hx
    · rename_i w hw
      rw [Lle_lget hl hw]
      cases hx
      exact ⟨B, rfl, hl⟩
    · cases hx
  | aload i =>
    dsimp only [mx] at hx ⊢
    split at hx
    · rename_i w hw
      rw [Lle_lget hl hw]
      cases hx
      exact ⟨B, rfl, hl⟩
    · rename_i hw
      rw [Lle_lget hl hw]
      cases hx
      exact ⟨B, rfl, hl⟩
    · cases hx
  | istore i =>
    dsimp only [mx] at hx ⊢
    rw [← hl.1]
    split at hx
    · split at hx
      · rename_i hi
        rw [if_pos hi]
        cases hx
        exact ⟨_, rfl, Lle_set1 hl⟩
      · cases hx
    · cases hx
  | lstore i =>
    dsimp only [mx] at hx ⊢
    rw [← hl.1]
    split at hx
    · split at hx
      · rename_i hi
        rw [if_pos hi]
        cases hx
        exact ⟨_, rfl, Lle_set2 hl⟩
      · cases hx
    · cases hx
  | astore i =>
    dsimp only [mx] at hx ⊢
    rw [← hl.1]
    split at hx
    · split at hx
      · rename_i hi
        rw [if_pos hi]
        cases hx
        exact ⟨_, rfl, Lle_set1 hl⟩
      · cases hx
    · split at hx
      · rename_i hi
        rw [if_pos hi]
        cases hx
        exact ⟨_, rfl, Lle_set1 hl⟩
      · cases hx
    · cases hx
  | iinc i n =>
    dsimp only [mx] at hx ⊢
    rw [← hl.1]
    split at hx
    · rename_i w hw
      rw [Lle_lget hl hw]
      split at hx
      · rename_i hi
        dsimp only
        rw [if_pos hi]
        cases hx
        exact ⟨_, rfl, Lle_set1 hl⟩
      · cases hx
    · cases hx
  | fadd =>
    dsimp only [mx] at hx ⊢
    split at hx
    · rename_i y x T
      by_cases hm : mcat T ≤ 8
      · rw [if_pos hm] at hx ⊢
        simp only [mgo, Option.some.injEq, Sum.inl.injEq, Prod.mk.injEq] at hx ⊢; obtain ⟨rfl, rfl, rfl, rfl⟩ := hx; exact ⟨B, ⟨rfl, rfl, rfl, rfl⟩, hl⟩
      · rw [if_neg hm] at hx; cases hx
    · cases hx
  | fsub =>
    dsimp only [mx] at hx ⊢
    split at hx
    · rename_i y x T
      by_cases hm : mcat T ≤ 8
      · rw [if_pos hm] at hx ⊢
        simp only [mgo, Option.some.injEq, Sum.inl.injEq, Prod.mk.injEq] at hx ⊢; obtain ⟨rfl, rfl, rfl, rfl⟩ := hx; exact ⟨B, ⟨rfl, rfl, rfl, rfl⟩, hl⟩
      · rw [if_neg hm] at hx; cases hx
    · cases hx
  | dsub =>
    dsimp only [mx] at hx ⊢
    split at hx
    · rename_i y x T
      by_cases hm : mcat T ≤ 8
      · rw [if_pos hm] at hx ⊢
        simp only [mgo, Option.some.injEq, Sum.inl.injEq, Prod.mk.injEq] at hx ⊢; obtain ⟨rfl, rfl, rfl, rfl⟩ := hx; exact ⟨B, ⟨rfl, rfl, rfl, rfl⟩, hl⟩
      · rw [if_neg hm] at hx; cases hx
    · cases hx
  | tableswitch dd lo hi os =>
    dsimp only [mx] at hx ⊢
    split at hx
    · rename_i x T
      by_cases hb : x.toInt < lo ∨ hi < x.toInt
      · rw [if_pos hb] at hx ⊢
        simp only [mgo, Option.some.injEq, Sum.inl.injEq, Prod.mk.injEq] at hx ⊢; obtain ⟨rfl, rfl, rfl, rfl⟩ := hx; exact ⟨B, ⟨rfl, rfl, rfl, rfl⟩, hl⟩
      · rw [if_neg hb] at hx ⊢
        split at hx
        · rename_i o ho
          try simp only [ho]
          simp only [mgo, Option.some.injEq, Sum.inl.injEq, Prod.mk.injEq] at hx ⊢; obtain ⟨rfl, rfl, rfl, rfl⟩ := hx; exact ⟨B, ⟨rfl, rfl, rfl, rfl⟩, hl⟩
        · cases hx
    · cases hx
  | _ =>
    dsimp only [mx] at hx ⊢
    first
      | (cases hx; done)
      | (simp only [mgo, Option.some.injEq, Sum.inl.injEq, Prod.mk.injEq] at hx ⊢; obtain ⟨rfl, rfl, rfl, rfl⟩ := hx; exact ⟨B, ⟨rfl, rfl, rfl, rfl⟩, hl⟩)
      | (repeat' (split at hx)) <;> first
          | (cases hx; done)
          | (simp [mcall] at hx; done)
          | (simp only [mgo, Option.some.injEq, Sum.inl.injEq, Prod.mk.injEq] at hx
             obtain ⟨rfl, rfl, rfl, rfl⟩ := hx
             refine ⟨B, ?_, hl⟩
             simp_all [mgo])
theorem Lle_mxr {r : mR} {A B : mL} {z : (Nat × List Value × List Value) ⊕ Option Value} (hx : mx ret X r pc A S h = some (.inr z)) : mx ret X r pc B S h = some (.inr z) := by
  obtain ⟨J, n, a1, b1, q1⟩ := r
  rcases mx_out hx with ⟨i, rfl⟩ | ⟨i, rfl⟩ | ⟨i, rfl⟩ | rfl | rfl | rfl | rfl <;> exact hx
theorem MR_weakF : ∀ (f d m pc : Nat) (A B : mL) (S : List Value) (h : List mE) (r : Option Value × List mE), Lle A B → mrun X f d m pc A S h = some r → mrun X f d m pc B S h = some r := by
  intro f
  induction f with
  | zero => intro d m pc A B S h r _ hr; cases hr
  | succ f ih =>
    intro d m pc A B S h r hl hr
    unfold mrun at hr ⊢
    cases hM : mrec m with
    | none => rw [hM] at hr; cases hr
    | some R =>
    rw [hM] at hr
    dsimp only at hr ⊢
    cases hc : mcd R.2.2.2.2.2.2.2 pc with
    | none => rw [hc] at hr; cases hr
    | some w =>
    rw [hc] at hr
    dsimp only at hr ⊢
    cases hx : mx R.2.2.2.1 X w pc A S h with
    | none => rw [hx] at hr; cases hr
    | some z =>
    rw [hx] at hr
    rcases z with ⟨pc', L', S', h'⟩ | ⟨m', as, T⟩ | v'
    · obtain ⟨B', hB, hl'⟩ := Lle_mx hl hx
      rw [hB]
      dsimp only at hr ⊢
      exact ih _ _ _ _ _ _ _ _ hl' hr
    · rw [Lle_mxr hx]
      dsimp only at hr ⊢
      cases d with
      | zero => cases hr
      | succ d =>
      cases hM' : mrec m' with
      | none => rw [hM'] at hr; cases hr
      | some M' =>
      rw [hM'] at hr
      dsimp only at hr ⊢
      by_cases hl2 : M'.2.2.1 < (lent1 as).length
      · rw [if_pos hl2] at hr; cases hr
      rw [if_neg hl2] at hr ⊢
      cases hcall : mrun X f d m' 0 (lent as M'.2.2.1) [] h with
      | none => rw [hcall] at hr; cases hr
      | some y =>
      rw [hcall] at hr
      dsimp only at hr ⊢
      exact ih _ _ _ _ _ _ _ _ hl hr
    · rw [Lle_mxr hx]
      exact hr
theorem MR_weak {A B : mL} (hl : Lle A B) (k : MR X d m pc A S h Q) : MR X d m pc B S h Q := by
  obtain ⟨f, v, h', hr, hq⟩ := k
  exact ⟨f, v, h', MR_weakF _ _ _ _ _ _ _ _ _ hl hr, hq⟩
theorem MR_post {Q' : Option Value → List mE → Prop} (k : MR X d m pc L S h Q) (hq : ∀ v h', Q v h' → Q' v h') : MR X d m pc L S h Q' := by
  obtain ⟨f, v, h', hr, h1⟩ := k
  exact ⟨f, v, h', hr, hq _ _ h1⟩
theorem st_iconst (hc : CF m pc ret (.iconst z) a b npc tg)  (k : MR X d m npc L (vI z :: S) h Q) : MR X d m pc L S h Q := by
  obtain ⟨n, q1, hc, rfl, rfl⟩ := hc
  exact MR_go hc rfl k
theorem st_lconst (hc : CF m pc ret (.jsr_w z) a b npc tg)  (k : MR X d m npc L (.long (Int64.ofInt z) :: S) h Q) : MR X d m pc L S h Q := by
  obtain ⟨n, q1, hc, rfl, rfl⟩ := hc
  exact MR_go hc rfl k
theorem st_null (hc : CF m pc ret (.aconst_null) a b npc tg)  (k : MR X d m npc L (.null :: S) h Q) : MR X d m pc L S h Q := by
  obtain ⟨n, q1, hc, rfl, rfl⟩ := hc
  exact MR_go hc rfl k
theorem st_iload (hc : CF m pc ret (.iload i) a b npc tg) (hl : lget L i = some (vI z)) (k : MR X d m npc L (vI z :: S) h Q) : MR X d m pc L S h Q := by
  obtain ⟨n, q1, hc, rfl, rfl⟩ := hc
  refine MR_go hc ?_ k
  dsimp only [mx]
  rw [hl]
  rfl
theorem st_lload {w : Int64} (hc : CF m pc ret (.lload i) a b npc tg) (hl : lget L i = some (.long w)) (k : MR X d m npc L (.long w :: S) h Q) : MR X d m pc L S h Q := by
  obtain ⟨n, q1, hc, rfl, rfl⟩ := hc
  refine MR_go hc ?_ k
  dsimp only [mx]
  rw [hl]
  rfl
theorem st_aload (hc : CF m pc ret (.aload i) a b npc tg) (hl : lget L i = some (.ref q)) (k : MR X d m npc L (.ref q :: S) h Q) : MR X d m pc L S h Q := by
  obtain ⟨n, q1, hc, rfl, rfl⟩ := hc
  refine MR_go hc ?_ k
  dsimp only [mx]
  rw [hl]
  rfl
theorem st_aloadN (hc : CF m pc ret (.aload i) a b npc tg) (hl : lget L i = some .null) (k : MR X d m npc L (.null :: S) h Q) : MR X d m pc L S h Q := by
  obtain ⟨n, q1, hc, rfl, rfl⟩ := hc
  refine MR_go hc ?_ k
  dsimp only [mx]
  rw [hl]
  rfl
theorem st_istore (hc : CF m pc ret (.istore i) a b npc tg) (hL : lset1 L i (vI z) = L') (hi : Nat.blt i L.length = true) (k : MR X d m npc L' T h Q) : MR X d m pc L (vI z :: T) h Q := by
  obtain ⟨n, q1, hc, rfl, rfl⟩ := hc
  refine MR_go hc ?_ k
  show (if i < L.length then mgo (pc + n) (lset1 L i (vI z)) T h else none) = _
  rw [if_pos (Nat.blt_eq.mp hi), hL]
  rfl
theorem st_lstore {w : Int64} (hc : CF m pc ret (.lstore i) a b npc tg) (hL : lset2 L i (.long w) = L') (hi : Nat.blt (i + 1) L.length = true) (k : MR X d m npc L' T h Q) : MR X d m pc L (.long w :: T) h Q := by
  obtain ⟨n, q1, hc, rfl, rfl⟩ := hc
  refine MR_go hc ?_ k
  show (if i + 1 < L.length then mgo (pc + n) (lset2 L i (.long w)) T h else none) = _
  rw [if_pos (Nat.blt_eq.mp hi), hL]
  rfl
theorem st_astore (hc : CF m pc ret (.astore i) a b npc tg) (hL : lset1 L i (.ref q) = L') (hi : Nat.blt i L.length = true) (k : MR X d m npc L' T h Q) : MR X d m pc L (.ref q :: T) h Q := by
  obtain ⟨n, q1, hc, rfl, rfl⟩ := hc
  refine MR_go hc ?_ k
  show (if i < L.length then mgo (pc + n) (lset1 L i (.ref q)) T h else none) = _
  rw [if_pos (Nat.blt_eq.mp hi), hL]
  rfl
theorem st_astoreN (hc : CF m pc ret (.astore i) a b npc tg) (hL : lset1 L i .null = L') (hi : Nat.blt i L.length = true) (k : MR X d m npc L' T h Q) : MR X d m pc L (.null :: T) h Q := by
  obtain ⟨n, q1, hc, rfl, rfl⟩ := hc
  refine MR_go hc ?_ k
  show (if i < L.length then mgo (pc + n) (lset1 L i .null) T h else none) = _
  rw [if_pos (Nat.blt_eq.mp hi), hL]
  rfl
theorem st_iinc (hc : CF m pc ret (.iinc i z) a b npc tg) (hl : lget L i = some (vI x)) (hL : lset1 L i (vI (x + z)) = L') (hi : Nat.blt i L.length = true) (k : MR X d m npc L' S h Q) : MR X d m pc L S h Q := by
  obtain ⟨n, q1, hc, rfl, rfl⟩ := hc
  refine MR_go hc ?_ k
  dsimp only [mx]
  rw [hl]
  show (if i < L.length then mgo (pc + n) (lset1 L i (.int (Int32.ofInt x + Int32.ofInt z))) S h else none) = _
  rw [if_pos (Nat.blt_eq.mp hi), ← Int32.ofInt_add]
  exact congrArg (fun w => mgo (pc + n) w S h) hL
theorem st_pop {v : Value} (hc : CF m pc ret (.pop) a b npc tg) (hv : v.category = 1) (k : MR X d m npc L T h Q) : MR X d m pc L (v :: T) h Q := by
  obtain ⟨n, q1, hc, rfl, rfl⟩ := hc
  refine MR_go hc ?_ k
  show (if v.category = 1 then mgo (pc + n) L T h else none) = _
  rw [if_pos hv]
  rfl
theorem st_oinit (hc : CF m pc ret (.pop2) a b npc tg) (hv : mcat T ≤ 8) (k : MR X d m npc L T h Q) : MR X d m pc L (.ref q :: T) h Q := by
  obtain ⟨n, q1, hc, rfl, rfl⟩ := hc
  refine MR_go hc ?_ k
  show (if mcat T ≤ 8 then mgo (pc + n) L T h else none) = _
  rw [if_pos hv]
  rfl
theorem st_dup {v : Value} (hc : CF m pc ret (.dup) a b npc tg) (hv : v.category = 1) (k : MR X d m npc L (v :: v :: T) h Q) : MR X d m pc L (v :: T) h Q := by
  obtain ⟨n, q1, hc, rfl, rfl⟩ := hc
  refine MR_go hc ?_ k
  show (if v.category = 1 then mgo (pc + n) L (v :: v :: T) h else none) = _
  rw [if_pos hv]
  rfl
theorem st_dup_x1 {v w : Value} (hc : CF m pc ret (.dup_x1) a b npc tg) (hv : v.category = 1) (hw : w.category = 1) (k : MR X d m npc L (v :: w :: v :: T) h Q) : MR X d m pc L (v :: w :: T) h Q := by
  obtain ⟨n, q1, hc, rfl, rfl⟩ := hc
  refine MR_go hc ?_ k
  show (if v.category = 1 ∧ w.category = 1 then mgo (pc + n) L (v :: w :: v :: T) h else none) = _
  rw [if_pos ⟨hv, hw⟩]
  rfl
theorem st_dup2 {v w : Value} (hc : CF m pc ret (.dup2) a b npc tg) (hv : v.category = 1) (hw : w.category = 1) (k : MR X d m npc L (v :: w :: v :: w :: T) h Q) : MR X d m pc L (v :: w :: T) h Q := by
  obtain ⟨n, q1, hc, rfl, rfl⟩ := hc
  refine MR_go hc ?_ k
  show (if v.category = 1 ∧ w.category = 1 then mgo (pc + n) L (v :: w :: v :: w :: T) h else none) = _
  rw [if_pos ⟨hv, hw⟩]
  rfl
theorem st_iadd (hc : CF m pc ret (.iadd) a b npc tg)  (k : MR X d m npc L (vI (x + y) :: T) h Q) : MR X d m pc L (vI y :: vI x :: T) h Q := by
  obtain ⟨n, q1, hc, rfl, rfl⟩ := hc
  refine MR_go hc ?_ k
  show mgo (pc + n) L (.int (Int32.ofInt x + Int32.ofInt y) :: T) h = _
  rw [← Int32.ofInt_add]
  rfl
theorem st_isub (hc : CF m pc ret (.isub) a b npc tg)  (k : MR X d m npc L (vI (x - y) :: T) h Q) : MR X d m pc L (vI y :: vI x :: T) h Q := by
  obtain ⟨n, q1, hc, rfl, rfl⟩ := hc
  refine MR_go hc ?_ k
  show mgo (pc + n) L (.int (Int32.ofInt x - Int32.ofInt y) :: T) h = _
  rw [← Int32.ofInt_sub]
  rfl
theorem st_imul (hc : CF m pc ret (.imul) a b npc tg)  (k : MR X d m npc L (vI (x * y) :: T) h Q) : MR X d m pc L (vI y :: vI x :: T) h Q := by
  obtain ⟨n, q1, hc, rfl, rfl⟩ := hc
  refine MR_go hc ?_ k
  show mgo (pc + n) L (.int (Int32.ofInt x * Int32.ofInt y) :: T) h = _
  rw [← Int32.ofInt_mul]
  rfl
theorem st_ineg (hc : CF m pc ret (.ineg) a b npc tg)  (k : MR X d m npc L (vI (-x) :: T) h Q) : MR X d m pc L (vI x :: T) h Q := by
  obtain ⟨n, q1, hc, rfl, rfl⟩ := hc
  refine MR_go hc ?_ k
  show mgo (pc + n) L (.int (-(Int32.ofInt x)) :: T) h = _
  rw [← Int32.ofInt_neg]
  rfl
theorem vI_to (w : Int32) : Value.int w = vI w.toInt := by unfold vI; rw [Int32.ofInt_toInt]
theorem to_lo (w : Int32) : -2147483648 ≤ w.toInt := by have := Int32.le_toInt w; omega
theorem to_hi (w : Int32) : w.toInt ≤ 2147483647 := by have := Int32.toInt_lt w; omega
theorem to_of (h1 : -2147483648 ≤ z) (h2 : z ≤ 2147483647) : (Int32.ofInt z).toInt = z := Int32.toInt_ofInt_of_le (by omega) (by omega)
theorem MR_any {w : Int32} (k : ∀ z : Int, -2147483648 ≤ z → z ≤ 2147483647 → MR X d m pc L (vI z :: T) h Q) : MR X d m pc L (.int w :: T) h Q := by
  rw [vI_to]
  exact k _ (to_lo w) (to_hi w)
theorem st_iandw (hc : CF m pc ret (.iand) a b npc tg)  (k : ∀ w : Int, -2147483648 ≤ w → w ≤ 2147483647 → MR X d m npc L (vI w :: T) h Q) : MR X d m pc L (vI y :: vI x :: T) h Q := by
  obtain ⟨n, q1, hc, rfl, rfl⟩ := hc
  exact MR_go hc rfl (MR_any k)
theorem st_iorw (hc : CF m pc ret (.ior) a b npc tg)  (k : ∀ w : Int, -2147483648 ≤ w → w ≤ 2147483647 → MR X d m npc L (vI w :: T) h Q) : MR X d m pc L (vI y :: vI x :: T) h Q := by
  obtain ⟨n, q1, hc, rfl, rfl⟩ := hc
  exact MR_go hc rfl (MR_any k)
theorem st_ixorw (hc : CF m pc ret (.ixor) a b npc tg)  (k : ∀ w : Int, -2147483648 ≤ w → w ≤ 2147483647 → MR X d m npc L (vI w :: T) h Q) : MR X d m pc L (vI y :: vI x :: T) h Q := by
  obtain ⟨n, q1, hc, rfl, rfl⟩ := hc
  exact MR_go hc rfl (MR_any k)
theorem st_ishlw (hc : CF m pc ret (.ishl) a b npc tg)  (k : ∀ w : Int, -2147483648 ≤ w → w ≤ 2147483647 → MR X d m npc L (vI w :: T) h Q) : MR X d m pc L (vI y :: vI x :: T) h Q := by
  obtain ⟨n, q1, hc, rfl, rfl⟩ := hc
  exact MR_go hc rfl (MR_any k)
theorem st_ishrw (hc : CF m pc ret (.ishr) a b npc tg)  (k : ∀ w : Int, -2147483648 ≤ w → w ≤ 2147483647 → MR X d m npc L (vI w :: T) h Q) : MR X d m pc L (vI y :: vI x :: T) h Q := by
  obtain ⟨n, q1, hc, rfl, rfl⟩ := hc
  exact MR_go hc rfl (MR_any k)
theorem st_iushrw (hc : CF m pc ret (.iushr) a b npc tg)  (k : ∀ w : Int, -2147483648 ≤ w → w ≤ 2147483647 → MR X d m npc L (vI w :: T) h Q) : MR X d m pc L (vI y :: vI x :: T) h Q := by
  obtain ⟨n, q1, hc, rfl, rfl⟩ := hc
  exact MR_go hc rfl (MR_any k)
theorem st_idivw (hc : CF m pc ret (.idiv) a b npc tg) (hy : y ≠ 0) (hr : -2147483648 ≤ y ∧ y ≤ 2147483647) (k : ∀ w : Int, -2147483648 ≤ w → w ≤ 2147483647 → MR X d m npc L (vI w :: T) h Q) : MR X d m pc L (vI y :: vI x :: T) h Q := by
  obtain ⟨n, q1, hc, rfl, rfl⟩ := hc
  refine MR_go hc ?_ (MR_any (w := Int32.ofInt x / Int32.ofInt y) k)
  have h0 : Int32.ofInt y ≠ 0 := fun e => hy (by have := congrArg Int32.toInt e; rw [to_of hr.1 hr.2] at this; exact this)
  show (if Int32.ofInt y = 0 then none else _) = _
  rw [if_neg h0]
  rfl
theorem st_iremw (hc : CF m pc ret (.irem) a b npc tg) (hy : y ≠ 0) (hr : -2147483648 ≤ y ∧ y ≤ 2147483647) (k : ∀ w : Int, -2147483648 ≤ w → w ≤ 2147483647 → MR X d m npc L (vI w :: T) h Q) : MR X d m pc L (vI y :: vI x :: T) h Q := by
  obtain ⟨n, q1, hc, rfl, rfl⟩ := hc
  refine MR_go hc ?_ (MR_any (w := Int32.ofInt x - Int32.ofInt x / Int32.ofInt y * Int32.ofInt y) k)
  have h0 : Int32.ofInt y ≠ 0 := fun e => hy (by have := congrArg Int32.toInt e; rw [to_of hr.1 hr.2] at this; exact this)
  show (if Int32.ofInt y = 0 then none else _) = _
  rw [if_neg h0]
  rfl
theorem of_div (hx : 0 ≤ x) (hx2 : x ≤ 2147483647) (hy : 0 < y) (hy2 : y ≤ 2147483647) : Int32.ofInt x / Int32.ofInt y = Int32.ofInt (x / y) := by
  rw [← Int32.ofInt_tdiv (by show (-2147483648 : Int) ≤ _; omega) (by show _ ≤ (2147483647 : Int); omega) (by show (-2147483648 : Int) ≤ _; omega) (by show _ ≤ (2147483647 : Int); omega), Int.tdiv_eq_ediv_of_nonneg hx]
theorem st_idivp (hc : CF m pc ret (.idiv) a b npc tg) (hx : 0 ≤ x ∧ x ≤ 2147483647) (hy : 0 < y ∧ y ≤ 2147483647) (k : MR X d m npc L (vI (x / y) :: T) h Q) : MR X d m pc L (vI y :: vI x :: T) h Q := by
  obtain ⟨n, q1, hc, rfl, rfl⟩ := hc
  refine MR_go hc ?_ k
  have h0 : Int32.ofInt y ≠ 0 := fun e => by have := congrArg Int32.toInt e; rw [to_of (by omega) hy.2] at this; have h2 : y = 0 := this; omega
  show (if Int32.ofInt y = 0 then none else mgo (pc + n) L (.int (Int32.ofInt x / Int32.ofInt y) :: T) h) = _
  rw [if_neg h0, of_div hx.1 hx.2 hy.1 hy.2]
  rfl
theorem st_idivc (hc : CF m pc ret (.idiv) a b npc tg) (hx : -2147483648 ≤ x ∧ x ≤ 2147483647) (hy : 0 < y ∧ y ≤ 2147483647) (k : ∀ w : Int, (0 ≤ x → w = x / y) → (x < 0 → w = -((-x) / y)) → MR X d m npc L (vI w :: T) h Q) : MR X d m pc L (vI y :: vI x :: T) h Q := by
  obtain ⟨n, q1, hc, rfl, rfl⟩ := hc
  refine MR_go hc ?_ (k (Int.tdiv x y) (fun h0 => Int.tdiv_eq_ediv_of_nonneg h0) (fun h0 => ?_))
  · have h0 : Int32.ofInt y ≠ 0 := fun e => by have := congrArg Int32.toInt e; rw [to_of (by omega) hy.2] at this; have h2 : y = 0 := this; omega
    show (if Int32.ofInt y = 0 then none else mgo (pc + n) L (.int (Int32.ofInt x / Int32.ofInt y) :: T) h) = _
    rw [if_neg h0, ← Int32.ofInt_tdiv (by show (-2147483648 : Int) ≤ _; omega) (by show _ ≤ (2147483647 : Int); omega) (by show (-2147483648 : Int) ≤ _; omega) (by show _ ≤ (2147483647 : Int); omega)]
    rfl
  · rw [← Int.tdiv_eq_ediv_of_nonneg (by omega), Int.neg_tdiv, Int.neg_neg]
theorem st_iremp (hc : CF m pc ret (.irem) a b npc tg) (hx : 0 ≤ x ∧ x ≤ 2147483647) (hy : 0 < y ∧ y ≤ 2147483647) (k : MR X d m npc L (vI (x % y) :: T) h Q) : MR X d m pc L (vI y :: vI x :: T) h Q := by
  obtain ⟨n, q1, hc, rfl, rfl⟩ := hc
  refine MR_go hc ?_ k
  have h0 : Int32.ofInt y ≠ 0 := fun e => by have := congrArg Int32.toInt e; rw [to_of (by omega) hy.2] at this; have h2 : y = 0 := this; omega
  show (if Int32.ofInt y = 0 then none else mgo (pc + n) L (.int (Int32.ofInt x - Int32.ofInt x / Int32.ofInt y * Int32.ofInt y) :: T) h) = _
  rw [if_neg h0, of_div hx.1 hx.2 hy.1 hy.2, ← Int32.ofInt_mul, ← Int32.ofInt_sub, Int.mul_comm, ← Int.emod_def]
  rfl
theorem and_le {x y : Int32} (hy : 0 ≤ y.toInt) : 0 ≤ (x &&& y).toInt ∧ (x &&& y).toInt ≤ y.toInt := by
  have hn : y.toBitVec.toInt = y.toBitVec.toNat := BitVec.toInt_eq_toNat_of_lt (by
    have h1 : y.toInt = y.toBitVec.toInt := rfl
    rw [h1] at hy
    rw [BitVec.toInt_eq_toNat_cond] at hy
    split at hy
    · omega
    · have := y.toBitVec.isLt; omega)
  have h1 : (x &&& y).toBitVec.toNat ≤ y.toBitVec.toNat := by
    rw [Int32.toBitVec_and, BitVec.toNat_and]
    exact Nat.and_le_right
  have h2 : y.toInt = y.toBitVec.toNat := hn
  have h3 := Int32.toInt_lt y
  have h4 : (x &&& y).toInt = (x &&& y).toBitVec.toNat := BitVec.toInt_eq_toNat_of_lt (by omega)
  omega
theorem st_iandr (hc : CF m pc ret (.iand) a b npc tg) (hy : 0 ≤ y ∧ y ≤ 2147483647) (k : ∀ w : Int, 0 ≤ w → w ≤ y → MR X d m npc L (vI w :: T) h Q) : MR X d m pc L (vI y :: vI x :: T) h Q := by
  obtain ⟨n, q1, hc, rfl, rfl⟩ := hc
  refine MR_go hc ?_ (k ((Int32.ofInt x &&& Int32.ofInt y).toInt) ?_ ?_)
  · rw [← vI_to]; rfl
  · have := (and_le (x := Int32.ofInt x) (y := Int32.ofInt y) (by rw [to_of (by omega) hy.2]; exact hy.1)).1
    exact this
  · have := (and_le (x := Int32.ofInt x) (y := Int32.ofInt y) (by rw [to_of (by omega) hy.2]; exact hy.1)).2
    rwa [to_of (by omega) hy.2] at this
theorem st_iandl (hc : CF m pc ret (.iand) a b npc tg) (hy : 0 ≤ x ∧ x ≤ 2147483647) (k : ∀ w : Int, 0 ≤ w → w ≤ x → MR X d m npc L (vI w :: T) h Q) : MR X d m pc L (vI y :: vI x :: T) h Q := by
  obtain ⟨n, q1, hc, rfl, rfl⟩ := hc
  refine MR_go hc ?_ (k ((Int32.ofInt x &&& Int32.ofInt y).toInt) ?_ ?_)
  · rw [← vI_to]; rfl
  · rw [Int32.and_comm]
    have := (and_le (x := Int32.ofInt y) (y := Int32.ofInt x) (by rw [to_of (by omega) hy.2]; exact hy.1)).1
    exact this
  · rw [Int32.and_comm]
    have := (and_le (x := Int32.ofInt y) (y := Int32.ofInt x) (by rw [to_of (by omega) hy.2]; exact hy.1)).2
    rwa [to_of (by omega) hy.2] at this
def P2 (n : Int) : Int := (2 ^ n.toNat : Nat)
theorem P2_shl (h1 : 0 ≤ y) (h2 : y ≤ 6) : Int32.ofInt 1 <<< (Int32.ofInt y &&& 31) = Int32.ofInt (P2 y) := by
  rcases (by omega : y = 0 ∨ y = 1 ∨ y = 2 ∨ y = 3 ∨ y = 4 ∨ y = 5 ∨ y = 6) with rfl | rfl | rfl | rfl | rfl | rfl | rfl <;> decide
theorem P2_lo (n : Int) : 1 ≤ P2 n := by
  have : 0 < 2 ^ n.toNat := Nat.pow_pos (by decide)
  unfold P2; omega
theorem P2_hi {k : Nat} (h : y ≤ k) : P2 y ≤ (2 ^ k : Nat) := by
  unfold P2
  exact Int.ofNat_le.mpr (Nat.pow_le_pow_right (by decide) (by omega))
theorem st_ishl1 (hc : CF m pc ret (.ishl) a b npc tg) (hy : 0 ≤ y ∧ y ≤ 6) (k : 1 ≤ P2 y → P2 y ≤ 64 → MR X d m npc L (vI (P2 y) :: T) h Q) : MR X d m pc L (vI y :: vI 1 :: T) h Q := by
  obtain ⟨n, q1, hc, rfl, rfl⟩ := hc
  refine MR_go hc ?_ (k (P2_lo y) (P2_hi (k := 6) hy.2))
  show mgo (pc + n) L (.int (Int32.ofInt 1 <<< (Int32.ofInt y &&& 31)) :: T) h = _
  rw [P2_shl hy.1 hy.2]
  rfl
theorem st_iushr1 (hc : CF m pc ret (.iushr) a b npc tg) (hx : 0 ≤ x ∧ x ≤ 2147483647) (k : MR X d m npc L (vI (x / 2) :: T) h Q) : MR X d m pc L (vI 1 :: vI x :: T) h Q := by
  obtain ⟨n, q1, hc, rfl, rfl⟩ := hc
  refine MR_go hc ?_ k
  show mgo (pc + n) L (.int ((Int32.ofInt x).toUInt32 >>> ((Int32.ofInt 1).toUInt32 &&& Int32.toUInt32 31)).toInt32 :: T) h = _
  have e : ((Int32.ofInt x).toUInt32 >>> ((Int32.ofInt 1).toUInt32 &&& Int32.toUInt32 31)).toInt32 = Int32.ofInt (x / 2) := by
    obtain ⟨kk, rfl⟩ := Int.eq_ofNat_of_zero_le hx.1
    have e1 : ((Int32.ofInt 1).toUInt32 &&& Int32.toUInt32 31) = 1 := by decide
    rw [e1]
    apply Int32.toBitVec.inj
    apply BitVec.eq_of_toNat_eq
    have e2 : ((kk : Int) / 2) = ((kk / 2 : Nat) : Int) := by omega
    rw [e2]
    simp only [UInt32.toBitVec_toInt32, UInt32.toBitVec_shiftRight, Int32.toBitVec_toUInt32, Int32.toBitVec_ofInt, BitVec.ofInt_natCast]
    simp [BitVec.toNat_ushiftRight, Nat.shiftRight_eq_div_pow]
    omega
  rw [e]
  rfl
theorem st_i2l (hc : CF m pc ret (.i2l) a b npc tg)  (k : ∀ w : Int64, MR X d m npc L (.long w :: T) h Q) : MR X d m pc L (vI x :: T) h Q := by
  obtain ⟨n, q1, hc, rfl, rfl⟩ := hc
  exact MR_go hc rfl (k _)
theorem st_i2b (hc : CF m pc ret (.i2b) a b npc tg)  (k : ∀ w : Int, -128 ≤ w → w ≤ 127 → MR X d m npc L (vI w :: T) h Q) : MR X d m pc L (vI x :: T) h Q := by
  obtain ⟨n, q1, hc, rfl, rfl⟩ := hc
  refine MR_go hc rfl ?_
  rw [vI_to]
  have e : ((Int32.ofInt x).toInt8.toInt32).toInt = (Int32.ofInt x).toInt8.toInt := Int8.toInt_toInt32 _
  have h1 := Int8.le_toInt (Int32.ofInt x).toInt8
  have h2 := Int8.toInt_lt (Int32.ofInt x).toInt8
  exact k _ (by rw [e]; omega) (by rw [e]; omega)
theorem st_l2i {y1 : Int64} (hc : CF m pc ret (.l2i) a b npc tg)  (k : ∀ w : Int, -2147483648 ≤ w → w ≤ 2147483647 → MR X d m npc L (vI w :: T) h Q) : MR X d m pc L (.long y1 :: T) h Q := by
  obtain ⟨n, q1, hc, rfl, rfl⟩ := hc
  exact MR_go hc rfl (MR_any k)
theorem st_ladd {x1 y1 : Int64} (hc : CF m pc ret (.ladd) a b npc tg)  (k : ∀ w : Int64, MR X d m npc L (.long w :: T) h Q) : MR X d m pc L (.long y1 :: .long x1 :: T) h Q := by
  obtain ⟨n, q1, hc, rfl, rfl⟩ := hc
  exact MR_go hc rfl (k _)
theorem st_lsub {x1 y1 : Int64} (hc : CF m pc ret (.lsub) a b npc tg)  (k : ∀ w : Int64, MR X d m npc L (.long w :: T) h Q) : MR X d m pc L (.long y1 :: .long x1 :: T) h Q := by
  obtain ⟨n, q1, hc, rfl, rfl⟩ := hc
  exact MR_go hc rfl (k _)
theorem st_lmul {x1 y1 : Int64} (hc : CF m pc ret (.lmul) a b npc tg)  (k : ∀ w : Int64, MR X d m npc L (.long w :: T) h Q) : MR X d m pc L (.long y1 :: .long x1 :: T) h Q := by
  obtain ⟨n, q1, hc, rfl, rfl⟩ := hc
  exact MR_go hc rfl (k _)
theorem st_ldiv {x1 y1 : Int64} (hc : CF m pc ret (.ldiv) a b npc tg) (hy : y1 ≠ 0) (k : ∀ w : Int64, MR X d m npc L (.long w :: T) h Q) : MR X d m pc L (.long y1 :: .long x1 :: T) h Q := by
  obtain ⟨n, q1, hc, rfl, rfl⟩ := hc
  refine MR_go hc ?_ (k (x1 / y1))
  show (if y1 = 0 then none else _) = _
  rw [if_neg hy]
  rfl
theorem st_lrem {x1 y1 : Int64} (hc : CF m pc ret (.lrem) a b npc tg) (hy : y1 ≠ 0) (k : ∀ w : Int64, MR X d m npc L (.long w :: T) h Q) : MR X d m pc L (.long y1 :: .long x1 :: T) h Q := by
  obtain ⟨n, q1, hc, rfl, rfl⟩ := hc
  refine MR_go hc ?_ (k (x1 - x1 / y1 * y1))
  show (if y1 = 0 then none else _) = _
  rw [if_neg hy]
  rfl
theorem st_lcmp {x1 y1 : Int64} (hc : CF m pc ret (.lcmp) a b npc tg)  (k : ∀ w : Int, -2147483648 ≤ w → w ≤ 2147483647 → MR X d m npc L (vI w :: T) h Q) : MR X d m pc L (.long y1 :: .long x1 :: T) h Q := by
  obtain ⟨n, q1, hc, rfl, rfl⟩ := hc
  exact MR_go hc rfl (MR_any k)
theorem of_lt (hx : -2147483648 ≤ x ∧ x ≤ 2147483647) (hy : -2147483648 ≤ y ∧ y ≤ 2147483647) : (Int32.ofInt x < Int32.ofInt y) ↔ x < y := by
  rw [Int32.lt_iff_toInt_lt, to_of hx.1 hx.2, to_of hy.1 hy.2]
theorem of_le (hx : -2147483648 ≤ x ∧ x ≤ 2147483647) (hy : -2147483648 ≤ y ∧ y ≤ 2147483647) : (Int32.ofInt x ≤ Int32.ofInt y) ↔ x ≤ y := by
  rw [Int32.le_iff_toInt_le, to_of hx.1 hx.2, to_of hy.1 hy.2]
theorem of_eq (hx : -2147483648 ≤ x ∧ x ≤ 2147483647) (hy : -2147483648 ≤ y ∧ y ≤ 2147483647) : (Int32.ofInt x = Int32.ofInt y) ↔ x = y := by
  rw [← Int32.toInt_inj, to_of hx.1 hx.2, to_of hy.1 hy.2]

theorem st_max (hc : CF m pc ret (.fadd) a b npc tg) (hx : -2147483648 ≤ x ∧ x ≤ 2147483647) (hy : -2147483648 ≤ y ∧ y ≤ 2147483647) (h4 : Nat.ble T.length 4 = true) (k : ∀ w : Int, x ≤ w → y ≤ w → (w = x ∨ w = y) → MR X d m npc L (vI w :: T) h Q) : MR X d m pc L (vI y :: vI x :: T) h Q := by
  obtain ⟨n, q1, hc, rfl, rfl⟩ := hc
  by_cases e : x < y
  · refine MR_go hc ?_ (k y (by omega) (by omega) (Or.inr rfl))
    show (if mcat T ≤ 8 then mgo (pc + n) L (.int (if Int32.ofInt x < Int32.ofInt y then Int32.ofInt y else Int32.ofInt x) :: T) h else none) = _
    rw [if_pos (mc4 h4), if_pos ((of_lt hx hy).mpr e)]; rfl
  · refine MR_go hc ?_ (k x (by omega) (by omega) (Or.inl rfl))
    show (if mcat T ≤ 8 then mgo (pc + n) L (.int (if Int32.ofInt x < Int32.ofInt y then Int32.ofInt y else Int32.ofInt x) :: T) h else none) = _
    rw [if_pos (mc4 h4), if_neg (fun z => e ((of_lt hx hy).mp z))]; rfl
theorem st_min (hc : CF m pc ret (.fsub) a b npc tg) (hx : -2147483648 ≤ x ∧ x ≤ 2147483647) (hy : -2147483648 ≤ y ∧ y ≤ 2147483647) (h4 : Nat.ble T.length 4 = true) (k : ∀ w : Int, w ≤ x → w ≤ y → (w = x ∨ w = y) → MR X d m npc L (vI w :: T) h Q) : MR X d m pc L (vI y :: vI x :: T) h Q := by
  obtain ⟨n, q1, hc, rfl, rfl⟩ := hc
  by_cases e : y < x
  · refine MR_go hc ?_ (k y (by omega) (by omega) (Or.inr rfl))
    show (if mcat T ≤ 8 then mgo (pc + n) L (.int (if Int32.ofInt y < Int32.ofInt x then Int32.ofInt y else Int32.ofInt x) :: T) h else none) = _
    rw [if_pos (mc4 h4), if_pos ((of_lt hy hx).mpr e)]; rfl
  · refine MR_go hc ?_ (k x (by omega) (by omega) (Or.inl rfl))
    show (if mcat T ≤ 8 then mgo (pc + n) L (.int (if Int32.ofInt y < Int32.ofInt x then Int32.ofInt y else Int32.ofInt x) :: T) h else none) = _
    rw [if_pos (mc4 h4), if_neg (fun z => e ((of_lt hy hx).mp z))]; rfl
theorem st_lmin {x1 y1 : Int64} (hc : CF m pc ret (.dsub) a b npc tg) (h4 : Nat.ble T.length 4 = true) (k : ∀ w : Int64, MR X d m npc L (.long w :: T) h Q) : MR X d m pc L (.long y1 :: .long x1 :: T) h Q := by
  obtain ⟨n, q1, hc, rfl, rfl⟩ := hc
  refine MR_go hc ?_ (k (if y1 < x1 then y1 else x1))
  show (if mcat T ≤ 8 then mgo (pc + n) L (.long (if y1 < x1 then y1 else x1) :: T) h else none) = _
  rw [if_pos (mc4 h4)]
  rfl
theorem st_text (hc : CF m pc ret (.dadd) a b npc tg)  (k : MR X d m npc L (.ref 3 :: S) h Q) : MR X d m pc L S h Q := by
  obtain ⟨n, q1, hc, rfl, rfl⟩ := hc
  exact MR_go hc rfl k
theorem st_slen (hc : CF m pc ret (.dmul) a b npc tg) (h4 : Nat.ble T.length 4 = true) (k : MR X d m npc L (vI 94 :: T) h Q) : MR X d m pc L (.ref 3 :: T) h Q := by
  obtain ⟨n, q1, hc, rfl, rfl⟩ := hc
  refine MR_go hc ?_ k
  show (if mcat T ≤ 8 then mgo (pc + n) L (.int 94 :: T) h else none) = _
  rw [if_pos (mc4 h4)]
  rfl
theorem txt_b : ∀ (l : List Int32), l.all (fun x => decide (0 ≤ x.toInt) && decide (x.toInt ≤ 255)) = true → ∀ i : Nat, 0 ≤ (l.getD i 0).toInt ∧ (l.getD i 0).toInt ≤ 255 := by
  intro l hl i
  rw [List.getD_eq_getElem?_getD]
  cases h : l[i]? with
  | none => decide
  | some v =>
    have := List.all_eq_true.mp hl v (List.mem_of_getElem? h)
    simpa using this
theorem txt_a (i : Nat) : 0 ≤ (mTxt.getD i 0).toInt ∧ (mTxt.getD i 0).toInt ≤ 255 := txt_b mTxt (by decide +kernel) i
theorem st_char (hc : CF m pc ret (.ddiv) a b npc tg) (hx : 0 ≤ x ∧ x < 94) (h4 : Nat.ble T.length 4 = true) (k : 0 ≤ (mTxt.getD x.toNat 0).toInt → (mTxt.getD x.toNat 0).toInt ≤ 255 → MR X d m npc L (vI (mTxt.getD x.toNat 0).toInt :: T) h Q) : MR X d m pc L (vI x :: .ref 3 :: T) h Q := by
  obtain ⟨n, q1, hc, rfl, rfl⟩ := hc
  have e : (Int32.ofInt x).toNatClampNeg = x.toNat := by rw [← Int32.toNat_toInt, to_of (by omega) (by omega)]
  have hm : mib (Int32.ofInt x) 94 = true := by
    unfold mib
    have h4 : ¬ (Int32.ofInt x < 0) := by
      rw [Int32.lt_iff_toInt_lt, to_of (by omega) (by omega)]
      show ¬ x < 0
      omega
    have h5 : ¬ 94 ≤ (Int32.ofInt x).toNatClampNeg := by rw [e]; omega
    simp [h4, h5]
  refine MR_go hc ?_ (k (txt_a _).1 (txt_a _).2)
  show (if mib (Int32.ofInt x) 94 && decide (mcat T ≤ 8) then mgo (pc + n) L (.int (mTxt.getD (Int32.ofInt x).toNatClampNeg 0) :: T) h else none) = _
  rw [hm, e, decide_eq_true (mc4 h4), ← vI_to]
  rfl
theorem cm_b {c : ClassFile.Cond} {u v : Int32} {p : Prop} (hp : mcmp c u v = true ↔ p) {A B : Nat} (k1 : p → MR X d m A L T h Q) (k2 : ¬ p → MR X d m B L T h Q) : MR X d m (if mcmp c u v = true then A else B) L T h Q := by
  by_cases e : mcmp c u v = true
  · rw [if_pos e]; exact k1 (hp.mp e)
  · rw [if_neg e]; exact k2 (fun z => e (hp.mpr z))
theorem st_icmp_eq {o : Int} (hc : CF m pc ret (.if_icmp .eq o) a b npc tg) (hx : -2147483648 ≤ x ∧ x ≤ 2147483647) (hy : -2147483648 ≤ y ∧ y ≤ 2147483647) (k1 : x = y → MR X d m tg L T h Q) (k2 : x ≠ y → MR X d m npc L T h Q) : MR X d m pc L (vI y :: vI x :: T) h Q := by
  obtain ⟨n, q1, hc, rfl, rfl⟩ := hc
  refine MR_go hc rfl (cm_b (c := .eq) (p := x = y) ?_ k1 (k2))
  · exact (by simp only [mcmp, decide_eq_true_eq]; exact of_eq hx hy)
theorem st_icmp_ne {o : Int} (hc : CF m pc ret (.if_icmp .ne o) a b npc tg) (hx : -2147483648 ≤ x ∧ x ≤ 2147483647) (hy : -2147483648 ≤ y ∧ y ≤ 2147483647) (k1 : x ≠ y → MR X d m tg L T h Q) (k2 : x = y → MR X d m npc L T h Q) : MR X d m pc L (vI y :: vI x :: T) h Q := by
  obtain ⟨n, q1, hc, rfl, rfl⟩ := hc
  refine MR_go hc rfl (cm_b (c := .ne) (p := x ≠ y) ?_ k1 (fun z => k2 (Decidable.byContradiction z)))
  · exact (by simp only [mcmp, Bool.not_eq_true', decide_eq_false_iff_not]; exact not_congr (of_eq hx hy))
theorem st_icmp_lt {o : Int} (hc : CF m pc ret (.if_icmp .lt o) a b npc tg) (hx : -2147483648 ≤ x ∧ x ≤ 2147483647) (hy : -2147483648 ≤ y ∧ y ≤ 2147483647) (k1 : x < y → MR X d m tg L T h Q) (k2 : y ≤ x → MR X d m npc L T h Q) : MR X d m pc L (vI y :: vI x :: T) h Q := by
  obtain ⟨n, q1, hc, rfl, rfl⟩ := hc
  refine MR_go hc rfl (cm_b (c := .lt) (p := x < y) ?_ k1 (fun z => k2 (by omega)))
  · exact (by simp only [mcmp, decide_eq_true_eq]; exact of_lt hx hy)
theorem st_icmp_ge {o : Int} (hc : CF m pc ret (.if_icmp .ge o) a b npc tg) (hx : -2147483648 ≤ x ∧ x ≤ 2147483647) (hy : -2147483648 ≤ y ∧ y ≤ 2147483647) (k1 : y ≤ x → MR X d m tg L T h Q) (k2 : x < y → MR X d m npc L T h Q) : MR X d m pc L (vI y :: vI x :: T) h Q := by
  obtain ⟨n, q1, hc, rfl, rfl⟩ := hc
  refine MR_go hc rfl (cm_b (c := .ge) (p := y ≤ x) ?_ k1 (fun z => k2 (by omega)))
  · exact (by simp only [mcmp, decide_eq_true_eq]; exact of_le hy hx)
theorem st_icmp_gt {o : Int} (hc : CF m pc ret (.if_icmp .gt o) a b npc tg) (hx : -2147483648 ≤ x ∧ x ≤ 2147483647) (hy : -2147483648 ≤ y ∧ y ≤ 2147483647) (k1 : y < x → MR X d m tg L T h Q) (k2 : x ≤ y → MR X d m npc L T h Q) : MR X d m pc L (vI y :: vI x :: T) h Q := by
  obtain ⟨n, q1, hc, rfl, rfl⟩ := hc
  refine MR_go hc rfl (cm_b (c := .gt) (p := y < x) ?_ k1 (fun z => k2 (by omega)))
  · exact (by simp only [mcmp, decide_eq_true_eq]; exact of_lt hy hx)
theorem st_icmp_le {o : Int} (hc : CF m pc ret (.if_icmp .le o) a b npc tg) (hx : -2147483648 ≤ x ∧ x ≤ 2147483647) (hy : -2147483648 ≤ y ∧ y ≤ 2147483647) (k1 : x ≤ y → MR X d m tg L T h Q) (k2 : y < x → MR X d m npc L T h Q) : MR X d m pc L (vI y :: vI x :: T) h Q := by
  obtain ⟨n, q1, hc, rfl, rfl⟩ := hc
  refine MR_go hc rfl (cm_b (c := .le) (p := x ≤ y) ?_ k1 (fun z => k2 (by omega)))
  · exact (by simp only [mcmp, decide_eq_true_eq]; exact of_le hx hy)
theorem st_if_eq {o : Int} (hc : CF m pc ret (.ifCond .eq o) a b npc tg) (hx : -2147483648 ≤ x ∧ x ≤ 2147483647) (k1 : x = 0 → MR X d m tg L T h Q) (k2 : x ≠ 0 → MR X d m npc L T h Q) : MR X d m pc L (vI x :: T) h Q := by
  obtain ⟨n, q1, hc, rfl, rfl⟩ := hc
  have hy : (-2147483648 : Int) ≤ 0 ∧ (0 : Int) ≤ 2147483647 := by decide
  refine MR_go hc rfl (cm_b (c := .eq) (v := Int32.ofInt 0) (p := x = 0) ?_ k1 (k2))
  · exact (by simp only [mcmp, decide_eq_true_eq]; exact of_eq hx hy)
theorem st_if_ne {o : Int} (hc : CF m pc ret (.ifCond .ne o) a b npc tg) (hx : -2147483648 ≤ x ∧ x ≤ 2147483647) (k1 : x ≠ 0 → MR X d m tg L T h Q) (k2 : x = 0 → MR X d m npc L T h Q) : MR X d m pc L (vI x :: T) h Q := by
  obtain ⟨n, q1, hc, rfl, rfl⟩ := hc
  have hy : (-2147483648 : Int) ≤ 0 ∧ (0 : Int) ≤ 2147483647 := by decide
  refine MR_go hc rfl (cm_b (c := .ne) (v := Int32.ofInt 0) (p := x ≠ 0) ?_ k1 (fun z => k2 (Decidable.byContradiction z)))
  · exact (by simp only [mcmp, Bool.not_eq_true', decide_eq_false_iff_not]; exact not_congr (of_eq hx hy))
theorem st_if_lt {o : Int} (hc : CF m pc ret (.ifCond .lt o) a b npc tg) (hx : -2147483648 ≤ x ∧ x ≤ 2147483647) (k1 : x < 0 → MR X d m tg L T h Q) (k2 : 0 ≤ x → MR X d m npc L T h Q) : MR X d m pc L (vI x :: T) h Q := by
  obtain ⟨n, q1, hc, rfl, rfl⟩ := hc
  have hy : (-2147483648 : Int) ≤ 0 ∧ (0 : Int) ≤ 2147483647 := by decide
  refine MR_go hc rfl (cm_b (c := .lt) (v := Int32.ofInt 0) (p := x < 0) ?_ k1 (fun z => k2 (by omega)))
  · exact (by simp only [mcmp, decide_eq_true_eq]; exact of_lt hx hy)
theorem st_if_ge {o : Int} (hc : CF m pc ret (.ifCond .ge o) a b npc tg) (hx : -2147483648 ≤ x ∧ x ≤ 2147483647) (k1 : 0 ≤ x → MR X d m tg L T h Q) (k2 : x < 0 → MR X d m npc L T h Q) : MR X d m pc L (vI x :: T) h Q := by
  obtain ⟨n, q1, hc, rfl, rfl⟩ := hc
  have hy : (-2147483648 : Int) ≤ 0 ∧ (0 : Int) ≤ 2147483647 := by decide
  refine MR_go hc rfl (cm_b (c := .ge) (v := Int32.ofInt 0) (p := 0 ≤ x) ?_ k1 (fun z => k2 (by omega)))
  · exact (by simp only [mcmp, decide_eq_true_eq]; exact of_le hy hx)
theorem st_if_gt {o : Int} (hc : CF m pc ret (.ifCond .gt o) a b npc tg) (hx : -2147483648 ≤ x ∧ x ≤ 2147483647) (k1 : 0 < x → MR X d m tg L T h Q) (k2 : x ≤ 0 → MR X d m npc L T h Q) : MR X d m pc L (vI x :: T) h Q := by
  obtain ⟨n, q1, hc, rfl, rfl⟩ := hc
  have hy : (-2147483648 : Int) ≤ 0 ∧ (0 : Int) ≤ 2147483647 := by decide
  refine MR_go hc rfl (cm_b (c := .gt) (v := Int32.ofInt 0) (p := 0 < x) ?_ k1 (fun z => k2 (by omega)))
  · exact (by simp only [mcmp, decide_eq_true_eq]; exact of_lt hy hx)
theorem st_if_le {o : Int} (hc : CF m pc ret (.ifCond .le o) a b npc tg) (hx : -2147483648 ≤ x ∧ x ≤ 2147483647) (k1 : x ≤ 0 → MR X d m tg L T h Q) (k2 : 0 < x → MR X d m npc L T h Q) : MR X d m pc L (vI x :: T) h Q := by
  obtain ⟨n, q1, hc, rfl, rfl⟩ := hc
  have hy : (-2147483648 : Int) ≤ 0 ∧ (0 : Int) ≤ 2147483647 := by decide
  refine MR_go hc rfl (cm_b (c := .le) (v := Int32.ofInt 0) (p := x ≤ 0) ?_ k1 (fun z => k2 (by omega)))
  · exact (by simp only [mcmp, decide_eq_true_eq]; exact of_le hx hy)
theorem st_goto {o : Int} (hc : CF m pc ret (.goto o) a b npc tg)  (k : MR X d m tg L S h Q) : MR X d m pc L S h Q := by
  obtain ⟨n, q1, hc, rfl, rfl⟩ := hc
  exact MR_go hc rfl k
theorem st_ifnullN {o : Int} (hc : CF m pc ret (.ifnull o) a b npc tg)  (k : MR X d m tg L T h Q) : MR X d m pc L (.null :: T) h Q := by
  obtain ⟨n, q1, hc, rfl, rfl⟩ := hc
  exact MR_go hc rfl k
theorem st_ifnullR {o : Int} (hc : CF m pc ret (.ifnull o) a b npc tg)  (k : MR X d m npc L T h Q) : MR X d m pc L (.ref q :: T) h Q := by
  obtain ⟨n, q1, hc, rfl, rfl⟩ := hc
  exact MR_go hc rfl k
theorem st_ifnonnullN {o : Int} (hc : CF m pc ret (.ifnonnull o) a b npc tg)  (k : MR X d m npc L T h Q) : MR X d m pc L (.null :: T) h Q := by
  obtain ⟨n, q1, hc, rfl, rfl⟩ := hc
  exact MR_go hc rfl k
theorem st_ifnonnullR {o : Int} (hc : CF m pc ret (.ifnonnull o) a b npc tg)  (k : MR X d m tg L T h Q) : MR X d m pc L (.ref q :: T) h Q := by
  obtain ⟨n, q1, hc, rfl, rfl⟩ := hc
  exact MR_go hc rfl k
theorem st_acmp_eq {o : Int} {u v : Nat} (hc : CF m pc ret (.if_acmp .eq o) a b npc tg) (hu : 4 ≤ u) (hv : 4 ≤ v) (k1 : u = v → MR X d m tg L T h Q) (k2 : u ≠ v → MR X d m npc L T h Q) : MR X d m pc L (.ref v :: .ref u :: T) h Q := by
  obtain ⟨n, q1, hc, rfl, rfl⟩ := hc
  by_cases e : u = v
  · refine MR_go hc ?_ (k1 e)
    show (if 4 ≤ u ∧ 4 ≤ v then mgo (macm _ (decide (u = v)) _ _) L T h else none) = _
    rw [if_pos ⟨hu, hv⟩]
    simp only [e, decide_true, decide_false, macm]
    rfl
  · refine MR_go hc ?_ (k2 e)
    show (if 4 ≤ u ∧ 4 ≤ v then mgo (macm _ (decide (u = v)) _ _) L T h else none) = _
    rw [if_pos ⟨hu, hv⟩]
    simp only [e, decide_true, decide_false, macm]
    rfl
theorem st_acmpNN_eq {o : Int} (hc : CF m pc ret (.if_acmp .eq o) a b npc tg)  (k : MR X d m tg L T h Q) : MR X d m pc L (.null :: .null :: T) h Q := by
  obtain ⟨n, q1, hc, rfl, rfl⟩ := hc
  exact MR_go hc rfl k
theorem st_acmpNR_eq {o : Int} (hc : CF m pc ret (.if_acmp .eq o) a b npc tg)  (k : MR X d m npc L T h Q) : MR X d m pc L (.null :: .ref q :: T) h Q := by
  obtain ⟨n, q1, hc, rfl, rfl⟩ := hc
  exact MR_go hc rfl k
theorem st_acmpRN_eq {o : Int} (hc : CF m pc ret (.if_acmp .eq o) a b npc tg)  (k : MR X d m npc L T h Q) : MR X d m pc L (.ref q :: .null :: T) h Q := by
  obtain ⟨n, q1, hc, rfl, rfl⟩ := hc
  exact MR_go hc rfl k
theorem st_acmp_ne {o : Int} {u v : Nat} (hc : CF m pc ret (.if_acmp .ne o) a b npc tg) (hu : 4 ≤ u) (hv : 4 ≤ v) (k1 : u ≠ v → MR X d m tg L T h Q) (k2 : u = v → MR X d m npc L T h Q) : MR X d m pc L (.ref v :: .ref u :: T) h Q := by
  obtain ⟨n, q1, hc, rfl, rfl⟩ := hc
  by_cases e : u = v
  · refine MR_go hc ?_ (k2 e)
    show (if 4 ≤ u ∧ 4 ≤ v then mgo (macm _ (decide (u = v)) _ _) L T h else none) = _
    rw [if_pos ⟨hu, hv⟩]
    simp only [e, decide_true, decide_false, macm]
    rfl
  · refine MR_go hc ?_ (k1 e)
    show (if 4 ≤ u ∧ 4 ≤ v then mgo (macm _ (decide (u = v)) _ _) L T h else none) = _
    rw [if_pos ⟨hu, hv⟩]
    simp only [e, decide_true, decide_false, macm]
    rfl
theorem st_acmpNN_ne {o : Int} (hc : CF m pc ret (.if_acmp .ne o) a b npc tg)  (k : MR X d m npc L T h Q) : MR X d m pc L (.null :: .null :: T) h Q := by
  obtain ⟨n, q1, hc, rfl, rfl⟩ := hc
  exact MR_go hc rfl k
theorem st_acmpNR_ne {o : Int} (hc : CF m pc ret (.if_acmp .ne o) a b npc tg)  (k : MR X d m tg L T h Q) : MR X d m pc L (.null :: .ref q :: T) h Q := by
  obtain ⟨n, q1, hc, rfl, rfl⟩ := hc
  exact MR_go hc rfl k
theorem st_acmpRN_ne {o : Int} (hc : CF m pc ret (.if_acmp .ne o) a b npc tg)  (k : MR X d m tg L T h Q) : MR X d m pc L (.ref q :: .null :: T) h Q := by
  obtain ⟨n, q1, hc, rfl, rfl⟩ := hc
  exact MR_go hc rfl k
/-- where a switch goes on a number -/
def swt (m pc : Nat) (k : Int) : Option Nat := match cdr m pc with
  | some (_, (.tableswitch d lo hi os, _, _, _, _)) => if k < lo ∨ hi < k then some (mjmp pc d) else (match os[(k - lo).toNat]? with
    | some o => some (mjmp pc o)
    | none => none)
  | some (_, (.lookupswitch d ps, _, _, _, _)) => some (mjmp pc (Op.lookupswitch.offset ps.toList d k))
  | _ => none
theorem st_sw {k : Int} (hs : swt m pc k = some tg) (hx : x = k) (hk : -2147483648 ≤ k ∧ k ≤ 2147483647) (k1 : MR X d m tg L T h Q) : MR X d m pc L (vI x :: T) h Q := by
  subst hx
  unfold swt at hs
  split at hs
  · rename_i ret' dd lo hi os n a1 b1 q1 hc
    refine MR_go hc ?_ k1
    show (if (Int32.ofInt x).toInt < lo ∨ hi < (Int32.ofInt x).toInt then mgo (mjmp pc dd) L T h else (match os[((Int32.ofInt x).toInt - lo).toNat]? with
          | some o => mgo (mjmp pc o) L T h
          | none => none)) = _
    rw [to_of hk.1 hk.2]
    split at hs
    · rename_i hc2
      rw [if_pos hc2]
      cases hs; rfl
    · rename_i hc2
      rw [if_neg hc2]
      split at hs
      · rename_i o ho
        cases hs
        rfl
      · cases hs
  · rename_i ret' dd ps n a1 b1 q1 hc
    refine MR_go hc ?_ k1
    show mgo (mjmp pc (Op.lookupswitch.offset ps.toList dd (Int32.ofInt x).toInt)) L T h = _
    rw [to_of hk.1 hk.2]
    cases hs; rfl
  · cases hs
theorem st_swd {dd lo hi : Int} {os : Array Int} (hc : CF m pc ret (.tableswitch dd lo hi os) a b npc tg) (hx : -2147483648 ≤ x ∧ x ≤ 2147483647) (ho : x < lo ∨ hi < x) (k1 : MR X d m (mjmp pc dd) L T h Q) : MR X d m pc L (vI x :: T) h Q := by
  obtain ⟨n, q1, hc, rfl, rfl⟩ := hc
  refine MR_go hc ?_ k1
  show (if (Int32.ofInt x).toInt < lo ∨ hi < (Int32.ofInt x).toInt then mgo (mjmp pc dd) L T h else _) = _
  rw [to_of hx.1 hx.2, if_pos ho]
  rfl
theorem st_lsd {dd : Int} {ps : Array (Int × Int)} (hc : CF m pc ret (.lookupswitch dd ps) a b npc tg) (hx : -2147483648 ≤ x ∧ x ≤ 2147483647) (ho : Op.lookupswitch.offset ps.toList dd x = dd) (k1 : MR X d m (mjmp pc dd) L T h Q) : MR X d m pc L (vI x :: T) h Q := by
  obtain ⟨n, q1, hc, rfl, rfl⟩ := hc
  refine MR_go hc ?_ k1
  show mgo (mjmp pc (Op.lookupswitch.offset ps.toList dd (Int32.ofInt x).toInt)) L T h = _
  rw [to_of hx.1 hx.2, ho]
  rfl
theorem st_ireturn (hc : CF m pc (some .int) .ireturn a b npc tg) (hq : Q (some (vI z)) h) : MR X d m pc L [vI z] h Q := by
  obtain ⟨n, q1, hc, rfl, rfl⟩ := hc
  exact MR_rt hc rfl hq
theorem st_zreturn (hc : CF m pc (some .boolean) .ireturn a b npc tg) (hz : z = 0 ∨ z = 1) (hq : Q (some (vI z)) h) : MR X d m pc L [vI z] h Q := by
  obtain ⟨n, q1, hc, rfl, rfl⟩ := hc
  refine MR_rt hc ?_ hq
  rcases hz with rfl | rfl <;> rfl
theorem st_lreturn {w : Int64} (hc : CF m pc (some .long) .lreturn a b npc tg) (hq : Q (some (.long w)) h) : MR X d m pc L [.long w] h Q := by
  obtain ⟨n, q1, hc, rfl, rfl⟩ := hc
  exact MR_rt hc rfl hq
theorem st_areturn {C : String} (hc : CF m pc (some (.object C)) .areturn a b npc tg) (hq : Q (some (.ref q)) h) : MR X d m pc L [.ref q] h Q := by
  obtain ⟨n, q1, hc, rfl, rfl⟩ := hc
  exact MR_rt hc rfl hq
theorem st_areturnA {ty : FieldType} (hc : CF m pc (some (.array ty)) .areturn a b npc tg) (hq : Q (some (.ref q)) h) : MR X d m pc L [.ref q] h Q := by
  obtain ⟨n, q1, hc, rfl, rfl⟩ := hc
  exact MR_rt hc rfl hq
theorem st_areturnN {C : String} (hc : CF m pc (some (.object C)) .areturn a b npc tg) (hq : Q (some .null) h) : MR X d m pc L [.null] h Q := by
  obtain ⟨n, q1, hc, rfl, rfl⟩ := hc
  exact MR_rt hc rfl hq
theorem st_return (hc : CF m pc none .return_ a b npc tg) (hq : Q none h) : MR X d m pc L [] h Q := by
  obtain ⟨n, q1, hc, rfl, rfl⟩ := hc
  exact MR_rt hc rfl hq
theorem st_calls {j ml : Nat} {as : List Value} {L0 : mL} {Q' : Option Value → List mE → Prop} (hc : CF m pc ret (.invokestatic j) a b npc tg) (hm : CM a ci ml) (hS : mtake b S [] = some (as, T)) (hT : Nat.ble T.length 4 = true) (hl : Nat.ble (lent1 as).length ml = true) (hL : lent as ml = L0) (hd : 0 < d) (hk : MR X (d - 1) a 0 L0 [] h Q')
    (k : ∀ v h', Q' v h' → MR X d m npc L (mpush v T) h' Q) : MR X d m pc L S h Q := by
  obtain ⟨n, q1, hc, rfl, rfl⟩ := hc
  refine MR_call hc ?_ hm (Nat.le_of_ble_eq_true hl) hL hd hk k
  dsimp only [mx]
  rw [hS]
  dsimp only
  rw [if_pos (mc4 hT)]
  rfl
theorem st_callv {j ml : Nat} {as : List Value} {L0 : mL} {Q' : Option Value → List mE → Prop} {fs : List Value} (hc : CF m pc ret (.invokevirtual j) a b npc tg) (hm : CM a ci ml) (hq : mown h q = some (.inr (ci, fs))) (hS : mtake b S [] = some (as, .ref q :: T)) (hT : Nat.ble T.length 4 = true) (hl : Nat.ble (lent1 (.ref q :: as)).length ml = true) (hL : lent (.ref q :: as) ml = L0) (hd : 0 < d) (hk : MR X (d - 1) a 0 L0 [] h Q')
    (k : ∀ v h', Q' v h' → MR X d m npc L (mpush v T) h' Q) : MR X d m pc L S h Q := by
  obtain ⟨n, q1, hc, rfl, rfl⟩ := hc
  refine MR_call hc ?_ hm (Nat.le_of_ble_eq_true hl) hL hd hk k
  obtain ⟨R, hR, rfl, -⟩ := hm
  dsimp only [mx]
  rw [hS]
  dsimp only
  rw [hq, hR]
  dsimp only
  rw [if_pos ⟨rfl, mc4 hT⟩]
  rfl
theorem st_callp {j ml : Nat} {as : List Value} {L0 : mL} {Q' : Option Value → List mE → Prop} (hc : CF m pc ret (.invokespecial j) a b npc tg) (hm : CM a ci ml) (hS : mtake b S [] = some (as, .ref q :: T)) (hT : Nat.ble T.length 4 = true) (hl : Nat.ble (lent1 (.ref q :: as)).length ml = true) (hL : lent (.ref q :: as) ml = L0) (hd : 0 < d) (hk : MR X (d - 1) a 0 L0 [] h Q')
    (k : ∀ v h', Q' v h' → MR X d m npc L (mpush v T) h' Q) : MR X d m pc L S h Q := by
  obtain ⟨n, q1, hc, rfl, rfl⟩ := hc
  refine MR_call hc ?_ hm (Nat.le_of_ble_eq_true hl) hL hd hk k
  dsimp only [mx]
  rw [hS]
  dsimp only
  rw [if_pos (mc4 hT)]
  rfl
end WPA
