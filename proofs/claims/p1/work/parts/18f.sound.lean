/-! .. AND ITS RUNS -/
section YRUN
variable {ex : List mE} {f d m pc : Nat} {L : mL} {S : List Value} {h : List mE} {R : mMR} {r : mR}
theorem mr_go {pc' : Nat} {L' : mL} {S' : List Value} {h' : List mE} (h1 : mrec m = some R) (h2 : mcd R.2.2.2.2.2.2.2 pc = some r) (h3 : mx R.2.2.2.1 ex r pc L S h = some (.inl (pc', L', S', h'))) : mrun ex (f + 1) d m pc L S h = mrun ex f d m pc' L' S' h' := by
  show (match mrec m with
    | none => none
    | some R => match mcd R.2.2.2.2.2.2.2 pc with
      | none => none
      | some r => match mx R.2.2.2.1 ex r pc L S h with
        | none => none
        | some (.inl (pc', L', S', h')) => mrun ex f d m pc' L' S' h'
        | some (.inr (.inr v)) => some (v, h)
        | some (.inr (.inl (m', as, T))) => match d, mrec m' with
          | d' + 1, some R' => if R'.2.2.1 < (lent1 as).length then none else (match mrun ex f d' m' 0 (lent as R'.2.2.1) [] h with
            | some (v, h') => mrun ex f d m (pc + r.2.1) L (mpush v T) h'
            | none => none)
          | _, _ => none) = _
  rw [h1]; dsimp only; rw [h2]; dsimp only; rw [h3]
theorem mr_ret {v : Option Value} (h1 : mrec m = some R) (h2 : mcd R.2.2.2.2.2.2.2 pc = some r) (h3 : mx R.2.2.2.1 ex r pc L S h = some (.inr (.inr v))) : mrun ex (f + 1) d m pc L S h = some (v, h) := by
  show (match mrec m with
    | none => none
    | some R => match mcd R.2.2.2.2.2.2.2 pc with
      | none => none
      | some r => match mx R.2.2.2.1 ex r pc L S h with
        | none => none
        | some (.inl (pc', L', S', h')) => mrun ex f d m pc' L' S' h'
        | some (.inr (.inr v)) => some (v, h)
        | some (.inr (.inl (m', as, T))) => match d, mrec m' with
          | d' + 1, some R' => if R'.2.2.1 < (lent1 as).length then none else (match mrun ex f d' m' 0 (lent as R'.2.2.1) [] h with
            | some (v, h') => mrun ex f d m (pc + r.2.1) L (mpush v T) h'
            | none => none)
          | _, _ => none) = _
  rw [h1]; dsimp only; rw [h2]; dsimp only; rw [h3]
theorem mr_call {m' : Nat} {as T : List Value} {R' : mMR} (h1 : mrec m = some R) (h2 : mcd R.2.2.2.2.2.2.2 pc = some r) (h3 : mx R.2.2.2.1 ex r pc L S h = some (.inr (.inl (m', as, T)))) (h4 : mrec m' = some R') (h5 : ¬ R'.2.2.1 < (lent1 as).length) : mrun ex (f + 1) (d + 1) m pc L S h = (match mrun ex f d m' 0 (lent as R'.2.2.1) [] h with
            | some (v, h') => mrun ex f (d + 1) m (pc + r.2.1) L (mpush v T) h'
            | none => none) := by
  show (match mrec m with
    | none => none
    | some R => match mcd R.2.2.2.2.2.2.2 pc with
      | none => none
      | some r => match mx R.2.2.2.1 ex r pc L S h with
        | none => none
        | some (.inl (pc', L', S', h')) => mrun ex f (d + 1) m pc' L' S' h'
        | some (.inr (.inr v)) => some (v, h)
        | some (.inr (.inl (m', as, T))) => match d + 1, mrec m' with
          | d' + 1, some R' => if R'.2.2.1 < (lent1 as).length then none else (match mrun ex f d' m' 0 (lent as R'.2.2.1) [] h with
            | some (v, h') => mrun ex f (d + 1) m (pc + r.2.1) L (mpush v T) h'
            | none => none)
          | _, _ => none) = _
  rw [h1]; dsimp only; rw [h2]; dsimp only; rw [h3]; dsimp only; rw [h4]; dsimp only; rw [if_neg h5]
end YRUN
theorem mrun_s {ex : List mE} : ∀ (f d m pc : Nat) (L : mL) (S : List Value) (h : List mE) (z : Option Value × List mE), mrun ex f d m pc L S h = some z → mrun ex (f + 1) d m pc L S h = some z
  | 0, _, _, _, _, _, _, _, hr => by cases hr
  | f + 1, d, m, pc, L, S, h, z, hr => by
    have ih := mrun_s (ex := ex) f
    cases h1 : mrec m with
    | none => unfold mrun at hr; rw [h1] at hr; cases hr
    | some R =>
      cases h2 : mcd R.2.2.2.2.2.2.2 pc with
      | none => unfold mrun at hr; rw [h1] at hr; dsimp only at hr; rw [h2] at hr; cases hr
      | some r =>
        rcases h3 : mx R.2.2.2.1 ex r pc L S h with _ | ⟨pc', L', S', h'⟩ | ⟨m', as, T⟩ | v
        · unfold mrun at hr; rw [h1] at hr; dsimp only at hr; rw [h2] at hr; dsimp only at hr; rw [h3] at hr; cases hr
        · rw [mr_go h1 h2 h3] at hr ⊢
          exact ih _ _ _ _ _ _ _ hr
        · have hr0 := hr
          unfold mrun at hr
          rw [h1] at hr; dsimp only at hr; rw [h2] at hr; dsimp only at hr; rw [h3] at hr; dsimp only at hr
          cases d with
          | zero => cases hr
          | succ d =>
            cases h4 : mrec m' with
            | none => rw [h4] at hr; cases hr
            | some R' =>
              by_cases h5 : R'.2.2.1 < (lent1 as).length
              · rw [h4] at hr; dsimp only at hr; rw [if_pos h5] at hr; cases hr
              · rw [mr_call h1 h2 h3 h4 h5] at hr0 ⊢
                cases h6 : mrun ex f d m' 0 (lent as R'.2.2.1) [] h with
                | none => rw [h6] at hr0; cases hr0
                | some w =>
                  obtain ⟨v, h'⟩ := w
                  rw [h6] at hr0
                  rw [ih _ _ _ _ _ _ _ h6]
                  exact ih _ _ _ _ _ _ _ hr0
        · rw [mr_ret h1 h2 h3] at hr ⊢
          exact hr
theorem mrun_k {ex : List mE} {f d m pc : Nat} {L : mL} {S : List Value} {h : List mE} {z : Option Value × List mE} (hr : mrun ex f d m pc L S h = some z) : ∀ k, mrun ex (f + k) d m pc L S h = some z
  | 0 => hr
  | k + 1 => mrun_s (f + k) _ _ _ _ _ _ _ (mrun_k hr k)
abbrev mFr : Type := Nat × Nat × mL × List Value
def cOK (ex : List mE) : mFr → List mFr → List mE → Prop
  | (m, pc, L, S), [], h => ∃ f h1, mrun ex f 300 m pc L S h = some (some (.int 1), h1) ∧ h1.length ≤ 600000 ∧ mhs h1 ≤ 7302250
  | (m, pc, L, S), (m2, pc2, L2, S2) :: rest, h => ∃ f v h1, mrun ex f (300 - (rest.length + 1)) m pc L S h = some (v, h1) ∧ cOK ex (m2, pc2, L2, mpush v S2) rest h1
theorem cOK_of {ex : List mE} {m pc m2 pc2 : Nat} {L L2 : mL} {S S2 : List Value} {rest : List mFr} {h h2 : List mE} (hn : ∀ f z, mrun ex f (300 - rest.length) m2 pc2 L2 S2 h2 = some z → ∃ f, mrun ex f (300 - rest.length) m pc L S h = some z) (hc : cOK ex (m2, pc2, L2, S2) rest h2) : cOK ex (m, pc, L, S) rest h := by
  cases rest with
  | nil =>
    obtain ⟨f, h1, hr, hb⟩ := hc
    obtain ⟨f', hr'⟩ := hn f _ hr
    exact ⟨f', h1, hr', hb⟩
  | cons fr rest =>
    obtain ⟨m3, pc3, L3, S3⟩ := fr
    obtain ⟨f, v, h1, hr, hb⟩ := hc
    obtain ⟨f', hr'⟩ := hn f _ hr
    exact ⟨f', v, h1, hr', hb⟩
def rFr (val : Nat → Int32) (a : yFr) (b : mFr) : Prop := a.1 = b.1 ∧ a.2.1 = b.2.1 ∧ rLo val a.2.2.1 b.2.2.1 ∧ rS val a.2.2.2 b.2.2.2
theorem rS_push {val : Nat → Int32} {v : Option yV} {v0 : Option Value} {S : List yV} {S0 : List Value} (hv : rO val v v0) (hS : rS val S S0) : rS val (ypush v S) (mpush v0 S0) := by
  cases v with
  | none => cases v0 with
    | none => exact hS
    | some w => exact hv.elim
  | some v => cases v0 with
    | none => exact hv.elim
    | some w => exact ⟨hv, hS⟩
theorem yl1_len {val : Nat → Int32} {as : List yV} {as0 : List Value} (h : rS val as as0) : (ylent1 as).length = (lent1 as0).length := rAll_len (ylent1_ok h)
theorem sx_ok {Lc : Nat} {val : Nat → Int32} : ∀ (f : Nat) (F : yF) (m pc : Nat) (L : yL) (S : List yV) (rest : List yFr) (h : List yE), sx Lc f F ((m, pc, L, S) :: rest) h = true → rF val F → ∀ (L0 : mL) (S0 : List Value) (rest0 : List mFr) (h0 : List mE), rLo val L L0 → rS val S S0 → rAll (rFr val) rest rest0 → rH val h h0 → cOK (mex Lc val) (m, pc, L0, S0) rest0 h0
  | 0, _, _, _, _, _, _, _, hs, _ => by cases hs
  | f + 1, F, m, pc, L, S, rest, h, hs, hF => by
    intro L0 S0 rest0 h0 hL hS hR hH
    have ih := sx_ok (Lc := Lc) (val := val) f
    unfold sx at hs
    dsimp only at hs
    cases h1 : mrec m with
    | none => rw [h1] at hs; cases hs
    | some R =>
      rw [h1] at hs
      dsimp only at hs
      cases h2 : mcd R.2.2.2.2.2.2.2 pc with
      | none => rw [h2] at hs; cases hs
      | some r =>
        rw [h2] at hs
        dsimp only at hs
        cases h3 : ymx Lc R.2.2.2.1 F r pc L S h with
        | none => rw [h3] at hs; cases hs
        | some os =>
          rw [h3] at hs
          dsimp only at hs
          obtain ⟨q, hq, hqF, z, hz, hqz⟩ := ymx_ok hF hL hS hH h3
          have hs := List.all_eq_true.mp hs q hq
          obtain ⟨F1, o⟩ := q
          dsimp only at hs hqF hqz
          rcases o with ⟨pc1, L1, S1, h1'⟩ | ⟨m1, as, T⟩ | v
          · rcases z with ⟨pc2, L2, S2, h2'⟩ | ⟨m2, as2, T2⟩ | v2
            · obtain ⟨rfl, hL1, hS1, hH1⟩ := hqz
              exact cOK_of (fun f z hr => ⟨f + 1, by rw [mr_go h1 h2 hz]; exact hr⟩) (ih _ _ _ _ _ _ _ hs hqF _ _ _ _ hL1 hS1 hR hH1)
            · exact hqz.elim
            · exact hqz.elim
          · rcases z with ⟨pc2, L2, S2, h2'⟩ | ⟨m2, as2, T2⟩ | v2
            · exact hqz.elim
            · obtain ⟨rfl, hA, hT⟩ := hqz
              dsimp only at hs
              cases h4 : mrec m1 with
              | none => rw [h4] at hs; cases hs
              | some R' =>
                rw [h4] at hs
                dsimp only at hs
                by_cases h5 : R'.2.2.1 < (ylent1 as).length ∨ 300 ≤ rest.length
                · rw [if_pos h5] at hs; cases hs
                · rw [if_neg h5] at hs
                  have hlen := rAll_len hR
                  have h6 : ¬ R'.2.2.1 < (lent1 as2).length := by rw [← yl1_len hA]; exact fun z => h5 (.inl z)
                  have h7 : rest0.length < 300 := by rw [← hlen]; exact Nat.lt_of_not_le (fun z => h5 (.inr z))
                  have hc := ih _ _ _ _ _ _ _ hs hqF (lent as2 R'.2.2.1) [] ((m, pc + r.2.1, L0, T2) :: rest0) h0 (ylent_ok hA _) trivial ⟨⟨rfl, rfl, hL, hT⟩, hR⟩ hH
                  obtain ⟨f1, v, h8, hr1, hc⟩ := hc
                  refine cOK_of (fun f2 z hr2 => ⟨f1 + f2 + 1, ?_⟩) hc
                  have e : 300 - rest0.length = (300 - (rest0.length + 1)) + 1 := by omega
                  rw [e] at hr2 ⊢
                  rw [mr_call h1 h2 hz h4 h6, mrun_k hr1 f2]
                  dsimp only
                  rw [Nat.add_comm f1 f2]
                  exact mrun_k hr2 f1
            · exact hqz.elim
          · rcases z with ⟨pc2, L2, S2, h2'⟩ | ⟨m2, as2, T2⟩ | v2
            · exact hqz.elim
            · exact hqz.elim
            · replace hqz : rO val v v2 := hqz
              dsimp only at hs
              cases rest with
              | nil =>
                cases rest0 with
                | cons => exact hR.elim
                | nil =>
                  dsimp only at hs
                  split at hs
                  · rename_i x
                    simp only [Bool.and_eq_true, decide_eq_true_eq] at hs
                    obtain ⟨⟨rfl, hc1⟩, hc2⟩ := hs
                    cases v2 with
                    | none => exact hqz.elim
                    | some w =>
                      obtain ⟨x, rfl, hx⟩ := hqz
                      have hx : x = 1 := hx
                      subst hx
                      exact ⟨1, h0, mr_ret h1 h2 hz, by rw [← rH_len hH]; exact hc1, by rw [← rH_sz hH]; exact hc2⟩
                  · cases hs
              | cons fr rest =>
                cases rest0 with
                | nil => exact hR.elim
                | cons fr0 rest0 =>
                  obtain ⟨m3, pc3, L3, S3⟩ := fr
                  obtain ⟨m4, pc4, L4, S4⟩ := fr0
                  obtain ⟨⟨h5, h6, hL3, hS3⟩, hR⟩ := hR
                  dsimp only at hs h5 h6 hL3 hS3
                  subst h5 h6
                  exact ⟨1, v2, h0, mr_ret h1 h2 hz, ih _ _ _ _ _ _ _ hs hqF _ _ _ _ hL3 (rS_push hqz hS3) hR hH⟩
/-- what the symbolic machine says of the law -/
theorem sx_run {Lc : Nat} {val : Nat → Int32} {f : Nat} {F : yF} (hs : sx Lc f F [(mLaw, 0, ylent [.inr (.ref 0)] 4, [])] [] = true) (hF : rF val F) : ∃ f h1, mrun (mex Lc val) f 300 mLaw 0 (lent [.ref 0] 4) [] [] = some (some (.int 1), h1) ∧ h1.length ≤ 600000 ∧ mhs h1 ≤ 7302250 :=
  sx_ok f F _ _ _ _ [] [] hs hF _ _ [] [] (ylent_ok (vs := [.inr (.ref 0)]) (ws := [.ref 0]) ⟨rfl, trivial⟩ 4) trivial trivial trivial
