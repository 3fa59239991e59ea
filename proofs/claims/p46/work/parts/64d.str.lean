/-! the text's length and characters, in a frame of the table's -/
section GJT
variable {p : Program} {l : Launch} {e : Env} {R : Room} {s : State} {m : MethodId} {args : Array Value} {below : List Frame} {meth : Method} {c : Code} {H : Heap} {locs : List Loc} {cells slots : Nat} {Q : State → Prop}
variable {pc : Nat} {ls : Array Slot} {ret : Option FieldType} {ex : List mE} {a1 b1 q1 : Nat} {L : mL} {S : List Value} {h : List mE} {pc' : Nat} {L' : mL} {S' : List Value} {h' : List mE} {xs : Nat → Nat} {b : Nat} {aC : Nat → ClassId} {D : va_G} {M : mMR}
theorem s_dmul {i : Nat} (C : g_C xs b aC D ex p s m meth c M) (hL : g_H (g_ad xs b) ls L) (hl : L.length = M.2.2.1) (hR : 5 ≤ R.frames ∧ 300 ≤ R.locals) (hW : g_W xs b aC D h H) (hS : va_S (g_A b) s.heap H locs) (hs0 : cells ≤ R.cells ∧ slots ≤ R.slots) (hk : mpk M.2.2.2.2.1 q1 i 3 0 [11] = true) (hd : decode M.2.1 pc = .ok (.invokevirtual i, 3)) (hm : mx ret ex (.dmul, 3, a1, b1, q1) pc L S h = some (.inl (pc', L', S', h'))) (kk : ∀ (H1 : Heap) (locs1 : List Loc), g_W xs b aC D h' H1 → va_S (g_A b) s.heap H1 locs1 → L' = L → h' = h → W p l e R s m args below meth c H1 locs1 cells slots Q (F0 m pc' ls (S'.map (g_V (g_ad xs b))))) : W p l e R s m args below meth c H locs cells slots Q (F0 m pc ls (S.map (g_V (g_ad xs b)))) := by
  obtain ⟨hx, hb, hml, hown, -, -, hnm, -, hE, hM⟩ := C
  replace hm : (match S with
      | .ref 3 :: T => if mcat T ≤ 8 then mgo (pc + 3) L (.int 94 :: T) h else none
      | _ => none) = some (.inl (pc', L', S', h')) := hm
  split at hm
  · rename_i T
    by_cases h8 : mcat T ≤ 8
    · rw [if_pos h8] at hm
      simp only [mgo, Option.some.injEq, Sum.inl.injEq, Prod.mk.injEq] at hm
      obtain ⟨rfl, rfl, rfl, rfl⟩ := hm
      refine j_V (k := 0) (As := []) (q0 := xs 3) (rest := T.map (g_V (g_ad xs b))) jm_L hx hb (by rw [hml, hL.1, hl]) hown hE hW hS (mwd_in j_cL) (mwd_in j_str) (g_jl hM hE rfl hk) (mwd_in j_iL) (mwd_in j_sL) (vk_recv (i := 0) (adK := fun _ => xs 3) hE.2.2.2.2.2.2.2.1 (by decide) hS) (by decide +kernel) rfl (by decide) ⟨by omega, by omega⟩ rfl (by rw [g_mcat]; exact h8) hs0 hd (fun H1 locs1 hW1 hS1 => ?_)
      exact kk H1 locs1 hW1 hS1 rfl rfl
    · rw [if_neg h8] at hm; cases hm
  · cases hm
theorem s_ddiv {i : Nat} (C : g_C xs b aC D ex p s m meth c M) (hL : g_H (g_ad xs b) ls L) (hl : L.length = M.2.2.1) (hR : 5 ≤ R.frames ∧ 300 ≤ R.locals) (hW : g_W xs b aC D h H) (hS : va_S (g_A b) s.heap H locs) (hs0 : cells ≤ R.cells ∧ slots ≤ R.slots) (hk : mpk M.2.2.2.2.1 q1 i 4 0 [11] = true) (hd : decode M.2.1 pc = .ok (.invokevirtual i, 3)) (hm : mx ret ex (.ddiv, 3, a1, b1, q1) pc L S h = some (.inl (pc', L', S', h'))) (kk : ∀ (H1 : Heap) (locs1 : List Loc), g_W xs b aC D h' H1 → va_S (g_A b) s.heap H1 locs1 → L' = L → h' = h → W p l e R s m args below meth c H1 locs1 cells slots Q (F0 m pc' ls (S'.map (g_V (g_ad xs b))))) : W p l e R s m args below meth c H locs cells slots Q (F0 m pc ls (S.map (g_V (g_ad xs b)))) := by
  obtain ⟨hx, hb, hml, hown, -, -, hnm, -, hE, hM⟩ := C
  replace hm : (match S with
      | .int i :: .ref 3 :: T => if mib i 94 && decide (mcat T ≤ 8) then mgo (pc + 3) L (.int (mTxt.getD i.toNatClampNeg 0) :: T) h else none
      | _ => none) = some (.inl (pc', L', S', h')) := hm
  split at hm
  · rename_i j T
    by_cases h8 : (mib j 94 && decide (mcat T ≤ 8)) = true
    · rw [if_pos h8] at hm
      rw [Bool.and_eq_true, decide_eq_true_eq] at h8
      obtain ⟨h9, h8⟩ := h8
      simp only [mgo, Option.some.injEq, Sum.inl.injEq, Prod.mk.injEq] at hm
      obtain ⟨rfl, rfl, rfl, rfl⟩ := hm
      have hv := s_vp h9
      have z0 : ¬ j < 0 := fun z => hv (Or.inl z)
      have z1 : j.toNatClampNeg < 94 := Nat.not_le.mp fun z => hv (Or.inr z)
      have z2 : j < 94 := by
        have hz0 : (0 : Int) ≤ j.toInt := by
          have := Int32.not_lt.mp z0
          simpa using Int32.le_iff_toInt_le.mp this
        have z3 : j.toInt.toNat < 94 := z1
        rw [Int32.lt_iff_toInt_lt]
        show j.toInt < 94
        omega
      refine j_V (k := 1) (As := [.int j]) (q0 := xs 3) (rest := T.map (g_V (g_ad xs b))) (jm_A z0 z2 z1) hx hb (by rw [hml, hL.1, hl]) hown hE hW hS (mwd_in j_cA) (mwd_in j_str) (g_jl hM hE rfl hk) (mwd_in j_iA) (mwd_in j_sA) (vk_recv (i := 0) (adK := fun _ => xs 3) hE.2.2.2.2.2.2.2.1 (by decide) hS) (by decide +kernel) rfl (by decide) ⟨by omega, by omega⟩ rfl (by rw [g_mcat]; exact h8) hs0 hd (fun H1 locs1 hW1 hS1 => ?_)
      exact kk H1 locs1 hW1 hS1 rfl rfl
    · rw [if_neg h8] at hm; cases hm
  · cases hm
end GJT
