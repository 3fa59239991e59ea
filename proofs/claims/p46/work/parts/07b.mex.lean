/-! HOW AN INSTRUCTION LEAVES; the given cells -/
theorem mx_out {ret : Option FieldType} {ex : List mE} {I : Instr} {n a1 b1 q1 pc : Nat} {L : mL} {S : List Value} {h : List mE} {z : (Nat × List Value × List Value) ⊕ Option Value} (hm : mx ret ex (I, n, a1, b1, q1) pc L S h = some (.inr z)) :
    (∃ i, I = .invokestatic i) ∨ (∃ i, I = .invokevirtual i) ∨ (∃ i, I = .invokespecial i) ∨ I = .ireturn ∨ I = .lreturn ∨ I = .areturn ∨ I = .return_ := by
  cases I with
  | invokestatic i => exact Or.inl ⟨i, rfl⟩
  | invokevirtual i => exact Or.inr (Or.inl ⟨i, rfl⟩)
  | invokespecial i => exact Or.inr (Or.inr (Or.inl ⟨i, rfl⟩))
  | ireturn => exact Or.inr (Or.inr (Or.inr (Or.inl rfl)))
  | lreturn => exact Or.inr (Or.inr (Or.inr (Or.inr (Or.inl rfl))))
  | areturn => exact Or.inr (Or.inr (Or.inr (Or.inr (Or.inr (Or.inl rfl)))))
  | return_ => exact Or.inr (Or.inr (Or.inr (Or.inr (Or.inr (Or.inr rfl)))))
  | _ =>
    exfalso
    dsimp only [mx] at hm
    first
      | (cases hm; done)
      | (simp [mgo] at hm; done)
      | (repeat' (split at hm)) <;> first | (cases hm; done) | (simp [mgo] at hm; done)
/-- the two given tables, and the cells that are given -/
def mDg : List Int64 := [6240321451, 68574961, 753571, 8281, 91, 1]
def mNm : List Int64 := [80155, 1065, 12325519, 358472, 355568, 4562587, 311436, 355280, 38567165, 133554, 158692, 12532058, 11570, 14420]
def mex (L : Nat) (xs : Nat → Int32) : List mE := [.inl (0, (L, .inl xs)), .inl (2, (6, .inr (.inl (fun j => mDg.getD j 0)))), .inl (2, (14, .inr (.inl (fun j => mNm.getD j 0))))]
