/-! checks of long methods, piece by piece -/
theorem okCk_split {o : Nat} {y : MethodName} {cc : ByteArray} : ∀ {k : List (List (Option mR))} {a pc n : Nat}, okCk o y cc pc ((k.drop a).take n) = true → okCk o y cc (pc + 16 * n) (k.drop (a + n)) = true → okCk o y cc pc (k.drop a) = true := by
  have h : ∀ (l : List (List (Option mR))) (pc n : Nat), okCk o y cc pc (l.take n) = true → okCk o y cc (pc + 16 * n) (l.drop n) = true → okCk o y cc pc l = true := by
    intro l
    induction l with
    | nil => intro pc n _ _; rfl
    | cons x l ih =>
      intro pc n h1 h2
      cases n with
      | zero => exact h2
      | succ n =>
        have h1 : (okL o y cc pc x && okCk o y cc (pc + 16) (l.take n)) = true := h1
        have h2 : okCk o y cc (pc + 16 * (n + 1)) (l.drop n) = true := h2
        rw [Bool.and_eq_true] at h1
        show (okL o y cc pc x && okCk o y cc (pc + 16) l) = true
        rw [Bool.and_eq_true]
        exact ⟨h1.1, ih (pc + 16) n h1.2 (by rw [show pc + 16 + 16 * n = pc + 16 * (n + 1) by omega]; exact h2)⟩
  intro k a pc n h1 h2
  exact h _ pc n h1 (by rw [List.drop_drop]; exact h2)
theorem okCk_last {o : Nat} {y : MethodName} {cc : ByteArray} {k : List (List (Option mR))} {a pc n : Nat} (h : okCk o y cc pc ((k.drop a).take n) = true) (hl : k.length ≤ a + n) : okCk o y cc pc (k.drop a) = true := by
  rw [List.take_of_length_le (by rw [List.length_drop]; omega)] at h
  exact h
theorem okM_of {y : MethodName} {cc : ByteArray} {mx : Nat} {ret : Option FieldType} {o st na : Nat} {k : List (List (Option mR))} {t : Nat × Nat × Nat × Nat} (h : okCk o y cc 0 (k.drop 0) = true) (h2 : okM (y, cc, mx, ret, o, st, na, []) t = true) : okM (y, cc, mx, ret, o, st, na, k) t = true := by
  obtain ⟨t1, t2, t3, t4⟩ := t
  rw [List.drop_zero] at h
  unfold okM at h2 ⊢
  dsimp only at h2 ⊢
  rw [h]
  exact h2
