/-! THE LAW, FOR EVERY SCRIPT OF AT MOST 3072 INTS -/
theorem run_any (L : Nat) (hL : L ≤ 3072) (val : Nat → Int32) : ∃ f h1, mrun (mex L val) f 300 mLaw 0 (lent [.ref 0] 4) [] [] = some (some (.int 1), h1) ∧ h1.length ≤ 600000 ∧ mhs h1 ≤ 7302250 := by
  obtain ⟨f, v, h1, hr, hv, τ', hT, hR⟩ := law_run (Ln := L) (xs := val) (by omega)
  obtain ⟨hc, hs⟩ := room_of hT hR
  have e : v = some (.int 1) := hv
  subst e
  exact ⟨f, h1, hr, hc, hs⟩
