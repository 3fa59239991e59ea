/-! EVERY METHOD OF THE TABLE IS WHAT THE TABLES SAY; THE LAW TOO -/
theorem mchk_g {l : List mMR} {ht : List (Nat × Nat × Nat × Nat)} (h : (l.zip ht).all (fun q => okM q.1 q.2) = true) (hl : l.length ≤ ht.length) {j : Nat} {M : mMR} (hj : l[j]? = some M) : g_M M ∧ g_MW M := by
  have h1 : j < ht.length := Nat.lt_of_lt_of_le (List.getElem?_eq_some_iff.mp hj).1 hl
  have h2 : (l.zip ht)[j]? = some (M, ht[j]) := List.getElem?_zip_eq_some.mpr ⟨hj, List.getElem?_eq_getElem h1⟩
  exact g_of_okM (List.all_eq_true.mp h _ (List.mem_of_getElem? h2))
theorem mchk_t {l : List mMR} {ht : List (Nat × Nat × Nat × Nat)} {n : Nat} (h : ((l.zip ht).take n).all (fun q => okM q.1 q.2) = true) (hl : l.length ≤ ht.length ∨ n ≤ ht.length) {j : Nat} {M : mMR} (hn : j < n) (hj : l[j]? = some M) : g_M M ∧ g_MW M := by
  have h1 : j < ht.length := by
    have := (List.getElem?_eq_some_iff.mp hj).1
    omega
  have h2 : (l.zip ht)[j]? = some (M, ht[j]) := List.getElem?_zip_eq_some.mpr ⟨hj, List.getElem?_eq_getElem h1⟩
  have h3 : ((l.zip ht).take n)[j]? = some (M, ht[j]) := by rw [List.getElem?_take_of_lt hn]; exact h2
  exact g_of_okM (List.all_eq_true.mp h _ (List.mem_of_getElem? h3))
theorem mchk (m : Nat) (M : mMR) (h : mrec m = some M) (hm : m < mLaw) : g_M M ∧ g_MW M := by
  have hm : m < 295 := hm
  unfold mrec at h
  split at h
  · rename_i l hl
    have hc : m / 16 < 19 := by omega
    have hj : m / 16 = 18 → m % 16 < 7 := by omega
    generalize m / 16 = c at hl hc hj
    generalize m % 16 = j at h hj
    match c, hc, hl, hj with
    | 0, _, hl, _ => have hl : some mM_0 = some l := hl; cases hl; exact mchk_g ck_0 (by decide +kernel) h
    | 1, _, hl, _ => have hl : some mM_1 = some l := hl; cases hl; exact mchk_g ck_1 (by decide +kernel) h
    | 2, _, hl, _ => have hl : some mM_2 = some l := hl; cases hl; exact mchk_g ck_2 (by decide +kernel) h
    | 3, _, hl, _ => have hl : some mM_3 = some l := hl; cases hl; exact mchk_g ck_3 (by decide +kernel) h
    | 4, _, hl, _ => have hl : some mM_4 = some l := hl; cases hl; exact mchk_g ck_4 (by decide +kernel) h
    | 5, _, hl, _ => have hl : some mM_5 = some l := hl; cases hl; exact mchk_g ck_5 (by decide +kernel) h
    | 6, _, hl, _ => have hl : some mM_6 = some l := hl; cases hl; exact mchk_g ck_6 (by decide +kernel) h
    | 7, _, hl, _ => have hl : some mM_7 = some l := hl; cases hl; exact mchk_g ck_7 (by decide +kernel) h
    | 8, _, hl, _ => have hl : some mM_8 = some l := hl; cases hl; exact mchk_g ck_8 (by decide +kernel) h
    | 9, _, hl, _ => have hl : some mM_9 = some l := hl; cases hl; exact mchk_g ck_9 (by decide +kernel) h
    | 10, _, hl, _ => have hl : some mM_10 = some l := hl; cases hl; exact mchk_g ck_10 (by decide +kernel) h
    | 11, _, hl, _ => have hl : some mM_11 = some l := hl; cases hl; exact mchk_g ck_11 (by decide +kernel) h
    | 12, _, hl, _ => have hl : some mM_12 = some l := hl; cases hl; exact mchk_g ck_12 (by decide +kernel) h
    | 13, _, hl, _ => have hl : some mM_13 = some l := hl; cases hl; exact mchk_g ck_13 (by decide +kernel) h
    | 14, _, hl, _ => have hl : some mM_14 = some l := hl; cases hl; exact mchk_g ck_14 (by decide +kernel) h
    | 15, _, hl, _ => have hl : some mM_15 = some l := hl; cases hl; exact mchk_g ck_15 (by decide +kernel) h
    | 16, _, hl, _ => have hl : some mM_16 = some l := hl; cases hl; exact mchk_g ck_16 (by decide +kernel) h
    | 17, _, hl, _ => have hl : some mM_17 = some l := hl; cases hl; exact mchk_g ck_17 (by decide +kernel) h
    | 18, _, hl, hj => have hl : some mM_18 = some l := hl; cases hl; exact mchk_t ck_18 (.inr (by decide +kernel)) (hj rfl) h
    | n + 19, hc, _, _ => omega
  · cases h
theorem hlaw : ∃ M, mrec mLaw = some M ∧ g_M M ∧ M.1.cls = R_law ∧ M.1.name ≠ "<init>" ∧ M.2.1 = code ∧ M.2.2.1 = 4 ∧ M.2.2.2.1 = ret :=
  ⟨(yL_law, cL_law, 4, (some .boolean), 13, 1, 1, kL_law), rfl, ⟨ck_law, by decide +kernel⟩, rfl, by decide +kernel, rfl, rfl, rfl⟩
