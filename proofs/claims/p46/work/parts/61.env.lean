/-! WHAT A FRAME STANDS ON: the tables' words, the classes, the given cells -/
def g_nest (w : Jvm.Cond) : Bool := match w with
  | .fieldLinkNest .. => true
  | .methodLinkNest .. => true
  | .castable .. => true
  | _ => false
def g_ty (aC : Nat → ClassId) : List (ClassId × FieldType) := (List.range 9).map fun t => (aC t, mAT.getD t .int)
theorem g_ty_at {aC : Nat → ClassId} {t : Nat} {ty : FieldType} (h : mAT[t]? = some ty) : (g_ty aC)[t]? = some (aC t, ty) := by
  have hl : t < 9 := (List.getElem?_eq_some_iff.mp h).1
  unfold g_ty
  rw [List.getElem?_map, List.getElem?_range hl]
  simp [h]
def g_X (xs : Nat → Nat) (ex : List mE) (A : Nat → Prop) (U : State) (H : Heap) : Prop :=
  (∀ (q n : Nat) (f : Nat → Int32), ex[q]? = some (.inl (0, (n, .inl f))) → va_T .int (xs q) n (fun j => .int (f j)) A U H) ∧
  (∀ (q n : Nat) (f : Nat → Int64), ex[q]? = some (.inl (2, (n, .inr (.inl f)))) → va_T .long (xs q) n (fun j => .long (f j)) A U H) ∧
  (∀ (q : Nat) (e : mE), ex[q]? = some e → (∃ n f, e = .inl (0, (n, .inl f))) ∨ (∃ n f, e = .inl (2, (n, .inr (.inl f)))))
def g_S (xs : Nat → Nat) (A : Nat → Prop) (U : State) (H : Heap) : Prop := ∀ (a : Nat) (C n d : String), mStc[a]? = some (C, n, d) → va_Z C n d (.ref (xs (a + 1))) A U H
/-- the text of words, and what the text's methods read -/
def g_T (xs : Nat → Nat) (A : Nat → Prop) (U : State) (H : Heap) : Prop := vk_R "HireYard$Tape" 81 mTx (xs 3) U ∧ vk_S 1 [94] [mTxt] (fun _ => xs 3) (fun _ => xs 4) A U H ∧ va_Z "java/lang/String" "COMPACT_STRINGS" "Z" (.int 1) A U H ∧ va_Zq "jdk/internal/util/Preconditions" "SIOOBE_FORMATTER" "Ljava/util/function/BiFunction;" A U H
def g_Env (xs : Nat → Nat) (b : Nat) (aC : Nat → ClassId) (D : va_G) (ex : List mE) (U : State) (H : Heap) : Prop :=
  (∀ w ∈ lw_tbl, goodWord w = true → ∀ a, w.before a U = true) ∧ (∀ w ∈ lw_tbl, g_nest w = true → va_Nw w U) ∧
  (∀ ty, Jvm.Cond.arrayOver ty ∈ lw_tbl → ((∃ C, ty = .object C) ∨ ∃ t, ty = .array t) → ∀ a, (Jvm.Cond.arrayOver ty).before a U = true) ∧ va_K D vwCl (g_ty aC) U ∧ g_X xs ex (g_A b) U H ∧ g_S xs (g_A b) U H ∧ g_T xs (g_A b) U H
theorem g_overA {t : FieldType} {a a' : Array Value} {u U : State} (hvm : u.vm.Alike U.vm) (h : (Jvm.Cond.arrayOver (.array t)).before a u = true) : (Jvm.Cond.arrayOver (.array t)).before a' U = true := by
  unfold Cond.before at h ⊢
  simp only [Cond.holds, Cond.value, beq_iff_eq] at h ⊢
  cases hc : u.vm.findClass (FieldType.array t).toString with
  | none => simp [hc] at h
  | some comp =>
    simp only [hc, Option.bind_some, Option.bind_eq_some_iff, Option.map_eq_some_iff] at h
    obtain ⟨c, hi, k, hk, hb⟩ := h
    obtain ⟨k', hk', he⟩ := hvm.2.2 _ _ hk
    have f1 : U.vm.findClass (FieldType.array t).toString = some comp := by rw [hvm.findClass]; exact hc
    have e3 : U.vm.bare = u.vm.bare := by first | exact hvm.bare_eq | exact hvm.bare_eq.symm
    have e1 := va_idx_bare U.vm comp
    have e2 := va_idx_bare u.vm comp
    rw [e3] at e1
    have hi' := (e1.symm.trans e2).trans hi
    rw [f1]
    simp only [Option.bind_some, Option.bind_eq_some_iff, Option.map_eq_some_iff]
    refine ⟨c, hi', k', hk', ?_⟩
    have hkk : k'.kind = k.kind := by rw [he]
    rw [hkk, hvm.findClass]
    exact hb
theorem g_over {ty : FieldType} {a a' : Array Value} {s U : State} (hW : s.WarmedH U.vm) (h : (Jvm.Cond.arrayOver ty).before a s = true) (hty : (∃ C, ty = .object C) ∨ ∃ t, ty = .array t) : (Jvm.Cond.arrayOver ty).before a' U = true := by
  rcases hty with ⟨C, rfl⟩ | ⟨t, rfl⟩
  · exact va_AO.use (A := a') (va_AO.moved hW.alike (va_AO.of (A := a) h))
  · exact g_overA hW.alike h
section GENV
variable {xs : Nat → Nat} {b : Nat} {aC : Nat → ClassId} {D : va_G} {ex : List mE}
theorem g_warm {s U : State} {H H1 : Heap} (hE : g_Env xs b aC D ex s H) (hW : s.WarmedH U.vm) (hk : ∀ a : Nat, a < H.size → ¬ g_A b a → H1[a]? = H[a]?) : g_Env xs b aC D ex U H1 := by
  obtain ⟨h1, h2, h3, h4, ⟨h5, h6, h8⟩, h7, j1, j3, j4, j6⟩ := hE
  refine ⟨fun w hw hg a => word_at (args := #[]) hW (good_of_word hg) (h1 w hw hg _), fun w hw hn => ?_, fun ty hw ht a => g_over hW (h3 ty hw ht #[]) ht, va_K.moved hW.alike h4, ⟨fun q n f hq => ((h5 q n f hq).moved hW.alike).kept hk, fun q n f hq => ((h6 q n f hq).moved hW.alike).kept hk, h8⟩, fun a C n d ha => ((h7 a C n d ha).moved hW.alike).kept hk, j1.warm hW, (j3.moved hW.alike).kept hk, (j4.moved hW.alike).kept hk, (j6.moved hW.alike).kept hk⟩
  have h := h2 w hw hn
  cases w with
  | fieldLinkNest a i c n d e => exact va_Nw.warmF hW h
  | methodLinkNest a i x e => exact va_Nw.warmM hW h
  | castable a x => exact va_Nw.warmC hW h
  | _ => cases hn
theorem g_blind {U : State} {g : JFrame} {mk : MethodId} {a : Array Value} {H : Heap} (hE : g_Env xs b aC D ex U H) : g_Env xs b aC D ex (U.calling g mk a) H :=
  g_warm hE (show U.WarmedH U.vm from State.WarmedH.refl U) (fun _ _ _ => rfl)
end GENV
/-! the pools' and the methods' words -/
theorem mow_pg {o q : Nat} {e : mPE} (h : mPg o q = some e) : ∃ own l, mOw[o]? = some (own, l) ∧ okP own e = true := by
  unfold mPg at h
  split at h
  · rename_i own l ho
    refine ⟨own, l, ho, ?_⟩
    split at h
    · rename_i l2 hl
      have h1 := List.all_eq_true.mp ck_P _ (List.mem_of_getElem? ho)
      have h2 := List.all_eq_true.mp h1 _ (List.mem_of_getElem? hl)
      exact List.all_eq_true.mp h2 _ (List.mem_of_getElem? h)
    · cases h
  · cases h
theorem okL_get {o : Nat} {y : MethodName} {cc : ByteArray} : ∀ (l : List (Option mR)) (pc j : Nat) (r : mR), okL o y cc pc l = true → l[j]? = some (some r) → okI o y cc (pc + j) r = true
  | [], _, _, _, _, h => by simp at h
  | none :: l, pc, 0, r, _, h => by simp at h
  | none :: l, pc, j + 1, r, hk, h => by
    have := okL_get l (pc + 1) j r hk (by simpa using h)
    rwa [show pc + (j + 1) = pc + 1 + j by omega]
  | some x :: l, pc, 0, r, hk, h => by
    have e : x = r := by simpa using h
    subst e
    exact (Bool.and_eq_true _ _ ▸ hk : _ ∧ _).1
  | some x :: l, pc, j + 1, r, hk, h => by
    have := okL_get l (pc + 1) j r (Bool.and_eq_true _ _ ▸ hk : _ ∧ _).2 (by simpa using h)
    rwa [show pc + (j + 1) = pc + 1 + j by omega]
theorem okCk_get {o : Nat} {y : MethodName} {cc : ByteArray} : ∀ (k : List (List (Option mR))) (pc i j : Nat) (l : List (Option mR)) (r : mR), okCk o y cc pc k = true → k[i]? = some l → l[j]? = some (some r) → okI o y cc (pc + 16 * i + j) r = true
  | [], _, _, _, _, _, _, h, _ => by simp at h
  | x :: k, pc, 0, j, l, r, hk, h, hj => by
    have e : x = l := by simpa using h
    subst e
    have := okL_get x pc j r (Bool.and_eq_true _ _ ▸ hk : _ ∧ _).1 hj
    simpa using this
  | x :: k, pc, i + 1, j, l, r, hk, h, hj => by
    have := okCk_get k (pc + 16) i j l r (Bool.and_eq_true _ _ ▸ hk : _ ∧ _).2 (by simpa using h) hj
    rwa [show pc + 16 * (i + 1) + j = pc + 16 + 16 * i + j by omega]
theorem mcd_ok {o : Nat} {y : MethodName} {cc : ByteArray} {k : List (List (Option mR))} {pc : Nat} {r : mR} (hk : okCk o y cc 0 k = true) (h : mcd k pc = some r) : okI o y cc pc r = true := by
  unfold mcd at h
  split at h
  · rename_i l hl
    split at h
    · rename_i x hx
      cases h
      have := okCk_get k 0 (pc / 16) (pc % 16) l r hk hl hx
      rwa [show 0 + 16 * (pc / 16) + pc % 16 = pc by omega] at this
    · cases h
  · cases h
/-- what is known of a method of the table -/
def g_M (R : mMR) : Prop := okCk R.2.2.2.2.1 R.1 R.2.1 0 R.2.2.2.2.2.2.2 = true ∧ (mOw[R.2.2.2.2.1]?).map (fun q => q.1) = some R.1.cls
/-- .. of one that is called -/
def g_MW (R : mMR) : Prop := Jvm.Cond.code R.1 R.2.1 R.2.2.1 R.2.2.2.1 ∈ lw_tbl ∧ Jvm.Cond.initialized R.1.cls ∈ lw_tbl ∧
  (R.1.cls ≠ "java/lang/invoke/MethodHandle" ∧ R.1.cls ≠ "java/lang/invoke/VarHandle" ∧ (parseMethodDescriptor R.1.desc).map (fun d => d.parameters.length) = some R.2.2.2.2.2.2.1) ∧ plainName R.1.cls = true ∧ R.2.2.1 ≤ 45 ∧
  (R.2.2.2.2.2.1 = 1 → Jvm.Cond.static R.1 ∈ lw_tbl) ∧ (R.2.2.2.2.2.1 ≠ 1 → Jvm.Cond.instanceMethod R.1 ∈ lw_tbl ∧ (R.1.name = "<init>" ∨ Jvm.Cond.selects R.1.cls R.1 R.1 ∈ lw_tbl) ∧ (R.1.name = "<init>" → R.2.2.2.1 = none))
theorem g_of_okM {R : mMR} {t : Nat × Nat × Nat × Nat} (h : okM R t = true) : g_M R ∧ g_MW R := by
  obtain ⟨y, cc, mx, ret, o, st, na, k⟩ := R
  obtain ⟨t1, t2, t3, t4⟩ := t
  simp only [okM, Bool.and_eq_true, decide_eq_true_eq] at h
  obtain ⟨⟨⟨⟨⟨⟨⟨h1, h2⟩, h3⟩, h4⟩, h5⟩, h6⟩, h7⟩, h8⟩ := h
  refine ⟨⟨h1, h2⟩, mwd_in h3, mwd_in h4, h5, h6, h7, fun hs => ?_, fun hs => ?_⟩
  · rw [if_pos hs] at h8
    exact mwd_in (of_decide_eq_true h8)
  · rw [if_neg hs] at h8
    simp only [Bool.and_eq_true, Bool.or_eq_true, decide_eq_true_eq] at h8
    obtain ⟨⟨a1, a2⟩, a3⟩ := h8
    exact ⟨mwd_in a1, a2.imp id mwd_in, fun z => a3.resolve_left (fun w => w z)⟩
