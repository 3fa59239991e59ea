/-! FROM A RUN OF THE LAW IN THE SMALL MACHINE TO THE WALK THAT IS OWED -/
theorem t_D {s : State} {a : Array Value} (hts : ∀ w ∈ lw_tbl, w.before a s = true) : ∃ D : va_G, ∀ (c : Nat) (q : vw_C), vwCl[c]? = some q → u_Kn s q.1 q.2.1 q.2.2 (D.1 c) (D.2 c) := by
  have h : ∀ c : Nat, ∃ z : ClassId × (Nat → Nat), ∀ q : vw_C, vwCl[c]? = some q → u_Kn s q.1 q.2.1 q.2.2 z.1 z.2 := by
    intro c
    cases hc : vwCl[c]? with
    | none => exact ⟨(0, fun _ => 0), fun q h => by cases h⟩
    | some q =>
      obtain ⟨C, T, N⟩ := q
      obtain ⟨h1, h2, h3, -⟩ := g_cls hc
      obtain ⟨cC, iS, hk⟩ := u_known (C := C) (T := T) (N := N) (n := N) (ws := lw_tbl) hts (fun w hw => (List.mem_filter.mp (h3 w hw)).1) (hts _ h1)
      exact ⟨(cC, iS), fun q h => by cases h; exact hk⟩
  obtain ⟨f, hf⟩ := Classical.axiomOfChoice h
  exact ⟨(fun c => (f c).1, fun c => (f c).2), hf⟩
theorem t_aC {s : State} {a : Array Value} (hts : ∀ w ∈ lw_tbl, w.before a s = true) : ∃ aC : Nat → ClassId, ∀ (t : Nat) (ty : FieldType), mAT[t]? = some ty → ArrOfT s (aC t) ty ∧ va_RA s (aC t) ty := by
  have prim : ∀ ty : FieldType, Jvm.Cond.arrayClass ty ∈ lw_tbl → (∀ C, ty ≠ .object C) → ∃ cA : ClassId, ArrOfT s cA ty ∧ va_RA s cA ty := by
    intro ty hw hn
    obtain ⟨cA, kA, comp, h1, h2, h3⟩ := Cond.arrayClass_spec (hts _ hw)
    refine ⟨cA, fun n z => ⟨fun k h => (by cases h), kA, h2, comp, h3⟩, ?_⟩
    cases ty with
    | object C => exact absurd rfl (hn C)
    | _ => exact h1
  have obj : ∀ C : String, Jvm.Cond.arrayOver (.object C) ∈ lw_tbl → ∃ cA : ClassId, ArrOfT s cA (.object C) ∧ va_RA s cA (.object C) := by
    intro C hw
    obtain ⟨comp, cA, kA, h1, -, h3, h4, h5⟩ := Cond.arrayOver_spec (hts _ hw)
    exact ⟨cA, fun n z => ⟨fun k h => (by cases h), kA, h3, comp, h4⟩, kA, comp, h3, h4, h1, h5⟩
  have h : ∀ t : Nat, ∃ cA : ClassId, ∀ ty : FieldType, mAT[t]? = some ty → ArrOfT s cA ty ∧ va_RA s cA ty := by
    intro t
    match t with
    | 0 => obtain ⟨cA, h⟩ := prim .int ck_ai (fun C h => by cases h); exact ⟨cA, fun ty e => by cases e; exact h⟩
    | 1 => obtain ⟨cA, h⟩ := prim .boolean ck_az (fun C h => by cases h); exact ⟨cA, fun ty e => by cases e; exact h⟩
    | 2 => obtain ⟨cA, h⟩ := prim .long ck_al (fun C h => by cases h); exact ⟨cA, fun ty e => by cases e; exact h⟩
    | 3 => obtain ⟨cA, h⟩ := obj _ (ck_ao 3 _ rfl); exact ⟨cA, fun ty e => by cases e; exact h⟩
    | 4 => obtain ⟨cA, h⟩ := obj _ (ck_ao 4 _ rfl); exact ⟨cA, fun ty e => by cases e; exact h⟩
    | 5 => obtain ⟨cA, h⟩ := obj _ (ck_ao 5 _ rfl); exact ⟨cA, fun ty e => by cases e; exact h⟩
    | 6 => obtain ⟨cA, h⟩ := obj _ (ck_ao 6 _ rfl); exact ⟨cA, fun ty e => by cases e; exact h⟩
    | 7 =>
      obtain ⟨comp, cA, kA, h1, h3, h4, h5⟩ := Cond.arrayOver_specA (hts _ ck_am)
      exact ⟨cA, fun ty e => by cases e; exact ⟨fun n z => ⟨fun k h => (by cases h), kA, h3, comp, h4⟩, h5⟩⟩
    | 8 => obtain ⟨cA, h⟩ := prim .byte ck_ab (fun C h => by cases h); exact ⟨cA, fun ty e => by cases e; exact h⟩
    | n + 9 => exact ⟨0, fun ty e => by cases e⟩
  exact Classical.axiomOfChoice h
theorem t_X {s : State} {b L : Nat} {xs : Nat → Int32} {A : Nat → Prop} (hX : va_X b L xs s s.heap) (hA : ¬ A b) : va_T .int b L (fun j => .int (xs j)) A s s.heap := by
  obtain ⟨scr, h1, h2, h3, h4, h5⟩ := hX
  exact ⟨scr, h1, h2, h3, Nat.le_of_eq h4.symm, by rw [h4] <;> rfl, h5, hA⟩
theorem j_tx : mwd 5137 = some (.stringRef "HireYard$Tape" 81 mTx) := by decide +kernel
theorem j_lsC : mwd 5147 = some (.laysStatic "java/lang/String" "COMPACT_STRINGS" "Z") := by decide +kernel
theorem j_lsS : mwd 5163 = some (.laysStatic "jdk/internal/util/Preconditions" "SIOOBE_FORMATTER" "Ljava/util/function/BiFunction;") := by decide +kernel
/-- if the law runs to 1 in the small machine, within the room, the walk that is owed stands -/
theorem whole_of_run (mchk : ∀ (m : Nat) (M : mMR), mrec m = some M → m < mLaw → g_M M ∧ g_MW M) (hlaw : ∃ M, mrec mLaw = some M ∧ g_M M ∧ M.1.cls = R_law ∧ M.1.name ≠ "<init>" ∧ M.2.1 = code ∧ M.2.2.1 = 4 ∧ M.2.2.2.1 = ret)
    {p : Program} {e : Env} {s : State} {m : MethodId} {below : List Frame} {meth : Method} {c : Code} (l : Launch) {b L : Nat} {xs : Nat → Int32} (C0 : lw_At p s m meth c b L xs) {f d : Nat} {h1 : List mE} (hd1 : d + 5 ≤ 2048) (hd2 : 64 * (d + 5) ≤ 84000)
    (hrun : mrun (mex L xs) f d mLaw 0 (lent [.ref 0] 4) [] [] = some (some (.int 1), h1)) (hc : h1.length ≤ 600000) (hs : mhs h1 ≤ 7302250) : W p l e room_1 s m #[Value.ref b] below meth c s.heap [] 0 0 (lw_Z below #[Value.ref b] s) (entryFrame m ([Value.ref b] : List Value).toArray 4) := by
  obtain ⟨hx, hb, hr, hml, hown, hts, hX, hbl, hlocks, hgv⟩ := C0
  obtain ⟨M, hM, hgM, hMc, hMn, hMb, hM4, hMr⟩ := hlaw
  obtain ⟨D, hD⟩ := t_D hts
  obtain ⟨aC, haC⟩ := t_aC hts
  have hA : ∀ a : Nat, a < s.heap.size → ¬ g_A s.heap.size a := fun a h1 h2 => Nat.lt_irrefl _ (Nat.lt_of_lt_of_le h1 h2)
  obtain ⟨t1, e1, hT1⟩ := t_dg hgv hA
  obtain ⟨t2, e2, hT2⟩ := t_nm hgv hA
  obtain ⟨t3, t4, hT3, hT4⟩ := t_tx (A := g_A s.heap.size) hgv (hts _ (mwd_in j_tx)) hA
  let xa : Nat → Nat := fun q => if q = 0 then b else if q = 1 then t1 else if q = 2 then t2 else if q = 3 then t3 else t4
  have hE : g_Env xa s.heap.size aC D (mex L xs) s s.heap := by
    refine ⟨fun w hw hg a => word_at (State.WarmedH.refl s) (good_of_word hg) (hts w hw), fun w hw hn => ?_, fun ty hw ht a => g_over (State.WarmedH.refl s) (hts _ hw) ht, ⟨hD, fun k q hk => ?_⟩, ⟨fun q n f hq => ?_, fun q n f hq => ?_, fun q e hq => ?_⟩, fun a C n d ha => ?_, hT3, hT4, va_Zof (hts _ (mwd_in j_lsC)) (hts _ (mwd_in j_str)) (t_cs hgv) hA, va_Zqof (hts _ (mwd_in j_lsS)) (hts _ (mwd_in j_pre)) (t_si hgv) hA⟩
    · cases w with
      | fieldLinkNest a i c n d e => exact va_Nw.of rfl (hts _ hw)
      | methodLinkNest a i x e => exact va_Nw.of rfl (hts _ hw)
      | castable a x => exact va_Nw.of rfl (hts _ hw)
      | _ => cases hn
    · have hl : k < 9 := by simpa [g_ty] using (List.getElem?_eq_some_iff.mp hk).1
      obtain ⟨ty, hty⟩ : ∃ ty, mAT[k]? = some ty := ⟨_, List.getElem?_eq_getElem (show k < mAT.length from hl)⟩
      cases (g_ty_at (aC := aC) hty).symm.trans hk
      exact haC k ty hty
    · match q, hq with
      | 0, hq => cases hq; exact t_X hX (hA b hbl)
      | 1, hq => cases hq
      | 2, hq => cases hq
      | n + 3, hq => cases hq
    · match q, hq with
      | 0, hq => cases hq
      | 1, hq => cases hq; exact hT1
      | 2, hq => cases hq; exact hT2
      | n + 3, hq => cases hq
    · match q, hq with
      | 0, hq => cases hq; exact Or.inl ⟨_, _, rfl⟩
      | 1, hq => cases hq; exact Or.inr ⟨_, _, rfl⟩
      | 2, hq => cases hq; exact Or.inr ⟨_, _, rfl⟩
      | n + 3, hq => cases hq
    · match a, ha with
      | 0, ha => cases ha; exact va_Zof (hts _ ck_s0) (hts _ ck_i0) e1 hA
      | 1, ha => cases ha; exact va_Zof (hts _ ck_s1) (hts _ ck_i1) e2 hA
      | n + 2, ha => cases ha
  have hW : g_W xa s.heap.size aC D [] s.heap := ⟨rfl, fun i e h => by cases h⟩
  have hC : g_C xa s.heap.size aC D (mex L xs) p s m meth c M := ⟨hx, hb.trans hMb.symm, hml.trans hM4.symm, by rw [hMc]; exact hown, hr.trans hMr.symm, hlocks, fun h => absurd h hMn, Nat.le_refl _, hE, hgM⟩
  obtain ⟨-, -, hsim⟩ := g_sim mchk (mex L xs) f d mLaw 0 _ [] [] _ h1 hrun
  have hL := g_ent (g := g_ad xa s.heap.size) (vs := [.ref 0]) (n := 4) (by decide)
  have eb : ([Value.ref 0].map (g_V (g_ad xa s.heap.size))) = [Value.ref b] := rfl
  rw [eb] at hL
  rw [lg_entry_eq]
  refine hsim p l e room_1 s m _ below meth c s.heap [] 0 0 _ _ xa s.heap.size aC D M hM hC hd1 hd2 hW va_S.rf hL (by rw [lent_len (by decide), hM4]) (by show 0 + (h1.length - 0) ≤ 600000; omega) (by show 0 + (mhs h1 - 0) ≤ 7302250; omega) ?_
  intro H1 locs1 ls1 pc1 I hW1 hS1 hd hret
  obtain ⟨rfl⟩ : I = .ireturn := by
    rcases hret with ⟨h, -⟩ | ⟨-, -, z, h⟩ | ⟨-, -, h | ⟨z, h⟩⟩ | ⟨-, -, h⟩
    · exact h
    · cases h
    · cases h
    · cases h
    · cases h
  refine va_forget (fun q hq => hS1.2.2 q hq) ?_
  refine W.widen (k := 600000) (n := 7302250) (by show 0 + (h1.length - 0) ≤ 600000; omega) (by show 0 + (mhs h1 - 0) ≤ 7302250; omega) ?_
  rw [hMb] at hd
  exact lw_ret hx hb hr hlocks hd
