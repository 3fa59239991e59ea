/-! ONE INSTRUCTION, on: fields, stores, new cells -/
theorem g_nm : ∀ (ci : Nat) (C : String) (T : u_T) (N : Nat), vwCl[ci]? = some (C, T, N) → ∀ a, a < N → ∀ b, b < N → a ≠ b → (T a).2.1 ≠ (T b).2.1
  | 0, _, _, _, h => by cases h; exact nmX0
  | 1, _, _, _, h => by cases h; exact nmX1
  | 2, _, _, _, h => by cases h; exact nmX2
  | 3, _, _, _, h => by cases h; exact nmX3
  | 4, _, _, _, h => by cases h; exact nmX4
  | 5, _, _, _, h => by cases h; exact nmX5
  | 6, _, _, _, h => by cases h; exact nmX6
  | 7, _, _, _, h => by cases h; exact nmX7
  | 8, _, _, _, h => by cases h; exact nmX8
  | 9, _, _, _, h => by cases h; exact nmX9
  | 10, _, _, _, h => by cases h; exact nmX10
  | 11, _, _, _, h => by cases h; exact nmX11
  | 12, _, _, _, h => by cases h; exact nmX12
  | n + 13, _, _, _, h => by cases h
/-- what is known of a class -/
theorem g_cls {ci N : Nat} {C : String} {T : u_T} (h : vwCl[ci]? = some (C, T, N)) : Jvm.Cond.instantiable C N ∈ lw_tbl ∧ Jvm.Cond.initialized C ∈ lw_tbl ∧ (∀ w ∈ u_ws C T N, w ∈ lw_tbl.filter goodWord) ∧ ∃ ty, mTy[ci]? = some ty ∧ ty.length = N ∧ ∀ k, k < N → parseFieldDescriptor (T k).2.2.1 = some (ty.getD k .int) := by
  have hl : ci < 13 := (List.getElem?_eq_some_iff.mp h).1
  obtain ⟨⟨t1, t2, l⟩, hh⟩ : ∃ t, mCh[ci]? = some t := ⟨_, List.getElem?_eq_getElem (show ci < mCh.length from hl)⟩
  obtain ⟨ty, ht⟩ : ∃ t, mTy[ci]? = some t := ⟨_, List.getElem?_eq_getElem (show ci < mTy.length from hl)⟩
  have hz : (vwCl.zip (mCh.zip mTy))[ci]? = some ((C, T, N), (t1, t2, l), ty) := List.getElem?_zip_eq_some.mpr ⟨h, List.getElem?_zip_eq_some.mpr ⟨hh, ht⟩⟩
  have hk := List.all_eq_true.mp ck_F _ (List.mem_of_getElem? hz)
  simp only [Bool.and_eq_true, decide_eq_true_eq] at hk
  obtain ⟨⟨⟨⟨⟨h1, h2⟩, h3⟩, h4⟩, h5⟩, h6⟩ := hk
  refine ⟨mwd_in h1, mwd_in h2, fun w hw => List.mem_filter.mpr ⟨?_, List.all_eq_true.mp h6 w hw⟩, ty, ht, h4, fun k hkN => ?_⟩
  · have hs : some w ∈ (u_ws C T N).map some := List.mem_map.mpr ⟨w, hw, rfl⟩
    rw [← h3] at hs
    obtain ⟨i, -, hi⟩ := List.mem_map.mp hs
    exact mwd_in hi
  · have e : ((List.range N).map (fun k => parseFieldDescriptor (T k).2.2.1))[k]? = (ty.map some)[k]? := by rw [h5]
    rw [List.getElem?_map, List.getElem?_range hkN, List.getElem?_map] at e
    have hkt : k < ty.length := by rw [h4]; exact hkN
    rw [List.getElem?_eq_getElem hkt] at e
    simp only [Option.map_some, Option.some.injEq] at e
    rw [e, List.getD_eq_getElem?_getD, List.getElem?_eq_getElem hkt]
    rfl
/-- a frame of a method of the table -/
def g_C (xs : Nat → Nat) (b : Nat) (aC : Nat → ClassId) (D : va_G) (ex : List mE) (p : Program) (s : State) (m : MethodId) (meth : Method) (c : Code) (M : mMR) : Prop :=
  p.tables.exec = Jvm.exec ∧ c.code = M.2.1 ∧ c.maxLocals = M.2.2.1 ∧ s.vm.findClass M.1.cls = some m.cls ∧ meth.sig.returnType = M.2.2.2.1 ∧ meth.locks = false ∧ (M.1.name = "<init>" → meth.name = M.1.name) ∧ b ≤ s.heap.size ∧ g_Env xs b aC D ex s s.heap ∧ g_M M
theorem g_hts {xs : Nat → Nat} {b : Nat} {aC : Nat → ClassId} {D : va_G} {ex : List mE} {U : State} {H : Heap} (hE : g_Env xs b aC D ex U H) (a : Array Value) : ∀ w ∈ lw_tbl.filter goodWord, w.before a U = true := fun w hw => hE.1 w (List.mem_filter.mp hw).1 (List.mem_filter.mp hw).2 a
theorem mhs_put {h : List mE} {q : Nat} {e0 e : mE} (hq : mown h q = some e0) (hz : msz e = msz e0) : mhs (mput h q e) = mhs h ∧ (mput h q e).length = h.length := by
  refine ⟨?_, by simp [mput]⟩
  have hq2 := (g_own hq).2
  clear hq
  unfold mhs mput
  generalize q - 4 = i at hq2 ⊢
  induction h generalizing i with
  | nil => rfl
  | cons x h ih =>
    cases i with
    | zero =>
      have e1 : x = e0 := by simpa using hq2
      subst e1
      simp [hz]
    | succ i =>
      have := ih i (by simpa using hq2)
      simp only [List.set_cons_succ, List.map_cons, List.sum_cons]
      rw [this]
theorem mhs_app (h t : List mE) : mhs (h ++ t) = mhs h + mhs t := by simp [mhs]
theorem mpk_of {o q i a b : Nat} {ks : List Nat} (h : mpk o q i a b ks = true) : ∃ k q2 v, mPg o q = some (i, k, a, b, q2, v) ∧ k ∈ ks := by
  unfold mpk at h
  split at h
  · rename_i i2 k a2 b2 q2 v hp
    simp only [Bool.and_eq_true, beq_iff_eq] at h
    obtain ⟨⟨⟨rfl, h2⟩, rfl⟩, rfl⟩ := h
    exact ⟨k, q2, v, hp, by simpa using h2⟩
  · cases h
/-- the link of a field's entry: plain, or of a nest mate -/
def g_lf (own : String) (i ci k : Nat) (C : String) (T : u_T) (N : Nat) : Prop := vwCl[ci]? = some (C, T, N) ∧ k < N ∧ (Jvm.Cond.fieldLink own i (T k).1 (T k).2.1 (T k).2.2.1 ∈ lw_tbl ∨ ∃ host, Jvm.Cond.fieldLinkNest own i (T k).1 (T k).2.1 (T k).2.2.1 host ∈ lw_tbl)
theorem mow_own {M : mMR} (hM : g_M M) {own : String} {l : List (List mPE)} (h : mOw[M.2.2.2.2.1]? = some (own, l)) : own = M.1.cls := by
  have h2 := hM.2
  rw [h] at h2
  exact Option.some.inj h2
theorem g_lf0 {M : mMR} (hM : g_M M) {q i a b : Nat} (h : mpk M.2.2.2.2.1 q i a b [0] = true) : ∃ C T N, vwCl[a]? = some (C, T, N) ∧ b < N ∧ Jvm.Cond.fieldLink M.1.cls i (T b).1 (T b).2.1 (T b).2.2.1 ∈ lw_tbl := by
  obtain ⟨k, q2, v, hp, hk⟩ := mpk_of h
  obtain ⟨own, l, ho, hok⟩ := mow_pg hp
  have e := mow_own hM ho
  subst e
  simp only [List.mem_cons, List.not_mem_nil, or_false] at hk
  subst hk
  simp only [okP] at hok
  split at hok
  · rename_i C T N hc
    simp only [Bool.and_eq_true, decide_eq_true_eq] at hok
    exact ⟨C, T, N, hc, hok.1, mwd_in hok.2⟩
  · cases hok
theorem g_lf1 {M : mMR} (hM : g_M M) {q i a b : Nat} (h : mpk M.2.2.2.2.1 q i a b [1] = true) : ∃ C T N host, vwCl[a]? = some (C, T, N) ∧ b < N ∧ Jvm.Cond.fieldLinkNest M.1.cls i (T b).1 (T b).2.1 (T b).2.2.1 host ∈ lw_tbl := by
  obtain ⟨k, q2, v, hp, hk⟩ := mpk_of h
  obtain ⟨own, l, ho, hok⟩ := mow_pg hp
  have e := mow_own hM ho
  subst e
  simp only [List.mem_cons, List.not_mem_nil, or_false] at hk
  subst hk
  simp only [okP] at hok
  split at hok
  · rename_i C T N o2 i2 r n d host hc hw
    simp only [Bool.and_eq_true, decide_eq_true_eq, beq_iff_eq] at hok
    obtain ⟨⟨⟨⟨⟨h1, h2⟩, h3⟩, h4⟩, h5⟩, h6⟩ := hok
    refine ⟨C, T, N, host, hc, h1, ?_⟩
    rw [← h2, ← h3, ← h4, ← h5, ← h6]
    exact mwd_in hw
  · cases hok
theorem mpk_or {o q i a b : Nat} (h : mpk o q i a b [0, 1] = true) : mpk o q i a b [0] = true ∨ mpk o q i a b [1] = true := by
  unfold mpk at h ⊢
  split at h
  · rename_i i2 k a2 b2 q2 v hp
    simp only [Bool.and_eq_true, beq_iff_eq, List.contains_cons, Bool.or_eq_true, List.contains_nil, Bool.or_false] at h ⊢
    obtain ⟨⟨⟨h1, h2⟩, h3⟩, h4⟩ := h
    rcases h2 with h2 | h2
    · exact Or.inl ⟨⟨⟨h1, h2⟩, h3⟩, h4⟩
    · exact Or.inr ⟨⟨⟨h1, h2⟩, h3⟩, h4⟩
  · cases h
section GS3
variable {p : Program} {l : Launch} {e : Env} {R : Room} {s : State} {m : MethodId} {args : Array Value} {below : List Frame} {meth : Method} {c : Code} {H : Heap} {locs : List Loc} {cells slots : Nat} {Q : State → Prop}
variable {pc : Nat} {ls : Array Slot} {ret : Option FieldType} {ex : List mE} {a1 b1 q1 : Nat} {L : mL} {S : List Value} {h : List mE} {pc' : Nat} {L' : mL} {S' : List Value} {h' : List mE} {xs : Nat → Nat} {b : Nat} {aC : Nat → ClassId} {D : va_G} {M : mMR}
theorem s_getfield {i : Nat} (C : g_C xs b aC D ex p s m meth c M) (hW : g_W xs b aC D h H) (hk : mpk M.2.2.2.2.1 q1 i a1 b1 [0, 1] = true) (hd : decode M.2.1 pc = .ok (.getfield i, 3)) (hm : mx ret ex (.getfield i, 3, a1, b1, q1) pc L S h = some (.inl (pc', L', S', h'))) (kk : h' = h → L' = L → W p l e R s m args below meth c H locs cells slots Q (F0 m pc' ls (S'.map (g_V (g_ad xs b))))) : W p l e R s m args below meth c H locs cells slots Q (F0 m pc ls (S.map (g_V (g_ad xs b)))) := by
  obtain ⟨hx, hb, -, hown, -, -, -, -, hE, hM⟩ := C
  replace hm : (match S with
      | .ref q :: T => (match mown h q with
          | some (.inr (ci, fs)) => if ci = a1 then (match fs[b1]? with
              | some v => mgo (pc + 3) L (v :: T) h
              | none => none) else none
          | _ => none)
      | _ => none) = some (.inl (pc', L', S', h')) := hm
  split at hm
  · rename_i q T
    split at hm
    · rename_i ci fs hq
      by_cases hci : ci = a1
      · rw [if_pos hci] at hm
        split at hm
        · rename_i v hv
          simp only [mgo, Option.some.injEq, Sum.inl.injEq, Prod.mk.injEq] at hm
          obtain ⟨rfl, rfl, rfl, rfl⟩ := hm
          subst hci
          have hv' : (fs.map (g_V (g_ad xs b)))[b1]? = some (g_V (g_ad xs b) v) := by rw [List.getElem?_map, hv]; rfl
          rcases mpk_or hk with hk | hk
          · obtain ⟨Cn, T0, N, hc, hbN, hl⟩ := g_lf0 hM hk
            exact va_get hx hb (g_hts hE args) (g_cls hc).2.2.1 hown hE.2.2.2.1 (x_one (g_at hW hq)) 0 rfl hc b1 hbN (hE.1 _ hl rfl args) (fun _ z => z) hv' hd (kk rfl rfl)
          · obtain ⟨Cn, T0, N, host, hc, hbN, hl⟩ := g_lf1 hM hk
            exact va_getN hx hb (g_hts hE args) (g_cls hc).2.2.1 hown hE.2.2.2.1 (x_one (g_at hW hq)) 0 rfl hc b1 hbN (va_Nw.use rfl (hE.2.1 _ hl rfl)) (fun _ z => z) hv' hd (kk rfl rfl)
        · cases hm
      · rw [if_neg hci] at hm; cases hm
    · cases hm
  · cases hm
theorem s_same {h' h : List mE} (hz : mhs h' = mhs h) (hl : h'.length = h.length) {H1 : Heap} {locs1 : List Loc} {g : JFrame} (k : W p l e R s m args below meth c H1 locs1 (cells + (h'.length - h.length)) (slots + (mhs h' - mhs h)) Q g) : W p l e R s m args below meth c H1 locs1 cells slots Q g := by
  rw [hz, hl, Nat.sub_self, Nat.sub_self] at k
  exact k
theorem s_putfield {i : Nat} (C : g_C xs b aC D ex p s m meth c M) (hW : g_W xs b aC D h H) (hS : va_S (g_A b) s.heap H locs) (hk : ((mpk M.2.2.2.2.1 q1 i a1 b1 [0] && (mnf a1 b1 || mfin M.1 a1 b1)) || (mpk M.2.2.2.2.1 q1 i a1 b1 [1] && mnf a1 b1)) = true) (hd : decode M.2.1 pc = .ok (.putfield i, 3)) (hm : mx ret ex (.putfield i, 3, a1, b1, q1) pc L S h = some (.inl (pc', L', S', h')))
    (kk : ∀ (H1 : Heap) (locs1 : List Loc), g_W xs b aC D h' H1 → va_S (g_A b) s.heap H1 locs1 → L' = L → W p l e R s m args below meth c H1 locs1 (cells + (h'.length - h.length)) (slots + (mhs h' - mhs h)) Q (F0 m pc' ls (S'.map (g_V (g_ad xs b))))) : W p l e R s m args below meth c H locs cells slots Q (F0 m pc ls (S.map (g_V (g_ad xs b)))) := by
  obtain ⟨hx, hb, -, hown, -, -, hnm, -, hE, hM⟩ := C
  replace hm : (match S with
      | v :: .ref q :: T => (match mown h q with
          | some (.inr (ci, fs)) => if ci = a1 ∧ b1 < fs.length then (match mfty a1 b1 with
              | some ty => if mfit ty v then mgo (pc + 3) L T (mput h q (.inr (ci, fs.set b1 v))) else none
              | none => none) else none
          | _ => none)
      | _ => none) = some (.inl (pc', L', S', h')) := hm
  split at hm
  · rename_i v q T
    split at hm
    · rename_i ci fs hq
      by_cases hci : ci = a1 ∧ b1 < fs.length
      · rw [if_pos hci] at hm
        split at hm
        · rename_i ty hty
          by_cases hf : mfit ty v = true
          · rw [if_pos hf] at hm
            simp only [mgo, Option.some.injEq, Sum.inl.injEq, Prod.mk.injEq] at hm
            obtain ⟨rfl, rfl, rfl, rfl⟩ := hm
            obtain ⟨rfl, hlen⟩ := hci
            have hz := mhs_put hq (e := .inr (ci, fs.set b1 v)) (by simp [msz])
            have hlen' : b1 < (fs.map (g_V (g_ad xs b))).length := by rw [List.length_map]; exact hlen
            have hA := g_Aq (xs := xs) (b := b) (g_own hq).1
            obtain ⟨hn, hfit⟩ := x_fit (g := g_ad xs b) hf
            have fin : ∀ (H1 : Heap) (locs1 : List Loc), x_st D vwCl (g_A b) s.heap H (g_ad xs b q) (.inr (ci, (fs.map (g_V (g_ad xs b))).set b1 (g_V (g_ad xs b) v))) H1 locs1 → W p l e R s m args below meth c H1 locs1 cells slots Q (F0 m (pc + 3) ls (T.map (g_V (g_ad xs b)))) := fun H1 locs1 hst => by
              refine s_same hz.1 hz.2 (kk H1 locs1 (g_set (A := g_A b) (H0 := s.heap) (locs1 := locs1) hW hq (e := .inr (ci, fs.set b1 v)) ?_) hst.2.2.2 rfl)
              have e : g_E (g_ad xs b) aC (.inr (ci, fs.set b1 v)) = .inr (ci, (fs.map (g_V (g_ad xs b))).set b1 (g_V (g_ad xs b) v)) := by
                show Sum.inr (ci, (fs.set b1 v).map (g_V (g_ad xs b))) = _
                rw [List.map_set]
              rw [e]
              exact hst
            have tyk : ∀ {Cn : String} {T0 : u_T} {N : Nat}, vwCl[ci]? = some (Cn, T0, N) → b1 < N → parseFieldDescriptor (T0 b1).2.2.1 = some ty := fun hc hbN => by
              obtain ⟨-, -, -, tl, h1, h2, h3⟩ := g_cls hc
              rw [h3 b1 hbN]
              unfold mfty at hty
              rw [h1] at hty
              dsimp only at hty
              rw [List.getD_eq_getElem?_getD, hty]
              rfl
            simp only [Bool.or_eq_true, Bool.and_eq_true] at hk
            rcases hk with ⟨hk, hfin⟩ | ⟨hk, hfin⟩
            · obtain ⟨Cn, T0, N, hc, hbN, hl⟩ := g_lf0 hM hk
              obtain ⟨-, -, hin, tl, -, -, h3⟩ := g_cls hc
              refine x_put hx hb (g_hts hE args) hin _ h3 (g_nm _ _ _ _ hc) hown hE.2.2.2.1 (g_at hW hq) hA hS hc b1 hbN (hE.1 _ hl rfl args) ?_ (tyk hc hbN) hn hfit hlen' hd fin
              rcases hfin with hf2 | hf2
              · unfold mnf at hf2
                rw [hc] at hf2
                exact Or.inl (of_decide_eq_true hf2)
              · unfold mfin at hf2
                rw [hc] at hf2
                simp only [Bool.and_eq_true, decide_eq_true_eq] at hf2
                exact Or.inr ⟨(hnm hf2.1).trans hf2.1, hf2.2⟩
            · obtain ⟨Cn, T0, N, host, hc, hbN, hl⟩ := g_lf1 hM hk
              obtain ⟨-, -, hin, tl, -, -, h3⟩ := g_cls hc
              refine x_putN hx hb (g_hts hE args) hin _ h3 (g_nm _ _ _ _ hc) hown hE.2.2.2.1 (g_at hW hq) hA hS hc b1 hbN (va_Nw.use rfl (hE.2.1 _ hl rfl)) ?_ (tyk hc hbN) hn hfit hlen' hd fin
              unfold mnf at hfin
              rw [hc] at hfin
              exact of_decide_eq_true hfin
          · rw [if_neg hf] at hm; cases hm
        · cases hm
      · rw [if_neg hci] at hm; cases hm
    · cases hm
  · cases hm

theorem s_iastore (C : g_C xs b aC D ex p s m meth c M) (hW : g_W xs b aC D h H) (hS : va_S (g_A b) s.heap H locs) (hd : decode M.2.1 pc = .ok (.iastore, 1)) (hm : mx ret ex (.iastore, 1, a1, b1, q1) pc L S h = some (.inl (pc', L', S', h')))
    (kk : ∀ (H1 : Heap) (locs1 : List Loc), g_W xs b aC D h' H1 → va_S (g_A b) s.heap H1 locs1 → L' = L → W p l e R s m args below meth c H1 locs1 (cells + (h'.length - h.length)) (slots + (mhs h' - mhs h)) Q (F0 m pc' ls (S'.map (g_V (g_ad xs b))))) : W p l e R s m args below meth c H locs cells slots Q (F0 m pc ls (S.map (g_V (g_ad xs b)))) := by
  obtain ⟨hx, hb, -, hown, -, -, hnm, -, hE, hM⟩ := C
  replace hm : (match S with
      | .int x :: .int i :: .ref q :: T => (match mown h q with
          | some (.inl (0, (n, .inl f))) => if mib i n then mgo (pc + 1) L T (mput h q (.inl (0, (n, .inl (upd f i.toNatClampNeg x))))) else none
          | _ => none)
      | _ => none) = some (.inl (pc', L', S', h')) := hm
  split at hm
  · rename_i x i q T
    split at hm
    · rename_i n f hq
      by_cases hi : (mib i n) = true
      · rw [if_pos hi] at hm
        simp only [mgo, Option.some.injEq, Sum.inl.injEq, Prod.mk.injEq] at hm
        obtain ⟨rfl, rfl, rfl, rfl⟩ := hm
        have hz := mhs_put hq (e := .inl (0, (n, .inl (upd f i.toNatClampNeg x)))) rfl
        have hA := g_Aq (xs := xs) (b := b) (g_own hq).1
        skip
        exact x_iast hx hb hE.2.2.2.1 hA hS 0 (g_at hW hq) (g_ty_at (t := 0) rfl) (s_vp hi) hd (fun H1 locs1 hst => s_same hz.1 hz.2 (kk H1 locs1 (g_set hW hq hst) hst.2.2.2 rfl))
      · rw [if_neg hi] at hm; cases hm
    · cases hm
  · cases hm
theorem s_lastore (C : g_C xs b aC D ex p s m meth c M) (hW : g_W xs b aC D h H) (hS : va_S (g_A b) s.heap H locs) (hd : decode M.2.1 pc = .ok (.lastore, 1)) (hm : mx ret ex (.lastore, 1, a1, b1, q1) pc L S h = some (.inl (pc', L', S', h')))
    (kk : ∀ (H1 : Heap) (locs1 : List Loc), g_W xs b aC D h' H1 → va_S (g_A b) s.heap H1 locs1 → L' = L → W p l e R s m args below meth c H1 locs1 (cells + (h'.length - h.length)) (slots + (mhs h' - mhs h)) Q (F0 m pc' ls (S'.map (g_V (g_ad xs b))))) : W p l e R s m args below meth c H locs cells slots Q (F0 m pc ls (S.map (g_V (g_ad xs b)))) := by
  obtain ⟨hx, hb, -, hown, -, -, hnm, -, hE, hM⟩ := C
  replace hm : (match S with
      | .long x :: .int i :: .ref q :: T => (match mown h q with
          | some (.inl (2, (n, .inr (.inl f)))) => if mib i n then mgo (pc + 1) L T (mput h q (.inl (2, (n, .inr (.inl (vp_updL f i.toNatClampNeg x)))))) else none
          | _ => none)
      | _ => none) = some (.inl (pc', L', S', h')) := hm
  split at hm
  · rename_i x i q T
    split at hm
    · rename_i n f hq
      by_cases hi : (mib i n) = true
      · rw [if_pos hi] at hm
        simp only [mgo, Option.some.injEq, Sum.inl.injEq, Prod.mk.injEq] at hm
        obtain ⟨rfl, rfl, rfl, rfl⟩ := hm
        have hz := mhs_put hq (e := .inl (2, (n, .inr (.inl (vp_updL f i.toNatClampNeg x))))) rfl
        have hA := g_Aq (xs := xs) (b := b) (g_own hq).1
        skip
        exact x_last hx hb hE.2.2.2.1 hA hS 2 (g_at hW hq) (g_ty_at (t := 2) rfl) (s_vp hi) hd (fun H1 locs1 hst => s_same hz.1 hz.2 (kk H1 locs1 (g_set hW hq hst) hst.2.2.2 rfl))
      · rw [if_neg hi] at hm; cases hm
    · cases hm
  · cases hm
theorem s_bastore (C : g_C xs b aC D ex p s m meth c M) (hW : g_W xs b aC D h H) (hS : va_S (g_A b) s.heap H locs) (hd : decode M.2.1 pc = .ok (.bastore, 1)) (hm : mx ret ex (.bastore, 1, a1, b1, q1) pc L S h = some (.inl (pc', L', S', h')))
    (kk : ∀ (H1 : Heap) (locs1 : List Loc), g_W xs b aC D h' H1 → va_S (g_A b) s.heap H1 locs1 → L' = L → W p l e R s m args below meth c H1 locs1 (cells + (h'.length - h.length)) (slots + (mhs h' - mhs h)) Q (F0 m pc' ls (S'.map (g_V (g_ad xs b))))) : W p l e R s m args below meth c H locs cells slots Q (F0 m pc ls (S.map (g_V (g_ad xs b)))) := by
  obtain ⟨hx, hb, -, hown, -, -, hnm, -, hE, hM⟩ := C
  replace hm : (match S with
      | .int x :: .int i :: .ref q :: T => (match mown h q with
          | some (.inl (1, (n, .inl f))) => if mib i n && (decide (x = 0) || decide (x = 1)) then mgo (pc + 1) L T (mput h q (.inl (1, (n, .inl (upd f i.toNatClampNeg x))))) else none
          | some (.inl (8, (n, .inl f))) => if mib i n then mgo (pc + 1) L T (mput h q (.inl (8, (n, .inl (upd f i.toNatClampNeg x.toInt8.toInt32))))) else none
          | _ => none)
      | _ => none) = some (.inl (pc', L', S', h')) := hm
  split at hm
  · rename_i x i q T
    split at hm
    · rename_i n f hq
      by_cases hi : (mib i n && (decide (x = 0) || decide (x = 1))) = true
      · rw [if_pos hi] at hm
        simp only [mgo, Option.some.injEq, Sum.inl.injEq, Prod.mk.injEq] at hm
        obtain ⟨rfl, rfl, rfl, rfl⟩ := hm
        have hz := mhs_put hq (e := .inl (1, (n, .inl (upd f i.toNatClampNeg x)))) rfl
        have hA := g_Aq (xs := xs) (b := b) (g_own hq).1
        simp only [Bool.and_eq_true, Bool.or_eq_true, decide_eq_true_eq] at hi
        exact x_zast hx hb hE.2.2.2.1 hA hS 1 (g_at hW hq) (g_ty_at (t := 1) rfl) (s_vp hi.1) (x_nar x hi.2) hd (fun H1 locs1 hst => s_same hz.1 hz.2 (kk H1 locs1 (g_set hW hq hst) hst.2.2.2 rfl))
      · rw [if_neg hi] at hm; cases hm
    · rename_i n f hq
      by_cases hi : (mib i n) = true
      · rw [if_pos hi] at hm
        simp only [mgo, Option.some.injEq, Sum.inl.injEq, Prod.mk.injEq] at hm
        obtain ⟨rfl, rfl, rfl, rfl⟩ := hm
        have hz := mhs_put hq (e := .inl (8, (n, .inl (upd f i.toNatClampNeg x.toInt8.toInt32)))) rfl
        have hA := g_Aq (xs := xs) (b := b) (g_own hq).1
        exact x_bast hx hb hE.2.2.2.1 hA hS 8 (g_at hW hq) (g_ty_at (t := 8) rfl) (s_vp hi) hd (fun H1 locs1 hst => s_same hz.1 hz.2 (kk H1 locs1 (g_set hW hq hst) hst.2.2.2 rfl))
      · rw [if_neg hi] at hm; cases hm
    · cases hm
  · cases hm
theorem s_ups {f : Nat → Option Nat} {g : Nat → Nat} {k : Nat} {v : Option Nat} : (fun j => (va_up f k v j).map g) = va_up (fun j => (f j).map g) k (v.map g) := by
  funext j
  unfold va_up
  split <;> rfl
theorem s_el {t ci : Nat} (h : mEl[t]? = some (some ci)) : ∃ C T N, vwCl[ci]? = some (C, T, N) ∧ mAT[t]? = some (.object C) := by
  have hl : t < 9 := (List.getElem?_eq_some_iff.mp h).1
  rcases (by omega : t = 0 ∨ t = 1 ∨ t = 2 ∨ t = 3 ∨ t = 4 ∨ t = 5 ∨ t = 6 ∨ t = 7 ∨ t = 8) with rfl | rfl | rfl | rfl | rfl | rfl | rfl | rfl | rfl
  all_goals first | (cases h; done) | (cases h; exact ⟨_, _, _, rfl, rfl⟩)
theorem s_ob {t : Nat} (h : 3 ≤ t ∧ t < 7) : ∃ C, mAT[t]? = some (.object C) := by
  obtain ⟨h1, h2⟩ := h
  rcases (by omega : t = 3 ∨ t = 4 ∨ t = 5 ∨ t = 6) with rfl | rfl | rfl | rfl <;> exact ⟨_, rfl⟩
theorem s_aastore (C : g_C xs b aC D ex p s m meth c M) (hW : g_W xs b aC D h H) (hS : va_S (g_A b) s.heap H locs) (hd : decode M.2.1 pc = .ok (.aastore, 1)) (hm : mx ret ex (.aastore, 1, a1, b1, q1) pc L S h = some (.inl (pc', L', S', h')))
    (kk : ∀ (H1 : Heap) (locs1 : List Loc), g_W xs b aC D h' H1 → va_S (g_A b) s.heap H1 locs1 → L' = L → W p l e R s m args below meth c H1 locs1 (cells + (h'.length - h.length)) (slots + (mhs h' - mhs h)) Q (F0 m pc' ls (S'.map (g_V (g_ad xs b))))) : W p l e R s m args below meth c H locs cells slots Q (F0 m pc ls (S.map (g_V (g_ad xs b)))) := by
  obtain ⟨hx, hb, -, hown, -, -, hnm, -, hE, hM⟩ := C
  replace hm : (match S with
      | .ref v :: .int i :: .ref q :: T => (match mown h q, mown h v with
          | some (.inl (t, (n, .inr (.inr (.inr (.inr f)))))), some (.inr (ci, _)) =>
              if mib i n && decide (mEl[t]? = some (some ci)) then mgo (pc + 1) L T (mput h q (.inl (t, (n, .inr (.inr (.inr (.inr (va_up f i.toNatClampNeg (some v))))))))) else none
          | _, _ => none)
      | .null :: .int i :: .ref q :: T => (match mown h q with
          | some (.inl (t, (n, .inr (.inr (.inr (.inr f)))))) => if mib i n && decide (3 ≤ t ∧ t < 7) then mgo (pc + 1) L T (mput h q (.inl (t, (n, .inr (.inr (.inr (.inr (va_up f i.toNatClampNeg none)))))))) else none
          | _ => none)
      | _ => none) = some (.inl (pc', L', S', h')) := hm
  split at hm
  · rename_i v i q T
    split at hm
    · rename_i t n f ci fs hq hv
      by_cases hi : (mib i n && decide (mEl[t]? = some (some ci))) = true
      · rw [if_pos hi] at hm
        simp only [mgo, Option.some.injEq, Sum.inl.injEq, Prod.mk.injEq] at hm
        obtain ⟨rfl, rfl, rfl, rfl⟩ := hm
        simp only [Bool.and_eq_true, decide_eq_true_eq] at hi
        have hz := mhs_put hq (e := .inl (t, (n, .inr (.inr (.inr (.inr (va_up f i.toNatClampNeg (some v)))))))) rfl
        have hA := g_Aq (xs := xs) (b := b) (g_own hq).1
        obtain ⟨Cn, T0, N, hc, hat⟩ := s_el hi.2
        refine x_astq (r := (Cn, T0, N)) (f := fun j => (f j).map (g_ad xs b)) (n := n) (cA := aC t) hx hb hE.2.2.2.1 hA hS t ci (g_at hW hq) (g_ty_at hat) (g_at hW hv) hc (s_vp hi.1) hd (fun H1 locs1 hst => s_same hz.1 hz.2 (kk H1 locs1 (g_set (A := g_A b) (H0 := s.heap) (locs1 := locs1) hW hq ?_) hst.2.2.2 rfl))
        show x_st D vwCl (g_A b) s.heap H (g_ad xs b q) (.inl (aC t, (n, .inr (.inr (.inr (.inr (fun j => (va_up f i.toNatClampNeg (some v) j).map (g_ad xs b)))))))) H1 locs1
        rw [s_ups]
        exact hst
      · rw [if_neg hi] at hm; cases hm
    · cases hm
  · rename_i i q T
    split at hm
    · rename_i t n f hq
      by_cases hi : (mib i n && decide (3 ≤ t ∧ t < 7)) = true
      · rw [if_pos hi] at hm
        simp only [mgo, Option.some.injEq, Sum.inl.injEq, Prod.mk.injEq] at hm
        obtain ⟨rfl, rfl, rfl, rfl⟩ := hm
        simp only [Bool.and_eq_true, decide_eq_true_eq] at hi
        have hz := mhs_put hq (e := .inl (t, (n, .inr (.inr (.inr (.inr (va_up f i.toNatClampNeg none))))))) rfl
        have hA := g_Aq (xs := xs) (b := b) (g_own hq).1
        obtain ⟨Cn, hat⟩ := s_ob hi.2
        refine x_astqN (C := Cn) (f := fun j => (f j).map (g_ad xs b)) (n := n) (cA := aC t) hx hb hE.2.2.2.1 hA hS t (g_at hW hq) (g_ty_at hat) (s_vp hi.1) hd (fun H1 locs1 hst => s_same hz.1 hz.2 (kk H1 locs1 (g_set (A := g_A b) (H0 := s.heap) (locs1 := locs1) hW hq ?_) hst.2.2.2 rfl))
        show x_st D vwCl (g_A b) s.heap H (g_ad xs b q) (.inl (aC t, (n, .inr (.inr (.inr (.inr (fun j => (va_up f i.toNatClampNeg none j).map (g_ad xs b)))))))) H1 locs1
        rw [s_ups]
        exact hst
      · rw [if_neg hi] at hm; cases hm
    · cases hm
  · cases hm
theorem s_grow {h t : List mE} {H1 : Heap} {locs1 : List Loc} {g : JFrame} {k n : Nat} (hk : t.length = k) (hn : mhs t = n) (kk : W p l e R s m args below meth c H1 locs1 (cells + ((h ++ t).length - h.length)) (slots + (mhs (h ++ t) - mhs h)) Q g) : W p l e R s m args below meth c H1 locs1 (cells + k) (slots + n) Q g := by
  rw [List.length_append, mhs_app, Nat.add_sub_cancel_left, Nat.add_sub_cancel_left, hk, hn] at kk
  exact kk
theorem s_growc {h t : List mE} {k : Nat} (hk : t.length = k) (hc : cells + ((h ++ t).length - h.length) ≤ R.cells) : cells + k ≤ R.cells := by
  rw [List.length_append, Nat.add_sub_cancel_left, hk] at hc
  exact hc
theorem s_grows {h t : List mE} {n : Nat} (hn : mhs t = n) (hs : slots + (mhs (h ++ t) - mhs h) ≤ R.slots) : slots + n ≤ R.slots := by
  rw [mhs_app, Nat.add_sub_cancel_left, hn] at hs
  exact hs
theorem s_aC {t : Nat} {ty : FieldType} {U : State} {H : Heap} (hE : g_Env xs b aC D ex U H) (h : mAT[t]? = some ty) : U.vm.findClass ("[" ++ ty.toString) = some (aC t) := by
  have h1 := (hE.2.2.2.1.2 t _ (g_ty_at h)).2
  cases ty with
  | object C => exact h1.choose_spec.choose_spec.2.2.2
  | _ => exact h1
theorem s_newarray {at_ : ArrayType} (C : g_C xs b aC D ex p s m meth c M) (hW : g_W xs b aC D h H) (hS : va_S (g_A b) s.heap H locs) (hd : decode M.2.1 pc = .ok (.newarray at_, 2)) (hm : mx ret ex (.newarray at_, 2, a1, b1, q1) pc L S h = some (.inl (pc', L', S', h'))) (hc : cells + (h'.length - h.length) ≤ R.cells) (hs : slots + (mhs h' - mhs h) ≤ R.slots) 
    (kk : ∀ (H1 : Heap) (locs1 : List Loc), g_W xs b aC D h' H1 → va_S (g_A b) s.heap H1 locs1 → L' = L → W p l e R s m args below meth c H1 locs1 (cells + (h'.length - h.length)) (slots + (mhs h' - mhs h)) Q (F0 m pc' ls (S'.map (g_V (g_ad xs b))))) : W p l e R s m args below meth c H locs cells slots Q (F0 m pc ls (S.map (g_V (g_ad xs b)))) := by
  obtain ⟨hx, hb, -, hown, -, -, hnm, -, hE, hM⟩ := C
  have aw : ∀ ty, Jvm.Cond.arrayClass ty ∈ lw_tbl → (Jvm.Cond.arrayClass ty).before args s = true := fun ty hw => hE.1 _ hw rfl args
  replace hm : (match S with
      | .int n :: T => if ¬ n < 0 ∧ n.toNatClampNeg ≤ 4000000 then (match at_ with
          | .int => mgo (pc + 2) L (.ref (h.length + 4) :: T) (h ++ [.inl (0, (n.toNatClampNeg, .inl (fun _ => 0)))])
          | .boolean => mgo (pc + 2) L (.ref (h.length + 4) :: T) (h ++ [.inl (1, (n.toNatClampNeg, .inl (fun _ => 0)))])
          | .byte => mgo (pc + 2) L (.ref (h.length + 4) :: T) (h ++ [.inl (8, (n.toNatClampNeg, .inl (fun _ => 0)))])
          | .long => mgo (pc + 2) L (.ref (h.length + 4) :: T) (h ++ [.inl (2, (n.toNatClampNeg, .inr (.inl (fun _ => 0))))])
          | _ => none) else none
      | _ => none) = some (.inl (pc', L', S', h')) := hm
  split at hm
  · rename_i n T
    by_cases hn : ¬ n < 0 ∧ n.toNatClampNeg ≤ 4000000
    · rw [if_pos hn] at hm
      cases at_ with
      | int =>
        simp only [mgo, Option.some.injEq, Sum.inl.injEq, Prod.mk.injEq] at hm
        obtain ⟨rfl, rfl, rfl, rfl⟩ := hm
        refine x_newa (atype := .int) (ty := .int) (a0 := (n.toNatClampNeg, .inl (fun _ => 0))) (cA := aC 0) (D := D) (cl := vwCl) hx hb (aw _ ck_ai) rfl (s_aC hE (t := 0) rfl) hS rfl hn.1 rfl (Nat.le_trans (Nat.mul_le_mul_right _ hn.2) (Nat.le_of_ble_eq_true rfl)) (s_growc (k := 1) rfl hc) (s_grows (n := n.toNatClampNeg) (by simp [mhs, msz]) hs) hd (fun H1 hn1 => ?_)
        rw [g_ref hW]
        exact s_grow rfl (by simp [mhs, msz]) (kk H1 locs (g_push hW hn1) hn1.2.2.2 rfl)
      | boolean =>
        simp only [mgo, Option.some.injEq, Sum.inl.injEq, Prod.mk.injEq] at hm
        obtain ⟨rfl, rfl, rfl, rfl⟩ := hm
        refine x_newa (atype := .boolean) (ty := .boolean) (a0 := (n.toNatClampNeg, .inl (fun _ => 0))) (cA := aC 1) (D := D) (cl := vwCl) hx hb (aw _ ck_az) rfl (s_aC hE (t := 1) rfl) hS rfl hn.1 rfl (Nat.le_trans (Nat.mul_le_mul_right _ hn.2) (Nat.le_of_ble_eq_true rfl)) (s_growc (k := 1) rfl hc) (s_grows (n := n.toNatClampNeg) (by simp [mhs, msz]) hs) hd (fun H1 hn1 => ?_)
        rw [g_ref hW]
        exact s_grow rfl (by simp [mhs, msz]) (kk H1 locs (g_push hW hn1) hn1.2.2.2 rfl)
      | byte =>
        simp only [mgo, Option.some.injEq, Sum.inl.injEq, Prod.mk.injEq] at hm
        obtain ⟨rfl, rfl, rfl, rfl⟩ := hm
        refine x_newa (atype := .byte) (ty := .byte) (a0 := (n.toNatClampNeg, .inl (fun _ => 0))) (cA := aC 8) (D := D) (cl := vwCl) hx hb (aw _ ck_ab) rfl (s_aC hE (t := 8) rfl) hS rfl hn.1 rfl (Nat.le_trans (Nat.mul_le_mul_right _ hn.2) (Nat.le_of_ble_eq_true rfl)) (s_growc (k := 1) rfl hc) (s_grows (n := n.toNatClampNeg) (by simp [mhs, msz]) hs) hd (fun H1 hn1 => ?_)
        rw [g_ref hW]
        exact s_grow rfl (by simp [mhs, msz]) (kk H1 locs (g_push hW hn1) hn1.2.2.2 rfl)
      | long =>
        simp only [mgo, Option.some.injEq, Sum.inl.injEq, Prod.mk.injEq] at hm
        obtain ⟨rfl, rfl, rfl, rfl⟩ := hm
        refine x_newa (atype := .long) (ty := .long) (a0 := (n.toNatClampNeg, .inr (.inl (fun _ => 0)))) (cA := aC 2) (D := D) (cl := vwCl) hx hb (aw _ ck_al) rfl (s_aC hE (t := 2) rfl) hS rfl hn.1 rfl (Nat.le_trans (Nat.mul_le_mul_right _ hn.2) (Nat.le_of_ble_eq_true rfl)) (s_growc (k := 1) rfl hc) (s_grows (n := n.toNatClampNeg) (by simp [mhs, msz]) hs) hd (fun H1 hn1 => ?_)
        rw [g_ref hW]
        exact s_grow rfl (by simp [mhs, msz]) (kk H1 locs (g_push hW hn1) hn1.2.2.2 rfl)
      | _ => cases hm
    · rw [if_neg hn] at hm; cases hm
  · cases hm
theorem s_anewarray {i : Nat} (C : g_C xs b aC D ex p s m meth c M) (hW : g_W xs b aC D h H) (hS : va_S (g_A b) s.heap H locs) (hk : mpk M.2.2.2.2.1 q1 i a1 b1 [10] = true) (hd : decode M.2.1 pc = .ok (.anewarray i, 3)) (hm : mx ret ex (.anewarray i, 3, a1, b1, q1) pc L S h = some (.inl (pc', L', S', h'))) (hc : cells + (h'.length - h.length) ≤ R.cells) (hs : slots + (mhs h' - mhs h) ≤ R.slots) 
    (kk : ∀ (H1 : Heap) (locs1 : List Loc), g_W xs b aC D h' H1 → va_S (g_A b) s.heap H1 locs1 → L' = L → W p l e R s m args below meth c H1 locs1 (cells + (h'.length - h.length)) (slots + (mhs h' - mhs h)) Q (F0 m pc' ls (S'.map (g_V (g_ad xs b))))) : W p l e R s m args below meth c H locs cells slots Q (F0 m pc ls (S.map (g_V (g_ad xs b)))) := by
  obtain ⟨hx, hb, -, hown, -, -, hnm, -, hE, hM⟩ := C
  obtain ⟨k, q2, v, hp, hk⟩ := mpk_of hk
  obtain ⟨own, l2, ho, hok⟩ := mow_pg hp
  have eo := mow_own hM ho
  subst eo
  simp only [List.mem_cons, List.not_mem_nil, or_false] at hk
  subst hk
  simp only [okP] at hok
  split at hok
  · rename_i Cn T0 N ty hcl hty
    simp only [Bool.and_eq_true, decide_eq_true_eq] at hok
    obtain ⟨⟨hcw, rfl⟩, hel⟩ := hok
    replace hm : (match S with
      | .int n :: T => if ¬ n < 0 ∧ n.toNatClampNeg ≤ 4000000 then (match mEl[a1]? with
          | some (some _) => mgo (pc + 3) L (.ref (h.length + 4) :: T) (h ++ [.inl (a1, (n.toNatClampNeg, .inr (.inr (.inr (.inr (fun _ => none))))))])
          | _ => none) else none
      | _ => none) = some (.inl (pc', L', S', h')) := hm
    rw [hel] at hm
    split at hm
    · rename_i n T
      by_cases hn : ¬ n < 0 ∧ n.toNatClampNeg ≤ 4000000
      · rw [if_pos hn] at hm
        simp only [mgo, Option.some.injEq, Sum.inl.injEq, Prod.mk.injEq] at hm
        obtain ⟨rfl, rfl, rfl, rfl⟩ := hm
        have hov : Jvm.Cond.arrayOver (.object Cn) ∈ lw_tbl := ck_ao a1 Cn hty
        refine x_newq (cA := aC a1) (D := D) (cl := vwCl) hx hb hown (hE.1 _ (mwd_in hcw) rfl args) (va_AO.of (A := #[]) (hE.2.2.1 _ hov (Or.inl ⟨Cn, rfl⟩) #[])) (s_aC hE hty) hS hn.1 rfl (Nat.le_trans (Nat.mul_le_mul_right _ hn.2) (Nat.le_of_ble_eq_true rfl)) (s_growc (k := 1) rfl hc) (s_grows (n := n.toNatClampNeg) (by simp [mhs, msz]) hs) hd (fun H1 hn1 => ?_)
        rw [g_ref hW]
        exact s_grow rfl (by simp [mhs, msz]) (kk H1 locs (g_push hW hn1) hn1.2.2.2 rfl)
      · rw [if_neg hn] at hm; cases hm
    · cases hm
  · cases hok
theorem s_new {i : Nat} (C : g_C xs b aC D ex p s m meth c M) (hW : g_W xs b aC D h H) (hS : va_S (g_A b) s.heap H locs) (hk : mpk M.2.2.2.2.1 q1 i a1 b1 [4] = true) (hd : decode M.2.1 pc = .ok (.new i, 3)) (hm : mx ret ex (.new i, 3, a1, b1, q1) pc L S h = some (.inl (pc', L', S', h'))) (hc : cells + (h'.length - h.length) ≤ R.cells) (hs : slots + (mhs h' - mhs h) ≤ R.slots) 
    (kk : ∀ (H1 : Heap) (locs1 : List Loc), g_W xs b aC D h' H1 → va_S (g_A b) s.heap H1 locs1 → L' = L → W p l e R s m args below meth c H1 locs1 (cells + (h'.length - h.length)) (slots + (mhs h' - mhs h)) Q (F0 m pc' ls (S'.map (g_V (g_ad xs b))))) : W p l e R s m args below meth c H locs cells slots Q (F0 m pc ls (S.map (g_V (g_ad xs b)))) := by
  obtain ⟨hx, hb, -, hown, -, -, hnm, -, hE, hM⟩ := C
  obtain ⟨k, q2, v, hp, hk⟩ := mpk_of hk
  obtain ⟨own, l2, ho, hok⟩ := mow_pg hp
  have eo := mow_own hM ho
  subst eo
  simp only [List.mem_cons, List.not_mem_nil, or_false] at hk
  subst hk
  simp only [okP] at hok
  split at hok
  · rename_i Cn T0 N hcl
    simp only [decide_eq_true_eq] at hok
    obtain ⟨hinst, hini, hin, ty, h1, h2, h3⟩ := g_cls hcl
    replace hm : (match mTy[a1]? with
      | some l => mgo (pc + 3) L (.ref (h.length + 4) :: S) (h ++ [.inr (a1, l.map defaultValue)])
      | none => none) = some (.inl (pc', L', S', h')) := hm
    rw [h1] at hm
    simp only [mgo, Option.some.injEq, Sum.inl.injEq, Prod.mk.injEq] at hm
    obtain ⟨rfl, rfl, rfl, rfl⟩ := hm
    refine x_new (fs := (ty.map defaultValue).map (g_V (g_ad xs b))) (D := D) (cl := vwCl) hx hb (g_hts hE args) hin _ h3 hown (hE.1 _ (mwd_in hok) rfl args) (hE.1 _ hinst rfl args) (hE.1 _ hini rfl args) hE.2.2.2.1 hS hcl (fun j hj => ?_) (s_growc (k := 1) rfl hc) (s_grows (n := N) (by simp [mhs, msz, h2]) hs) hd (fun H1 hn1 => ?_)
    · have hj2 : j < ty.length := by rw [h2]; exact hj
      have e1 : vp_V ((ty.map defaultValue).map (g_V (g_ad xs b))) j = g_V (g_ad xs b) (defaultValue (ty.getD j .int)) := by
        unfold vp_V
        rw [List.getD_eq_getElem?_getD, List.getElem?_map, List.getElem?_map, List.getD_eq_getElem?_getD, List.getElem?_eq_getElem hj2]
        rfl
      rw [e1]
      generalize ty.getD j .int = t
      cases t <;> rfl
    · rw [g_ref hW]
      exact s_grow rfl (by simp [mhs, msz, h2]) (kk H1 locs (g_push hW hn1) hn1.2.2.2 rfl)
  · cases hok

end GS3
