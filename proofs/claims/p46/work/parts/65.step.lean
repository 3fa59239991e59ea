/-! ONE INSTRUCTION, whichever -/
theorem g_pushN {xs : Nat → Nat} {b : Nat} {aC : Nat → ClassId} {D : va_G} {h t : List mE} {H H1 : Heap} (hW : g_W xs b aC D h H) (hz : H1.size = H.size + t.length) (ha : ∀ (j : Nat) (e : mE), t[j]? = some e → va_at D vwCl (H.size + j, g_E (g_ad xs b) aC e) H1) (o : ∀ q : Nat, q < H.size → H1[q]? = H[q]?) : g_W xs b aC D (h ++ t) H1 := by
  refine ⟨by rw [hz, hW.1, List.length_append]; omega, fun i x hi => ?_⟩
  by_cases hl : i < h.length
  · rw [List.getElem?_append_left hl] at hi
    exact (hW.2 i x hi).kept (o _ (by rw [hW.1]; show b + i < b + h.length; omega))
  · rw [List.getElem?_append_right (by omega)] at hi
    have := ha _ _ hi
    rw [hW.1, show b + h.length + (i - h.length) = b + i by omega] at this
    exact this
theorem g_inn (c : ClassId) (k : Nat) : Jvm.Free.Multi.innerC c k (defaultValue .int) = vp_cell c (k, .inl (fun _ => 0)) := by
  rw [vp_cell_i]
  show ({ cls := c, slots := Array.replicate k (.int 0), vm := .none } : Cell) = _
  rw [arrV_new]
/-- what an end returns -/
def g_ret (I : Instr) (ret : Option FieldType) (v : Option Value) : Prop :=
  (I = .ireturn ∧ ∃ x, v = some (.int x) ∧ (ret = some .int ∨ (ret = some .boolean ∧ (x = 0 ∨ x = 1)))) ∨ (I = .lreturn ∧ ret = some .long ∧ ∃ x, v = some (.long x)) ∨
  (I = .areturn ∧ ((∃ C, ret = some (.object C)) ∨ ∃ t, ret = some (.array t)) ∧ (v = some .null ∨ ∃ q, v = some (.ref q))) ∨ (I = .return_ ∧ ret = none ∧ v = none)
theorem s_ret {ret : Option FieldType} {ex : List mE} {I : Instr} {n a1 b1 q1 pc : Nat} {L : mL} {S : List Value} {h : List mE} {z : mO} (hI : I = .ireturn ∨ I = .lreturn ∨ I = .areturn ∨ I = .return_) (hm : mx ret ex (I, n, a1, b1, q1) pc L S h = some z) : ∃ v, z = .inr (.inr v) ∧ S = v.toList ∧ g_ret I ret v := by
  rcases hI with rfl | rfl | rfl | rfl
  · replace hm : (match (generalizing := false) S with
      | [.int x] => (match (generalizing := false) ret with
          | some .int => some (.inr (.inr (some (.int x))))
          | some .boolean => if decide (x = 0) || decide (x = 1) then some (.inr (.inr (some (.int x)))) else none
          | _ => none)
      | _ => none) = some z := hm
    split at hm
    · rename_i x
      split at hm
      · cases hm
        exact ⟨_, rfl, rfl, Or.inl ⟨rfl, x, rfl, Or.inl rfl⟩⟩
      · split at hm
        · rename_i hx
          cases hm
          simp only [Bool.or_eq_true, decide_eq_true_eq] at hx
          exact ⟨_, rfl, rfl, Or.inl ⟨rfl, x, rfl, Or.inr ⟨rfl, hx⟩⟩⟩
        · cases hm
      · cases hm
    · cases hm
  · replace hm : (match (generalizing := false) S with
      | [.long x] => (match (generalizing := false) ret with
          | some .long => some (.inr (.inr (some (.long x))))
          | _ => none)
      | _ => none) = some z := hm
    split at hm
    · rename_i x
      split at hm
      · cases hm
        exact ⟨_, rfl, rfl, Or.inr (Or.inl ⟨rfl, rfl, x, rfl⟩)⟩
      · cases hm
    · cases hm
  · replace hm : (match (generalizing := false) S with
      | [.ref x] => (match (generalizing := false) ret with
          | some (.object _) => some (.inr (.inr (some (.ref x))))
          | some (.array _) => some (.inr (.inr (some (.ref x))))
          | _ => none)
      | [.null] => (match (generalizing := false) ret with
          | some (.object _) => some (.inr (.inr (some .null)))
          | some (.array _) => some (.inr (.inr (some .null)))
          | _ => none)
      | _ => none) = some z := hm
    split at hm
    · rename_i x
      split at hm
      · cases hm
        exact ⟨_, rfl, rfl, Or.inr (Or.inr (Or.inl ⟨rfl, Or.inl ⟨_, rfl⟩, Or.inr ⟨x, rfl⟩⟩))⟩
      · cases hm
        exact ⟨_, rfl, rfl, Or.inr (Or.inr (Or.inl ⟨rfl, Or.inr ⟨_, rfl⟩, Or.inr ⟨x, rfl⟩⟩))⟩
      · cases hm
    · split at hm
      · cases hm
        exact ⟨_, rfl, rfl, Or.inr (Or.inr (Or.inl ⟨rfl, Or.inl ⟨_, rfl⟩, Or.inl rfl⟩))⟩
      · cases hm
        exact ⟨_, rfl, rfl, Or.inr (Or.inr (Or.inl ⟨rfl, Or.inr ⟨_, rfl⟩, Or.inl rfl⟩))⟩
      · cases hm
    · cases hm
  · replace hm : (match (generalizing := false) S with
      | [] => (match (generalizing := false) ret with
          | none => some (.inr (.inr none))
          | _ => none)
      | _ => none) = some z := hm
    split at hm
    · split at hm
      · cases hm
        exact ⟨_, rfl, rfl, Or.inr (Or.inr (Or.inr ⟨rfl, rfl, rfl⟩))⟩
      · cases hm
    · cases hm
theorem s_nret {ret : Option FieldType} {ex : List mE} {I : Instr} {n a1 b1 q1 pc : Nat} {L : mL} {S : List Value} {h : List mE} {z : Nat × mL × List Value × List mE} (hI : I = .ireturn ∨ I = .lreturn ∨ I = .areturn ∨ I = .return_) (hm : mx ret ex (I, n, a1, b1, q1) pc L S h = some (.inl z)) : False := by
  obtain ⟨v, hz, -⟩ := s_ret hI hm
  cases hz
section GS4
variable {p : Program} {l : Launch} {e : Env} {R : Room} {s : State} {m : MethodId} {args : Array Value} {below : List Frame} {meth : Method} {c : Code} {H : Heap} {locs : List Loc} {cells slots : Nat} {Q : State → Prop}
variable {pc : Nat} {ls : Array Slot} {ret : Option FieldType} {ex : List mE} {a1 b1 q1 : Nat} {L : mL} {S : List Value} {h : List mE} {pc' : Nat} {L' : mL} {S' : List Value} {h' : List mE} {xs : Nat → Nat} {b : Nat} {aC : Nat → ClassId} {D : va_G} {M : mMR}
theorem s_multi {i : Nat} (C : g_C xs b aC D ex p s m meth c M) (hW : g_W xs b aC D h H) (hS : va_S (g_A b) s.heap H locs) (hk : mpk M.2.2.2.2.1 q1 i a1 b1 [5] = true) (hd : decode M.2.1 pc = .ok (.multianewarray i 2, 4)) (hm : mx ret ex (.multianewarray i 2, 4, a1, b1, q1) pc L S h = some (.inl (pc', L', S', h'))) (hc : cells + (h'.length - h.length) ≤ R.cells) (hs : slots + (mhs h' - mhs h) ≤ R.slots)
    (kk : ∀ (H1 : Heap) (locs1 : List Loc), g_W xs b aC D h' H1 → va_S (g_A b) s.heap H1 locs1 → L' = L → W p l e R s m args below meth c H1 locs1 (cells + (h'.length - h.length)) (slots + (mhs h' - mhs h)) Q (F0 m pc' ls (S'.map (g_V (g_ad xs b))))) : W p l e R s m args below meth c H locs cells slots Q (F0 m pc ls (S.map (g_V (g_ad xs b)))) := by
  obtain ⟨hx, hb, -, hown, -, -, hnm, -, hE, hM⟩ := C
  obtain ⟨k, q2, v, hp, hk⟩ := mpk_of hk
  obtain ⟨own, l2, ho, hok⟩ := mow_pg hp
  have eo := mow_own hM ho
  subst eo
  simp only [List.mem_cons, List.not_mem_nil, or_false] at hk
  subst hk
  simp only [okP, decide_eq_true_eq] at hok
  replace hm : (match S with
      | .int k :: .int n :: T => if (¬ n < 0 ∧ n.toNatClampNeg ≤ 4000000) ∧ (¬ k < 0 ∧ k.toNatClampNeg ≤ 4000000) then
          mgo (pc + 4) L (.ref (h.length + 4) :: T) (h ++ (.inl (7, (n.toNatClampNeg, .inr (.inr (.inr (.inr (fun i => if i < n.toNatClampNeg then some (h.length + 4 + 1 + i) else none)))))) :: List.replicate n.toNatClampNeg (.inl (0, (k.toNatClampNeg, .inl (fun _ => 0))))))
          else none
      | _ => none) = some (.inl (pc', L', S', h')) := hm
  split at hm
  · rename_i k n T
    by_cases hn : (¬ n < 0 ∧ n.toNatClampNeg ≤ 4000000) ∧ (¬ k < 0 ∧ k.toNatClampNeg ≤ 4000000)
    · rw [if_pos hn] at hm
      simp only [mgo, Option.some.injEq, Sum.inl.injEq, Prod.mk.injEq] at hm
      obtain ⟨rfl, rfl, rfl, rfl⟩ := hm
      obtain ⟨⟨n1, n2⟩, k1, k2⟩ := hn
      have hl1 : ∀ (e0 : mE), (e0 :: List.replicate n.toNatClampNeg (Sum.inl (0, (k.toNatClampNeg, Sum.inl (fun _ => (0 : Int32)))) : mE)).length = 1 + n.toNatClampNeg := fun e0 => by simp; omega
      have hl2 : mhs ((.inl (7, (n.toNatClampNeg, .inr (.inr (.inr (.inr (fun i => if i < n.toNatClampNeg then some (h.length + 4 + 1 + i) else none)))))) : mE) :: List.replicate n.toNatClampNeg (.inl (0, (k.toNatClampNeg, .inl (fun _ => 0))))) = n.toNatClampNeg + n.toNatClampNeg * k.toNatClampNeg := by
        simp [mhs, msz, List.map_replicate, List.sum_replicate_nat]
      have hc2 := s_growc (hl1 _) hc
      have hs2 := s_grows hl2 hs
      refine x_mna (ty := .int) (cA := aC 7) (cy := aC 0) (z := (k.toNatClampNeg, .inl (fun _ => 0))) (D := D) (cl := vwCl) hx hb hown (hE.1 _ (mwd_in hok) rfl args) (hE.2.2.1 _ ck_am (Or.inr ⟨.int, rfl⟩) args) (hE.1 _ ck_ai rfl args) (s_aC hE (t := 0) rfl) (s_aC hE (t := 7) rfl) hS n1 k1 rfl rfl
        (Nat.le_trans (Nat.mul_le_mul_right _ n2) (Nat.le_of_ble_eq_true rfl)) (Nat.le_trans (Nat.mul_le_mul_right _ k2) (Nat.le_of_ble_eq_true rfl)) (Nat.le_trans k2 (Nat.le_of_ble_eq_true rfl)) rfl rfl hc2 hs2 (fun c => g_inn c _) hd (fun H1 z1 ha hr o1 hS1 => ?_)
      rw [g_ref hW]
      have hW1 := g_pushN (t := (.inl (7, (n.toNatClampNeg, .inr (.inr (.inr (.inr (fun i => if i < n.toNatClampNeg then some (h.length + 4 + 1 + i) else none)))))) : mE) :: List.replicate n.toNatClampNeg (.inl (0, (k.toNatClampNeg, .inl (fun _ => 0))))) hW (by rw [z1, hl1]) (fun j e0 he => ?_) o1
      · have kk := s_grow (hl1 _) hl2 (kk H1 locs hW1 hS1 rfl)
        rw [← Nat.add_assoc, ← Nat.add_assoc] at kk
        exact kk
      · cases j with
        | zero =>
          have e1 : (.inl (7, (n.toNatClampNeg, .inr (.inr (.inr (.inr (fun i => if i < n.toNatClampNeg then some (h.length + 4 + 1 + i) else none)))))) : mE) = e0 := by simpa using he
          subst e1
          have e2 : (fun j => (if j < n.toNatClampNeg then some (h.length + 4 + 1 + j) else none).map (g_ad xs b)) = (fun i => if i < n.toNatClampNeg then some (H.size + 1 + i) else none) := by
            funext j
            by_cases hj : j < n.toNatClampNeg
            · rw [if_pos hj, if_pos hj, Option.map_some, g_ad4 (by omega), hW.1]
              congr 1
              omega
            · rw [if_neg hj, if_neg hj]; rfl
          show va_at D vwCl (H.size + 0, .inl (aC 7, (n.toNatClampNeg, .inr (.inr (.inr (.inr (fun j => (if j < n.toNatClampNeg then some (h.length + 4 + 1 + j) else none).map (g_ad xs b)))))))) H1
          rw [e2]
          exact ha
        | succ j =>
          have he2 : (List.replicate n.toNatClampNeg (.inl (0, (k.toNatClampNeg, .inl (fun _ => 0))) : mE))[j]? = some e0 := by simpa using he
          have hj : j < n.toNatClampNeg := by simpa using (List.getElem?_eq_some_iff.mp he2).1
          have e1 := List.eq_of_mem_replicate (List.mem_of_getElem? he2)
          subst e1
          rw [show H.size + (j + 1) = H.size + 1 + j by omega]
          exact hr j hj
    · rw [if_neg hn] at hm; cases hm
  · cases hm
theorem s_objinit {i : Nat} (C : g_C xs b aC D ex p s m meth c M) (hL : g_H (g_ad xs b) ls L) (hl : L.length = M.2.2.1) (hR : 5 ≤ R.frames ∧ 300 ≤ R.locals) (hk : mpk M.2.2.2.2.1 q1 i 0 0 [9] = true) (hd : decode M.2.1 pc = .ok (.invokespecial i, 3)) (hm : mx ret ex (.pop2, 3, a1, b1, q1) pc L S h = some (.inl (pc', L', S', h'))) (kk : h' = h → L' = L → W p l e R s m args below meth c H locs cells slots Q (F0 m pc' ls (S'.map (g_V (g_ad xs b))))) : W p l e R s m args below meth c H locs cells slots Q (F0 m pc ls (S.map (g_V (g_ad xs b)))) := by
  obtain ⟨hx, hb, hml, hown, -, -, hnm, -, hE, hM⟩ := C
  obtain ⟨k, q2, v, hp, hk⟩ := mpk_of hk
  obtain ⟨own, l2, ho, hok⟩ := mow_pg hp
  have eo := mow_own hM ho
  subst eo
  simp only [List.mem_cons, List.not_mem_nil, or_false] at hk
  subst hk
  simp only [okP, decide_eq_true_eq] at hok
  replace hm : (match S with
      | .ref _ :: T => if mcat T ≤ 8 then mgo (pc + 3) L T h else none
      | _ => none) = some (.inl (pc', L', S', h')) := hm
  split at hm
  · rename_i q T
    by_cases h8 : mcat T ≤ 8
    · rw [if_pos h8] at hm
      simp only [mgo, Option.some.injEq, Sum.inl.injEq, Prod.mk.injEq] at hm
      obtain ⟨rfl, rfl, rfl, rfl⟩ := hm
      refine W.objInit hx hb hown (hE.1 _ (mwd_in hok) rfl args) (hE.1 _ ck_oi rfl args) (hE.1 _ ck_oc rfl args) rfl (by show ls.size = _; rw [hL.1, hl, hml]) rfl hd (by omega) ?_ (kk rfl rfl)
      rw [g_mcat]
      show 2 * 0 + mcat T + 12 ≤ R.locals
      have := hR.2
      omega
    · rw [if_neg h8] at hm; cases hm
  · cases hm
theorem mpv_of {o q i k : Nat} {v : Int} (h : mpv o q i k v = true) : ∃ a b q2, mPg o q = some (i, k, a, b, q2, v) := by
  unfold mpv at h
  split at h
  · rename_i i2 k2 a2 b2 q2 v2 hp
    simp only [Bool.and_eq_true, beq_iff_eq] at h
    obtain ⟨⟨rfl, rfl⟩, rfl⟩ := h
    exact ⟨a2, b2, q2, hp⟩
  · cases h
theorem g_cst {i : Nat} {v : Int} (hM : g_M M) (hE : g_Env xs b aC D ex s s.heap) (hk : mpv M.2.2.2.2.1 q1 i 6 v = true) : (Jvm.Cond.constant M.1.cls i (Int32.ofInt v)).before args s = true := by
  obtain ⟨a, b2, q2, hp⟩ := mpv_of hk
  obtain ⟨own, l2, ho, hok⟩ := mow_pg hp
  have eo := mow_own hM ho
  subst eo
  simp only [okP, decide_eq_true_eq] at hok
  exact hE.1 _ (mwd_in hok) rfl args
theorem g_csl {i : Nat} {v : Int} (hM : g_M M) (hE : g_Env xs b aC D ex s s.heap) (hk : mpv M.2.2.2.2.1 q1 i 7 v = true) : (Jvm.Cond.constantLong M.1.cls i (Int64.ofInt v)).before args s = true := by
  obtain ⟨a, b2, q2, hp⟩ := mpv_of hk
  obtain ⟨own, l2, ho, hok⟩ := mow_pg hp
  have eo := mow_own hM ho
  subst eo
  simp only [okP, decide_eq_true_eq] at hok
  exact hE.1 _ (mwd_in hok) rfl args
theorem g_stl {i : Nat} (hM : g_M M) (hE : g_Env xs b aC D ex s s.heap) (hk : mpk M.2.2.2.2.1 q1 i a1 b1 [8] = true) : ∃ Cn n d, mStc[a1]? = some (Cn, n, d) ∧ (Jvm.Cond.fieldLink M.1.cls i Cn n d).before args s = true := by
  obtain ⟨k, q2, v, hp, hk⟩ := mpk_of hk
  obtain ⟨own, l2, ho, hok⟩ := mow_pg hp
  have eo := mow_own hM ho
  subst eo
  simp only [List.mem_cons, List.not_mem_nil, or_false] at hk
  subst hk
  simp only [okP] at hok
  split at hok
  · rename_i Cn n d hst
    exact ⟨Cn, n, d, hst, hE.1 _ (mwd_in (of_decide_eq_true hok)) rfl args⟩
  · cases hok
theorem g_step {r : mR} (C : g_C xs b aC D ex p s m meth c M) (hW : g_W xs b aC D h H) (hS : va_S (g_A b) s.heap H locs) (hL : g_H (g_ad xs b) ls L) (hl : L.length = M.2.2.1) (hR : 5 ≤ R.frames ∧ 300 ≤ R.locals) (hk : okI M.2.2.2.2.1 M.1 M.2.1 pc r = true) (hm : mx ret ex r pc L S h = some (.inl (pc', L', S', h'))) (hc : cells + (h'.length - h.length) ≤ R.cells) (hs : slots + (mhs h' - mhs h) ≤ R.slots)
    (kk : ∀ (H1 : Heap) (locs1 : List Loc) (ls1 : Array Slot), g_W xs b aC D h' H1 → va_S (g_A b) s.heap H1 locs1 → g_H (g_ad xs b) ls1 L' → L'.length = L.length → W p l e R s m args below meth c H1 locs1 (cells + (h'.length - h.length)) (slots + (mhs h' - mhs h)) Q (F0 m pc' ls1 (S'.map (g_V (g_ad xs b))))) : W p l e R s m args below meth c H locs cells slots Q (F0 m pc ls (S.map (g_V (g_ad xs b)))) := by
  have hs0 : cells ≤ R.cells ∧ slots ≤ R.slots := ⟨by omega, by omega⟩
  have kJ : ∀ (H1 : Heap) (locs1 : List Loc), g_W xs b aC D h' H1 → va_S (g_A b) s.heap H1 locs1 → L' = L → h' = h → W p l e R s m args below meth c H1 locs1 cells slots Q (F0 m pc' ls (S'.map (g_V (g_ad xs b)))) := fun H1 locs1 w st e1 e2 => by
    subst e1; subst e2
    exact s_same rfl rfl (kk H1 locs1 ls w st hL rfl)
  have k0 : h' = h → L' = L → W p l e R s m args below meth c H locs cells slots Q (F0 m pc' ls (S'.map (g_V (g_ad xs b)))) := fun e1 e2 => by
    subst e1; subst e2
    exact s_same rfl rfl (kk H locs ls hW hS hL rfl)
  have kS : ∀ ls1 : Array Slot, h' = h → L'.length = L.length → g_H (g_ad xs b) ls1 L' → W p l e R s m args below meth c H locs cells slots Q (F0 m pc' ls1 (S'.map (g_V (g_ad xs b)))) := fun ls1 e1 e2 w => by
    subst e1
    exact s_same rfl rfl (kk H locs ls1 hW hS w e2)
  have kG : ∀ (H1 : Heap) (locs1 : List Loc), g_W xs b aC D h' H1 → va_S (g_A b) s.heap H1 locs1 → L' = L → W p l e R s m args below meth c H1 locs1 (cells + (h'.length - h.length)) (slots + (mhs h' - mhs h)) Q (F0 m pc' ls (S'.map (g_V (g_ad xs b)))) := fun H1 locs1 w st e1 => by
    subst e1
    exact kk H1 locs1 ls w st hL rfl
  have C0 := C
  obtain ⟨hx, hb, hml, hown, -, -, hnm, -, hE, hM⟩ := C
  obtain ⟨I, n, a1, b1, q1⟩ := r
  simp only [okI] at hk
  split at hk
  · cases hk
  rename_i J n2 hd
  simp only [Bool.and_eq_true, beq_iff_eq, Bool.or_eq_true] at hk
  obtain ⟨⟨rfl, hlen⟩, hk⟩ := hk
  cases J with
  | iadd =>
    replace hlen : n2 = 1 := by simpa [mlen] using hlen
    subst hlen
    simp only [mnorm, Bool.and_eq_true, decide_eq_true_eq, Option.some.injEq] at hk
    obtain ⟨rfl, hj⟩ := hk
    exact s_iadd hx hb hd hm k0
  | isub =>
    replace hlen : n2 = 1 := by simpa [mlen] using hlen
    subst hlen
    simp only [mnorm, Bool.and_eq_true, decide_eq_true_eq, Option.some.injEq] at hk
    obtain ⟨rfl, hj⟩ := hk
    exact s_isub hx hb hd hm k0
  | imul =>
    replace hlen : n2 = 1 := by simpa [mlen] using hlen
    subst hlen
    simp only [mnorm, Bool.and_eq_true, decide_eq_true_eq, Option.some.injEq] at hk
    obtain ⟨rfl, hj⟩ := hk
    exact s_imul hx hb hd hm k0
  | iand =>
    replace hlen : n2 = 1 := by simpa [mlen] using hlen
    subst hlen
    simp only [mnorm, Bool.and_eq_true, decide_eq_true_eq, Option.some.injEq] at hk
    obtain ⟨rfl, hj⟩ := hk
    exact s_iand hx hb hd hm k0
  | ior =>
    replace hlen : n2 = 1 := by simpa [mlen] using hlen
    subst hlen
    simp only [mnorm, Bool.and_eq_true, decide_eq_true_eq, Option.some.injEq] at hk
    obtain ⟨rfl, hj⟩ := hk
    exact s_ior hx hb hd hm k0
  | ixor =>
    replace hlen : n2 = 1 := by simpa [mlen] using hlen
    subst hlen
    simp only [mnorm, Bool.and_eq_true, decide_eq_true_eq, Option.some.injEq] at hk
    obtain ⟨rfl, hj⟩ := hk
    exact s_ixor hx hb hd hm k0
  | ishl =>
    replace hlen : n2 = 1 := by simpa [mlen] using hlen
    subst hlen
    simp only [mnorm, Bool.and_eq_true, decide_eq_true_eq, Option.some.injEq] at hk
    obtain ⟨rfl, hj⟩ := hk
    exact s_ishl hx hb hd hm k0
  | ishr =>
    replace hlen : n2 = 1 := by simpa [mlen] using hlen
    subst hlen
    simp only [mnorm, Bool.and_eq_true, decide_eq_true_eq, Option.some.injEq] at hk
    obtain ⟨rfl, hj⟩ := hk
    exact s_ishr hx hb hd hm k0
  | iushr =>
    replace hlen : n2 = 1 := by simpa [mlen] using hlen
    subst hlen
    simp only [mnorm, Bool.and_eq_true, decide_eq_true_eq, Option.some.injEq] at hk
    obtain ⟨rfl, hj⟩ := hk
    exact s_iushr hx hb hd hm k0
  | idiv =>
    replace hlen : n2 = 1 := by simpa [mlen] using hlen
    subst hlen
    simp only [mnorm, Bool.and_eq_true, decide_eq_true_eq, Option.some.injEq] at hk
    obtain ⟨rfl, hj⟩ := hk
    exact s_idiv hx hb hd hm k0
  | irem =>
    replace hlen : n2 = 1 := by simpa [mlen] using hlen
    subst hlen
    simp only [mnorm, Bool.and_eq_true, decide_eq_true_eq, Option.some.injEq] at hk
    obtain ⟨rfl, hj⟩ := hk
    exact s_irem hx hb hd hm k0
  | ldiv =>
    replace hlen : n2 = 1 := by simpa [mlen] using hlen
    subst hlen
    simp only [mnorm, Bool.and_eq_true, decide_eq_true_eq, Option.some.injEq] at hk
    obtain ⟨rfl, hj⟩ := hk
    exact s_ldiv hx hb hd hm k0
  | lrem =>
    replace hlen : n2 = 1 := by simpa [mlen] using hlen
    subst hlen
    simp only [mnorm, Bool.and_eq_true, decide_eq_true_eq, Option.some.injEq] at hk
    obtain ⟨rfl, hj⟩ := hk
    exact s_lrem hx hb hd hm k0
  | ladd =>
    replace hlen : n2 = 1 := by simpa [mlen] using hlen
    subst hlen
    simp only [mnorm, Bool.and_eq_true, decide_eq_true_eq, Option.some.injEq] at hk
    obtain ⟨rfl, hj⟩ := hk
    exact s_ladd hx hb hd hm k0
  | lsub =>
    replace hlen : n2 = 1 := by simpa [mlen] using hlen
    subst hlen
    simp only [mnorm, Bool.and_eq_true, decide_eq_true_eq, Option.some.injEq] at hk
    obtain ⟨rfl, hj⟩ := hk
    exact s_lsub hx hb hd hm k0
  | lmul =>
    replace hlen : n2 = 1 := by simpa [mlen] using hlen
    subst hlen
    simp only [mnorm, Bool.and_eq_true, decide_eq_true_eq, Option.some.injEq] at hk
    obtain ⟨rfl, hj⟩ := hk
    exact s_lmul hx hb hd hm k0
  | lcmp =>
    replace hlen : n2 = 1 := by simpa [mlen] using hlen
    subst hlen
    simp only [mnorm, Bool.and_eq_true, decide_eq_true_eq, Option.some.injEq] at hk
    obtain ⟨rfl, hj⟩ := hk
    exact s_lcmp hx hb hd hm k0
  | ineg =>
    replace hlen : n2 = 1 := by simpa [mlen] using hlen
    subst hlen
    simp only [mnorm, Bool.and_eq_true, decide_eq_true_eq, Option.some.injEq] at hk
    obtain ⟨rfl, hj⟩ := hk
    exact s_ineg hx hb hd hm k0
  | i2l =>
    replace hlen : n2 = 1 := by simpa [mlen] using hlen
    subst hlen
    simp only [mnorm, Bool.and_eq_true, decide_eq_true_eq, Option.some.injEq] at hk
    obtain ⟨rfl, hj⟩ := hk
    exact s_i2l hx hb hd hm k0
  | i2b =>
    replace hlen : n2 = 1 := by simpa [mlen] using hlen
    subst hlen
    simp only [mnorm, Bool.and_eq_true, decide_eq_true_eq, Option.some.injEq] at hk
    obtain ⟨rfl, hj⟩ := hk
    exact s_i2b hx hb hd hm k0
  | l2i =>
    replace hlen : n2 = 1 := by simpa [mlen] using hlen
    subst hlen
    simp only [mnorm, Bool.and_eq_true, decide_eq_true_eq, Option.some.injEq] at hk
    obtain ⟨rfl, hj⟩ := hk
    exact s_l2i hx hb hd hm k0
  | pop =>
    replace hlen : n2 = 1 := by simpa [mlen] using hlen
    subst hlen
    simp only [mnorm, Bool.and_eq_true, decide_eq_true_eq, Option.some.injEq] at hk
    obtain ⟨rfl, hj⟩ := hk
    exact s_pop hx hb hd hm k0
  | dup =>
    replace hlen : n2 = 1 := by simpa [mlen] using hlen
    subst hlen
    simp only [mnorm, Bool.and_eq_true, decide_eq_true_eq, Option.some.injEq] at hk
    obtain ⟨rfl, hj⟩ := hk
    exact s_dup hx hb hd hm k0
  | dup_x1 =>
    replace hlen : n2 = 1 := by simpa [mlen] using hlen
    subst hlen
    simp only [mnorm, Bool.and_eq_true, decide_eq_true_eq, Option.some.injEq] at hk
    obtain ⟨rfl, hj⟩ := hk
    exact s_dup_x1 hx hb hd hm k0
  | dup2 =>
    replace hlen : n2 = 1 := by simpa [mlen] using hlen
    subst hlen
    simp only [mnorm, Bool.and_eq_true, decide_eq_true_eq, Option.some.injEq] at hk
    obtain ⟨rfl, hj⟩ := hk
    exact s_dup2 hx hb hd hm k0
  | aconst_null =>
    replace hlen : n2 = 1 := by simpa [mlen] using hlen
    subst hlen
    simp only [mnorm, Bool.and_eq_true, decide_eq_true_eq, Option.some.injEq] at hk
    obtain ⟨rfl, hj⟩ := hk
    exact s_aconst_null hx hb hd hm k0
  | iload_n k =>
    replace hlen : n2 = 1 := by simpa [mlen] using hlen
    subst hlen
    simp only [mnorm, Bool.and_eq_true, decide_eq_true_eq, Option.some.injEq] at hk
    obtain ⟨rfl, hj⟩ := hk
    exact s_iload_n hx hb hL hd hm k0
  | lload_n k =>
    replace hlen : n2 = 1 := by simpa [mlen] using hlen
    subst hlen
    simp only [mnorm, Bool.and_eq_true, decide_eq_true_eq, Option.some.injEq] at hk
    obtain ⟨rfl, hj⟩ := hk
    exact s_lload_n hx hb hL hd hm k0
  | aload_n k =>
    replace hlen : n2 = 1 := by simpa [mlen] using hlen
    subst hlen
    simp only [mnorm, Bool.and_eq_true, decide_eq_true_eq, Option.some.injEq] at hk
    obtain ⟨rfl, hj⟩ := hk
    exact s_aload_n hx hb hL hd hm k0
  | iload k =>
    replace hlen : n2 = 2 := by simpa [mlen] using hlen
    subst hlen
    simp only [mnorm, Bool.and_eq_true, decide_eq_true_eq, Option.some.injEq] at hk
    obtain ⟨rfl, hj⟩ := hk
    exact s_iload hx hb hL hd hm k0
  | lload k =>
    replace hlen : n2 = 2 := by simpa [mlen] using hlen
    subst hlen
    simp only [mnorm, Bool.and_eq_true, decide_eq_true_eq, Option.some.injEq] at hk
    obtain ⟨rfl, hj⟩ := hk
    exact s_lload hx hb hL hd hm k0
  | aload k =>
    replace hlen : n2 = 2 := by simpa [mlen] using hlen
    subst hlen
    simp only [mnorm, Bool.and_eq_true, decide_eq_true_eq, Option.some.injEq] at hk
    obtain ⟨rfl, hj⟩ := hk
    exact s_aload hx hb hL hd hm k0
  | istore_n k =>
    replace hlen : n2 = 1 := by simpa [mlen] using hlen
    subst hlen
    simp only [mnorm, Bool.and_eq_true, decide_eq_true_eq, Option.some.injEq] at hk
    obtain ⟨rfl, hj⟩ := hk
    exact s_istore_n hx hb hL hd hm kS
  | lstore_n k =>
    replace hlen : n2 = 1 := by simpa [mlen] using hlen
    subst hlen
    simp only [mnorm, Bool.and_eq_true, decide_eq_true_eq, Option.some.injEq] at hk
    obtain ⟨rfl, hj⟩ := hk
    exact s_lstore_n hx hb hL hd hm kS
  | astore_n k =>
    replace hlen : n2 = 1 := by simpa [mlen] using hlen
    subst hlen
    simp only [mnorm, Bool.and_eq_true, decide_eq_true_eq, Option.some.injEq] at hk
    obtain ⟨rfl, hj⟩ := hk
    exact s_astore_n hx hb hL hd hm kS
  | istore k =>
    replace hlen : n2 = 2 := by simpa [mlen] using hlen
    subst hlen
    simp only [mnorm, Bool.and_eq_true, decide_eq_true_eq, Option.some.injEq] at hk
    obtain ⟨rfl, hj⟩ := hk
    exact s_istore hx hb hL hd hm kS
  | lstore k =>
    replace hlen : n2 = 2 := by simpa [mlen] using hlen
    subst hlen
    simp only [mnorm, Bool.and_eq_true, decide_eq_true_eq, Option.some.injEq] at hk
    obtain ⟨rfl, hj⟩ := hk
    exact s_lstore hx hb hL hd hm kS
  | astore k =>
    replace hlen : n2 = 2 := by simpa [mlen] using hlen
    subst hlen
    simp only [mnorm, Bool.and_eq_true, decide_eq_true_eq, Option.some.injEq] at hk
    obtain ⟨rfl, hj⟩ := hk
    exact s_astore hx hb hL hd hm kS
  | iinc i k =>
    replace hlen : n2 = 3 := by simpa [mlen] using hlen
    subst hlen
    simp only [mnorm, Bool.and_eq_true, decide_eq_true_eq, Option.some.injEq] at hk
    obtain ⟨rfl, hj⟩ := hk
    exact s_iinc hx hb hL hd hm kS
  | iconst k =>
    replace hlen : n2 = 1 := by simpa [mlen] using hlen
    subst hlen
    simp only [mnorm, Bool.and_eq_true, decide_eq_true_eq, Option.some.injEq] at hk
    obtain ⟨rfl, hj⟩ := hk
    exact s_iconst hx hb hd hm k0
  | lconst k =>
    replace hlen : n2 = 1 := by simpa [mlen] using hlen
    subst hlen
    simp only [mnorm, Bool.and_eq_true, decide_eq_true_eq, Option.some.injEq] at hk
    obtain ⟨rfl, hj⟩ := hk
    exact s_lconst hx hb hd hm k0
  | bipush v =>
    replace hlen : n2 = 2 := by simpa [mlen] using hlen
    subst hlen
    rw [Bool.and_eq_true] at hk
    obtain ⟨hk, hj⟩ := hk
    replace hk := of_decide_eq_true hk
    simp only [mnorm] at hk
    by_cases hv : (Int8.ofInt v).toInt32 = Int32.ofInt v
    · rw [if_pos hv] at hk
      cases hk
      exact s_bipush hx hb hv hd hm k0
    · rw [if_neg hv] at hk
      cases hk
  | sipush v =>
    replace hlen : n2 = 3 := by simpa [mlen] using hlen
    subst hlen
    rw [Bool.and_eq_true] at hk
    obtain ⟨hk, hj⟩ := hk
    replace hk := of_decide_eq_true hk
    simp only [mnorm] at hk
    by_cases hv : (Int16.ofInt v).toInt32 = Int32.ofInt v
    · rw [if_pos hv] at hk
      cases hk
      exact s_sipush hx hb hv hd hm k0
    · rw [if_neg hv] at hk
      cases hk
  | ifCond cn off =>
    replace hlen : n2 = 3 := by simpa [mlen] using hlen
    subst hlen
    simp only [mnorm, mjok, Bool.and_eq_true, decide_eq_true_eq, Option.some.injEq] at hk
    obtain ⟨rfl, hj⟩ := hk
    exact s_ifCond hx hb hj hd hm k0
  | if_icmp cn off =>
    replace hlen : n2 = 3 := by simpa [mlen] using hlen
    subst hlen
    simp only [mnorm, mjok, Bool.and_eq_true, decide_eq_true_eq, Option.some.injEq] at hk
    obtain ⟨rfl, hj⟩ := hk
    exact s_if_icmp hx hb hj hd hm k0
  | if_acmp cn off =>
    replace hlen : n2 = 3 := by simpa [mlen] using hlen
    subst hlen
    simp only [mnorm, mjok, Bool.and_eq_true, decide_eq_true_eq, Option.some.injEq] at hk
    obtain ⟨rfl, hj⟩ := hk
    exact s_if_acmp hx hb hj hd hm k0
  | ifnull off =>
    replace hlen : n2 = 3 := by simpa [mlen] using hlen
    subst hlen
    simp only [mnorm, mjok, Bool.and_eq_true, decide_eq_true_eq, Option.some.injEq] at hk
    obtain ⟨rfl, hj⟩ := hk
    exact s_ifnull hx hb hj hd hm k0
  | ifnonnull off =>
    replace hlen : n2 = 3 := by simpa [mlen] using hlen
    subst hlen
    simp only [mnorm, mjok, Bool.and_eq_true, decide_eq_true_eq, Option.some.injEq] at hk
    obtain ⟨rfl, hj⟩ := hk
    exact s_ifnonnull hx hb hj hd hm k0
  | goto off =>
    replace hlen : n2 = 3 := by simpa [mlen] using hlen
    subst hlen
    simp only [mnorm, mjok, Bool.and_eq_true, decide_eq_true_eq, Option.some.injEq] at hk
    obtain ⟨rfl, hj⟩ := hk
    exact s_goto hx hb hj hd hm k0
  | tableswitch d lo hi os =>
    rw [Bool.and_eq_true, decide_eq_true_eq] at hk
    obtain ⟨hk, hj⟩ := hk
    cases hk
    exact s_tableswitch hx hb hj hd hm k0
  | lookupswitch d ps =>
    rw [Bool.and_eq_true, decide_eq_true_eq] at hk
    obtain ⟨hk, hj⟩ := hk
    cases hk
    exact s_lookupswitch hx hb hj hd hm k0
  | iaload =>
    replace hlen : n2 = 1 := by simpa [mlen] using hlen
    subst hlen
    simp only [mnorm, Bool.and_eq_true, decide_eq_true_eq, Option.some.injEq] at hk
    obtain ⟨rfl, hj⟩ := hk
    exact s_iaload hx hb hS hE hW hd hm k0
  | laload =>
    replace hlen : n2 = 1 := by simpa [mlen] using hlen
    subst hlen
    simp only [mnorm, Bool.and_eq_true, decide_eq_true_eq, Option.some.injEq] at hk
    obtain ⟨rfl, hj⟩ := hk
    exact s_laload hx hb hS hE hW hd hm k0
  | baload =>
    replace hlen : n2 = 1 := by simpa [mlen] using hlen
    subst hlen
    simp only [mnorm, Bool.and_eq_true, decide_eq_true_eq, Option.some.injEq] at hk
    obtain ⟨rfl, hj⟩ := hk
    exact s_baload hx hb hE hW hd hm k0
  | aaload =>
    replace hlen : n2 = 1 := by simpa [mlen] using hlen
    subst hlen
    simp only [mnorm, Bool.and_eq_true, decide_eq_true_eq, Option.some.injEq] at hk
    obtain ⟨rfl, hj⟩ := hk
    exact s_aaload hx hb hE hW hd hm k0
  | arraylength =>
    replace hlen : n2 = 1 := by simpa [mlen] using hlen
    subst hlen
    simp only [mnorm, Bool.and_eq_true, decide_eq_true_eq, Option.some.injEq] at hk
    obtain ⟨rfl, hj⟩ := hk
    exact s_arraylength hx hb hS hE hW hd hm k0
  | iastore =>
    replace hlen : n2 = 1 := by simpa [mlen] using hlen
    subst hlen
    simp only [mnorm, Bool.and_eq_true, decide_eq_true_eq, Option.some.injEq] at hk
    obtain ⟨rfl, hj⟩ := hk
    exact s_iastore C0 hW hS hd hm kG
  | lastore =>
    replace hlen : n2 = 1 := by simpa [mlen] using hlen
    subst hlen
    simp only [mnorm, Bool.and_eq_true, decide_eq_true_eq, Option.some.injEq] at hk
    obtain ⟨rfl, hj⟩ := hk
    exact s_lastore C0 hW hS hd hm kG
  | bastore =>
    replace hlen : n2 = 1 := by simpa [mlen] using hlen
    subst hlen
    simp only [mnorm, Bool.and_eq_true, decide_eq_true_eq, Option.some.injEq] at hk
    obtain ⟨rfl, hj⟩ := hk
    exact s_bastore C0 hW hS hd hm kG
  | aastore =>
    replace hlen : n2 = 1 := by simpa [mlen] using hlen
    subst hlen
    simp only [mnorm, Bool.and_eq_true, decide_eq_true_eq, Option.some.injEq] at hk
    obtain ⟨rfl, hj⟩ := hk
    exact s_aastore C0 hW hS hd hm kG
  | newarray t =>
    replace hlen : n2 = 2 := by simpa [mlen] using hlen
    subst hlen
    simp only [mnorm, Bool.and_eq_true, decide_eq_true_eq, Option.some.injEq] at hk
    obtain ⟨rfl, hj⟩ := hk
    exact s_newarray C0 hW hS hd hm hc hs kG
  | getfield i =>
    replace hlen : n2 = 3 := by simpa [mlen] using hlen
    subst hlen
    dsimp only at hk
    split at hk
    · rename_i k
      rw [Bool.and_eq_true, beq_iff_eq] at hk
      obtain ⟨rfl, hk⟩ := hk
      exact s_getfield C0 hW hk hd hm k0
    · cases hk
  | putfield i =>
    replace hlen : n2 = 3 := by simpa [mlen] using hlen
    subst hlen
    dsimp only at hk
    split at hk
    · rename_i k
      rw [Bool.and_eq_true, beq_iff_eq] at hk
      obtain ⟨rfl, hk⟩ := hk
      exact s_putfield C0 hW hS hk hd hm kG
    · cases hk
  | getstatic i =>
    replace hlen : n2 = 3 := by simpa [mlen] using hlen
    subst hlen
    dsimp only at hk
    split at hk
    · rename_i k
      rw [Bool.and_eq_true, beq_iff_eq] at hk
      obtain ⟨rfl, hk⟩ := hk
      obtain ⟨Cn, nn, dd, h1, h2⟩ := g_stl (args := args) hM hE hk
      exact s_getstatic hx hb hown hS hE.2.2.2.2.2.1 h1 h2 hd hm k0
    · cases hk
  | new i =>
    replace hlen : n2 = 3 := by simpa [mlen] using hlen
    subst hlen
    dsimp only at hk
    split at hk
    · rename_i k
      rw [Bool.and_eq_true, beq_iff_eq] at hk
      obtain ⟨rfl, hk⟩ := hk
      exact s_new C0 hW hS hk hd hm hc hs kG
    · cases hk
  | anewarray i =>
    replace hlen : n2 = 3 := by simpa [mlen] using hlen
    subst hlen
    dsimp only at hk
    split at hk
    · rename_i k
      rw [Bool.and_eq_true, beq_iff_eq] at hk
      obtain ⟨rfl, hk⟩ := hk
      exact s_anewarray C0 hW hS hk hd hm hc hs kG
    · cases hk
  | multianewarray i d =>
    replace hlen : n2 = 4 := by simpa [mlen] using hlen
    subst hlen
    dsimp only at hk
    split at hk
    · rename_i k e2
      simp only [Bool.and_eq_true, beq_iff_eq] at hk
      obtain ⟨⟨⟨rfl, rfl⟩, rfl⟩, hk⟩ := hk
      exact s_multi C0 hW hS hk hd hm hc hs kG
    · cases hk
  | ldc i =>
    replace hlen : n2 = 2 := by simpa [mlen] using hlen
    subst hlen
    dsimp only at hk
    split at hk
    · rename_i v
      exact s_ldc hx hb hown (g_cst hM hE hk) hd hm k0
    · exact s_dadd C0 hk hd hm k0
    · cases hk
  | ldc_w i =>
    replace hlen : n2 = 3 := by simpa [mlen] using hlen
    subst hlen
    dsimp only at hk
    split at hk
    · rename_i v
      exact s_ldc_w hx hb hown (g_cst hM hE hk) hd hm k0
    · cases hk
  | ldc2_w i =>
    replace hlen : n2 = 3 := by simpa [mlen] using hlen
    subst hlen
    dsimp only at hk
    split at hk
    · rename_i v
      exact s_ldc2_w hx hb hown (g_csl hM hE hk) hd hm k0
    · cases hk
  | invokespecial i =>
    replace hlen : n2 = 3 := by simpa [mlen] using hlen
    subst hlen
    dsimp only at hk
    split at hk
    · exfalso
      replace hm : (match mtake b1 S [] with
        | some (as, .ref q :: T) => if mcat T ≤ 8 then mcall a1 (.ref q :: as) T else none
        | _ => none) = some (.inl (pc', L', S', h')) := hm
      split at hm
      · split at hm <;> simp [mcall] at hm
      · cases hm
    · exact s_objinit C0 hL hl hR hk hd hm k0
    · cases hk
  | invokevirtual i =>
    replace hlen : n2 = 3 := by simpa [mlen] using hlen
    subst hlen
    dsimp only at hk
    split at hk
    · exfalso
      replace hm : (match mtake b1 S [] with
        | some (as, .ref q :: T) => (match mown h q, mrec a1 with
          | some (.inr (ci, _)), some R => if ci = R.2.2.2.2.1 ∧ mcat T ≤ 8 then mcall a1 (.ref q :: as) T else none
          | _, _ => none)
        | _ => none) = some (.inl (pc', L', S', h')) := hm
      split at hm
      · split at hm
        · split at hm <;> simp [mcall] at hm
        · cases hm
      · cases hm
    · exact s_dmul C0 hL hl hR hW hS hs0 hk hd hm kJ
    · exact s_ddiv C0 hL hl hR hW hS hs0 hk hd hm kJ
    · exact s_fmul C0 hL hl hR hW hS hk hd hm hc hs kG
    · cases hk
  | invokestatic i =>
    replace hlen : n2 = 3 := by simpa [mlen] using hlen
    subst hlen
    dsimp only at hk
    split at hk
    · exfalso
      replace hm : (match mtake b1 S [] with
        | some (as, T) => if mcat T ≤ 8 then mcall a1 as T else none
        | none => none) = some (.inl (pc', L', S', h')) := hm
      split at hm
      · split at hm <;> simp [mcall] at hm
      · cases hm
    · exact s_fadd C0 hL hl hR hs0 hk hd hm k0
    · exact s_fsub C0 hL hl hR hs0 hk hd hm k0
    · exact s_dsub C0 hL hl hR hs0 hk hd hm k0
    · exact s_frem C0 hL hl hR hW hS hk hd hm kG
    · cases hk
  | checkcast i =>
    replace hlen : n2 = 3 := by simpa [mlen] using hlen
    subst hlen
    dsimp only at hk
    split at hk
    · exact s_fdiv C0 hW hk hd hm k0
    · cases hk
  | fadd => cases hk
  | fsub => cases hk
  | dsub => cases hk
  | dadd => cases hk
  | dmul => cases hk
  | ddiv => cases hk
  | fmul => cases hk
  | fdiv => cases hk
  | frem => cases hk
  | pop2 => cases hk
  | jsr_w _ => cases hk
  | ireturn =>
    exfalso
    simp only [mnorm, Bool.and_eq_true, decide_eq_true_eq, Option.some.injEq] at hk
    obtain ⟨rfl, hj⟩ := hk
    exact s_nret (Or.inl rfl) hm
  | lreturn =>
    exfalso
    simp only [mnorm, Bool.and_eq_true, decide_eq_true_eq, Option.some.injEq] at hk
    obtain ⟨rfl, hj⟩ := hk
    exact s_nret (Or.inr (Or.inl rfl)) hm
  | areturn =>
    exfalso
    simp only [mnorm, Bool.and_eq_true, decide_eq_true_eq, Option.some.injEq] at hk
    obtain ⟨rfl, hj⟩ := hk
    exact s_nret (Or.inr (Or.inr (Or.inl rfl))) hm
  | return_ =>
    exfalso
    simp only [mnorm, Bool.and_eq_true, decide_eq_true_eq, Option.some.injEq] at hk
    obtain ⟨rfl, hj⟩ := hk
    exact s_nret (Or.inr (Or.inr (Or.inr rfl))) hm
  | _ =>
    exfalso
    simp only [mnorm, Bool.and_eq_true, decide_eq_true_eq, Option.some.injEq] at hk
    obtain ⟨rfl, hj⟩ := hk
    cases hm
end GS4
