/-! THE JDK'S FUNCTIONS THAT THE PRINTED CODE CALLS, an instruction each -/
section XJDK
variable {p : Program} {l : Launch} {e : Env} {R : Room} {s : State} {m : MethodId} {args : Array Value} {below : List Frame} {meth : Method} {c : Code} {H : Heap} {locs : List Loc} {cells slots : Nat} {Q : State → Prop}
variable {cc : ByteArray} {pc : Nat} {ls : Array Slot} {rest : List Value} {D : va_G} {cl : List vw_C} {A : Nat → Prop} {a : Nat} {tys : List (ClassId × FieldType)} {H0 : Heap}
theorem x_clone (hexec : p.tables.exec = Jvm.exec) (hb : c.code = cc) (hml : c.maxLocals = ls.size) {own ad : String} {index : Nat} (hown : s.vm.findClass own = some m.cls)
    (hlink : (Cond.methodLink own index ⟨ad, "clone", "()Ljava/lang/Object;"⟩).before args s = true) (hsame : (Cond.sameMethod ad "java/lang/Object" "clone" "()Ljava/lang/Object;").before args s = true)
    (hnat : (Cond.native ⟨"java/lang/Object", "clone", "()Ljava/lang/Object;"⟩).before args s = true) (hinst : (Cond.instanceMethod ⟨"java/lang/Object", "clone", "()Ljava/lang/Object;"⟩).before args s = true)
    (hsel : (Cond.selects ad ⟨ad, "clone", "()Ljava/lang/Object;"⟩ ⟨"java/lang/Object", "clone", "()Ljava/lang/Object;"⟩).before args s = true) (hcl : va_Nw (.castable ad "java/lang/Cloneable") s)
    (hK : va_K D cl tys s) (hS : va_S A H0 H locs) (t0 : Nat) {cA : ClassId} {n : Nat} {f : Nat → Int32} {ty : FieldType} (ha : va_at D cl (a, .inl (cA, (n, .inl f))) H) (ht : tys[t0]? = some (cA, ty))
    (hnm : s.vm.findClass ad = some cA) (hfit : ∀ (i : Nat) (v : Value), (vp_cell cA (n, .inl f)).slots[i]? = some v → fits ty v = true)
    (hframes : 1 ≤ R.frames) (hlocals : (rest.map fun v => v.category).sum + 14 ≤ R.locals) (hcells : cells + 1 ≤ R.cells) (hslots : slots + n ≤ R.slots) (hdg : decode cc pc = .ok (.invokevirtual index, 3))
    (kk : ∀ H1 : Heap, x_nw D cl A H0 H (.inl (cA, (n, .inl f))) H1 locs → W p l e R s m args below meth c H1 locs (cells + 1) (slots + n) Q (F0 m (pc + 3) ls (.ref H.size :: rest))) : W p l e R s m args below meth c H locs cells slots Q (F0 m pc ls (.ref a :: rest)) := by
  have hsz : (vp_cell cA (n, .inl f)).slots.size = n := arrV_size _ _ _
  have hcellE : ({ cls := (vp_cell cA (n, .inl f)).cls, slots := (vp_cell cA (n, .inl f)).slots } : Cell) = vp_cell cA (n, .inl f) := rfl
  obtain ⟨c0, t0', f1, f2, f3⟩ := Cond.castable_spec (va_Nw.use (A := args) rfl hcl)
  cases hnm.symm.trans f1
  intro T hT X
  have hcellT : T.heap[a]? = some (vp_cell cA (n, .inl f)) := by rw [hT]; exact ha
  obtain ⟨-, kA, hkA, comp, hkind⟩ := State.isArrayOf_alike X.warmed.alike ((hK.2 t0 _ ht).1 0 (fun _ => .null))
  obtain ⟨-, kS, hkS, compS, hkindS⟩ := (hK.2 t0 _ ht).1 0 (fun _ => .null)
  obtain ⟨vm', X', st⟩ := X.cloneArray hexec hown hlink hsame hnat hinst hsel (a := a) (cell := vp_cell cA (n, .inl f)) hcellT (fun k h => by cases h) (fun h => by cases h) hnm f2 f3
    (fun i v hv => by
      have hk' : T.vm.classes[cA]? = some kA := hkA
      have hcl0 : (vp_cell cA (n, .inl f)).cls = cA := rfl
      rw [hcl0]
      simpa [State.fitsSlot, State.slotType?, hk', hkind] using hfit i v hv)
    (g := F0 m pc ls (.ref a :: rest)) rfl (by rw [hml]) rfl (by rw [hb]; exact hdg) hframes (by show 2 * 0 + _ + 14 ≤ _; omega) hcells (by rw [hsz]; exact hslots) (hloader := Vm.clonesLoader_of_array hkS hkindS)
  rw [hcellE, hsz] at X'
  obtain ⟨t, b1, b2⟩ := kk (H.push (vp_cell cA (n, .inl f))) ⟨by rw [Array.size_push], by show (H.push _)[H.size]? = some _; rw [Array.getElem?_push_size], fun q hq => by rw [Array.getElem?_push, if_neg (Nat.ne_of_lt hq)], ⟨Nat.le_trans hS.1 (by rw [Array.size_push]; omega), fun y h1 h2 => by
      rw [Array.getElem?_push, if_neg (Nat.ne_of_lt (Nat.lt_of_lt_of_le h1 hS.1))]
      exact hS.2.1 y h1 h2, hS.2.2⟩⟩ ((T.setVm vm').pushCell (vp_cell cA (n, .inl f))) (by rw [← hT]; rfl) X'
  refine ⟨t, st t ?_, b2⟩
  rw [hcellE, hT]
  exact b1
theorem x_copyi (hexec : p.tables.exec = Jvm.exec) (hb : c.code = cc) (hml : c.maxLocals = ls.size) {own : String} {index : Nat} (hown : s.vm.findClass own = some m.cls) (hlink : (Cond.methodLink own index arraycopyName).before args s = true) (hnat : (Cond.native arraycopyName).before args s = true) (hstat : (Cond.static arraycopyName).before args s = true) (hini : (Cond.initialized "java/lang/System").before args s = true)
    (hK : va_K D cl tys s) (hA : A a) (hS : va_S A H0 H locs) (t0 : Nat) {a0 : Nat} {c0 : ClassId} {n0 n1 : Nat} {f g : Nat → Int32} (ha0 : va_at D cl (a0, .inl (c0, (n0, .inl f))) H) (ha1 : va_at D cl (a, .inl (c0, (n1, .inl g))) H) (ht0 : tys[t0]? = some (c0, .int))
    {sp dp n : Int32} (h1 : ¬ sp < 0) (h2 : ¬ dp < 0) (h3 : ¬ n < 0) (h4 : sp.toNatClampNeg + n.toNatClampNeg ≤ n0) (h5 : dp.toNatClampNeg + n.toNatClampNeg ≤ n1)
    (hframes : 1 ≤ R.frames) (hlocals : (rest.map fun v => v.category).sum + (nativeFrameWords "java/lang/System" "arraycopy" 5 + 11) ≤ R.locals) (hdg : decode cc pc = .ok (.invokestatic index, 3))
    (kk : ∀ (H1 : Heap) (locs1 : List Loc), x_st D cl A H0 H a (.inl (c0, (n1, .inl (va_cpy f g sp.toNatClampNeg dp.toNatClampNeg n.toNatClampNeg)))) H1 locs1 → W p l e R s m args below meth c H1 locs1 cells slots Q (F0 m (pc + 3) ls rest)) : W p l e R s m args below meth c H locs cells slots Q (F0 m pc ls (.int n :: .int dp :: .ref a :: .int sp :: .ref a0 :: rest)) := by
  have nn : ∀ z : Int32, ¬ z < 0 → z.toInt = (z.toNatClampNeg : Int) := by
    intro z hz
    have hz0 : (0 : Int) ≤ z.toInt := by
      have := Int32.not_lt.mp hz
      simpa using Int32.le_iff_toInt_le.mp this
    show z.toInt = ((z.toInt.toNat : Nat) : Int)
    omega
  intro T hT X
  have hc0 : H[a0]? = some (vp_cell c0 (n0, .inl f)) := ha0
  have hc1 : H[a]? = some (vp_cell c0 (n1, .inl g)) := ha1
  obtain ⟨-, k0, hk0, cm0, hkk0⟩ := (hK.2 t0 _ ht0).1 n0 (fun j => .int (f j))
  obtain ⟨-, k1, hk1, cm1, hkk1⟩ := (hK.2 t0 _ ht0).1 n1 (fun j => .int (g j))
  obtain ⟨vm', X', step⟩ := X.arraycopy hexec hown hlink hnat hstat hini (src := a0) (dst := a) (cs := vp_cell c0 (n0, .inl f)) (cd := vp_cell c0 (n1, .inl g)) (srcPos := sp) (destPos := dp) (n := n) (by rw [hT]; exact hc0) (by rw [hT]; exact hc1)
    (fun _ h => by cases h) (fun _ h => by cases h) (fun h => by cases h) (fun h => by cases h) hk0 hk1 hkk0 hkk1 (by simp [refKind]) h1 h2 h3
    (by rw [nn sp h1, nn n h3]; show ¬ _ > ((arrV c0 n0 (fun j => .int (f j))).slots.size : Int); rw [arrV_size]; omega)
    (by rw [nn dp h2, nn n h3]; show ¬ _ > ((arrV c0 n1 (fun j => .int (g j))).slots.size : Int); rw [arrV_size]; omega)
    (fun vm₁ _ i hi => by
      have e : (vp_cell c0 (n0, .inl f)).slots.getD (sp.toNatClampNeg + i) .null = .int (f (sp.toNatClampNeg + i)) := by
        show (arrV c0 n0 (fun j => .int (f j))).slots.getD _ _ = _
        rw [Array.getD_eq_getD_getElem?, arrV_read _ _ (by omega)]
        rfl
      refine ⟨?_, ?_⟩
      · rw [e]
        rfl
      · rw [e]
        exact trivial)
    (g := F0 m pc ls (.int n :: .int dp :: .ref a :: .int sp :: .ref a0 :: rest)) rfl (by rw [hml]) (rest := rest) rfl (by rw [hb]; exact hdg) hframes (by show 2 * 0 + _ + _ ≤ _; omega)
  have e1 : copied (vp_cell c0 (n0, .inl f)) (vp_cell c0 (n1, .inl g)) sp dp n = vp_cell c0 (n1, .inl (va_cpy f g sp.toNatClampNeg dp.toNatClampNeg n.toNatClampNeg)) := va_copied (fun z => .int z) c0 c0 f g h4
  rw [e1] at X' step
  have hl : a < H.size := (Array.getElem?_eq_some_iff.mp hc1).1
  have hheap : ((T.setVm vm').setCell a (vp_cell c0 (n1, .inl (va_cpy f g sp.toNatClampNeg dp.toNatClampNeg n.toNatClampNeg)))).heap = H.setIfInBounds a (vp_cell c0 (n1, .inl (va_cpy f g sp.toNatClampNeg dp.toNatClampNeg n.toNatClampNeg))) := by rw [← hT]; rfl
  have oq : ∀ q : Nat, q ≠ a → (H.setIfInBounds a (vp_cell c0 (n1, .inl (va_cpy f g sp.toNatClampNeg dp.toNatClampNeg n.toNatClampNeg))))[q]? = H[q]? := fun q hq => by simp [Array.getElem?_setIfInBounds, Ne.symm hq]
  obtain ⟨t, a1, b1⟩ := kk _ _ ⟨by simp, by show (H.setIfInBounds a _)[a]? = some _; simp [Array.getElem?_setIfInBounds, hl], oq, ⟨by simp; exact hS.1, fun q g1 g2 => by
      rw [oq q (fun e => g2 (by rw [e]; exact hA))]
      exact hS.2.1 q g1 g2, fun q hq => by
      rcases List.mem_append.mp hq with h | h
      · exact hS.2.2 q h
      · obtain ⟨z, -, hz⟩ := List.mem_map.mp h
        rw [← hz]
        exact hA⟩⟩ _ hheap X'
  exact ⟨t, step t a1, b1⟩
end XJDK
section GJD
variable {p : Program} {l : Launch} {e : Env} {R : Room} {s : State} {m : MethodId} {args : Array Value} {below : List Frame} {meth : Method} {c : Code} {H : Heap} {locs : List Loc} {cells slots : Nat} {Q : State → Prop}
variable {pc : Nat} {ls : Array Slot} {ret : Option FieldType} {ex : List mE} {a1 b1 q1 : Nat} {L : mL} {S : List Value} {h : List mE} {pc' : Nat} {L' : mL} {S' : List Value} {h' : List mE} {xs : Nat → Nat} {b : Nat} {aC : Nat → ClassId} {D : va_G} {M : mMR}
theorem g_jl {i f : Nat} {y : MethodName} (hM : g_M M) (hE : g_Env xs b aC D ex s s.heap) (hy : mJF[f]? = some y) (hk : mpk M.2.2.2.2.1 q1 i f 0 [11] = true) : (Jvm.Cond.methodLink M.1.cls i y).before args s = true := by
  obtain ⟨k, q2, v, hp, hk⟩ := mpk_of hk
  obtain ⟨own, l2, ho, hok⟩ := mow_pg hp
  have eo := mow_own hM ho
  subst eo
  simp only [List.mem_cons, List.not_mem_nil, or_false] at hk
  subst hk
  simp only [okP, hy, decide_eq_true_eq] at hok
  exact hE.1 _ (mwd_in hok) rfl args
theorem g_jw {w : Jvm.Cond} (hE : g_Env xs b aC D ex s s.heap) (q : Nat) (h : mwd q = some w) (hg : goodWord w = true) : w.before args s = true := hE.1 _ (mwd_in h) hg args
theorem j_max1 : mwd 3103 = some (.static Lib.Math.max.name) := by decide +kernel
theorem j_max2 : mwd 3104 = some (.code Lib.Math.max.name Lib.Math.max.code 2 (some .int)) := by decide +kernel
theorem j_min1 : mwd 3180 = some (.static Lib.Math.min.name) := by decide +kernel
theorem j_min2 : mwd 3181 = some (.code Lib.Math.min.name Lib.Math.min.code 2 (some .int)) := by decide +kernel
theorem j_lmin1 : mwd 4154 = some (.static Lib.MathLoose.min_long.x) := by decide +kernel
theorem j_lmin2 : mwd 4155 = some (.code Lib.MathLoose.min_long.x Lib.MathLoose.min_long.code 4 (some .long)) := by decide +kernel
theorem j_math : mwd 1036 = some (.initialized "java/lang/Math") := by decide +kernel
theorem j_sys : mwd 1038 = some (.initialized "java/lang/System") := by decide +kernel
theorem j_cl1 : mwd 3173 = some (.sameMethod "[I" "java/lang/Object" "clone" "()Ljava/lang/Object;") := by decide +kernel
theorem j_cl2 : mwd 3174 = some (.native ⟨"java/lang/Object", "clone", "()Ljava/lang/Object;"⟩) := by decide +kernel
theorem j_cl3 : mwd 3175 = some (.instanceMethod ⟨"java/lang/Object", "clone", "()Ljava/lang/Object;"⟩) := by decide +kernel
theorem j_cl4 : mwd 3176 = some (.selects "[I" ⟨"[I", "clone", "()Ljava/lang/Object;"⟩ ⟨"java/lang/Object", "clone", "()Ljava/lang/Object;"⟩) := by decide +kernel
theorem j_cl5 : mwd 3177 = some (.castable "[I" "java/lang/Cloneable") := by decide +kernel
theorem j_ac1 : mwd 3183 = some (.static arraycopyName) := by decide +kernel
theorem j_ac2 : mwd 3184 = some (.native arraycopyName) := by decide +kernel
theorem s_fadd {i : Nat} (C : g_C xs b aC D ex p s m meth c M) (hL : g_H (g_ad xs b) ls L) (hl : L.length = M.2.2.1) (hR : 5 ≤ R.frames ∧ 300 ≤ R.locals) (hs0 : cells ≤ R.cells ∧ slots ≤ R.slots) (hk : mpk M.2.2.2.2.1 q1 i 0 0 [11] = true) (hd : decode M.2.1 pc = .ok (.invokestatic i, 3)) (hm : mx ret ex (.fadd, 3, a1, b1, q1) pc L S h = some (.inl (pc', L', S', h'))) (kk : h' = h → L' = L → W p l e R s m args below meth c H locs cells slots Q (F0 m pc' ls (S'.map (g_V (g_ad xs b))))) : W p l e R s m args below meth c H locs cells slots Q (F0 m pc ls (S.map (g_V (g_ad xs b)))) := by
  obtain ⟨hx, hb, hml, hown, -, -, hnm, -, hE, hM⟩ := C
  replace hm : (match S with
      | .int y :: .int x :: T => if mcat T ≤ 8 then mgo (pc + 3) L (.int (if x < y then y else x) :: T) h else none
      | _ => none) = some (.inl (pc', L', S', h')) := hm
  split at hm
  · rename_i y x T
    by_cases h8 : mcat T ≤ 8
    · rw [if_pos h8] at hm
      simp only [mgo, Option.some.injEq, Sum.inl.injEq, Prod.mk.injEq] at hm
      obtain ⟨rfl, rfl, rfl, rfl⟩ := hm
      exact va_mmax hx hb (by rw [hml, hL.1, hl]) hown (g_jl hM hE rfl hk) (g_jw hE _ j_max1 rfl) (g_jw hE _ j_math rfl) (g_jw hE _ j_max2 rfl) (by omega) (by rw [g_mcat]; omega) hs0.1 hs0.2 hd (kk rfl rfl)
    · rw [if_neg h8] at hm; cases hm
  · cases hm
theorem s_fsub {i : Nat} (C : g_C xs b aC D ex p s m meth c M) (hL : g_H (g_ad xs b) ls L) (hl : L.length = M.2.2.1) (hR : 5 ≤ R.frames ∧ 300 ≤ R.locals) (hs0 : cells ≤ R.cells ∧ slots ≤ R.slots) (hk : mpk M.2.2.2.2.1 q1 i 1 0 [11] = true) (hd : decode M.2.1 pc = .ok (.invokestatic i, 3)) (hm : mx ret ex (.fsub, 3, a1, b1, q1) pc L S h = some (.inl (pc', L', S', h'))) (kk : h' = h → L' = L → W p l e R s m args below meth c H locs cells slots Q (F0 m pc' ls (S'.map (g_V (g_ad xs b))))) : W p l e R s m args below meth c H locs cells slots Q (F0 m pc ls (S.map (g_V (g_ad xs b)))) := by
  obtain ⟨hx, hb, hml, hown, -, -, hnm, -, hE, hM⟩ := C
  replace hm : (match S with
      | .int y :: .int x :: T => if mcat T ≤ 8 then mgo (pc + 3) L (.int (if y < x then y else x) :: T) h else none
      | _ => none) = some (.inl (pc', L', S', h')) := hm
  split at hm
  · rename_i y x T
    by_cases h8 : mcat T ≤ 8
    · rw [if_pos h8] at hm
      simp only [mgo, Option.some.injEq, Sum.inl.injEq, Prod.mk.injEq] at hm
      obtain ⟨rfl, rfl, rfl, rfl⟩ := hm
      exact va_mmin hx hb (by rw [hml, hL.1, hl]) hown (g_jl hM hE rfl hk) (g_jw hE _ j_min1 rfl) (g_jw hE _ j_math rfl) (g_jw hE _ j_min2 rfl) (by omega) (by rw [g_mcat]; omega) hs0.1 hs0.2 hd (kk rfl rfl)
    · rw [if_neg h8] at hm; cases hm
  · cases hm
theorem s_dsub {i : Nat} (C : g_C xs b aC D ex p s m meth c M) (hL : g_H (g_ad xs b) ls L) (hl : L.length = M.2.2.1) (hR : 5 ≤ R.frames ∧ 300 ≤ R.locals) (hs0 : cells ≤ R.cells ∧ slots ≤ R.slots) (hk : mpk M.2.2.2.2.1 q1 i 2 0 [11] = true) (hd : decode M.2.1 pc = .ok (.invokestatic i, 3)) (hm : mx ret ex (.dsub, 3, a1, b1, q1) pc L S h = some (.inl (pc', L', S', h'))) (kk : h' = h → L' = L → W p l e R s m args below meth c H locs cells slots Q (F0 m pc' ls (S'.map (g_V (g_ad xs b))))) : W p l e R s m args below meth c H locs cells slots Q (F0 m pc ls (S.map (g_V (g_ad xs b)))) := by
  obtain ⟨hx, hb, hml, hown, -, -, hnm, -, hE, hM⟩ := C
  replace hm : (match S with
      | .long y :: .long x :: T => if mcat T ≤ 8 then mgo (pc + 3) L (.long (if y < x then y else x) :: T) h else none
      | _ => none) = some (.inl (pc', L', S', h')) := hm
  split at hm
  · rename_i y x T
    by_cases h8 : mcat T ≤ 8
    · rw [if_pos h8] at hm
      simp only [mgo, Option.some.injEq, Sum.inl.injEq, Prod.mk.injEq] at hm
      obtain ⟨rfl, rfl, rfl, rfl⟩ := hm
      exact va_mmin_long hx hb (by rw [hml, hL.1, hl]) hown (g_jl hM hE rfl hk) (g_jw hE _ j_lmin1 rfl) (g_jw hE _ j_math rfl) (g_jw hE _ j_lmin2 rfl) (by omega) (by rw [g_mcat]; omega) hs0.1 hs0.2 hd (kk rfl rfl)
    · rw [if_neg h8] at hm; cases hm
  · cases hm
theorem s_dadd {i : Nat} (C : g_C xs b aC D ex p s m meth c M) (hk : mpk M.2.2.2.2.1 q1 i 0 0 [13] = true) (hd : decode M.2.1 pc = .ok (.ldc i, 2)) (hm : mx ret ex (.dadd, 2, a1, b1, q1) pc L S h = some (.inl (pc', L', S', h'))) (kk : h' = h → L' = L → W p l e R s m args below meth c H locs cells slots Q (F0 m pc' ls (S'.map (g_V (g_ad xs b))))) : W p l e R s m args below meth c H locs cells slots Q (F0 m pc ls (S.map (g_V (g_ad xs b)))) := by
  obtain ⟨hx, hb, hml, hown, -, -, hnm, -, hE, hM⟩ := C
  obtain ⟨k, q2, v, hp, hk⟩ := mpk_of hk
  obtain ⟨own, l2, ho, hok⟩ := mow_pg hp
  have eo := mow_own hM ho
  subst eo
  simp only [List.mem_cons, List.not_mem_nil, or_false] at hk
  subst hk
  simp only [okP, Bool.and_eq_true, decide_eq_true_eq] at hok
  obtain ⟨⟨e1, rfl⟩, -⟩ := hok
  replace hm : mgo (pc + 2) L (.ref 3 :: S) h = some (.inl (pc', L', S', h')) := hm
  simp only [mgo, Option.some.injEq, Sum.inl.injEq, Prod.mk.injEq] at hm
  obtain ⟨rfl, rfl, rfl, rfl⟩ := hm
  have kk := kk rfl rfl
  have e : g_V (g_ad xs b) (.ref 3) = .ref (xs 3) := congrArg Value.ref (s_adx (by decide))
  rw [List.map_cons, e] at kk
  rw [e1] at hown
  exact va_ldcS hx hb hown hE.2.2.2.2.2.2.1 hd kk
theorem s_fdiv {i : Nat} (C : g_C xs b aC D ex p s m meth c M) (hW : g_W xs b aC D h H) (hk : mpk M.2.2.2.2.1 q1 i 0 0 [12] = true) (hd : decode M.2.1 pc = .ok (.checkcast i, 3)) (hm : mx ret ex (.fdiv, 3, a1, b1, q1) pc L S h = some (.inl (pc', L', S', h'))) (kk : h' = h → L' = L → W p l e R s m args below meth c H locs cells slots Q (F0 m pc' ls (S'.map (g_V (g_ad xs b))))) : W p l e R s m args below meth c H locs cells slots Q (F0 m pc ls (S.map (g_V (g_ad xs b)))) := by
  obtain ⟨hx, hb, hml, hown, -, -, hnm, -, hE, hM⟩ := C
  obtain ⟨k, q2, v, hp, hk⟩ := mpk_of hk
  obtain ⟨own, l2, ho, hok⟩ := mow_pg hp
  have eo := mow_own hM ho
  subst eo
  simp only [List.mem_cons, List.not_mem_nil, or_false] at hk
  subst hk
  simp only [okP, decide_eq_true_eq] at hok
  replace hm : (match S with
      | .ref q :: T => (match mown h q with
          | some (.inl (0, _)) => mgo (pc + 3) L (.ref q :: T) h
          | _ => none)
      | _ => none) = some (.inl (pc', L', S', h')) := hm
  split at hm
  · rename_i q T
    split at hm
    · rename_i x hq
      simp only [mgo, Option.some.injEq, Sum.inl.injEq, Prod.mk.injEq] at hm
      obtain ⟨rfl, rfl, rfl, rfl⟩ := hm
      have hn : s.vm.findClass "[I" = some (aC 0) := s_aC hE (t := 0) rfl
      obtain ⟨n, f | f | f | f | f⟩ := x
      all_goals exact va_castA hx hb hown (hE.1 _ (mwd_in hok) rfl args) (x_one (g_at hW hq)) 0 rfl hn hd (kk rfl rfl)
    · cases hm
  · cases hm
theorem s_fmul {i : Nat} (C : g_C xs b aC D ex p s m meth c M) (hL : g_H (g_ad xs b) ls L) (hl : L.length = M.2.2.1) (hR : 5 ≤ R.frames ∧ 300 ≤ R.locals) (hW : g_W xs b aC D h H) (hS : va_S (g_A b) s.heap H locs) (hk : mpk M.2.2.2.2.1 q1 i 5 0 [11] = true) (hd : decode M.2.1 pc = .ok (.invokevirtual i, 3)) (hm : mx ret ex (.fmul, 3, a1, b1, q1) pc L S h = some (.inl (pc', L', S', h'))) (hc : cells + (h'.length - h.length) ≤ R.cells) (hs : slots + (mhs h' - mhs h) ≤ R.slots)
    (kk : ∀ (H1 : Heap) (locs1 : List Loc), g_W xs b aC D h' H1 → va_S (g_A b) s.heap H1 locs1 → L' = L → W p l e R s m args below meth c H1 locs1 (cells + (h'.length - h.length)) (slots + (mhs h' - mhs h)) Q (F0 m pc' ls (S'.map (g_V (g_ad xs b))))) : W p l e R s m args below meth c H locs cells slots Q (F0 m pc ls (S.map (g_V (g_ad xs b)))) := by
  obtain ⟨hx, hb, hml, hown, -, -, hnm, -, hE, hM⟩ := C
  replace hm : (match S with
      | .ref q :: T => (match mown h q with
          | some (.inl (0, (n, .inl f))) => if mcat T ≤ 8 then mgo (pc + 3) L (.ref (h.length + 4) :: T) (h ++ [.inl (0, (n, .inl f))]) else none
          | _ => none)
      | _ => none) = some (.inl (pc', L', S', h')) := hm
  split at hm
  · rename_i q T
    split at hm
    · rename_i n f hq
      by_cases h8 : mcat T ≤ 8
      · rw [if_pos h8] at hm
        simp only [mgo, Option.some.injEq, Sum.inl.injEq, Prod.mk.injEq] at hm
        obtain ⟨rfl, rfl, rfl, rfl⟩ := hm
        have hn : s.vm.findClass "[I" = some (aC 0) := s_aC hE (t := 0) rfl
        refine x_clone (D := D) (cl := vwCl) (ty := .int) (f := f) hx hb (by rw [hml, hL.1, hl]) hown (g_jl hM hE rfl hk) (g_jw hE _ j_cl1 rfl) (g_jw hE _ j_cl2 rfl) (g_jw hE _ j_cl3 rfl) (g_jw hE _ j_cl4 rfl) (hE.2.1 _ (mwd_in j_cl5) rfl) hE.2.2.2.1 hS 0 (g_at hW hq) (g_ty_at (t := 0) rfl) hn (fun i v hv => ?_) (by omega) (by rw [g_mcat]; omega) (s_growc (k := 1) rfl hc) (s_grows (n := n) (by simp [mhs, msz]) hs) hd (fun H1 hn1 => ?_)
        · have hv : (arrV (aC 0) n (fun j => .int (f j))).slots[i]? = some v := hv
          by_cases hi : i < n
          · rw [arrV_read _ _ hi] at hv
            cases hv
            rfl
          · rw [Array.getElem?_eq_none (by rw [arrV_size]; omega)] at hv
            cases hv
        · rw [g_ref hW]
          exact s_grow rfl (by simp [mhs, msz]) (kk H1 locs (g_push hW hn1) hn1.2.2.2 rfl)
      · rw [if_neg h8] at hm; cases hm
    · cases hm
  · cases hm
theorem s_frem {i : Nat} (C : g_C xs b aC D ex p s m meth c M) (hL : g_H (g_ad xs b) ls L) (hl : L.length = M.2.2.1) (hR : 5 ≤ R.frames ∧ 300 ≤ R.locals) (hW : g_W xs b aC D h H) (hS : va_S (g_A b) s.heap H locs) (hk : mpk M.2.2.2.2.1 q1 i 6 0 [11] = true) (hd : decode M.2.1 pc = .ok (.invokestatic i, 3)) (hm : mx ret ex (.frem, 3, a1, b1, q1) pc L S h = some (.inl (pc', L', S', h')))
    (kk : ∀ (H1 : Heap) (locs1 : List Loc), g_W xs b aC D h' H1 → va_S (g_A b) s.heap H1 locs1 → L' = L → W p l e R s m args below meth c H1 locs1 (cells + (h'.length - h.length)) (slots + (mhs h' - mhs h)) Q (F0 m pc' ls (S'.map (g_V (g_ad xs b))))) : W p l e R s m args below meth c H locs cells slots Q (F0 m pc ls (S.map (g_V (g_ad xs b)))) := by
  obtain ⟨hx, hb, hml, hown, -, -, hnm, -, hE, hM⟩ := C
  replace hm : (match S with
      | .int k :: .int dp :: .ref v :: .int sp :: .ref u :: T => (match mown h u, mown h v with
          | some (.inl (0, (n, .inl f))), some (.inl (0, (n1, .inl g))) => if ((¬ k < 0 ∧ ¬ dp < 0 ∧ ¬ sp < 0) ∧ u ≠ v) ∧ (sp.toNatClampNeg + k.toNatClampNeg ≤ n ∧ dp.toNatClampNeg + k.toNatClampNeg ≤ n1 ∧ mcat T ≤ 8) then
              mgo (pc + 3) L T (mput h v (.inl (0, (n1, .inl (va_cpy f g sp.toNatClampNeg dp.toNatClampNeg k.toNatClampNeg))))) else none
          | _, _ => none)
      | _ => none) = some (.inl (pc', L', S', h')) := hm
  split at hm
  · rename_i k dp v sp u T
    split at hm
    · rename_i n f n1 g hu hv
      by_cases h8 : ((¬ k < 0 ∧ ¬ dp < 0 ∧ ¬ sp < 0) ∧ u ≠ v) ∧ (sp.toNatClampNeg + k.toNatClampNeg ≤ n ∧ dp.toNatClampNeg + k.toNatClampNeg ≤ n1 ∧ mcat T ≤ 8)
      · rw [if_pos h8] at hm
        simp only [mgo, Option.some.injEq, Sum.inl.injEq, Prod.mk.injEq] at hm
        obtain ⟨rfl, rfl, rfl, rfl⟩ := hm
        obtain ⟨⟨⟨z1, z2, z3⟩, -⟩, z4, z5, z6⟩ := h8
        have hz := mhs_put hv (e := .inl (0, (n1, .inl (va_cpy f g sp.toNatClampNeg dp.toNatClampNeg k.toNatClampNeg)))) rfl
        have hA := g_Aq (xs := xs) (b := b) (g_own hv).1
        have hw : nativeFrameWords "java/lang/System" "arraycopy" 5 ≤ 200 := by decide
        exact x_copyi (D := D) (cl := vwCl) (f := f) (g := g) hx hb (by rw [hml, hL.1, hl]) hown (g_jl hM hE rfl hk) (g_jw hE _ j_ac2 rfl) (g_jw hE _ j_ac1 rfl) (g_jw hE _ j_sys rfl) hE.2.2.2.1 hA hS 0 (g_at hW hu) (g_at hW hv) (g_ty_at (t := 0) rfl) z3 z2 z1 z4 z5 (by omega) (by rw [g_mcat]; omega) hd (fun H1 locs1 hst => s_same hz.1 hz.2 (kk H1 locs1 (g_set hW hv hst) hst.2.2.2 rfl))
      · rw [if_neg h8] at hm; cases hm
    · cases hm
  · cases hm
end GJD
