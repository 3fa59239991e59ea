/-! ONE INSTRUCTION: what the small machine does, the real one does -/
section GST
variable {p : Program} {l : Launch} {e : Env} {R : Room} {s : State} {m : MethodId} {args : Array Value} {below : List Frame} {meth : Method} {c : Code} {H : Heap} {locs : List Loc} {cells slots : Nat} {Q : State → Prop}
variable {cc : ByteArray} {pc : Nat} {ls : Array Slot} {ret : Option FieldType} {ex : List mE} {a1 b1 q1 : Nat} {L : mL} {S : List Value} {h : List mE} {pc' : Nat} {L' : mL} {S' : List Value} {h' : List mE} {g : Nat → Nat}
theorem s_iadd (hx : p.tables.exec = Jvm.exec) (hb : c.code = cc) (hd : decode cc pc = .ok (.iadd, 1)) (hm : mx ret ex (.iadd, 1, a1, b1, q1) pc L S h = some (.inl (pc', L', S', h'))) (kk : h' = h → L' = L → W p l e R s m args below meth c H locs cells slots Q (F0 m pc' ls (S'.map (g_V g)))) : W p l e R s m args below meth c H locs cells slots Q (F0 m pc ls (S.map (g_V g))) := by
  replace hm : (match S with
    | .int y :: .int x :: T => mgo (pc + 1) L (.int (x + y) :: T) h
    | _ => none) = some (.inl (pc', L', S', h')) := hm
  split at hm
  · rename_i y x T
    simp only [mgo, Option.some.injEq, Sum.inl.injEq, Prod.mk.injEq] at hm
    obtain ⟨rfl, rfl, rfl, rfl⟩ := hm
    exact lv_iadd hx hb hd (kk rfl rfl)
  · cases hm
theorem s_isub (hx : p.tables.exec = Jvm.exec) (hb : c.code = cc) (hd : decode cc pc = .ok (.isub, 1)) (hm : mx ret ex (.isub, 1, a1, b1, q1) pc L S h = some (.inl (pc', L', S', h'))) (kk : h' = h → L' = L → W p l e R s m args below meth c H locs cells slots Q (F0 m pc' ls (S'.map (g_V g)))) : W p l e R s m args below meth c H locs cells slots Q (F0 m pc ls (S.map (g_V g))) := by
  replace hm : (match S with
    | .int y :: .int x :: T => mgo (pc + 1) L (.int (x - y) :: T) h
    | _ => none) = some (.inl (pc', L', S', h')) := hm
  split at hm
  · rename_i y x T
    simp only [mgo, Option.some.injEq, Sum.inl.injEq, Prod.mk.injEq] at hm
    obtain ⟨rfl, rfl, rfl, rfl⟩ := hm
    exact lv_isub hx hb hd (kk rfl rfl)
  · cases hm
theorem s_imul (hx : p.tables.exec = Jvm.exec) (hb : c.code = cc) (hd : decode cc pc = .ok (.imul, 1)) (hm : mx ret ex (.imul, 1, a1, b1, q1) pc L S h = some (.inl (pc', L', S', h'))) (kk : h' = h → L' = L → W p l e R s m args below meth c H locs cells slots Q (F0 m pc' ls (S'.map (g_V g)))) : W p l e R s m args below meth c H locs cells slots Q (F0 m pc ls (S.map (g_V g))) := by
  replace hm : (match S with
    | .int y :: .int x :: T => mgo (pc + 1) L (.int (x * y) :: T) h
    | _ => none) = some (.inl (pc', L', S', h')) := hm
  split at hm
  · rename_i y x T
    simp only [mgo, Option.some.injEq, Sum.inl.injEq, Prod.mk.injEq] at hm
    obtain ⟨rfl, rfl, rfl, rfl⟩ := hm
    exact lv_imul hx hb hd (kk rfl rfl)
  · cases hm
theorem s_iand (hx : p.tables.exec = Jvm.exec) (hb : c.code = cc) (hd : decode cc pc = .ok (.iand, 1)) (hm : mx ret ex (.iand, 1, a1, b1, q1) pc L S h = some (.inl (pc', L', S', h'))) (kk : h' = h → L' = L → W p l e R s m args below meth c H locs cells slots Q (F0 m pc' ls (S'.map (g_V g)))) : W p l e R s m args below meth c H locs cells slots Q (F0 m pc ls (S.map (g_V g))) := by
  replace hm : (match S with
    | .int y :: .int x :: T => mgo (pc + 1) L (.int (x &&& y) :: T) h
    | _ => none) = some (.inl (pc', L', S', h')) := hm
  split at hm
  · rename_i y x T
    simp only [mgo, Option.some.injEq, Sum.inl.injEq, Prod.mk.injEq] at hm
    obtain ⟨rfl, rfl, rfl, rfl⟩ := hm
    exact lv_iand hx hb hd (kk rfl rfl)
  · cases hm
theorem s_ior (hx : p.tables.exec = Jvm.exec) (hb : c.code = cc) (hd : decode cc pc = .ok (.ior, 1)) (hm : mx ret ex (.ior, 1, a1, b1, q1) pc L S h = some (.inl (pc', L', S', h'))) (kk : h' = h → L' = L → W p l e R s m args below meth c H locs cells slots Q (F0 m pc' ls (S'.map (g_V g)))) : W p l e R s m args below meth c H locs cells slots Q (F0 m pc ls (S.map (g_V g))) := by
  replace hm : (match S with
    | .int y :: .int x :: T => mgo (pc + 1) L (.int (x ||| y) :: T) h
    | _ => none) = some (.inl (pc', L', S', h')) := hm
  split at hm
  · rename_i y x T
    simp only [mgo, Option.some.injEq, Sum.inl.injEq, Prod.mk.injEq] at hm
    obtain ⟨rfl, rfl, rfl, rfl⟩ := hm
    exact lv_ior hx hb hd (kk rfl rfl)
  · cases hm
theorem s_ixor (hx : p.tables.exec = Jvm.exec) (hb : c.code = cc) (hd : decode cc pc = .ok (.ixor, 1)) (hm : mx ret ex (.ixor, 1, a1, b1, q1) pc L S h = some (.inl (pc', L', S', h'))) (kk : h' = h → L' = L → W p l e R s m args below meth c H locs cells slots Q (F0 m pc' ls (S'.map (g_V g)))) : W p l e R s m args below meth c H locs cells slots Q (F0 m pc ls (S.map (g_V g))) := by
  replace hm : (match S with
    | .int y :: .int x :: T => mgo (pc + 1) L (.int (x ^^^ y) :: T) h
    | _ => none) = some (.inl (pc', L', S', h')) := hm
  split at hm
  · rename_i y x T
    simp only [mgo, Option.some.injEq, Sum.inl.injEq, Prod.mk.injEq] at hm
    obtain ⟨rfl, rfl, rfl, rfl⟩ := hm
    exact lv_ixor hx hb hd (kk rfl rfl)
  · cases hm
theorem s_ishl (hx : p.tables.exec = Jvm.exec) (hb : c.code = cc) (hd : decode cc pc = .ok (.ishl, 1)) (hm : mx ret ex (.ishl, 1, a1, b1, q1) pc L S h = some (.inl (pc', L', S', h'))) (kk : h' = h → L' = L → W p l e R s m args below meth c H locs cells slots Q (F0 m pc' ls (S'.map (g_V g)))) : W p l e R s m args below meth c H locs cells slots Q (F0 m pc ls (S.map (g_V g))) := by
  replace hm : (match S with
    | .int y :: .int x :: T => mgo (pc + 1) L (.int (x <<< (y &&& 31)) :: T) h
    | _ => none) = some (.inl (pc', L', S', h')) := hm
  split at hm
  · rename_i y x T
    simp only [mgo, Option.some.injEq, Sum.inl.injEq, Prod.mk.injEq] at hm
    obtain ⟨rfl, rfl, rfl, rfl⟩ := hm
    exact lv_ishl hx hb hd (kk rfl rfl)
  · cases hm
theorem s_ishr (hx : p.tables.exec = Jvm.exec) (hb : c.code = cc) (hd : decode cc pc = .ok (.ishr, 1)) (hm : mx ret ex (.ishr, 1, a1, b1, q1) pc L S h = some (.inl (pc', L', S', h'))) (kk : h' = h → L' = L → W p l e R s m args below meth c H locs cells slots Q (F0 m pc' ls (S'.map (g_V g)))) : W p l e R s m args below meth c H locs cells slots Q (F0 m pc ls (S.map (g_V g))) := by
  replace hm : (match S with
    | .int y :: .int x :: T => mgo (pc + 1) L (.int (x >>> (y &&& 31)) :: T) h
    | _ => none) = some (.inl (pc', L', S', h')) := hm
  split at hm
  · rename_i y x T
    simp only [mgo, Option.some.injEq, Sum.inl.injEq, Prod.mk.injEq] at hm
    obtain ⟨rfl, rfl, rfl, rfl⟩ := hm
    exact lv_ishr hx hb hd (kk rfl rfl)
  · cases hm
theorem s_iushr (hx : p.tables.exec = Jvm.exec) (hb : c.code = cc) (hd : decode cc pc = .ok (.iushr, 1)) (hm : mx ret ex (.iushr, 1, a1, b1, q1) pc L S h = some (.inl (pc', L', S', h'))) (kk : h' = h → L' = L → W p l e R s m args below meth c H locs cells slots Q (F0 m pc' ls (S'.map (g_V g)))) : W p l e R s m args below meth c H locs cells slots Q (F0 m pc ls (S.map (g_V g))) := by
  replace hm : (match S with
    | .int y :: .int x :: T => mgo (pc + 1) L (.int ((x.toUInt32 >>> (y.toUInt32 &&& Int32.toUInt32 31)).toInt32) :: T) h
    | _ => none) = some (.inl (pc', L', S', h')) := hm
  split at hm
  · rename_i y x T
    simp only [mgo, Option.some.injEq, Sum.inl.injEq, Prod.mk.injEq] at hm
    obtain ⟨rfl, rfl, rfl, rfl⟩ := hm
    exact lv_iushr hx hb hd rfl (kk rfl rfl)
  · cases hm
theorem s_idiv (hx : p.tables.exec = Jvm.exec) (hb : c.code = cc) (hd : decode cc pc = .ok (.idiv, 1)) (hm : mx ret ex (.idiv, 1, a1, b1, q1) pc L S h = some (.inl (pc', L', S', h'))) (kk : h' = h → L' = L → W p l e R s m args below meth c H locs cells slots Q (F0 m pc' ls (S'.map (g_V g)))) : W p l e R s m args below meth c H locs cells slots Q (F0 m pc ls (S.map (g_V g))) := by
  replace hm : (match S with
    | .int y :: .int x :: T => if y = 0 then none else mgo (pc + 1) L (.int (x / y) :: T) h
    | _ => none) = some (.inl (pc', L', S', h')) := hm
  split at hm
  · rename_i y x T
    by_cases hy : y = 0
    · rw [if_pos hy] at hm; cases hm
    rw [if_neg hy] at hm
    simp only [mgo, Option.some.injEq, Sum.inl.injEq, Prod.mk.injEq] at hm
    obtain ⟨rfl, rfl, rfl, rfl⟩ := hm
    exact lv_idiv hx hb hd hy (kk rfl rfl)
  · cases hm
theorem s_irem (hx : p.tables.exec = Jvm.exec) (hb : c.code = cc) (hd : decode cc pc = .ok (.irem, 1)) (hm : mx ret ex (.irem, 1, a1, b1, q1) pc L S h = some (.inl (pc', L', S', h'))) (kk : h' = h → L' = L → W p l e R s m args below meth c H locs cells slots Q (F0 m pc' ls (S'.map (g_V g)))) : W p l e R s m args below meth c H locs cells slots Q (F0 m pc ls (S.map (g_V g))) := by
  replace hm : (match S with
    | .int y :: .int x :: T => if y = 0 then none else mgo (pc + 1) L (.int (x - x / y * y) :: T) h
    | _ => none) = some (.inl (pc', L', S', h')) := hm
  split at hm
  · rename_i y x T
    by_cases hy : y = 0
    · rw [if_pos hy] at hm; cases hm
    rw [if_neg hy] at hm
    simp only [mgo, Option.some.injEq, Sum.inl.injEq, Prod.mk.injEq] at hm
    obtain ⟨rfl, rfl, rfl, rfl⟩ := hm
    exact lv_irem hx hb hd hy (kk rfl rfl)
  · cases hm
theorem s_ldiv (hx : p.tables.exec = Jvm.exec) (hb : c.code = cc) (hd : decode cc pc = .ok (.ldiv, 1)) (hm : mx ret ex (.ldiv, 1, a1, b1, q1) pc L S h = some (.inl (pc', L', S', h'))) (kk : h' = h → L' = L → W p l e R s m args below meth c H locs cells slots Q (F0 m pc' ls (S'.map (g_V g)))) : W p l e R s m args below meth c H locs cells slots Q (F0 m pc ls (S.map (g_V g))) := by
  replace hm : (match S with
    | .long y :: .long x :: T => if y = 0 then none else mgo (pc + 1) L (.long (x / y) :: T) h
    | _ => none) = some (.inl (pc', L', S', h')) := hm
  split at hm
  · rename_i y x T
    by_cases hy : y = 0
    · rw [if_pos hy] at hm; cases hm
    rw [if_neg hy] at hm
    simp only [mgo, Option.some.injEq, Sum.inl.injEq, Prod.mk.injEq] at hm
    obtain ⟨rfl, rfl, rfl, rfl⟩ := hm
    exact lv_ldiv hx hb hd hy (kk rfl rfl)
  · cases hm
theorem s_lrem (hx : p.tables.exec = Jvm.exec) (hb : c.code = cc) (hd : decode cc pc = .ok (.lrem, 1)) (hm : mx ret ex (.lrem, 1, a1, b1, q1) pc L S h = some (.inl (pc', L', S', h'))) (kk : h' = h → L' = L → W p l e R s m args below meth c H locs cells slots Q (F0 m pc' ls (S'.map (g_V g)))) : W p l e R s m args below meth c H locs cells slots Q (F0 m pc ls (S.map (g_V g))) := by
  replace hm : (match S with
    | .long y :: .long x :: T => if y = 0 then none else mgo (pc + 1) L (.long (x - x / y * y) :: T) h
    | _ => none) = some (.inl (pc', L', S', h')) := hm
  split at hm
  · rename_i y x T
    by_cases hy : y = 0
    · rw [if_pos hy] at hm; cases hm
    rw [if_neg hy] at hm
    simp only [mgo, Option.some.injEq, Sum.inl.injEq, Prod.mk.injEq] at hm
    obtain ⟨rfl, rfl, rfl, rfl⟩ := hm
    exact lv_lrem hx hb hd hy (kk rfl rfl)
  · cases hm
theorem s_ladd (hx : p.tables.exec = Jvm.exec) (hb : c.code = cc) (hd : decode cc pc = .ok (.ladd, 1)) (hm : mx ret ex (.ladd, 1, a1, b1, q1) pc L S h = some (.inl (pc', L', S', h'))) (kk : h' = h → L' = L → W p l e R s m args below meth c H locs cells slots Q (F0 m pc' ls (S'.map (g_V g)))) : W p l e R s m args below meth c H locs cells slots Q (F0 m pc ls (S.map (g_V g))) := by
  replace hm : (match S with
    | .long y :: .long x :: T => mgo (pc + 1) L (.long (x + y) :: T) h
    | _ => none) = some (.inl (pc', L', S', h')) := hm
  split at hm
  · rename_i y x T
    simp only [mgo, Option.some.injEq, Sum.inl.injEq, Prod.mk.injEq] at hm
    obtain ⟨rfl, rfl, rfl, rfl⟩ := hm
    exact lv_ladd hx hb hd (kk rfl rfl)
  · cases hm
theorem s_lsub (hx : p.tables.exec = Jvm.exec) (hb : c.code = cc) (hd : decode cc pc = .ok (.lsub, 1)) (hm : mx ret ex (.lsub, 1, a1, b1, q1) pc L S h = some (.inl (pc', L', S', h'))) (kk : h' = h → L' = L → W p l e R s m args below meth c H locs cells slots Q (F0 m pc' ls (S'.map (g_V g)))) : W p l e R s m args below meth c H locs cells slots Q (F0 m pc ls (S.map (g_V g))) := by
  replace hm : (match S with
    | .long y :: .long x :: T => mgo (pc + 1) L (.long (x - y) :: T) h
    | _ => none) = some (.inl (pc', L', S', h')) := hm
  split at hm
  · rename_i y x T
    simp only [mgo, Option.some.injEq, Sum.inl.injEq, Prod.mk.injEq] at hm
    obtain ⟨rfl, rfl, rfl, rfl⟩ := hm
    exact lv_lsub hx hb hd (kk rfl rfl)
  · cases hm
theorem s_lmul (hx : p.tables.exec = Jvm.exec) (hb : c.code = cc) (hd : decode cc pc = .ok (.lmul, 1)) (hm : mx ret ex (.lmul, 1, a1, b1, q1) pc L S h = some (.inl (pc', L', S', h'))) (kk : h' = h → L' = L → W p l e R s m args below meth c H locs cells slots Q (F0 m pc' ls (S'.map (g_V g)))) : W p l e R s m args below meth c H locs cells slots Q (F0 m pc ls (S.map (g_V g))) := by
  replace hm : (match S with
    | .long y :: .long x :: T => mgo (pc + 1) L (.long (x * y) :: T) h
    | _ => none) = some (.inl (pc', L', S', h')) := hm
  split at hm
  · rename_i y x T
    simp only [mgo, Option.some.injEq, Sum.inl.injEq, Prod.mk.injEq] at hm
    obtain ⟨rfl, rfl, rfl, rfl⟩ := hm
    exact lv_lmul hx hb hd (kk rfl rfl)
  · cases hm
theorem s_lcmp (hx : p.tables.exec = Jvm.exec) (hb : c.code = cc) (hd : decode cc pc = .ok (.lcmp, 1)) (hm : mx ret ex (.lcmp, 1, a1, b1, q1) pc L S h = some (.inl (pc', L', S', h'))) (kk : h' = h → L' = L → W p l e R s m args below meth c H locs cells slots Q (F0 m pc' ls (S'.map (g_V g)))) : W p l e R s m args below meth c H locs cells slots Q (F0 m pc ls (S.map (g_V g))) := by
  replace hm : (match S with
    | .long y :: .long x :: T => mgo (pc + 1) L (.int (lg_cmp x y) :: T) h
    | _ => none) = some (.inl (pc', L', S', h')) := hm
  split at hm
  · rename_i y x T
    simp only [mgo, Option.some.injEq, Sum.inl.injEq, Prod.mk.injEq] at hm
    obtain ⟨rfl, rfl, rfl, rfl⟩ := hm
    exact W.lcmp hx hb hd (kk rfl rfl)
  · cases hm
theorem s_ineg (hx : p.tables.exec = Jvm.exec) (hb : c.code = cc) (hd : decode cc pc = .ok (.ineg, 1)) (hm : mx ret ex (.ineg, 1, a1, b1, q1) pc L S h = some (.inl (pc', L', S', h'))) (kk : h' = h → L' = L → W p l e R s m args below meth c H locs cells slots Q (F0 m pc' ls (S'.map (g_V g)))) : W p l e R s m args below meth c H locs cells slots Q (F0 m pc ls (S.map (g_V g))) := by
  replace hm : (match S with
    | .int x :: T => mgo (pc + 1) L (.int (-x) :: T) h
    | _ => none) = some (.inl (pc', L', S', h')) := hm
  split at hm
  · rename_i x T
    simp only [mgo, Option.some.injEq, Sum.inl.injEq, Prod.mk.injEq] at hm
    obtain ⟨rfl, rfl, rfl, rfl⟩ := hm
    exact lv_ineg hx hb hd (kk rfl rfl)
  · cases hm
theorem s_i2l (hx : p.tables.exec = Jvm.exec) (hb : c.code = cc) (hd : decode cc pc = .ok (.i2l, 1)) (hm : mx ret ex (.i2l, 1, a1, b1, q1) pc L S h = some (.inl (pc', L', S', h'))) (kk : h' = h → L' = L → W p l e R s m args below meth c H locs cells slots Q (F0 m pc' ls (S'.map (g_V g)))) : W p l e R s m args below meth c H locs cells slots Q (F0 m pc ls (S.map (g_V g))) := by
  replace hm : (match S with
    | .int x :: T => mgo (pc + 1) L (.long x.toInt64 :: T) h
    | _ => none) = some (.inl (pc', L', S', h')) := hm
  split at hm
  · rename_i x T
    simp only [mgo, Option.some.injEq, Sum.inl.injEq, Prod.mk.injEq] at hm
    obtain ⟨rfl, rfl, rfl, rfl⟩ := hm
    exact lv_i2l hx hb hd rfl (kk rfl rfl)
  · cases hm
theorem s_i2b (hx : p.tables.exec = Jvm.exec) (hb : c.code = cc) (hd : decode cc pc = .ok (.i2b, 1)) (hm : mx ret ex (.i2b, 1, a1, b1, q1) pc L S h = some (.inl (pc', L', S', h'))) (kk : h' = h → L' = L → W p l e R s m args below meth c H locs cells slots Q (F0 m pc' ls (S'.map (g_V g)))) : W p l e R s m args below meth c H locs cells slots Q (F0 m pc ls (S.map (g_V g))) := by
  replace hm : (match S with
    | .int x :: T => mgo (pc + 1) L (.int x.toInt8.toInt32 :: T) h
    | _ => none) = some (.inl (pc', L', S', h')) := hm
  split at hm
  · rename_i x T
    simp only [mgo, Option.some.injEq, Sum.inl.injEq, Prod.mk.injEq] at hm
    obtain ⟨rfl, rfl, rfl, rfl⟩ := hm
    exact lv_i2b hx hb hd rfl (kk rfl rfl)
  · cases hm
theorem s_l2i (hx : p.tables.exec = Jvm.exec) (hb : c.code = cc) (hd : decode cc pc = .ok (.l2i, 1)) (hm : mx ret ex (.l2i, 1, a1, b1, q1) pc L S h = some (.inl (pc', L', S', h'))) (kk : h' = h → L' = L → W p l e R s m args below meth c H locs cells slots Q (F0 m pc' ls (S'.map (g_V g)))) : W p l e R s m args below meth c H locs cells slots Q (F0 m pc ls (S.map (g_V g))) := by
  replace hm : (match S with
    | .long x :: T => mgo (pc + 1) L (.int x.toInt32 :: T) h
    | _ => none) = some (.inl (pc', L', S', h')) := hm
  split at hm
  · rename_i x T
    simp only [mgo, Option.some.injEq, Sum.inl.injEq, Prod.mk.injEq] at hm
    obtain ⟨rfl, rfl, rfl, rfl⟩ := hm
    exact lv_l2i hx hb hd rfl (kk rfl rfl)
  · cases hm
theorem s_pop (hx : p.tables.exec = Jvm.exec) (hb : c.code = cc) (hd : decode cc pc = .ok (.pop, 1)) (hm : mx ret ex (.pop, 1, a1, b1, q1) pc L S h = some (.inl (pc', L', S', h'))) (kk : h' = h → L' = L → W p l e R s m args below meth c H locs cells slots Q (F0 m pc' ls (S'.map (g_V g)))) : W p l e R s m args below meth c H locs cells slots Q (F0 m pc ls (S.map (g_V g))) := by
  replace hm : (match S with
    | v :: T => if v.category = 1 then mgo (pc + 1) L T h else none
    | _ => none) = some (.inl (pc', L', S', h')) := hm
  split at hm
  · rename_i v T
    by_cases hv : v.category = 1
    · rw [if_pos hv] at hm
      simp only [mgo, Option.some.injEq, Sum.inl.injEq, Prod.mk.injEq] at hm
      obtain ⟨rfl, rfl, rfl, rfl⟩ := hm
      exact lv_pop hx hb hd (by rw [g_cat]; exact hv) (kk rfl rfl)
    · rw [if_neg hv] at hm; cases hm
  · cases hm
theorem s_dup (hx : p.tables.exec = Jvm.exec) (hb : c.code = cc) (hd : decode cc pc = .ok (.dup, 1)) (hm : mx ret ex (.dup, 1, a1, b1, q1) pc L S h = some (.inl (pc', L', S', h'))) (kk : h' = h → L' = L → W p l e R s m args below meth c H locs cells slots Q (F0 m pc' ls (S'.map (g_V g)))) : W p l e R s m args below meth c H locs cells slots Q (F0 m pc ls (S.map (g_V g))) := by
  replace hm : (match S with
    | v :: T => if v.category = 1 then mgo (pc + 1) L (v :: v :: T) h else none
    | _ => none) = some (.inl (pc', L', S', h')) := hm
  split at hm
  · rename_i v T
    by_cases hv : v.category = 1
    · rw [if_pos hv] at hm
      simp only [mgo, Option.some.injEq, Sum.inl.injEq, Prod.mk.injEq] at hm
      obtain ⟨rfl, rfl, rfl, rfl⟩ := hm
      exact lv_dup hx hb hd (by rw [g_cat]; exact hv) (kk rfl rfl)
    · rw [if_neg hv] at hm; cases hm
  · cases hm
theorem s_dup_x1 (hx : p.tables.exec = Jvm.exec) (hb : c.code = cc) (hd : decode cc pc = .ok (.dup_x1, 1)) (hm : mx ret ex (.dup_x1, 1, a1, b1, q1) pc L S h = some (.inl (pc', L', S', h'))) (kk : h' = h → L' = L → W p l e R s m args below meth c H locs cells slots Q (F0 m pc' ls (S'.map (g_V g)))) : W p l e R s m args below meth c H locs cells slots Q (F0 m pc ls (S.map (g_V g))) := by
  replace hm : (match S with
    | v :: w :: T => if v.category = 1 ∧ w.category = 1 then mgo (pc + 1) L (v :: w :: v :: T) h else none
    | _ => none) = some (.inl (pc', L', S', h')) := hm
  split at hm
  · rename_i v w T
    by_cases hv : v.category = 1 ∧ w.category = 1
    · rw [if_pos hv] at hm
      simp only [mgo, Option.some.injEq, Sum.inl.injEq, Prod.mk.injEq] at hm
      obtain ⟨rfl, rfl, rfl, rfl⟩ := hm
      exact lv_dup_x1 hx hb hd (by rw [g_cat]; exact hv.1) (by rw [g_cat]; exact hv.2) (kk rfl rfl)
    · rw [if_neg hv] at hm; cases hm
  · cases hm
theorem s_dup2 (hx : p.tables.exec = Jvm.exec) (hb : c.code = cc) (hd : decode cc pc = .ok (.dup2, 1)) (hm : mx ret ex (.dup2, 1, a1, b1, q1) pc L S h = some (.inl (pc', L', S', h'))) (kk : h' = h → L' = L → W p l e R s m args below meth c H locs cells slots Q (F0 m pc' ls (S'.map (g_V g)))) : W p l e R s m args below meth c H locs cells slots Q (F0 m pc ls (S.map (g_V g))) := by
  replace hm : (match S with
    | v :: w :: T => if v.category = 1 ∧ w.category = 1 then mgo (pc + 1) L (v :: w :: v :: w :: T) h else none
    | _ => none) = some (.inl (pc', L', S', h')) := hm
  split at hm
  · rename_i v w T
    by_cases hv : v.category = 1 ∧ w.category = 1
    · rw [if_pos hv] at hm
      simp only [mgo, Option.some.injEq, Sum.inl.injEq, Prod.mk.injEq] at hm
      obtain ⟨rfl, rfl, rfl, rfl⟩ := hm
      exact lv_dup2_11 hx hb hd (by rw [g_cat]; exact hv.1) (by rw [g_cat]; exact hv.2) (kk rfl rfl)
    · rw [if_neg hv] at hm; cases hm
  · cases hm
theorem s_iconst {v : Int} (hx : p.tables.exec = Jvm.exec) (hb : c.code = cc) (hd : decode cc pc = .ok (.iconst v, 1)) (hm : mx ret ex (.iconst v, 1, a1, b1, q1) pc L S h = some (.inl (pc', L', S', h'))) (kk : h' = h → L' = L → W p l e R s m args below meth c H locs cells slots Q (F0 m pc' ls (S'.map (g_V g)))) : W p l e R s m args below meth c H locs cells slots Q (F0 m pc ls (S.map (g_V g))) := by
  replace hm : mgo (pc + 1) L (.int (Int32.ofInt v) :: S) h = some (.inl (pc', L', S', h')) := hm
  simp only [mgo, Option.some.injEq, Sum.inl.injEq, Prod.mk.injEq] at hm
  obtain ⟨rfl, rfl, rfl, rfl⟩ := hm
  exact lv_iconst hx hb hd rfl (kk rfl rfl)
theorem s_bipush {v : Int} (hx : p.tables.exec = Jvm.exec) (hb : c.code = cc) (hv : (Int8.ofInt v).toInt32 = Int32.ofInt v) (hd : decode cc pc = .ok (.bipush v, 2)) (hm : mx ret ex (.iconst v, 2, a1, b1, q1) pc L S h = some (.inl (pc', L', S', h'))) (kk : h' = h → L' = L → W p l e R s m args below meth c H locs cells slots Q (F0 m pc' ls (S'.map (g_V g)))) : W p l e R s m args below meth c H locs cells slots Q (F0 m pc ls (S.map (g_V g))) := by
  replace hm : mgo (pc + 2) L (.int (Int32.ofInt v) :: S) h = some (.inl (pc', L', S', h')) := hm
  simp only [mgo, Option.some.injEq, Sum.inl.injEq, Prod.mk.injEq] at hm
  obtain ⟨rfl, rfl, rfl, rfl⟩ := hm
  exact lv_bipush hx hb hd hv (kk rfl rfl)
theorem s_sipush {v : Int} (hx : p.tables.exec = Jvm.exec) (hb : c.code = cc) (hv : (Int16.ofInt v).toInt32 = Int32.ofInt v) (hd : decode cc pc = .ok (.sipush v, 3)) (hm : mx ret ex (.iconst v, 3, a1, b1, q1) pc L S h = some (.inl (pc', L', S', h'))) (kk : h' = h → L' = L → W p l e R s m args below meth c H locs cells slots Q (F0 m pc' ls (S'.map (g_V g)))) : W p l e R s m args below meth c H locs cells slots Q (F0 m pc ls (S.map (g_V g))) := by
  replace hm : mgo (pc + 3) L (.int (Int32.ofInt v) :: S) h = some (.inl (pc', L', S', h')) := hm
  simp only [mgo, Option.some.injEq, Sum.inl.injEq, Prod.mk.injEq] at hm
  obtain ⟨rfl, rfl, rfl, rfl⟩ := hm
  exact lv_sipush hx hb hd hv (kk rfl rfl)
theorem s_ldc {v : Int} {i : Nat} {own : String} (hx : p.tables.exec = Jvm.exec) (hb : c.code = cc) (hown : s.vm.findClass own = some m.cls) (hv : (Jvm.Cond.constant own i (Int32.ofInt v)).before args s = true) (hd : decode cc pc = .ok (.ldc i, 2)) (hm : mx ret ex (.iconst v, 2, a1, b1, q1) pc L S h = some (.inl (pc', L', S', h'))) (kk : h' = h → L' = L → W p l e R s m args below meth c H locs cells slots Q (F0 m pc' ls (S'.map (g_V g)))) : W p l e R s m args below meth c H locs cells slots Q (F0 m pc ls (S.map (g_V g))) := by
  replace hm : mgo (pc + 2) L (.int (Int32.ofInt v) :: S) h = some (.inl (pc', L', S', h')) := hm
  simp only [mgo, Option.some.injEq, Sum.inl.injEq, Prod.mk.injEq] at hm
  obtain ⟨rfl, rfl, rfl, rfl⟩ := hm
  exact lv_ldc hx hb hown hv hd (kk rfl rfl)
theorem s_ldc_w {v : Int} {i : Nat} {own : String} (hx : p.tables.exec = Jvm.exec) (hb : c.code = cc) (hown : s.vm.findClass own = some m.cls) (hv : (Jvm.Cond.constant own i (Int32.ofInt v)).before args s = true) (hd : decode cc pc = .ok (.ldc_w i, 3)) (hm : mx ret ex (.iconst v, 3, a1, b1, q1) pc L S h = some (.inl (pc', L', S', h'))) (kk : h' = h → L' = L → W p l e R s m args below meth c H locs cells slots Q (F0 m pc' ls (S'.map (g_V g)))) : W p l e R s m args below meth c H locs cells slots Q (F0 m pc ls (S.map (g_V g))) := by
  replace hm : mgo (pc + 3) L (.int (Int32.ofInt v) :: S) h = some (.inl (pc', L', S', h')) := hm
  simp only [mgo, Option.some.injEq, Sum.inl.injEq, Prod.mk.injEq] at hm
  obtain ⟨rfl, rfl, rfl, rfl⟩ := hm
  exact lv_ldcw hx hb hown hv hd (kk rfl rfl)
theorem s_lconst {v : Fin 2} (hx : p.tables.exec = Jvm.exec) (hb : c.code = cc) (hd : decode cc pc = .ok (.lconst v, 1)) (hm : mx ret ex (.jsr_w ((v : Nat) : Int), 1, a1, b1, q1) pc L S h = some (.inl (pc', L', S', h'))) (kk : h' = h → L' = L → W p l e R s m args below meth c H locs cells slots Q (F0 m pc' ls (S'.map (g_V g)))) : W p l e R s m args below meth c H locs cells slots Q (F0 m pc ls (S.map (g_V g))) := by
  replace hm : mgo (pc + 1) L (.long (Int64.ofInt ((v : Nat) : Int)) :: S) h = some (.inl (pc', L', S', h')) := hm
  simp only [mgo, Option.some.injEq, Sum.inl.injEq, Prod.mk.injEq] at hm
  obtain ⟨rfl, rfl, rfl, rfl⟩ := hm
  exact lv_lconst hx hb hd (by clear hd kk; revert v; decide) (kk rfl rfl)
theorem s_ldc2_w {v : Int} {i : Nat} {own : String} (hx : p.tables.exec = Jvm.exec) (hb : c.code = cc) (hown : s.vm.findClass own = some m.cls) (hv : (Jvm.Cond.constantLong own i (Int64.ofInt v)).before args s = true) (hd : decode cc pc = .ok (.ldc2_w i, 3)) (hm : mx ret ex (.jsr_w v, 3, a1, b1, q1) pc L S h = some (.inl (pc', L', S', h'))) (kk : h' = h → L' = L → W p l e R s m args below meth c H locs cells slots Q (F0 m pc' ls (S'.map (g_V g)))) : W p l e R s m args below meth c H locs cells slots Q (F0 m pc ls (S.map (g_V g))) := by
  replace hm : mgo (pc + 3) L (.long (Int64.ofInt v) :: S) h = some (.inl (pc', L', S', h')) := hm
  simp only [mgo, Option.some.injEq, Sum.inl.injEq, Prod.mk.injEq] at hm
  obtain ⟨rfl, rfl, rfl, rfl⟩ := hm
  exact lv_ldc2 hx hb hown hv hd (kk rfl rfl)
theorem s_aconst_null (hx : p.tables.exec = Jvm.exec) (hb : c.code = cc) (hd : decode cc pc = .ok (.aconst_null, 1)) (hm : mx ret ex (.aconst_null, 1, a1, b1, q1) pc L S h = some (.inl (pc', L', S', h'))) (kk : h' = h → L' = L → W p l e R s m args below meth c H locs cells slots Q (F0 m pc' ls (S'.map (g_V g)))) : W p l e R s m args below meth c H locs cells slots Q (F0 m pc ls (S.map (g_V g))) := by
  replace hm : mgo (pc + 1) L (.null :: S) h = some (.inl (pc', L', S', h')) := hm
  simp only [mgo, Option.some.injEq, Sum.inl.injEq, Prod.mk.injEq] at hm
  obtain ⟨rfl, rfl, rfl, rfl⟩ := hm
  exact lv_null hx hb hd (kk rfl rfl)
theorem s_iload_n {k : Fin 4} (hx : p.tables.exec = Jvm.exec) (hb : c.code = cc) (hL : g_H g ls L) (hd : decode cc pc = .ok (.iload_n k, 1)) (hm : mx ret ex (.iload (k : Nat), 1, a1, b1, q1) pc L S h = some (.inl (pc', L', S', h'))) (kk : h' = h → L' = L → W p l e R s m args below meth c H locs cells slots Q (F0 m pc' ls (S'.map (g_V g)))) : W p l e R s m args below meth c H locs cells slots Q (F0 m pc ls (S.map (g_V g))) := by
  replace hm : (match lget L (k : Nat) with
    | some (.int x) => mgo (pc + 1) L (.int x :: S) h
    | _ => none) = some (.inl (pc', L', S', h')) := hm
  split at hm
  · rename_i x hl
    simp only [mgo, Option.some.injEq, Sum.inl.injEq, Prod.mk.injEq] at hm
    obtain ⟨rfl, rfl, rfl, rfl⟩ := hm
    exact lv_iload_n hx hb hd rfl (g_rd hL hl) (kk rfl rfl)
  · cases hm
theorem s_iload {k : Nat} (hx : p.tables.exec = Jvm.exec) (hb : c.code = cc) (hL : g_H g ls L) (hd : decode cc pc = .ok (.iload k, 2)) (hm : mx ret ex (.iload k, 2, a1, b1, q1) pc L S h = some (.inl (pc', L', S', h'))) (kk : h' = h → L' = L → W p l e R s m args below meth c H locs cells slots Q (F0 m pc' ls (S'.map (g_V g)))) : W p l e R s m args below meth c H locs cells slots Q (F0 m pc ls (S.map (g_V g))) := by
  replace hm : (match lget L k with
    | some (.int x) => mgo (pc + 2) L (.int x :: S) h
    | _ => none) = some (.inl (pc', L', S', h')) := hm
  split at hm
  · rename_i x hl
    simp only [mgo, Option.some.injEq, Sum.inl.injEq, Prod.mk.injEq] at hm
    obtain ⟨rfl, rfl, rfl, rfl⟩ := hm
    exact lv_iload hx hb hd (g_rd hL hl) (kk rfl rfl)
  · cases hm
theorem s_lload_n {k : Fin 4} (hx : p.tables.exec = Jvm.exec) (hb : c.code = cc) (hL : g_H g ls L) (hd : decode cc pc = .ok (.lload_n k, 1)) (hm : mx ret ex (.lload (k : Nat), 1, a1, b1, q1) pc L S h = some (.inl (pc', L', S', h'))) (kk : h' = h → L' = L → W p l e R s m args below meth c H locs cells slots Q (F0 m pc' ls (S'.map (g_V g)))) : W p l e R s m args below meth c H locs cells slots Q (F0 m pc ls (S.map (g_V g))) := by
  replace hm : (match lget L (k : Nat) with
    | some (.long x) => mgo (pc + 1) L (.long x :: S) h
    | _ => none) = some (.inl (pc', L', S', h')) := hm
  split at hm
  · rename_i x hl
    simp only [mgo, Option.some.injEq, Sum.inl.injEq, Prod.mk.injEq] at hm
    obtain ⟨rfl, rfl, rfl, rfl⟩ := hm
    exact lv_lload_n hx hb hd rfl (g_rd hL hl) (kk rfl rfl)
  · cases hm
theorem s_lload {k : Nat} (hx : p.tables.exec = Jvm.exec) (hb : c.code = cc) (hL : g_H g ls L) (hd : decode cc pc = .ok (.lload k, 2)) (hm : mx ret ex (.lload k, 2, a1, b1, q1) pc L S h = some (.inl (pc', L', S', h'))) (kk : h' = h → L' = L → W p l e R s m args below meth c H locs cells slots Q (F0 m pc' ls (S'.map (g_V g)))) : W p l e R s m args below meth c H locs cells slots Q (F0 m pc ls (S.map (g_V g))) := by
  replace hm : (match lget L k with
    | some (.long x) => mgo (pc + 2) L (.long x :: S) h
    | _ => none) = some (.inl (pc', L', S', h')) := hm
  split at hm
  · rename_i x hl
    simp only [mgo, Option.some.injEq, Sum.inl.injEq, Prod.mk.injEq] at hm
    obtain ⟨rfl, rfl, rfl, rfl⟩ := hm
    exact lv_lload hx hb hd (g_rd hL hl) (kk rfl rfl)
  · cases hm
theorem s_aload_n {k : Fin 4} (hx : p.tables.exec = Jvm.exec) (hb : c.code = cc) (hL : g_H g ls L) (hd : decode cc pc = .ok (.aload_n k, 1)) (hm : mx ret ex (.aload (k : Nat), 1, a1, b1, q1) pc L S h = some (.inl (pc', L', S', h'))) (kk : h' = h → L' = L → W p l e R s m args below meth c H locs cells slots Q (F0 m pc' ls (S'.map (g_V g)))) : W p l e R s m args below meth c H locs cells slots Q (F0 m pc ls (S.map (g_V g))) := by
  replace hm : (match lget L (k : Nat) with
    | some (.ref x) => mgo (pc + 1) L (.ref x :: S) h
    | some .null => mgo (pc + 1) L (.null :: S) h
    | _ => none) = some (.inl (pc', L', S', h')) := hm
  split at hm
  · rename_i x hl
    simp only [mgo, Option.some.injEq, Sum.inl.injEq, Prod.mk.injEq] at hm
    obtain ⟨rfl, rfl, rfl, rfl⟩ := hm
    exact lv_aload_n hx hb hd rfl (g_rd hL hl) (kk rfl rfl)
  · rename_i hl
    simp only [mgo, Option.some.injEq, Sum.inl.injEq, Prod.mk.injEq] at hm
    obtain ⟨rfl, rfl, rfl, rfl⟩ := hm
    exact lv_aload_nN hx hb hd rfl (g_rd hL hl) (kk rfl rfl)
  · cases hm
theorem s_aload {k : Nat} (hx : p.tables.exec = Jvm.exec) (hb : c.code = cc) (hL : g_H g ls L) (hd : decode cc pc = .ok (.aload k, 2)) (hm : mx ret ex (.aload k, 2, a1, b1, q1) pc L S h = some (.inl (pc', L', S', h'))) (kk : h' = h → L' = L → W p l e R s m args below meth c H locs cells slots Q (F0 m pc' ls (S'.map (g_V g)))) : W p l e R s m args below meth c H locs cells slots Q (F0 m pc ls (S.map (g_V g))) := by
  replace hm : (match lget L k with
    | some (.ref x) => mgo (pc + 2) L (.ref x :: S) h
    | some .null => mgo (pc + 2) L (.null :: S) h
    | _ => none) = some (.inl (pc', L', S', h')) := hm
  split at hm
  · rename_i x hl
    simp only [mgo, Option.some.injEq, Sum.inl.injEq, Prod.mk.injEq] at hm
    obtain ⟨rfl, rfl, rfl, rfl⟩ := hm
    exact lv_aload hx hb hd (g_rd hL hl) (kk rfl rfl)
  · rename_i hl
    simp only [mgo, Option.some.injEq, Sum.inl.injEq, Prod.mk.injEq] at hm
    obtain ⟨rfl, rfl, rfl, rfl⟩ := hm
    exact lv_aloadN hx hb hd (g_rd hL hl) (kk rfl rfl)
  · cases hm
theorem s_istore_n {k : Fin 4} (hx : p.tables.exec = Jvm.exec) (hb : c.code = cc) (hL : g_H g ls L) (hd : decode cc pc = .ok (.istore_n k, 1)) (hm : mx ret ex (.istore (k : Nat), 1, a1, b1, q1) pc L S h = some (.inl (pc', L', S', h'))) (kk : ∀ ls1 : Array Slot, h' = h → L'.length = L.length → g_H g ls1 L' → W p l e R s m args below meth c H locs cells slots Q (F0 m pc' ls1 (S'.map (g_V g)))) : W p l e R s m args below meth c H locs cells slots Q (F0 m pc ls (S.map (g_V g))) := by
  replace hm : (match S with
    | .int x :: T => if (k : Nat) < L.length then mgo (pc + 1) (lset1 L (k : Nat) (.int x)) T h else none
    | _ => none) = some (.inl (pc', L', S', h')) := hm
  split at hm
  · rename_i x T
    by_cases hi : (k : Nat) < L.length
    · rw [if_pos hi] at hm
      simp only [mgo, Option.some.injEq, Sum.inl.injEq, Prod.mk.injEq] at hm
      obtain ⟨rfl, rfl, rfl, rfl⟩ := hm
      exact lv_istore_n hx hb hd rfl hL hi rfl (fun ls1 h1 => kk ls1 rfl (lset1_len _ _ _) (g_st1 h1))
    · rw [if_neg hi] at hm; cases hm
  · cases hm
theorem s_istore {k : Nat} (hx : p.tables.exec = Jvm.exec) (hb : c.code = cc) (hL : g_H g ls L) (hd : decode cc pc = .ok (.istore k, 2)) (hm : mx ret ex (.istore k, 2, a1, b1, q1) pc L S h = some (.inl (pc', L', S', h'))) (kk : ∀ ls1 : Array Slot, h' = h → L'.length = L.length → g_H g ls1 L' → W p l e R s m args below meth c H locs cells slots Q (F0 m pc' ls1 (S'.map (g_V g)))) : W p l e R s m args below meth c H locs cells slots Q (F0 m pc ls (S.map (g_V g))) := by
  replace hm : (match S with
    | .int x :: T => if k < L.length then mgo (pc + 2) (lset1 L k (.int x)) T h else none
    | _ => none) = some (.inl (pc', L', S', h')) := hm
  split at hm
  · rename_i x T
    by_cases hi : k < L.length
    · rw [if_pos hi] at hm
      simp only [mgo, Option.some.injEq, Sum.inl.injEq, Prod.mk.injEq] at hm
      obtain ⟨rfl, rfl, rfl, rfl⟩ := hm
      exact lv_istore hx hb hd hL hi rfl (fun ls1 h1 => kk ls1 rfl (lset1_len _ _ _) (g_st1 h1))
    · rw [if_neg hi] at hm; cases hm
  · cases hm
theorem s_lstore_n {k : Fin 4} (hx : p.tables.exec = Jvm.exec) (hb : c.code = cc) (hL : g_H g ls L) (hd : decode cc pc = .ok (.lstore_n k, 1)) (hm : mx ret ex (.lstore (k : Nat), 1, a1, b1, q1) pc L S h = some (.inl (pc', L', S', h'))) (kk : ∀ ls1 : Array Slot, h' = h → L'.length = L.length → g_H g ls1 L' → W p l e R s m args below meth c H locs cells slots Q (F0 m pc' ls1 (S'.map (g_V g)))) : W p l e R s m args below meth c H locs cells slots Q (F0 m pc ls (S.map (g_V g))) := by
  replace hm : (match S with
    | .long x :: T => if (k : Nat) + 1 < L.length then mgo (pc + 1) (lset2 L (k : Nat) (.long x)) T h else none
    | _ => none) = some (.inl (pc', L', S', h')) := hm
  split at hm
  · rename_i x T
    by_cases hi : (k : Nat) + 1 < L.length
    · rw [if_pos hi] at hm
      simp only [mgo, Option.some.injEq, Sum.inl.injEq, Prod.mk.injEq] at hm
      obtain ⟨rfl, rfl, rfl, rfl⟩ := hm
      exact lv_lstore_n hx hb hd rfl hL hi rfl (fun ls1 h1 => kk ls1 rfl (lset2_len _ _ _) (g_st2 h1))
    · rw [if_neg hi] at hm; cases hm
  · cases hm
theorem s_lstore {k : Nat} (hx : p.tables.exec = Jvm.exec) (hb : c.code = cc) (hL : g_H g ls L) (hd : decode cc pc = .ok (.lstore k, 2)) (hm : mx ret ex (.lstore k, 2, a1, b1, q1) pc L S h = some (.inl (pc', L', S', h'))) (kk : ∀ ls1 : Array Slot, h' = h → L'.length = L.length → g_H g ls1 L' → W p l e R s m args below meth c H locs cells slots Q (F0 m pc' ls1 (S'.map (g_V g)))) : W p l e R s m args below meth c H locs cells slots Q (F0 m pc ls (S.map (g_V g))) := by
  replace hm : (match S with
    | .long x :: T => if k + 1 < L.length then mgo (pc + 2) (lset2 L k (.long x)) T h else none
    | _ => none) = some (.inl (pc', L', S', h')) := hm
  split at hm
  · rename_i x T
    by_cases hi : k + 1 < L.length
    · rw [if_pos hi] at hm
      simp only [mgo, Option.some.injEq, Sum.inl.injEq, Prod.mk.injEq] at hm
      obtain ⟨rfl, rfl, rfl, rfl⟩ := hm
      exact lv_lstore hx hb hd hL hi rfl (fun ls1 h1 => kk ls1 rfl (lset2_len _ _ _) (g_st2 h1))
    · rw [if_neg hi] at hm; cases hm
  · cases hm
theorem s_astore_n {k : Fin 4} (hx : p.tables.exec = Jvm.exec) (hb : c.code = cc) (hL : g_H g ls L) (hd : decode cc pc = .ok (.astore_n k, 1)) (hm : mx ret ex (.astore (k : Nat), 1, a1, b1, q1) pc L S h = some (.inl (pc', L', S', h'))) (kk : ∀ ls1 : Array Slot, h' = h → L'.length = L.length → g_H g ls1 L' → W p l e R s m args below meth c H locs cells slots Q (F0 m pc' ls1 (S'.map (g_V g)))) : W p l e R s m args below meth c H locs cells slots Q (F0 m pc ls (S.map (g_V g))) := by
  replace hm : (match S with
    | .ref x :: T => if (k : Nat) < L.length then mgo (pc + 1) (lset1 L (k : Nat) (.ref x)) T h else none
    | .null :: T => if (k : Nat) < L.length then mgo (pc + 1) (lset1 L (k : Nat) .null) T h else none
    | _ => none) = some (.inl (pc', L', S', h')) := hm
  split at hm
  · rename_i x T
    by_cases hi : (k : Nat) < L.length
    · rw [if_pos hi] at hm
      simp only [mgo, Option.some.injEq, Sum.inl.injEq, Prod.mk.injEq] at hm
      obtain ⟨rfl, rfl, rfl, rfl⟩ := hm
      exact lv_astore_n hx hb hd rfl hL hi rfl (fun ls1 h1 => kk ls1 rfl (lset1_len _ _ _) (g_st1 h1))
    · rw [if_neg hi] at hm; cases hm
  · rename_i T
    by_cases hi : (k : Nat) < L.length
    · rw [if_pos hi] at hm
      simp only [mgo, Option.some.injEq, Sum.inl.injEq, Prod.mk.injEq] at hm
      obtain ⟨rfl, rfl, rfl, rfl⟩ := hm
      exact lv_astore_nN hx hb hd rfl hL hi rfl (fun ls1 h1 => kk ls1 rfl (lset1_len _ _ _) (g_st1 h1))
    · rw [if_neg hi] at hm; cases hm
  · cases hm
theorem s_astore {k : Nat} (hx : p.tables.exec = Jvm.exec) (hb : c.code = cc) (hL : g_H g ls L) (hd : decode cc pc = .ok (.astore k, 2)) (hm : mx ret ex (.astore k, 2, a1, b1, q1) pc L S h = some (.inl (pc', L', S', h'))) (kk : ∀ ls1 : Array Slot, h' = h → L'.length = L.length → g_H g ls1 L' → W p l e R s m args below meth c H locs cells slots Q (F0 m pc' ls1 (S'.map (g_V g)))) : W p l e R s m args below meth c H locs cells slots Q (F0 m pc ls (S.map (g_V g))) := by
  replace hm : (match S with
    | .ref x :: T => if k < L.length then mgo (pc + 2) (lset1 L k (.ref x)) T h else none
    | .null :: T => if k < L.length then mgo (pc + 2) (lset1 L k .null) T h else none
    | _ => none) = some (.inl (pc', L', S', h')) := hm
  split at hm
  · rename_i x T
    by_cases hi : k < L.length
    · rw [if_pos hi] at hm
      simp only [mgo, Option.some.injEq, Sum.inl.injEq, Prod.mk.injEq] at hm
      obtain ⟨rfl, rfl, rfl, rfl⟩ := hm
      exact lv_astore hx hb hd hL hi rfl (fun ls1 h1 => kk ls1 rfl (lset1_len _ _ _) (g_st1 h1))
    · rw [if_neg hi] at hm; cases hm
  · rename_i T
    by_cases hi : k < L.length
    · rw [if_pos hi] at hm
      simp only [mgo, Option.some.injEq, Sum.inl.injEq, Prod.mk.injEq] at hm
      obtain ⟨rfl, rfl, rfl, rfl⟩ := hm
      exact lv_astoreN hx hb hd hL hi rfl (fun ls1 h1 => kk ls1 rfl (lset1_len _ _ _) (g_st1 h1))
    · rw [if_neg hi] at hm; cases hm
  · cases hm
theorem s_iinc {i : Nat} {n : Int} (hx : p.tables.exec = Jvm.exec) (hb : c.code = cc) (hL : g_H g ls L) (hd : decode cc pc = .ok (.iinc i n, 3)) (hm : mx ret ex (.iinc i n, 3, a1, b1, q1) pc L S h = some (.inl (pc', L', S', h'))) (kk : ∀ ls1 : Array Slot, h' = h → L'.length = L.length → g_H g ls1 L' → W p l e R s m args below meth c H locs cells slots Q (F0 m pc' ls1 (S'.map (g_V g)))) : W p l e R s m args below meth c H locs cells slots Q (F0 m pc ls (S.map (g_V g))) := by
  replace hm : (match lget L i with
    | some (.int x) => if i < L.length then mgo (pc + 3) (lset1 L i (.int (x + Int32.ofInt n))) S h else none
    | _ => none) = some (.inl (pc', L', S', h')) := hm
  split at hm
  · rename_i x hl
    by_cases hi : i < L.length
    · rw [if_pos hi] at hm
      simp only [mgo, Option.some.injEq, Sum.inl.injEq, Prod.mk.injEq] at hm
      obtain ⟨rfl, rfl, rfl, rfl⟩ := hm
      obtain ⟨k, hk⟩ := List.getElem?_of_mem (g_L_mem (g := g) (q := (i, .int x)).mpr ⟨.int x, g_lget hl, rfl⟩)
      exact lv_iinc hx hb hd hL hk rfl hi rfl (fun ls1 h1 => kk ls1 rfl (lset1_len _ _ _) (g_st1 h1))
    · rw [if_neg hi] at hm; cases hm
  · cases hm
theorem s_jmp {pc : Nat} {off : Int} (h : 0 ≤ (pc : Int) + off) : (pc : Int) + off = (mjmp pc off : Int) := (Int.toNat_of_nonneg h).symm
theorem s_goto {off : Int} (hx : p.tables.exec = Jvm.exec) (hb : c.code = cc) (hj : 0 ≤ (pc : Int) + off) (hd : decode cc pc = .ok (.goto off, 3)) (hm : mx ret ex (.goto off, 3, a1, b1, q1) pc L S h = some (.inl (pc', L', S', h'))) (kk : h' = h → L' = L → W p l e R s m args below meth c H locs cells slots Q (F0 m pc' ls (S'.map (g_V g)))) : W p l e R s m args below meth c H locs cells slots Q (F0 m pc ls (S.map (g_V g))) := by
  replace hm : mgo (mjmp pc off) L S h = some (.inl (pc', L', S', h')) := hm
  simp only [mgo, Option.some.injEq, Sum.inl.injEq, Prod.mk.injEq] at hm
  obtain ⟨rfl, rfl, rfl, rfl⟩ := hm
  exact lv_goto hx hb hd (s_jmp hj) (kk rfl rfl)
theorem s_ifCond {cn : ClassFile.Cond} {off : Int} (hx : p.tables.exec = Jvm.exec) (hb : c.code = cc) (hj : 0 ≤ (pc : Int) + off) (hd : decode cc pc = .ok (.ifCond cn off, 3)) (hm : mx ret ex (.ifCond cn off, 3, a1, b1, q1) pc L S h = some (.inl (pc', L', S', h'))) (kk : h' = h → L' = L → W p l e R s m args below meth c H locs cells slots Q (F0 m pc' ls (S'.map (g_V g)))) : W p l e R s m args below meth c H locs cells slots Q (F0 m pc ls (S.map (g_V g))) := by
  replace hm : (match S with
    | .int x :: T => mgo (if mcmp cn x 0 then mjmp pc off else pc + 3) L T h
    | _ => none) = some (.inl (pc', L', S', h')) := hm
  split at hm
  · rename_i x T
    simp only [mgo, Option.some.injEq, Sum.inl.injEq, Prod.mk.injEq] at hm
    obtain ⟨rfl, rfl, rfl, rfl⟩ := hm
    cases cn with
    | eq =>
      refine lv_if_eq hx hb hd (s_jmp hj) (fun z => ?_) (fun z => ?_)
      · have e : mcmp .eq x 0 = true := decide_eq_true z
        rw [e] at kk; exact kk rfl rfl
      · have e : mcmp .eq x 0 = false := decide_eq_false z
        rw [e] at kk; exact kk rfl rfl
    | ne =>
      refine lv_if_ne hx hb hd (s_jmp hj) (fun z => ?_) (fun z => ?_)
      · have e : mcmp .ne x 0 = true := by simp [mcmp, z]
        rw [e] at kk; exact kk rfl rfl
      · have e : mcmp .ne x 0 = false := by simp [mcmp, z]
        rw [e] at kk; exact kk rfl rfl
    | lt =>
      refine lv_if_lt hx hb hd (s_jmp hj) (fun z => ?_) (fun z => ?_)
      · have e : mcmp .lt x 0 = true := decide_eq_true z
        rw [e] at kk; exact kk rfl rfl
      · have e : mcmp .lt x 0 = false := decide_eq_false z
        rw [e] at kk; exact kk rfl rfl
    | ge =>
      refine lv_if_ge hx hb hd (s_jmp hj) (fun z => ?_) (fun z => ?_)
      · have e : mcmp .ge x 0 = true := decide_eq_true z
        rw [e] at kk; exact kk rfl rfl
      · have e : mcmp .ge x 0 = false := decide_eq_false z
        rw [e] at kk; exact kk rfl rfl
    | gt =>
      refine lv_if_gt hx hb hd (s_jmp hj) (fun z => ?_) (fun z => ?_)
      · have e : mcmp .gt x 0 = true := decide_eq_true z
        rw [e] at kk; exact kk rfl rfl
      · have e : mcmp .gt x 0 = false := decide_eq_false z
        rw [e] at kk; exact kk rfl rfl
    | le =>
      refine lv_if_le hx hb hd (s_jmp hj) (fun z => ?_) (fun z => ?_)
      · have e : mcmp .le x 0 = true := decide_eq_true z
        rw [e] at kk; exact kk rfl rfl
      · have e : mcmp .le x 0 = false := decide_eq_false z
        rw [e] at kk; exact kk rfl rfl
  · cases hm
theorem s_if_icmp {cn : ClassFile.Cond} {off : Int} (hx : p.tables.exec = Jvm.exec) (hb : c.code = cc) (hj : 0 ≤ (pc : Int) + off) (hd : decode cc pc = .ok (.if_icmp cn off, 3)) (hm : mx ret ex (.if_icmp cn off, 3, a1, b1, q1) pc L S h = some (.inl (pc', L', S', h'))) (kk : h' = h → L' = L → W p l e R s m args below meth c H locs cells slots Q (F0 m pc' ls (S'.map (g_V g)))) : W p l e R s m args below meth c H locs cells slots Q (F0 m pc ls (S.map (g_V g))) := by
  replace hm : (match S with
    | .int y :: .int x :: T => mgo (if mcmp cn x y then mjmp pc off else pc + 3) L T h
    | _ => none) = some (.inl (pc', L', S', h')) := hm
  split at hm
  · rename_i y x T
    simp only [mgo, Option.some.injEq, Sum.inl.injEq, Prod.mk.injEq] at hm
    obtain ⟨rfl, rfl, rfl, rfl⟩ := hm
    cases cn with
    | eq =>
      refine lv_icmp_eq hx hb hd (s_jmp hj) (fun z => ?_) (fun z => ?_)
      · have e : mcmp .eq x y = true := decide_eq_true z
        rw [e] at kk; exact kk rfl rfl
      · have e : mcmp .eq x y = false := decide_eq_false z
        rw [e] at kk; exact kk rfl rfl
    | ne =>
      refine lv_icmp_ne hx hb hd (s_jmp hj) (fun z => ?_) (fun z => ?_)
      · have e : mcmp .ne x y = true := by simp [mcmp, z]
        rw [e] at kk; exact kk rfl rfl
      · have e : mcmp .ne x y = false := by simp [mcmp, z]
        rw [e] at kk; exact kk rfl rfl
    | lt =>
      refine lv_icmp_lt hx hb hd (s_jmp hj) (fun z => ?_) (fun z => ?_)
      · have e : mcmp .lt x y = true := decide_eq_true z
        rw [e] at kk; exact kk rfl rfl
      · have e : mcmp .lt x y = false := decide_eq_false z
        rw [e] at kk; exact kk rfl rfl
    | ge =>
      refine lv_icmp_ge hx hb hd (s_jmp hj) (fun z => ?_) (fun z => ?_)
      · have e : mcmp .ge x y = true := decide_eq_true z
        rw [e] at kk; exact kk rfl rfl
      · have e : mcmp .ge x y = false := decide_eq_false z
        rw [e] at kk; exact kk rfl rfl
    | gt =>
      refine lv_icmp_gt hx hb hd (s_jmp hj) (fun z => ?_) (fun z => ?_)
      · have e : mcmp .gt x y = true := decide_eq_true z
        rw [e] at kk; exact kk rfl rfl
      · have e : mcmp .gt x y = false := decide_eq_false z
        rw [e] at kk; exact kk rfl rfl
    | le =>
      refine lv_icmp_le hx hb hd (s_jmp hj) (fun z => ?_) (fun z => ?_)
      · have e : mcmp .le x y = true := decide_eq_true z
        rw [e] at kk; exact kk rfl rfl
      · have e : mcmp .le x y = false := decide_eq_false z
        rw [e] at kk; exact kk rfl rfl
  · cases hm
end GST
