/-! ONE INSTRUCTION, on: references, switches, cells -/
theorem x_vt (v : Int32) (h : v = 0 ∨ v = 1) : narrow .boolean (.int v) = .int v := by
  rcases h with rfl | rfl <;> decide
theorem x_nar (v : Int32) (h : v = 0 ∨ v = 1) : vp_nar .boolean v = v := by
  rcases h with rfl | rfl <;> decide
theorem x_fit {ty : FieldType} {v : Value} {g : Nat → Nat} (h : mfit ty v = true) : narrow ty (g_V g v) = g_V g v ∧ fits ty (g_V g v) = true := by
  unfold mfit at h
  split at h
  · exact ⟨rfl, rfl⟩
  · exact ⟨rfl, rfl⟩
  · rename_i x
    simp only [Bool.or_eq_true, decide_eq_true_eq] at h
    exact ⟨x_vt x h, by rcases h with rfl | rfl <;> rfl⟩
  · exact ⟨rfl, rfl⟩
  · exact ⟨rfl, rfl⟩
  · exact ⟨rfl, rfl⟩
  · exact ⟨rfl, rfl⟩
  · cases h
theorem s_ad_inj (b : Nat) {x y : Nat} (h1 : 4 ≤ x) (h2 : 4 ≤ y) (h : b + (x - 4) = b + (y - 4)) : x = y := by omega
section GS2
variable {p : Program} {l : Launch} {e : Env} {R : Room} {s : State} {m : MethodId} {args : Array Value} {below : List Frame} {meth : Method} {c : Code} {H : Heap} {locs : List Loc} {cells slots : Nat} {Q : State → Prop}
variable {cc : ByteArray} {pc : Nat} {ls : Array Slot} {ret : Option FieldType} {ex : List mE} {a1 b1 q1 : Nat} {L : mL} {S : List Value} {h : List mE} {pc' : Nat} {L' : mL} {S' : List Value} {h' : List mE} {xs : Nat → Nat} {b : Nat} {aC : Nat → ClassId} {D : va_G}
theorem s_ifnull {off : Int} {g : Nat → Nat} (hx : p.tables.exec = Jvm.exec) (hb : c.code = cc) (hj : 0 ≤ (pc : Int) + off) (hd : decode cc pc = .ok (.ifnull off, 3)) (hm : mx ret ex (.ifnull off, 3, a1, b1, q1) pc L S h = some (.inl (pc', L', S', h'))) (kk : h' = h → L' = L → W p l e R s m args below meth c H locs cells slots Q (F0 m pc' ls (S'.map (g_V g)))) : W p l e R s m args below meth c H locs cells slots Q (F0 m pc ls (S.map (g_V g))) := by
  replace hm : (match S with
    | .ref _ :: T => mgo (pc + 3) L T h
    | .null :: T => mgo (mjmp pc off) L T h
    | _ => none) = some (.inl (pc', L', S', h')) := hm
  split at hm
  · simp only [mgo, Option.some.injEq, Sum.inl.injEq, Prod.mk.injEq] at hm
    obtain ⟨rfl, rfl, rfl, rfl⟩ := hm
    exact lv_ifnull hx hb hd (kk rfl rfl)
  · simp only [mgo, Option.some.injEq, Sum.inl.injEq, Prod.mk.injEq] at hm
    obtain ⟨rfl, rfl, rfl, rfl⟩ := hm
    exact lv_ifnullN hx hb hd (s_jmp hj) (kk rfl rfl)
  · cases hm
theorem s_ifnonnull {off : Int} {g : Nat → Nat} (hx : p.tables.exec = Jvm.exec) (hb : c.code = cc) (hj : 0 ≤ (pc : Int) + off) (hd : decode cc pc = .ok (.ifnonnull off, 3)) (hm : mx ret ex (.ifnonnull off, 3, a1, b1, q1) pc L S h = some (.inl (pc', L', S', h'))) (kk : h' = h → L' = L → W p l e R s m args below meth c H locs cells slots Q (F0 m pc' ls (S'.map (g_V g)))) : W p l e R s m args below meth c H locs cells slots Q (F0 m pc ls (S.map (g_V g))) := by
  replace hm : (match S with
    | .ref _ :: T => mgo (mjmp pc off) L T h
    | .null :: T => mgo (pc + 3) L T h
    | _ => none) = some (.inl (pc', L', S', h')) := hm
  split at hm
  · simp only [mgo, Option.some.injEq, Sum.inl.injEq, Prod.mk.injEq] at hm
    obtain ⟨rfl, rfl, rfl, rfl⟩ := hm
    exact lv_ifnonnull hx hb hd (s_jmp hj) (kk rfl rfl)
  · simp only [mgo, Option.some.injEq, Sum.inl.injEq, Prod.mk.injEq] at hm
    obtain ⟨rfl, rfl, rfl, rfl⟩ := hm
    exact lv_ifnonnullN hx hb hd (kk rfl rfl)
  · cases hm
theorem s_if_acmp {cn : ACond} {off : Int} (hx : p.tables.exec = Jvm.exec) (hb : c.code = cc) (hj : 0 ≤ (pc : Int) + off) (hd : decode cc pc = .ok (.if_acmp cn off, 3)) (hm : mx ret ex (.if_acmp cn off, 3, a1, b1, q1) pc L S h = some (.inl (pc', L', S', h'))) (kk : h' = h → L' = L → W p l e R s m args below meth c H locs cells slots Q (F0 m pc' ls (S'.map (g_V (g_ad xs b))))) : W p l e R s m args below meth c H locs cells slots Q (F0 m pc ls (S.map (g_V (g_ad xs b)))) := by
  replace hm : (match S with
      | .ref y :: .ref x :: T => if 4 ≤ x ∧ 4 ≤ y then mgo (macm cn (decide (x = y)) (mjmp pc off) (pc + 3)) L T h else none
      | .null :: .ref _ :: T => mgo (macm cn false (mjmp pc off) (pc + 3)) L T h
      | .ref _ :: .null :: T => mgo (macm cn false (mjmp pc off) (pc + 3)) L T h
      | .null :: .null :: T => mgo (macm cn true (mjmp pc off) (pc + 3)) L T h
      | _ => none) = some (.inl (pc', L', S', h')) := hm
  split at hm
  · rename_i y x T
    by_cases h4 : 4 ≤ x ∧ 4 ≤ y
    · rw [if_pos h4] at hm
      simp only [mgo, Option.some.injEq, Sum.inl.injEq, Prod.mk.injEq] at hm
      obtain ⟨rfl, rfl, rfl, rfl⟩ := hm
      have hxy : (some (g_ad xs b x) = some (g_ad xs b y)) ↔ x = y := by
        rw [g_ad4 h4.1, g_ad4 h4.2]
        constructor
        · intro z
          exact s_ad_inj b h4.1 h4.2 (Option.some.inj z)
        · intro z
          rw [z]
      have kk := kk rfl rfl
      cases cn with
      | eq =>
        refine lv_acmp_eq (rx := some (g_ad xs b x)) (ry := some (g_ad xs b y)) hx hb hd (s_jmp hj) (fun z => ?_) (fun z => ?_)
        · rw [decide_eq_true (hxy.mp z)] at kk
          exact kk
        · rw [decide_eq_false (fun w => z (hxy.mpr w))] at kk
          exact kk
      | ne =>
        refine lv_acmp_ne (rx := some (g_ad xs b x)) (ry := some (g_ad xs b y)) hx hb hd (s_jmp hj) (fun z => ?_) (fun z => ?_)
        · rw [decide_eq_false (fun w => z (hxy.mpr w))] at kk
          exact kk
        · rw [decide_eq_true (hxy.mp z)] at kk
          exact kk
    · rw [if_neg h4] at hm; cases hm
  · rename_i x T
    simp only [mgo, Option.some.injEq, Sum.inl.injEq, Prod.mk.injEq] at hm
    obtain ⟨rfl, rfl, rfl, rfl⟩ := hm
    have kk := kk rfl rfl
    cases cn with
    | eq => exact lv_acmp_eq (rx := some (g_ad xs b x)) (ry := none) hx hb hd (s_jmp hj) (fun z => by cases z) (fun z => kk)
    | ne => exact lv_acmp_ne (rx := some (g_ad xs b x)) (ry := none) hx hb hd (s_jmp hj) (fun z => kk) (fun z => by cases z)
  · rename_i y T
    simp only [mgo, Option.some.injEq, Sum.inl.injEq, Prod.mk.injEq] at hm
    obtain ⟨rfl, rfl, rfl, rfl⟩ := hm
    have kk := kk rfl rfl
    cases cn with
    | eq => exact lv_acmp_eq (rx := none) (ry := some (g_ad xs b y)) hx hb hd (s_jmp hj) (fun z => by cases z) (fun z => kk)
    | ne => exact lv_acmp_ne (rx := none) (ry := some (g_ad xs b y)) hx hb hd (s_jmp hj) (fun z => kk) (fun z => by cases z)
  · rename_i T
    simp only [mgo, Option.some.injEq, Sum.inl.injEq, Prod.mk.injEq] at hm
    obtain ⟨rfl, rfl, rfl, rfl⟩ := hm
    have kk := kk rfl rfl
    cases cn with
    | eq => exact lv_acmp_eq (rx := none) (ry := none) hx hb hd (s_jmp hj) (fun z => kk) (fun z => absurd rfl z)
    | ne => exact lv_acmp_ne (rx := none) (ry := none) hx hb hd (s_jmp hj) (fun z => absurd rfl z) (fun z => kk)
  · cases hm
theorem s_tableswitch {d lo hi : Int} {os : Array Int} {n : Nat} {g : Nat → Nat} (hx : p.tables.exec = Jvm.exec) (hb : c.code = cc) (hj : mjok pc (.tableswitch d lo hi os) = true) (hd : decode cc pc = .ok (.tableswitch d lo hi os, n)) (hm : mx ret ex (.tableswitch d lo hi os, n, a1, b1, q1) pc L S h = some (.inl (pc', L', S', h'))) (kk : h' = h → L' = L → W p l e R s m args below meth c H locs cells slots Q (F0 m pc' ls (S'.map (g_V g)))) : W p l e R s m args below meth c H locs cells slots Q (F0 m pc ls (S.map (g_V g))) := by
  replace hm : (match S with
      | .int x :: T => if x.toInt < lo ∨ hi < x.toInt then mgo (mjmp pc d) L T h else (match os[(x.toInt - lo).toNat]? with
          | some o => mgo (mjmp pc o) L T h
          | none => none)
      | _ => none) = some (.inl (pc', L', S', h')) := hm
  simp only [mjok, Bool.and_eq_true, decide_eq_true_eq] at hj
  split at hm
  · rename_i x T
    by_cases hr : x.toInt < lo ∨ hi < x.toInt
    · rw [if_pos hr] at hm
      simp only [mgo, Option.some.injEq, Sum.inl.injEq, Prod.mk.injEq] at hm
      obtain ⟨rfl, rfl, rfl, rfl⟩ := hm
      exact lv_tableOut hx hb hd hr (s_jmp hj.1) (kk rfl rfl)
    · rw [if_neg hr] at hm
      split at hm
      · rename_i o ho
        simp only [mgo, Option.some.injEq, Sum.inl.injEq, Prod.mk.injEq] at hm
        obtain ⟨rfl, rfl, rfl, rfl⟩ := hm
        have h1 := List.all_eq_true.mp hj.2 o (by rw [← Array.getElem?_toList] at ho; exact List.mem_of_getElem? ho)
        exact lv_tableIn hx hb hd (fun z => hr (Or.inl z)) (fun z => hr (Or.inr z)) ho (s_jmp (of_decide_eq_true h1)) (kk rfl rfl)
      · cases hm
  · cases hm
theorem s_lsw {d x : Int} {pc : Nat} : ∀ (ps : List (Int × Int)), 0 ≤ (pc : Int) + d → ps.all (fun o => decide (0 ≤ (pc : Int) + o.2)) = true → 0 ≤ (pc : Int) + Op.lookupswitch.offset ps d x
  | [], h0, _ => h0
  | (a, o) :: ps, h0, h => by
    simp only [List.all_cons, Bool.and_eq_true, decide_eq_true_eq] at h
    rw [Op.lookupswitch.offset_cons]
    split
    · exact h.1
    · exact s_lsw ps h0 h.2
theorem s_lookupswitch {d : Int} {ps : Array (Int × Int)} {n : Nat} {g : Nat → Nat} (hx : p.tables.exec = Jvm.exec) (hb : c.code = cc) (hj : mjok pc (.lookupswitch d ps) = true) (hd : decode cc pc = .ok (.lookupswitch d ps, n)) (hm : mx ret ex (.lookupswitch d ps, n, a1, b1, q1) pc L S h = some (.inl (pc', L', S', h'))) (kk : h' = h → L' = L → W p l e R s m args below meth c H locs cells slots Q (F0 m pc' ls (S'.map (g_V g)))) : W p l e R s m args below meth c H locs cells slots Q (F0 m pc ls (S.map (g_V g))) := by
  replace hm : (match S with
      | .int x :: T => mgo (mjmp pc (Op.lookupswitch.offset ps.toList d x.toInt)) L T h
      | _ => none) = some (.inl (pc', L', S', h')) := hm
  simp only [mjok, Bool.and_eq_true, decide_eq_true_eq] at hj
  split at hm
  · rename_i x T
    simp only [mgo, Option.some.injEq, Sum.inl.injEq, Prod.mk.injEq] at hm
    obtain ⟨rfl, rfl, rfl, rfl⟩ := hm
    exact lv_lookup hx hb hd hj.2 rfl (s_jmp (s_lsw _ hj.1.1 hj.1.2)) (kk rfl rfl)
  · cases hm
/-! reads -/
theorem s_getstatic {i : Nat} {own C n d : String} (hx : p.tables.exec = Jvm.exec) (hb : c.code = cc) (hown : s.vm.findClass own = some m.cls) (hS : va_S (g_A b) s.heap H locs) (hE : g_S xs (g_A b) s s.heap) (hst : mStc[a1]? = some (C, n, d)) (hl : (Jvm.Cond.fieldLink own i C n d).before args s = true) (hd : decode cc pc = .ok (.getstatic i, 3)) (hm : mx ret ex (.getstatic i, 3, a1, b1, q1) pc L S h = some (.inl (pc', L', S', h'))) (kk : h' = h → L' = L → W p l e R s m args below meth c H locs cells slots Q (F0 m pc' ls (S'.map (g_V (g_ad xs b))))) : W p l e R s m args below meth c H locs cells slots Q (F0 m pc ls (S.map (g_V (g_ad xs b)))) := by
  replace hm : mgo (pc + 3) L (.ref (a1 + 1) :: S) h = some (.inl (pc', L', S', h')) := hm
  simp only [mgo, Option.some.injEq, Sum.inl.injEq, Prod.mk.injEq] at hm
  obtain ⟨rfl, rfl, rfl, rfl⟩ := hm
  have hlt : a1 + 1 < 4 := by
    have := (List.getElem?_eq_some_iff.mp hst).1
    have e : mStc.length = 2 := rfl
    omega
  have kk := kk rfl rfl
  have e : g_V (g_ad xs b) (.ref (a1 + 1)) = .ref (xs (a1 + 1)) := by
    show Value.ref (g_ad xs b (a1 + 1)) = _
    unfold g_ad
    rw [if_pos hlt]
  rw [List.map_cons, e] at kk
  exact va_gets hx hb (hE a1 C n d hst) hS hown hl (fun _ z => z) hd kk
theorem s_vp {i : Int32} {n : Nat} (h : mib i n = true) : vp_in i n := by
  unfold mib at h
  simp only [Bool.not_eq_true', Bool.or_eq_false_iff, decide_eq_false_iff_not] at h
  exact fun z => z.elim h.1 h.2
theorem s_mget {h : List mE} {q : Nat} {e0 : mE} (hq : mget ex h q = some e0) : (q < 4 ∧ ex[q]? = some e0) ∨ mown h q = some e0 := by
  unfold mget at hq
  by_cases h4 : q < 4
  · rw [if_pos h4] at hq
    exact Or.inl ⟨h4, hq⟩
  · rw [if_neg h4] at hq
    refine Or.inr ?_
    unfold mown
    rw [if_neg h4]
    exact hq
theorem s_adx {q : Nat} (h : q < 4) : g_ad xs b q = xs q := if_pos h
theorem s_iaload (hx : p.tables.exec = Jvm.exec) (hb : c.code = cc) (hS : va_S (g_A b) s.heap H locs) (hE : g_Env xs b aC D ex s s.heap) (hW : g_W xs b aC D h H) (hd : decode cc pc = .ok (.iaload, 1)) (hm : mx ret ex (.iaload, 1, a1, b1, q1) pc L S h = some (.inl (pc', L', S', h'))) (kk : h' = h → L' = L → W p l e R s m args below meth c H locs cells slots Q (F0 m pc' ls (S'.map (g_V (g_ad xs b))))) : W p l e R s m args below meth c H locs cells slots Q (F0 m pc ls (S.map (g_V (g_ad xs b)))) := by
  replace hm : (match S with
      | .int i :: .ref q :: T => (match mget ex h q with
          | some (.inl (0, (n, .inl f))) => if mib i n then mgo (pc + 1) L (.int (f i.toNatClampNeg) :: T) h else none
          | _ => none)
      | _ => none) = some (.inl (pc', L', S', h')) := hm
  split at hm
  · rename_i i q T
    split at hm
    · rename_i n f hq
      by_cases hi : mib i n = true
      · rw [if_pos hi] at hm
        simp only [mgo, Option.some.injEq, Sum.inl.injEq, Prod.mk.injEq] at hm
        obtain ⟨rfl, rfl, rfl, rfl⟩ := hm
        rcases s_mget hq with ⟨h4, hq⟩ | hq
        · have h1 := hE.2.2.2.2.1.1 q n f hq
          have e : g_V (g_ad xs b) (.ref q) = .ref (xs q) := congrArg Value.ref (s_adx h4)
          rw [List.map_cons, List.map_cons, e]
          exact va_ti hx hb h1 hS (s_vp hi) rfl hd (kk rfl rfl)
        · exact va_iald hx hb hE.2.2.2.1 (x_one (g_at hW hq)) 0 0 rfl (g_ty_at (t := 0) rfl) (s_vp hi) hd (kk rfl rfl)
      · rw [if_neg hi] at hm; cases hm
    · cases hm
  · cases hm
theorem s_laload (hx : p.tables.exec = Jvm.exec) (hb : c.code = cc) (hS : va_S (g_A b) s.heap H locs) (hE : g_Env xs b aC D ex s s.heap) (hW : g_W xs b aC D h H) (hd : decode cc pc = .ok (.laload, 1)) (hm : mx ret ex (.laload, 1, a1, b1, q1) pc L S h = some (.inl (pc', L', S', h'))) (kk : h' = h → L' = L → W p l e R s m args below meth c H locs cells slots Q (F0 m pc' ls (S'.map (g_V (g_ad xs b))))) : W p l e R s m args below meth c H locs cells slots Q (F0 m pc ls (S.map (g_V (g_ad xs b)))) := by
  replace hm : (match S with
      | .int i :: .ref q :: T => (match mget ex h q with
          | some (.inl (2, (n, .inr (.inl f)))) => if mib i n then mgo (pc + 1) L (.long (f i.toNatClampNeg) :: T) h else none
          | _ => none)
      | _ => none) = some (.inl (pc', L', S', h')) := hm
  split at hm
  · rename_i i q T
    split at hm
    · rename_i n f hq
      by_cases hi : mib i n = true
      · rw [if_pos hi] at hm
        simp only [mgo, Option.some.injEq, Sum.inl.injEq, Prod.mk.injEq] at hm
        obtain ⟨rfl, rfl, rfl, rfl⟩ := hm
        rcases s_mget hq with ⟨h4, hq⟩ | hq
        · have h1 := hE.2.2.2.2.1.2.1 q n f hq
          have e : g_V (g_ad xs b) (.ref q) = .ref (xs q) := congrArg Value.ref (s_adx h4)
          rw [List.map_cons, List.map_cons, e]
          exact va_tl hx hb h1 hS (s_vp hi) rfl hd (kk rfl rfl)
        · exact va_lald hx hb hE.2.2.2.1 (x_one (g_at hW hq)) 0 2 rfl (g_ty_at (t := 2) rfl) (s_vp hi) hd (kk rfl rfl)
      · rw [if_neg hi] at hm; cases hm
    · cases hm
  · cases hm
theorem s_baload (hx : p.tables.exec = Jvm.exec) (hb : c.code = cc) (hE : g_Env xs b aC D ex s s.heap) (hW : g_W xs b aC D h H) (hd : decode cc pc = .ok (.baload, 1)) (hm : mx ret ex (.baload, 1, a1, b1, q1) pc L S h = some (.inl (pc', L', S', h'))) (kk : h' = h → L' = L → W p l e R s m args below meth c H locs cells slots Q (F0 m pc' ls (S'.map (g_V (g_ad xs b))))) : W p l e R s m args below meth c H locs cells slots Q (F0 m pc ls (S.map (g_V (g_ad xs b)))) := by
  replace hm : (match S with
      | .int i :: .ref q :: T => (match mown h q with
          | some (.inl (1, (n, .inl f))) => if mib i n then mgo (pc + 1) L (.int (f i.toNatClampNeg) :: T) h else none
          | some (.inl (8, (n, .inl f))) => if mib i n then mgo (pc + 1) L (.int (f i.toNatClampNeg) :: T) h else none
          | _ => none)
      | _ => none) = some (.inl (pc', L', S', h')) := hm
  split at hm
  · rename_i i q T
    split at hm
    · rename_i n f hq
      by_cases hi : mib i n = true
      · rw [if_pos hi] at hm
        simp only [mgo, Option.some.injEq, Sum.inl.injEq, Prod.mk.injEq] at hm
        obtain ⟨rfl, rfl, rfl, rfl⟩ := hm
        exact va_zald hx hb hE.2.2.2.1 (x_one (g_at hW hq)) 0 1 rfl (g_ty_at (t := 1) rfl) (s_vp hi) hd (kk rfl rfl)
      · rw [if_neg hi] at hm; cases hm
    · rename_i n f hq
      by_cases hi : mib i n = true
      · rw [if_pos hi] at hm
        simp only [mgo, Option.some.injEq, Sum.inl.injEq, Prod.mk.injEq] at hm
        obtain ⟨rfl, rfl, rfl, rfl⟩ := hm
        exact va_bald hx hb hE.2.2.2.1 (x_one (g_at hW hq)) 0 8 rfl (g_ty_at (t := 8) rfl) (s_vp hi) hd (kk rfl rfl)
      · rw [if_neg hi] at hm; cases hm
    · cases hm
  · cases hm
theorem s_rf {g : Nat → Nat} (r : Option Nat) : va_rf (r.map g) = g_V g (va_rf r) := by cases r <;> rfl
theorem s_aty {t : Nat} (h : 3 ≤ t ∧ t < 8) : ∃ ty, mAT[t]? = some ty ∧ ty.isReference = true := by
  obtain ⟨h1, h2⟩ := h
  rcases (by omega : t = 3 ∨ t = 4 ∨ t = 5 ∨ t = 6 ∨ t = 7) with rfl | rfl | rfl | rfl | rfl <;> exact ⟨_, rfl, rfl⟩
theorem s_aaload (hx : p.tables.exec = Jvm.exec) (hb : c.code = cc) (hE : g_Env xs b aC D ex s s.heap) (hW : g_W xs b aC D h H) (hd : decode cc pc = .ok (.aaload, 1)) (hm : mx ret ex (.aaload, 1, a1, b1, q1) pc L S h = some (.inl (pc', L', S', h'))) (kk : h' = h → L' = L → W p l e R s m args below meth c H locs cells slots Q (F0 m pc' ls (S'.map (g_V (g_ad xs b))))) : W p l e R s m args below meth c H locs cells slots Q (F0 m pc ls (S.map (g_V (g_ad xs b)))) := by
  replace hm : (match S with
      | .int i :: .ref q :: T => (match mown h q with
          | some (.inl (t, (n, .inr (.inr (.inr (.inr f)))))) => if mib i n && decide (3 ≤ t ∧ t < 8) then mgo (pc + 1) L (va_rf (f i.toNatClampNeg) :: T) h else none
          | _ => none)
      | _ => none) = some (.inl (pc', L', S', h')) := hm
  split at hm
  · rename_i i q T
    split at hm
    · rename_i t n f hq
      by_cases hi : (mib i n && decide (3 ≤ t ∧ t < 8)) = true
      · rw [if_pos hi] at hm
        simp only [mgo, Option.some.injEq, Sum.inl.injEq, Prod.mk.injEq] at hm
        obtain ⟨rfl, rfl, rfl, rfl⟩ := hm
        simp only [Bool.and_eq_true, decide_eq_true_eq] at hi
        obtain ⟨ty, h1, h2⟩ := s_aty hi.2
        refine x_aald (f := fun j => (f j).map (g_ad xs b)) hx hb hE.2.2.2.1 t (g_at hW hq) (g_ty_at h1) h2 (s_vp hi.1) hd ?_
        rw [s_rf]
        exact kk rfl rfl
      · rw [if_neg hi] at hm; cases hm
    · cases hm
  · cases hm
theorem s_arraylength (hx : p.tables.exec = Jvm.exec) (hb : c.code = cc) (hS : va_S (g_A b) s.heap H locs) (hE : g_Env xs b aC D ex s s.heap) (hW : g_W xs b aC D h H) (hd : decode cc pc = .ok (.arraylength, 1)) (hm : mx ret ex (.arraylength, 1, a1, b1, q1) pc L S h = some (.inl (pc', L', S', h'))) (kk : h' = h → L' = L → W p l e R s m args below meth c H locs cells slots Q (F0 m pc' ls (S'.map (g_V (g_ad xs b))))) : W p l e R s m args below meth c H locs cells slots Q (F0 m pc ls (S.map (g_V (g_ad xs b)))) := by
  replace hm : (match S with
      | .ref q :: T => (match mget ex h q with
          | some (.inl (t, (n, _))) => if t < 9 then mgo (pc + 1) L (.int (Int32.ofNat n) :: T) h else none
          | _ => none)
      | _ => none) = some (.inl (pc', L', S', h')) := hm
  split at hm
  · rename_i q T
    split at hm
    · rename_i t n v hq
      by_cases ht : t < 9
      · rw [if_pos ht] at hm
        simp only [mgo, Option.some.injEq, Sum.inl.injEq, Prod.mk.injEq] at hm
        obtain ⟨rfl, rfl, rfl, rfl⟩ := hm
        rcases s_mget hq with ⟨h4, hq⟩ | hq
        · have e : g_V (g_ad xs b) (.ref q) = .ref (xs q) := congrArg Value.ref (s_adx h4)
          rw [List.map_cons, e]
          rcases hE.2.2.2.2.1.2.2 q _ hq with ⟨n', f, e'⟩ | ⟨n', f, e'⟩
          · cases e'
            exact va_tlen hx hb (hE.2.2.2.2.1.1 q n f hq) hS rfl hd (kk rfl rfl)
          · cases e'
            exact va_tlen hx hb (hE.2.2.2.2.1.2.1 q n f hq) hS rfl hd (kk rfl rfl)
        · have h1 := g_at hW hq
          obtain ⟨ty, hty⟩ : ∃ ty, mAT[t]? = some ty := ⟨_, List.getElem?_eq_getElem (show t < mAT.length from ht)⟩
          rcases v with f | f | f | f | f
          · exact va_alen hx hb hE.2.2.2.1 (x_one h1) 0 t rfl (g_ty_at hty) rfl hd (kk rfl rfl)
          · exact va_alen hx hb hE.2.2.2.1 (x_one h1) 0 t rfl (g_ty_at hty) rfl hd (kk rfl rfl)
          · exact va_alen hx hb hE.2.2.2.1 (x_one h1) 0 t rfl (g_ty_at hty) rfl hd (kk rfl rfl)
          · exact va_alen hx hb hE.2.2.2.1 (x_one h1) 0 t rfl (g_ty_at hty) rfl hd (kk rfl rfl)
          · exact va_alen hx hb hE.2.2.2.1 (x_one h1) 0 t rfl (g_ty_at hty) rfl hd (kk rfl rfl)
      · rw [if_neg ht] at hm; cases hm
    · cases hm
  · cases hm
end GS2
