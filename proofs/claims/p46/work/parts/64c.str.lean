/-! THE TEXT'S LENGTH AND CHARACTERS: the JDK's own methods, walked -/
section JSTR
variable {p : Program} {l : Launch} {e : Env} {R : Room} {s : State} {m : MethodId} {args : Array Value} {below : List Frame} {meth : Method} {c : Code} {H : Heap} {locs : List Loc} {cells slots : Nat} {Q : State → Prop}
variable {pc : Nat} {ls : Array Slot} {ex : List mE} {xs : Nat → Nat} {b : Nat} {aC : Nat → ClassId} {D : va_G} {h : List mE}
theorem x_call {h1 : List mE} {v : Option Value} {mc ms : Nat} {Qa : State → Outcome → State → Prop} {free : Addr → Prop} {rest st0 : List Value} {H0 : Heap} (hr : va_Run p l e R s m args below meth c H locs cells slots mc ms (F0 m pc ls st0) rest Qa free) (hQ : ∀ (st : State) (oc : Outcome) (t : State), st.heap = H → Qa st oc t → oc = .returned v ∧ g_W xs b aC D h1 t.heap ∧ va_F (g_A b) st t) (hS : va_S (g_A b) H0 H locs) (hf : ∀ q, free q → g_A b q)
    (kk : ∀ (H1 : Heap) (locs1 : List Loc), g_W xs b aC D h1 H1 → va_S (g_A b) H0 H1 locs1 → W p l e R s m args below meth c H1 locs1 (cells + mc) (slots + ms) Q (F0 m (pc + 3) ls (v.toList ++ rest))) : W p l e R s m args below meth c H locs cells slots Q (F0 m pc ls st0) := by
  intro T hT X
  obtain ⟨v', st₀, t, T', L, h0, X', hL, e1, e2, hq, st⟩ := hr T hT X
  obtain ⟨hv, hw, hz, hk⟩ := hQ st₀ _ t h0 hq
  have hv := (Outcome.returned.inj hv)
  subst hv
  rw [h0] at hz hk
  obtain ⟨t2, a1, b1⟩ := kk T'.heap (locs ++ L) (by rw [e1]; exact hw)
    ⟨Nat.le_trans hS.1 (by rw [e1]; exact hz), fun q h1 h2 => by rw [e1, hk q (Nat.lt_of_lt_of_le h1 hS.1) h2]; exact hS.2.1 q h1 h2, fun q hq => by
      rcases List.mem_append.mp hq with h | h
      · exact hS.2.2 q h
      · exact hf _ (hL q h)⟩ T' rfl X'
  exact ⟨t2, st t2 a1, b1⟩
def j_P (xs : Nat → Nat) (b : Nat) (aC : Nat → ClassId) (D : va_G) (ex h : List mE) (av : List Value) : Array Value → State → Prop := va_Pc av (fun U => g_W xs b aC D h U.heap ∧ g_Env xs b aC D ex U U.heap)
def j_Q (xs : Nat → Nat) (b : Nat) (aC : Nat → ClassId) (D : va_G) (h : List mE) (v : Option Value) : Array Value → State → Outcome → State → Prop := fun _ st oc t => oc = .returned v ∧ g_W xs b aC D h t.heap ∧ va_F (g_A b) st t
def j_rm (n : Nat) : Room := { frames := n, cells := 0, slots := 0, locals := 64 * n }
def j_ws (y : MethodName) (cc : ByteArray) (mx : Nat) (ret : Option FieldType) : List Jvm.Cond := Cond.code y cc mx ret :: lw_tbl.filter goodWord
def j_Met (xs : Nat → Nat) (b : Nat) (aC : Nat → ClassId) (D : va_G) (ex h : List mE) (l : Launch) (y : MethodName) (cc : ByteArray) (mx : Nat) (ret : Option FieldType) (n : Nat) (av : List Value) (v : Option Value) : Prop := Met l y (j_ws y cc mx ret) (j_rm n) (j_P xs b aC D ex h av) (j_Q xs b aC D h v) 0 0 (g_A b)
theorem j_met {y : MethodName} {cc : ByteArray} {mx : Nat} {ret : Option FieldType} {n : Nat} {g : Nat → Nat} {as : List Value} {v : Option Value} (hpl : plainName y.cls = true) (hlen : (lent1 as).length ≤ mx)
    (body : ∀ (p : Program) (e : Env) (s : State) (m : MethodId) (args : Array Value) (below : List Frame) (meth : Method) (c : Code) (ls : Array Slot), p.tables.exec = Jvm.exec → c.code = cc → c.maxLocals = ls.size → s.vm.findClass y.cls = some m.cls → meth.sig.returnType = ret → meth.locks = false → g_W xs b aC D h s.heap → g_Env xs b aC D ex s s.heap → g_H g ls (lent as mx) → (∀ (H1 : Heap) (locs1 : List Loc), g_W xs b aC D h H1 → va_S (g_A b) s.heap H1 locs1 → ∀ t : State, t.heap = H1 → j_Q xs b aC D h v args s (.returned v) t) → W p l e (j_rm n) s m args below meth c s.heap [] 0 0 (MQ below (j_Q xs b aC D h v) args s 0 0 (g_A b)) (F0 m 0 ls [])) : j_Met xs b aC D ex h l y cc mx ret n (as.map (g_V g)) v := by
  refine Met.ofW (cc := cc) (maxL := mx) (ret := ret) hpl rfl ?_
  intro p e s m args below meth c s₁ B hml hv
  obtain ⟨rfl, hW, hE⟩ := hv
  have hL := g_ent (g := g) hlen
  rw [lg_entry_eq]
  exact body p e s m _ below meth c _ B.exec B.bytes (by rw [hml, hL.1, lent_len hlen]) (findClass_of_methodNamed B.named) B.returns B.notSynchronized hW hE hL (fun H1 locs1 hW1 hS1 t ht => ⟨rfl, by rw [ht]; exact hW1, hS1.F ht⟩)
theorem j_good {y : MethodName} {cc : ByteArray} {mx : Nat} {ret : Option FieldType} (hc : Jvm.Cond.code y cc mx ret ∈ lw_tbl) : GoodIn (lw_tbl.filter goodWord) (j_ws y cc mx ret) := by
  have hcw : goodWord (Jvm.Cond.code y cc mx ret) = true := rfl
  intro w hw
  rcases List.mem_cons.mp hw with rfl | hw
  · exact ⟨List.mem_filter.mpr ⟨hc, hcw⟩, good_of_word hcw⟩
  · exact ⟨hw, good_of_word (List.mem_filter.mp hw).2⟩
theorem j_pcb {av : List Value} : FrameBlind (j_P xs b aC D ex h av) := fun _ _ _ _ q => ⟨q.1, q.2.1, g_blind q.2.2⟩
theorem j_pcs {av : List Value} (hE : g_Env xs b aC D ex s s.heap) (hW : g_W xs b aC D h H) (hS : va_S (g_A b) s.heap H locs) : ∀ U : State, U.heap = H → s.WarmedH U.vm → j_P xs b aC D ex h av av.toArray U := fun U hU hw => ⟨rfl, by rw [hU]; exact hW, by rw [hU]; exact g_warm hE hw (fun a h1 h2 => hS.2.1 a h1 h2)⟩
theorem j_S {own : String} {i : Nat} {y : MethodName} {cc cc' : ByteArray} {mx : Nat} {ret : Option FieldType} {n k : Nat} {As rest st0 : List Value} {v : Option Value} (hmet : j_Met xs b aC D ex h l y cc' mx ret n As v) (hx : p.tables.exec = Jvm.exec) (hb : c.code = cc) (hml : c.maxLocals = ls.size) (hown : s.vm.findClass own = some m.cls) (hE : g_Env xs b aC D ex s s.heap) (hW : g_W xs b aC D h H) (hS : va_S (g_A b) s.heap H locs) (hcode : Jvm.Cond.code y cc' mx ret ∈ lw_tbl) (hini : Jvm.Cond.initialized y.cls ∈ lw_tbl) (hlink : (Jvm.Cond.methodLink own i y).before args s = true) (hst : Jvm.Cond.static y ∈ lw_tbl) (hd3 : y.cls ≠ "java/lang/invoke/MethodHandle" ∧ y.cls ≠ "java/lang/invoke/VarHandle" ∧ (parseMethodDescriptor y.desc).map (fun d => d.parameters.length) = some k) (hn : As.length = k) (hmx : mx ≤ 45) (hR : n + 1 ≤ R.frames ∧ 64 * (n + 1) ≤ R.locals) (hstk : st0 = As.reverse ++ rest) (h8 : (rest.map fun v => v.category).sum ≤ 8) (hc : cells ≤ R.cells ∧ slots ≤ R.slots) (hd : decode cc pc = .ok (.invokestatic i, 3))
    (kk : ∀ (H1 : Heap) (locs1 : List Loc), g_W xs b aC D h H1 → va_S (g_A b) s.heap H1 locs1 → W p l e R s m args below meth c H1 locs1 cells slots Q (F0 m (pc + 3) ls (v.toList ++ rest))) : W p l e R s m args below meth c H locs cells slots Q (F0 m pc ls st0) := by
  have hTs : ∀ w ∈ lw_tbl.filter goodWord, w.before args s = true := g_hts hE args
  have hR2 : (j_rm n).frames + 1 ≤ R.frames ∧ 8 + (mx + 11) + (j_rm n).locals ≤ R.locals := ⟨hR.1, by show 8 + (mx + 11) + 64 * n ≤ R.locals; have := hR.2; omega⟩
  exact x_call (mc := 0) (ms := 0) (va_runS ⟨hx, hb, hml, hown, hTs⟩ hmet ⟨callB_of (n := k) hTs (j_good hcode) rfl rfl rfl (hE.1 _ hini rfl args) hlink hd3 hR2, hE.1 _ hst rfl args⟩ ⟨j_pcb, j_pcs hE hW hS⟩ rfl hn rfl hstk (lv_room h8) hd hc) (fun st oc t h0 hq => hq) hS (fun _ z => z) kk
theorem j_V {own : String} {i : Nat} {y : MethodName} {cc cc' : ByteArray} {mx : Nat} {ret : Option FieldType} {n k q0 : Nat} {As rest st0 : List Value} {v : Option Value} (hmet : j_Met xs b aC D ex h l y cc' mx ret n (.ref q0 :: As) v) (hx : p.tables.exec = Jvm.exec) (hb : c.code = cc) (hml : c.maxLocals = ls.size) (hown : s.vm.findClass own = some m.cls) (hE : g_Env xs b aC D ex s s.heap) (hW : g_W xs b aC D h H) (hS : va_S (g_A b) s.heap H locs) (hcode : Jvm.Cond.code y cc' mx ret ∈ lw_tbl) (hini : Jvm.Cond.initialized y.cls ∈ lw_tbl) (hlink : (Jvm.Cond.methodLink own i y).before args s = true) (hin : Jvm.Cond.instanceMethod y ∈ lw_tbl) (hse : Jvm.Cond.selects y.cls y y ∈ lw_tbl) (hrecv : ∃ cellB : Cell, H[q0]? = some cellB ∧ cellB.vm.isStatics = false ∧ s.vm.findClass y.cls = some cellB.cls) (hd3 : y.cls ≠ "java/lang/invoke/MethodHandle" ∧ y.cls ≠ "java/lang/invoke/VarHandle" ∧ (parseMethodDescriptor y.desc).map (fun d => d.parameters.length) = some k) (hn : As.length = k) (hmx : mx ≤ 45) (hR : n + 1 ≤ R.frames ∧ 64 * (n + 1) ≤ R.locals) (hstk : st0 = As.reverse ++ .ref q0 :: rest) (h8 : (rest.map fun v => v.category).sum ≤ 8) (hc : cells ≤ R.cells ∧ slots ≤ R.slots) (hd : decode cc pc = .ok (.invokevirtual i, 3))
    (kk : ∀ (H1 : Heap) (locs1 : List Loc), g_W xs b aC D h H1 → va_S (g_A b) s.heap H1 locs1 → W p l e R s m args below meth c H1 locs1 cells slots Q (F0 m (pc + 3) ls (v.toList ++ rest))) : W p l e R s m args below meth c H locs cells slots Q (F0 m pc ls st0) := by
  have hTs : ∀ w ∈ lw_tbl.filter goodWord, w.before args s = true := g_hts hE args
  have hR2 : (j_rm n).frames + 1 ≤ R.frames ∧ 8 + (mx + 11) + (j_rm n).locals ≤ R.locals := ⟨hR.1, by show 8 + (mx + 11) + 64 * n ≤ R.locals; have := hR.2; omega⟩
  exact x_call (mc := 0) (ms := 0) (va_runV ⟨hx, hb, hml, hown, hTs⟩ hmet ⟨callB_of (n := k) hTs (j_good hcode) rfl rfl rfl (hE.1 _ hini rfl args) hlink hd3 hR2, hE.1 _ hin rfl args, hE.1 _ hse rfl args⟩ ⟨j_pcb, hrecv, j_pcs hE hW hS⟩ rfl hn rfl hstk (lv_room h8) hd hc) (fun st oc t h0 hq => hq) hS (fun _ z => z) kk
abbrev jyL : MethodName := ⟨"java/lang/String", "length", "()I"⟩
abbrev jyC : MethodName := ⟨"java/lang/String", "coder", "()B"⟩
abbrev jyA : MethodName := ⟨"java/lang/String", "charAt", "(I)C"⟩
abbrev jyI : MethodName := ⟨"java/lang/String", "isLatin1", "()Z"⟩
abbrev jyS : MethodName := ⟨"java/lang/StringLatin1", "charAt", "([BI)C"⟩
abbrev jyK : MethodName := ⟨"java/lang/String", "checkIndex", "(II)V"⟩
abbrev jyP : MethodName := ⟨"jdk/internal/util/Preconditions", "checkIndex", "(IILjava/util/function/BiFunction;)I"⟩
theorem j_str : mwd 1040 = some (.initialized "java/lang/String") := by decide +kernel
theorem j_sl1 : mwd 1041 = some (.initialized "java/lang/StringLatin1") := by decide +kernel
theorem j_pre : mwd 1042 = some (.initialized "jdk/internal/util/Preconditions") := by decide +kernel
theorem j_iL : mwd 5139 = some (.instanceMethod jyL) := by decide +kernel
theorem j_sL : mwd 5140 = some (.selects "java/lang/String" jyL jyL) := by decide +kernel
theorem j_iC : mwd 5143 = some (.instanceMethod jyC) := by decide +kernel
theorem j_sC : mwd 5144 = some (.selects "java/lang/String" jyC jyC) := by decide +kernel
theorem j_iA : mwd 5149 = some (.instanceMethod jyA) := by decide +kernel
theorem j_sA : mwd 5150 = some (.selects "java/lang/String" jyA jyA) := by decide +kernel
theorem j_iI : mwd 5153 = some (.instanceMethod jyI) := by decide +kernel
theorem j_sI : mwd 5154 = some (.selects "java/lang/String" jyI jyI) := by decide +kernel
theorem j_cL : mwd 5141 = some (.code jyL prog_17_method_54_code 1 (some .int)) := by decide +kernel
theorem j_cC : mwd 5145 = some (.code jyC prog_17_method_152_code 1 (some .byte)) := by decide +kernel
theorem j_cA : mwd 5151 = some (.code jyA prog_17_method_56_code 2 (some .char)) := by decide +kernel
theorem j_cI : mwd 5155 = some (.code jyI prog_17_method_154_code 1 (some .boolean)) := by decide +kernel
theorem j_tS : mwd 5157 = some (.static jyS) := by decide +kernel
theorem j_cS : mwd 5158 = some (.code jyS prog_18_method_2_code 2 (some .char)) := by decide +kernel
theorem j_tK : mwd 5160 = some (.static jyK) := by decide +kernel
theorem j_cK : mwd 5161 = some (.code jyK prog_17_method_155_code 2 none) := by decide +kernel
theorem j_tP : mwd 5165 = some (.static jyP) := by decide +kernel
theorem j_cP : mwd 5166 = some (.code jyP prog_22_method_11_code 3 (some .int)) := by decide +kernel
theorem j_fC : mwd 5146 = some (.fieldLink "java/lang/String" 38 "java/lang/String" "COMPACT_STRINGS" "Z") := by decide +kernel
theorem j_fS : mwd 5162 = some (.fieldLink "java/lang/String" 1053 "jdk/internal/util/Preconditions" "SIOOBE_FORMATTER" "Ljava/util/function/BiFunction;") := by decide +kernel
theorem j_fv : mwd 9326 = some (.fieldLink "java/lang/String" 9 "java/lang/String" "value" "[B") := by decide +kernel
theorem j_fc : mwd 9327 = some (.fieldLink "java/lang/String" 15 "java/lang/String" "coder" "B") := by decide +kernel
theorem j_lC : mwd 5142 = some (.methodLink "java/lang/String" 335 jyC) := by decide +kernel
theorem j_lI : mwd 5152 = some (.methodLink "java/lang/String" 492 jyI) := by decide +kernel
theorem j_lS : mwd 5156 = some (.methodLink "java/lang/String" 495 jyS) := by decide +kernel
theorem j_lK : mwd 5159 = some (.methodLink "java/lang/StringLatin1" 9 jyK) := by decide +kernel
theorem j_lP : mwd 5164 = some (.methodLink "java/lang/String" 1059 jyP) := by decide +kernel
set_option maxRecDepth 20000 in
theorem jdC_0 : decode prog_17_method_152_code 0 = .ok (.getstatic 38, 3) := by rfl
set_option maxRecDepth 20000 in
theorem jdC_3 : decode prog_17_method_152_code 3 = .ok (.ifCond .eq 10, 3) := by rfl
set_option maxRecDepth 20000 in
theorem jdC_6 : decode prog_17_method_152_code 6 = .ok (.aload_n 0, 1) := by rfl
set_option maxRecDepth 20000 in
theorem jdC_7 : decode prog_17_method_152_code 7 = .ok (.getfield 15, 3) := by rfl
set_option maxRecDepth 20000 in
theorem jdC_10 : decode prog_17_method_152_code 10 = .ok (.goto 4, 3) := by rfl
set_option maxRecDepth 20000 in
theorem jdC_14 : decode prog_17_method_152_code 14 = .ok (.ireturn, 1) := by rfl
set_option maxRecDepth 20000 in
theorem jdL_0 : decode prog_17_method_54_code 0 = .ok (.aload_n 0, 1) := by rfl
set_option maxRecDepth 20000 in
theorem jdL_1 : decode prog_17_method_54_code 1 = .ok (.getfield 9, 3) := by rfl
set_option maxRecDepth 20000 in
theorem jdL_4 : decode prog_17_method_54_code 4 = .ok (.arraylength, 1) := by rfl
set_option maxRecDepth 20000 in
theorem jdL_5 : decode prog_17_method_54_code 5 = .ok (.aload_n 0, 1) := by rfl
set_option maxRecDepth 20000 in
theorem jdL_6 : decode prog_17_method_54_code 6 = .ok (.invokevirtual 335, 3) := by rfl
set_option maxRecDepth 20000 in
theorem jdL_9 : decode prog_17_method_54_code 9 = .ok (.ishr, 1) := by rfl
set_option maxRecDepth 20000 in
theorem jdL_10 : decode prog_17_method_54_code 10 = .ok (.ireturn, 1) := by rfl
set_option maxRecDepth 20000 in
theorem jdI_0 : decode prog_17_method_154_code 0 = .ok (.getstatic 38, 3) := by rfl
set_option maxRecDepth 20000 in
theorem jdI_3 : decode prog_17_method_154_code 3 = .ok (.ifCond .eq 14, 3) := by rfl
set_option maxRecDepth 20000 in
theorem jdI_6 : decode prog_17_method_154_code 6 = .ok (.aload_n 0, 1) := by rfl
set_option maxRecDepth 20000 in
theorem jdI_7 : decode prog_17_method_154_code 7 = .ok (.getfield 15, 3) := by rfl
set_option maxRecDepth 20000 in
theorem jdI_10 : decode prog_17_method_154_code 10 = .ok (.ifCond .ne 7, 3) := by rfl
set_option maxRecDepth 20000 in
theorem jdI_13 : decode prog_17_method_154_code 13 = .ok (.iconst 1, 1) := by rfl
set_option maxRecDepth 20000 in
theorem jdI_14 : decode prog_17_method_154_code 14 = .ok (.goto 4, 3) := by rfl
set_option maxRecDepth 20000 in
theorem jdI_18 : decode prog_17_method_154_code 18 = .ok (.ireturn, 1) := by rfl
set_option maxRecDepth 20000 in
theorem jdP_0 : decode prog_22_method_11_code 0 = .ok (.iload_n 0, 1) := by rfl
set_option maxRecDepth 20000 in
theorem jdP_1 : decode prog_22_method_11_code 1 = .ok (.ifCond .lt 8, 3) := by rfl
set_option maxRecDepth 20000 in
theorem jdP_4 : decode prog_22_method_11_code 4 = .ok (.iload_n 0, 1) := by rfl
set_option maxRecDepth 20000 in
theorem jdP_5 : decode prog_22_method_11_code 5 = .ok (.iload_n 1, 1) := by rfl
set_option maxRecDepth 20000 in
theorem jdP_6 : decode prog_22_method_11_code 6 = .ok (.if_icmp .lt 10, 3) := by rfl
set_option maxRecDepth 20000 in
theorem jdP_16 : decode prog_22_method_11_code 16 = .ok (.iload_n 0, 1) := by rfl
set_option maxRecDepth 20000 in
theorem jdP_17 : decode prog_22_method_11_code 17 = .ok (.ireturn, 1) := by rfl
set_option maxRecDepth 20000 in
theorem jdK_0 : decode prog_17_method_155_code 0 = .ok (.iload_n 0, 1) := by rfl
set_option maxRecDepth 20000 in
theorem jdK_1 : decode prog_17_method_155_code 1 = .ok (.iload_n 1, 1) := by rfl
set_option maxRecDepth 20000 in
theorem jdK_2 : decode prog_17_method_155_code 2 = .ok (.getstatic 1053, 3) := by rfl
set_option maxRecDepth 20000 in
theorem jdK_5 : decode prog_17_method_155_code 5 = .ok (.invokestatic 1059, 3) := by rfl
set_option maxRecDepth 20000 in
theorem jdK_8 : decode prog_17_method_155_code 8 = .ok (.pop, 1) := by rfl
set_option maxRecDepth 20000 in
theorem jdK_9 : decode prog_17_method_155_code 9 = .ok (.return_, 1) := by rfl
set_option maxRecDepth 20000 in
theorem jdS_0 : decode prog_18_method_2_code 0 = .ok (.iload_n 1, 1) := by rfl
set_option maxRecDepth 20000 in
theorem jdS_1 : decode prog_18_method_2_code 1 = .ok (.aload_n 0, 1) := by rfl
set_option maxRecDepth 20000 in
theorem jdS_2 : decode prog_18_method_2_code 2 = .ok (.arraylength, 1) := by rfl
set_option maxRecDepth 20000 in
theorem jdS_3 : decode prog_18_method_2_code 3 = .ok (.invokestatic 9, 3) := by rfl
set_option maxRecDepth 20000 in
theorem jdS_6 : decode prog_18_method_2_code 6 = .ok (.aload_n 0, 1) := by rfl
set_option maxRecDepth 20000 in
theorem jdS_7 : decode prog_18_method_2_code 7 = .ok (.iload_n 1, 1) := by rfl
set_option maxRecDepth 20000 in
theorem jdS_8 : decode prog_18_method_2_code 8 = .ok (.baload, 1) := by rfl
set_option maxRecDepth 20000 in
theorem jdS_9 : decode prog_18_method_2_code 9 = .ok (.sipush 255, 3) := by rfl
set_option maxRecDepth 20000 in
theorem jdS_12 : decode prog_18_method_2_code 12 = .ok (.iand, 1) := by rfl
set_option maxRecDepth 20000 in
theorem jdS_13 : decode prog_18_method_2_code 13 = .ok (.i2c, 1) := by rfl
set_option maxRecDepth 20000 in
theorem jdS_14 : decode prog_18_method_2_code 14 = .ok (.ireturn, 1) := by rfl
set_option maxRecDepth 20000 in
theorem jdA_0 : decode prog_17_method_56_code 0 = .ok (.aload_n 0, 1) := by rfl
set_option maxRecDepth 20000 in
theorem jdA_1 : decode prog_17_method_56_code 1 = .ok (.invokevirtual 492, 3) := by rfl
set_option maxRecDepth 20000 in
theorem jdA_4 : decode prog_17_method_56_code 4 = .ok (.ifCond .eq 12, 3) := by rfl
set_option maxRecDepth 20000 in
theorem jdA_7 : decode prog_17_method_56_code 7 = .ok (.aload_n 0, 1) := by rfl
set_option maxRecDepth 20000 in
theorem jdA_8 : decode prog_17_method_56_code 8 = .ok (.getfield 9, 3) := by rfl
set_option maxRecDepth 20000 in
theorem jdA_11 : decode prog_17_method_56_code 11 = .ok (.iload_n 1, 1) := by rfl
set_option maxRecDepth 20000 in
theorem jdA_12 : decode prog_17_method_56_code 12 = .ok (.invokestatic 495, 3) := by rfl
set_option maxRecDepth 20000 in
theorem jdA_15 : decode prog_17_method_56_code 15 = .ok (.ireturn, 1) := by rfl
theorem jm_C : j_Met xs b aC D ex h l jyC prog_17_method_152_code 1 (some .byte) 0 [.ref (xs 3)] (some (.int 0)) := by
  refine j_met (g := xs) (as := [.ref 3]) (by decide +kernel) (by decide) ?_
  intro p e s m args below meth c ls hx hb hml hown hr hlk hW hE hL fin
  have hV := hE.2.2.2.2.2.2.2.1
  have hV0 := hV.1 0 (by decide)
  refine va_gets hx hb hE.2.2.2.2.2.2.2.2.1 va_S.rf hown (g_jw hE _ j_fC rfl) (fun _ z => z) jdC_0 ?_
  refine lv_if_eq (tgt := 13) hx hb jdC_3 rfl (fun z => absurd z (by decide)) (fun _ => ?_)
  refine lv_aload_n hx hb jdC_6 rfl (g_rd hL (i := 0) (v := .ref 3) rfl) ?_
  refine vk_getf hx hb hV0.2.1 va_S.rf hown (g_jw hE _ j_fc rfl) (fun _ z => z) jdC_7 ?_
  refine lv_goto (tgt := 14) hx hb jdC_10 rfl ?_
  exact W.zret hx hb hr rfl (fun t ht _ => fin s.heap [] hW va_S.rf t ht) (fun q hq => by cases hq) jdC_14 hlk
theorem jm_L : j_Met xs b aC D ex h l jyL prog_17_method_54_code 1 (some .int) 1 [.ref (xs 3)] (some (.int 94)) := by
  refine j_met (g := xs) (as := [.ref 3]) (by decide +kernel) (by decide) ?_
  intro p e s m args below meth c ls hx hb hml hown hr hlk hW hE hL fin
  have hV := hE.2.2.2.2.2.2.2.1
  have hV0 := hV.1 0 (by decide)
  refine lv_aload_n hx hb jdL_0 rfl (g_rd hL (i := 0) (v := .ref 3) rfl) ?_
  refine vk_getf hx hb hV0.2.2.1 va_S.rf hown (g_jw hE _ j_fv rfl) (fun _ z => z) jdL_1 ?_
  refine va_tlen hx hb hV0.2.2.2 va_S.rf (v := 94) (by decide) jdL_4 ?_
  refine lv_aload_n hx hb jdL_5 rfl (g_rd hL (i := 0) (v := .ref 3) rfl) ?_
  refine j_V (k := 0) (As := []) (q0 := xs 3) (rest := [.int 94]) jm_C hx hb hml hown hE hW va_S.rf (mwd_in j_cC) (mwd_in j_str) (g_jw hE _ j_lC rfl) (mwd_in j_iC) (mwd_in j_sC) (vk_recv (i := 0) (adK := fun _ => xs 3) hV (by decide) va_S.rf) (by decide +kernel) rfl (by decide) ⟨Nat.le_refl _, Nat.le_refl _⟩ rfl (by decide) ⟨Nat.le_refl _, Nat.le_refl _⟩ jdL_6 (fun H1 locs1 hW1 hS1 => ?_)
  refine lv_ishr (rest := []) hx hb jdL_9 ?_
  rw [show (94 : Int32) >>> ((0 : Int32) &&& 31) = 94 from by decide]
  exact W.iret hx hb hr (fun t ht _ => fin H1 locs1 hW1 hS1 t ht) hS1.2.2 jdL_10 hlk
theorem jm_I : j_Met xs b aC D ex h l jyI prog_17_method_154_code 1 (some .boolean) 0 [.ref (xs 3)] (some (.int 1)) := by
  refine j_met (g := xs) (as := [.ref 3]) (by decide +kernel) (by decide) ?_
  intro p e s m args below meth c ls hx hb hml hown hr hlk hW hE hL fin
  have hV := hE.2.2.2.2.2.2.2.1
  have hV0 := hV.1 0 (by decide)
  refine va_gets hx hb hE.2.2.2.2.2.2.2.2.1 va_S.rf hown (g_jw hE _ j_fC rfl) (fun _ z => z) jdI_0 ?_
  refine lv_if_eq (tgt := 17) hx hb jdI_3 rfl (fun z => absurd z (by decide)) (fun _ => ?_)
  refine lv_aload_n hx hb jdI_6 rfl (g_rd hL (i := 0) (v := .ref 3) rfl) ?_
  refine vk_getf hx hb hV0.2.1 va_S.rf hown (g_jw hE _ j_fc rfl) (fun _ z => z) jdI_7 ?_
  refine lv_if_ne (tgt := 17) hx hb jdI_10 rfl (fun z => absurd rfl z) (fun _ => ?_)
  refine lv_iconst hx hb jdI_13 (v := 1) (by decide) ?_
  refine lv_goto (tgt := 18) hx hb jdI_14 rfl ?_
  exact W.zret hx hb hr (x_vt 1 (Or.inr rfl)) (fun t ht _ => fin s.heap [] hW va_S.rf t ht) (fun q hq => by cases hq) jdI_18 hlk
theorem jm_P {i : Int32} {z : Value} (hz : z = .null ∨ ∃ q, z = .ref q) (h0 : ¬ i < 0) (h1 : i < 94) : j_Met xs b aC D ex h l jyP prog_22_method_11_code 3 (some .int) 0 [.int i, .int 94, z] (some (.int i)) := by
  have main : ∀ (g : Nat → Nat) (z' : Value), (z' = .null ∨ ∃ q, z' = .ref q) → j_Met xs b aC D ex h l jyP prog_22_method_11_code 3 (some .int) 0 (([.int i, .int 94, z'] : List Value).map (g_V g)) (some (.int i)) := by
    intro g z' hc
    have hl : lent [.int i, .int 94, z'] 3 = [some (.int i), some (.int 94), some z'] := by
      rcases hc with rfl | ⟨q, rfl⟩ <;> rfl
    refine j_met (g := g) (by decide +kernel) (by rcases hc with rfl | ⟨q, rfl⟩ <;> exact Nat.le_refl 3) ?_
    intro p e s m args below meth c ls hx hb hml hown hr hlk hW hE hL fin
    rw [hl] at hL
    refine lv_iload_n hx hb jdP_0 rfl (g_rd hL (i := 0) (v := .int i) rfl) ?_
    refine lv_if_lt (tgt := 9) hx hb jdP_1 rfl (fun z => absurd z h0) (fun _ => ?_)
    refine lv_iload_n hx hb jdP_4 rfl (g_rd hL (i := 0) (v := .int i) rfl) ?_
    refine lv_iload_n hx hb jdP_5 rfl (g_rd hL (i := 1) (v := .int 94) rfl) ?_
    refine lv_icmp_lt (tgt := 16) hx hb jdP_6 rfl (fun _ => ?_) (fun z => absurd h1 z)
    refine lv_iload_n hx hb jdP_16 rfl (g_rd hL (i := 0) (v := .int i) rfl) ?_
    exact W.iret hx hb hr (fun t ht _ => fin s.heap [] hW va_S.rf t ht) (fun q hq => by cases hq) jdP_17 hlk
  rcases hz with rfl | ⟨q, rfl⟩
  · exact main (fun _ => 0) .null (Or.inl rfl)
  · exact main (fun _ => q) (.ref 0) (Or.inr ⟨0, rfl⟩)
theorem jm_K {i : Int32} (h0 : ¬ i < 0) (h1 : i < 94) : j_Met xs b aC D ex h l jyK prog_17_method_155_code 2 none 1 [.int i, .int 94] none := by
  refine j_met (g := xs) (as := [.int i, .int 94]) (by decide +kernel) (by simp [lent1, Value.category]) ?_
  intro p e s m args below meth c ls hx hb hml hown hr hlk hW hE hL fin
  obtain ⟨z, hz, hZ⟩ : ∃ z : Value, (z = .null ∨ ∃ q, z = .ref q) ∧ va_Z "jdk/internal/util/Preconditions" "SIOOBE_FORMATTER" "Ljava/util/function/BiFunction;" z (g_A b) s s.heap := by
    rcases hE.2.2.2.2.2.2.2.2.2 with h | ⟨q, h⟩
    · exact ⟨_, Or.inl rfl, h⟩
    · exact ⟨_, Or.inr ⟨q, rfl⟩, h⟩
  refine lv_iload_n hx hb jdK_0 rfl (g_rd hL (i := 0) (v := .int i) rfl) ?_
  refine lv_iload_n hx hb jdK_1 rfl (g_rd hL (i := 1) (v := .int 94) rfl) ?_
  refine va_gets hx hb hZ va_S.rf hown (g_jw hE _ j_fS rfl) (fun _ z => z) jdK_2 ?_
  refine j_S (k := 3) (As := [.int i, .int 94, z]) (rest := []) (jm_P hz h0 h1) hx hb hml hown hE hW va_S.rf (mwd_in j_cP) (mwd_in j_pre) (g_jw hE _ j_lP rfl) (mwd_in j_tP) (by decide +kernel) rfl (by decide) ⟨Nat.le_refl _, Nat.le_refl _⟩ rfl (by decide) ⟨Nat.le_refl _, Nat.le_refl _⟩ jdK_5 (fun H1 locs1 hW1 hS1 => ?_)
  refine lv_pop (rest := []) (va := .int i) hx hb jdK_8 rfl ?_
  exact W.vret hx hb hr (fun t ht _ => fin H1 locs1 hW1 hS1 t ht) hS1.2.2 jdK_9 hlk
theorem j_ch : ∀ j : Fin 94, (((mTxt.getD j.1 0) &&& 255).toUInt32 % 65536).toInt32 = mTxt.getD j.1 0 ∧ narrow .char (.int (mTxt.getD j.1 0)) = .int (mTxt.getD j.1 0) := by decide +kernel
theorem jm_S {i : Int32} (h0 : ¬ i < 0) (h1 : i < 94) (hi : i.toNatClampNeg < 94) : j_Met xs b aC D ex h l jyS prog_18_method_2_code 2 (some .char) 2 [.ref (xs 4), .int i] (some (.int (mTxt.getD i.toNatClampNeg 0))) := by
  refine j_met (g := fun _ => xs 4) (as := [.ref 0, .int i]) (by decide +kernel) (by simp [lent1, Value.category]) ?_
  intro p e s m args below meth c ls hx hb hml hown hr hlk hW hE hL fin
  have hT : va_T .byte (xs 4) 94 (fun j => .int (mTxt.getD j 0)) (g_A b) s s.heap := (hE.2.2.2.2.2.2.2.1.1 0 (by decide)).2.2.2
  obtain ⟨e1, e2⟩ := j_ch ⟨_, hi⟩
  refine lv_iload_n hx hb jdS_0 rfl (g_rd hL (i := 1) (v := .int i) rfl) ?_
  refine lv_aload_n hx hb jdS_1 rfl (g_rd hL (i := 0) (v := .ref 0) rfl) ?_
  refine va_tlen hx hb hT va_S.rf (v := 94) (by decide) jdS_2 ?_
  refine j_S (k := 2) (As := [.int i, .int 94]) (rest := []) (jm_K h0 h1) hx hb hml hown hE hW va_S.rf (mwd_in j_cK) (mwd_in j_str) (g_jw hE _ j_lK rfl) (mwd_in j_tK) (by decide +kernel) rfl (by decide) ⟨Nat.le_refl _, Nat.le_refl _⟩ rfl (by decide) ⟨Nat.le_refl _, Nat.le_refl _⟩ jdS_3 (fun H1 locs1 hW1 hS1 => ?_)
  refine lv_aload_n hx hb jdS_6 rfl (g_rd hL (i := 0) (v := .ref 0) rfl) ?_
  refine lv_iload_n hx hb jdS_7 rfl (g_rd hL (i := 1) (v := .int i) rfl) ?_
  refine va_tb hx hb hT hS1 (v := .int (mTxt.getD i.toNatClampNeg 0)) (fun z => z.elim h0 (fun w => by omega)) rfl jdS_8 ?_
  refine lv_sipush hx hb jdS_9 (v := 255) (by decide) ?_
  refine lv_iand hx hb jdS_12 ?_
  refine lv_i2c hx hb jdS_13 e1 ?_
  exact W.zret hx hb hr e2 (fun t ht _ => fin H1 locs1 hW1 hS1 t ht) hS1.2.2 jdS_14 hlk
theorem jm_A {i : Int32} (h0 : ¬ i < 0) (h1 : i < 94) (hi : i.toNatClampNeg < 94) : j_Met xs b aC D ex h l jyA prog_17_method_56_code 2 (some .char) 3 [.ref (xs 3), .int i] (some (.int (mTxt.getD i.toNatClampNeg 0))) := by
  refine j_met (g := xs) (as := [.ref 3, .int i]) (by decide +kernel) (by simp [lent1, Value.category]) ?_
  intro p e s m args below meth c ls hx hb hml hown hr hlk hW hE hL fin
  have hV := hE.2.2.2.2.2.2.2.1
  have hV0 := hV.1 0 (by decide)
  obtain ⟨e1, e2⟩ := j_ch ⟨_, hi⟩
  refine lv_aload_n hx hb jdA_0 rfl (g_rd hL (i := 0) (v := .ref 3) rfl) ?_
  refine j_V (k := 0) (As := []) (q0 := xs 3) (rest := []) jm_I hx hb hml hown hE hW va_S.rf (mwd_in j_cI) (mwd_in j_str) (g_jw hE _ j_lI rfl) (mwd_in j_iI) (mwd_in j_sI) (vk_recv (i := 0) (adK := fun _ => xs 3) hV (by decide) va_S.rf) (by decide +kernel) rfl (by decide) ⟨by decide, by decide⟩ rfl (by decide) ⟨Nat.le_refl _, Nat.le_refl _⟩ jdA_1 (fun H1 locs1 hW1 hS1 => ?_)
  refine lv_if_eq (tgt := 16) (rest := []) hx hb jdA_4 rfl (fun z => absurd z (by decide)) (fun _ => ?_)
  refine lv_aload_n hx hb jdA_7 rfl (g_rd hL (i := 0) (v := .ref 3) rfl) ?_
  refine vk_getf hx hb hV0.2.2.1 hS1 hown (g_jw hE _ j_fv rfl) (fun _ z => z) jdA_8 ?_
  refine lv_iload_n hx hb jdA_11 rfl (g_rd hL (i := 1) (v := .int i) rfl) ?_
  refine j_S (k := 2) (As := [.ref (xs 4), .int i]) (rest := []) (jm_S h0 h1 hi) hx hb hml hown hE hW1 hS1 (mwd_in j_cS) (mwd_in j_sl1) (g_jw hE _ j_lS rfl) (mwd_in j_tS) (by decide +kernel) rfl (by decide) ⟨Nat.le_refl _, Nat.le_refl _⟩ rfl (by decide) ⟨Nat.le_refl _, Nat.le_refl _⟩ jdA_12 (fun H2 locs2 hW2 hS2 => ?_)
  exact W.zret hx hb hr e2 (fun t ht _ => fin H2 locs2 hW2 hS2 t ht) hS2.2.2 jdA_15 hlk
end JSTR
