/-! A RUN OF THE SMALL MACHINE IS A RUN OF THE REAL ONE -/
theorem mtake_spec : ∀ (n : Nat) (S acc as T : List Value), mtake n S acc = some (as, T) → ∃ zs, zs.length = n ∧ S = zs ++ T ∧ as = zs.reverse ++ acc
  | 0, S, acc, as, T, h => by
    simp only [mtake, Option.some.injEq, Prod.mk.injEq] at h
    obtain ⟨rfl, rfl⟩ := h
    exact ⟨[], rfl, rfl, rfl⟩
  | n + 1, [], acc, as, T, h => by cases h
  | n + 1, v :: S, acc, as, T, h => by
    obtain ⟨zs, h1, h2, h3⟩ := mtake_spec n S (v :: acc) as T h
    refine ⟨v :: zs, by simp [h1], by simp [h2], ?_⟩
    rw [h3]
    simp
theorem mtake_0 {n : Nat} {S as T : List Value} (h : mtake n S [] = some (as, T)) : as.length = n ∧ S = as.reverse ++ T := by
  obtain ⟨zs, h1, h2, h3⟩ := mtake_spec n S [] as T h
  rw [List.append_nil] at h3
  subst h3
  exact ⟨by simp [h1], by simp [h2]⟩
def g_ws (M : mMR) : List Jvm.Cond := .code M.1 M.2.1 M.2.2.1 M.2.2.2.1 :: lw_tbl.filter goodWord
def g_rm (d mc ms : Nat) : Room := { frames := d + 5, cells := mc, slots := ms, locals := 64 * (d + 5) }
/-- what a call finds, and leaves -/
def g_Pc (xs : Nat → Nat) (b : Nat) (aC : Nat → ClassId) (D : va_G) (ex : List mE) (as : List Value) (h : List mE) : Array Value → State → Prop := va_Pc (as.map (g_V (g_ad xs b))) (fun U => g_W xs b aC D h U.heap ∧ g_Env xs b aC D ex U U.heap)
def g_Qc (xs : Nat → Nat) (b : Nat) (aC : Nat → ClassId) (D : va_G) (v : Option Value) (h1 : List mE) : Array Value → State → Outcome → State → Prop := fun _ st oc t => oc = .returned (v.map (g_V (g_ad xs b))) ∧ g_W xs b aC D h1 t.heap ∧ va_F (g_A b) st t
/-- what a run of fuel f is worth -/
def g_Sim (ex : List mE) (f : Nat) : Prop := ∀ (d mi pc : Nat) (L : mL) (S : List Value) (h : List mE) (v : Option Value) (h1 : List mE), mrun ex f d mi pc L S h = some (v, h1) → h.length ≤ h1.length ∧ mhs h ≤ mhs h1 ∧
  ∀ (p : Program) (l : Launch) (e : Env) (R : Room) (s : State) (m : MethodId) (args : Array Value) (below : List Frame) (meth : Method) (c : Code) (H : Heap) (locs : List Loc) (cells slots : Nat) (Q : State → Prop) (ls : Array Slot) (xs : Nat → Nat) (b : Nat) (aC : Nat → ClassId) (D : va_G) (M : mMR),
    mrec mi = some M → g_C xs b aC D ex p s m meth c M → d + 5 ≤ R.frames → 64 * (d + 5) ≤ R.locals → g_W xs b aC D h H → va_S (g_A b) s.heap H locs → g_H (g_ad xs b) ls L → L.length = M.2.2.1 → cells + (h1.length - h.length) ≤ R.cells → slots + (mhs h1 - mhs h) ≤ R.slots →
    (∀ (H1 : Heap) (locs1 : List Loc) (ls1 : Array Slot) (pc1 : Nat) (I : Instr), g_W xs b aC D h1 H1 → va_S (g_A b) s.heap H1 locs1 → decode M.2.1 pc1 = .ok (I, 1) → g_ret I M.2.2.2.1 v → W p l e R s m args below meth c H1 locs1 (cells + (h1.length - h.length)) (slots + (mhs h1 - mhs h)) Q (F0 m pc1 ls1 (v.map (g_V (g_ad xs b))).toList)) →
    W p l e R s m args below meth c H locs cells slots Q (F0 m pc ls (S.map (g_V (g_ad xs b))))
section GSIM
variable {p : Program} {l : Launch} {e : Env} {R : Room} {s : State} {m : MethodId} {args : Array Value} {below : List Frame} {meth : Method} {c : Code} {H : Heap} {locs : List Loc} {cells slots : Nat} {Q : State → Prop}
variable {pc : Nat} {ls : Array Slot} {ex : List mE} {xs : Nat → Nat} {b : Nat} {aC : Nat → ClassId} {D : va_G} {M : mMR}
theorem g_met {f d mi : Nat} {as : List Value} {h h1 : List mE} {v : Option Value} (hf : g_Sim ex f) (hrun : mrun ex f d mi 0 (lent as M.2.2.1) [] h = some (v, h1)) (hm : mrec mi = some M) (hM : g_M M) (hMW : g_MW M) (hlen : (lent1 as).length ≤ M.2.2.1) :
    Met l M.1 (g_ws M) (g_rm d (h1.length - h.length) (mhs h1 - mhs h)) (g_Pc xs b aC D ex as h) (g_Qc xs b aC D v h1) (h1.length - h.length) (mhs h1 - mhs h) (g_A b) := by
  refine Met.ofW (cc := M.2.1) (maxL := M.2.2.1) (ret := M.2.2.2.1) hMW.2.2.2.1 rfl ?_
  intro p e s m args below meth c s₁ B hml hv
  obtain ⟨rfl, hW, hE⟩ := hv
  have hL := g_ent (g := g_ad xs b) hlen
  rw [lg_entry_eq]
  obtain ⟨-, -, hsim⟩ := hf d mi 0 _ [] h v h1 hrun
  have hC : g_C xs b aC D ex p s m meth c M := ⟨B.exec, B.bytes, hml, findClass_of_methodNamed B.named, B.returns, B.notSynchronized, fun _ => (name_of_methodNamed B.named B.method).1, by rw [hW.1]; omega, hE, hM⟩
  refine hsim p l e _ s m _ below meth c s.heap [] 0 0 _ _ xs b aC D M hm hC (Nat.le_refl _) (Nat.le_refl _) hW va_S.rf hL (lent_len hlen) (by show 0 + _ ≤ h1.length - h.length; omega) (by show 0 + _ ≤ mhs h1 - mhs h; omega) ?_
  intro H1 locs1 ls1 pc1 I hW1 hS1 hd hr
  rw [Nat.zero_add, Nat.zero_add]
  have hfr : ∀ t : State, t.heap = H1 → g_Qc xs b aC D v h1 (as.map (g_V (g_ad xs b))).toArray s (.returned (v.map (g_V (g_ad xs b)))) t := fun t ht => ⟨rfl, by rw [ht]; exact hW1, hS1.F ht⟩
  rcases hr with ⟨rfl, z, rfl, hr⟩ | ⟨rfl, hr, z, rfl⟩ | ⟨rfl, hr, hz⟩ | ⟨rfl, hr, rfl⟩
  · rcases hr with hr | ⟨hr, hz⟩
    · exact W.iret B.exec B.bytes (B.returns.trans hr) (fun t ht _ => hfr t ht) hS1.2.2 hd B.notSynchronized
    · exact W.zret B.exec B.bytes (B.returns.trans hr) (x_vt z hz) (fun t ht _ => hfr t ht) hS1.2.2 hd B.notSynchronized
  · exact W.lret B.exec B.bytes (B.returns.trans hr) (fun t ht _ => hfr t ht) hS1.2.2 hd B.notSynchronized
  · obtain ⟨rt, hrt, hrr⟩ : ∃ rt, M.2.2.2.1 = some rt ∧ ((∃ n, rt = .object n) ∨ ∃ t, rt = .array t) := by
      rcases hr with ⟨C, hr⟩ | ⟨t, hr⟩
      · exact ⟨_, hr, Or.inl ⟨C, rfl⟩⟩
      · exact ⟨_, hr, Or.inr ⟨t, rfl⟩⟩
    rcases hz with rfl | ⟨q, rfl⟩
    · exact W.aret B.exec B.bytes (B.returns.trans hrt) hrr (Or.inl rfl) (fun t ht _ => hfr t ht) hS1.2.2 hd B.notSynchronized
    · exact W.aret B.exec B.bytes (B.returns.trans hrt) hrr (Or.inr ⟨_, rfl⟩) (fun t ht _ => hfr t ht) hS1.2.2 hd B.notSynchronized
  · exact W.vret B.exec B.bytes (B.returns.trans hr) (fun t ht _ => hfr t ht) hS1.2.2 hd B.notSynchronized
theorem g_good {M' : mMR} (hMW : g_MW M') (hcw : goodWord (Jvm.Cond.code M'.1 M'.2.1 M'.2.2.1 M'.2.2.2.1) = true) : GoodIn (lw_tbl.filter goodWord) (g_ws M') := by
  intro w hw
  rcases List.mem_cons.mp hw with rfl | hw
  · exact ⟨List.mem_filter.mpr ⟨hMW.1, hcw⟩, good_of_word hcw⟩
  · exact ⟨hw, good_of_word (List.mem_filter.mp hw).2⟩
theorem g_pcb {as : List Value} {h : List mE} : FrameBlind (g_Pc xs b aC D ex as h) := fun _ _ _ _ q => ⟨q.1, q.2.1, g_blind q.2.2⟩
theorem g_pcs {as : List Value} {h : List mE} (hE : g_Env xs b aC D ex s s.heap) (hW : g_W xs b aC D h H) (hS : va_S (g_A b) s.heap H locs) : ∀ U : State, U.heap = H → s.WarmedH U.vm → g_Pc xs b aC D ex as h (as.map (g_V (g_ad xs b))).toArray U := fun U hU hw => ⟨rfl, by rw [hU]; exact hW, by rw [hU]; exact g_warm hE hw (fun a h1 h2 => hS.2.1 a h1 h2)⟩
/-- the link of a call -/
theorem g_lm {q i a : Nat} {M' : mMR} (hM : g_M M) (hE : g_Env xs b aC D ex s s.heap) (hm : mrec a = some M') (hk : mpk M.2.2.2.2.1 q i a 0 [2, 3] = true) : (Jvm.Cond.methodLink M.1.cls i M'.1).before args s = true ∨ ∃ host, va_Nw (.methodLinkNest M.1.cls i M'.1 host) s := by
  obtain ⟨k, q2, v, hp, hk⟩ := mpk_of hk
  obtain ⟨own, l2, ho, hok⟩ := mow_pg hp
  have eo := mow_own hM ho
  subst eo
  simp only [List.mem_cons, List.not_mem_nil, or_false] at hk
  rcases hk with rfl | rfl
  · simp only [okP, hm, decide_eq_true_eq] at hok
    exact Or.inl (hE.1 _ (mwd_in hok) rfl args)
  · simp only [okP, hm] at hok
    split at hok
    · rename_i o2 i2 y host hR hw
      cases hR
      simp only [Bool.and_eq_true, decide_eq_true_eq, beq_iff_eq] at hok
      obtain ⟨⟨h1, h2⟩, h3⟩ := hok
      refine Or.inr ⟨host, ?_⟩
      rw [← h1, ← h2, ← h3]
      exact hE.2.1 _ (mwd_in hw) rfl
    · cases hok
end GSIM
