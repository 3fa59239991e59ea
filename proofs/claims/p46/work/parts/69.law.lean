-- ===== end of PART A; then your names; then what follows =====
/-! THE CLAIM OUT OF ONE WALK OF THE LAW'S BODY. Your part is whole_start (and what it stands on); all else here is the same for every law, but numbers. -/
def R_law : String := "HireYardLaw"
def lw_P (b : Addr) (xs : List Int32) (args : Array Value) (s : State) : Prop := args = #[.ref b] ∧ s.IntsAt b xs ∧ xs.length ≤ 3072 ∧ (Jvm.Cond.and given_1 narrow_1).before args s = true
def lw_Q (_ : Array Value) (s : State) (o : Outcome) (t : State) : Prop := o = .returned (some (.int 1)) ∧ Framed s o t [] 600000 7302250
def lw_Z (below : List Frame) (a : Array Value) (s : State) : State → Prop := fun t => ∃ o, t.status = .running ∧ Ended t below o ∧ lw_Q a s o t
/-- the law's own end, with 1 on the stack, nothing written that was there before, its room as the claim has it -/
theorem lw_ret {p : Program} {l : Launch} {e : Env} {s : State} {m : MethodId} {below : List Frame} {meth : Method} {c : Code} {b : Nat} (hx : p.tables.exec = Jvm.exec) (hb : c.code = code) (hr : meth.sig.returnType = ret) (hlocks : meth.locks = false) {pc : Nat} {H : Heap} {ls : Array Slot} (hdg : decode code pc = .ok (.ireturn, 1)) : W p l e room_1 s m #[Value.ref b] below meth c H [] 600000 7302250 (lw_Z below #[Value.ref b] s) (F0 m pc ls [.int 1]) := by
  intro T hT X
  obtain ⟨fs, hret, hrun, hended, hW, hframe⟩ := X.leave (v := some (.int 1)) (hlocks := hlocks) (fun h => by rw [hr] at h; cases h)
  have hmeth' : T.vm.method? m = some meth := X.method'
  refine ⟨T.setFrames fs, ?_, .returned (some (.int 1)), hrun, hended, rfl, ⟨_, rfl⟩, hW, hframe⟩
  jvm_step X.here [X.here.top, hx, hb, hdg, hmeth', hr, ret, narrow_b1]
  (try refine ⟨rfl, ?_⟩); (try refine ⟨rfl, ?_⟩)
  first | (intro acts; rw [hret _ acts rfl rfl rfl]) | rw [hret _ _ rfl rfl rfl]
  exact Steps.refl _
/-- what holds at the law's entry: the machine, the code, the tables' words (any of lw_tbl by 'hts w (by decide +kernel)'), the script of L ints xs at the cell b, what the Statement gives of the start (any of its parts by flat_of_before) -/
def lw_At (p : Program) (s : State) (m : MethodId) (meth : Method) (c : Code) (b L : Nat) (xs : Nat → Int32) : Prop :=
  p.tables.exec = Jvm.exec ∧ c.code = code ∧ meth.sig.returnType = ret ∧ c.maxLocals = 4 ∧ s.vm.findClass R_law = some m.cls ∧ (∀ w ∈ lw_tbl, w.before #[Value.ref b] s = true) ∧ va_X b L xs s s.heap ∧ b < s.heap.size ∧ meth.locks = false ∧ (Jvm.Cond.and given_1 narrow_1).before #[Value.ref b] s = true

theorem t_dg {args : Array Value} {s : State} {A : Nat → Prop} (hs : (Jvm.Cond.and given_1 narrow_1).before args s = true) (hA : ∀ a : Nat, a < s.heap.size → ¬ A a) : ∃ t : Nat, (Jvm.Term.static "HireYard$Match" "DIGIT" "[J").eval args s none [] s = some (.ref t) ∧ va_T .long t 6 (fun j => .long (mDg.getD j 0)) A s s.heap := by
  have hq := flat_of_before _ hs
  refine va_Tof (by decide) (hq (Jvm.Cond.arrayOf (Jvm.Term.static "HireYard$Match" "DIGIT" "[J") .long) (by decide +kernel)) (va_eqt (hq (Jvm.Cond.eq (Jvm.Term.length (Jvm.Term.static "HireYard$Match" "DIGIT" "[J")) (Jvm.Term.int 6)) (by decide +kernel))) (fun j hj => ?_) hA
  match j, hj with
  | 0, _ => exact va_eqtl (hq (Jvm.Cond.eq (Jvm.Term.elem (Jvm.Term.static "HireYard$Match" "DIGIT" "[J") (Jvm.Term.int 0)) (Jvm.Term.long 6240321451)) (by decide +kernel))
  | 1, _ => exact va_eqtl (hq (Jvm.Cond.eq (Jvm.Term.elem (Jvm.Term.static "HireYard$Match" "DIGIT" "[J") (Jvm.Term.int 1)) (Jvm.Term.long 68574961)) (by decide +kernel))
  | 2, _ => exact va_eqtl (hq (Jvm.Cond.eq (Jvm.Term.elem (Jvm.Term.static "HireYard$Match" "DIGIT" "[J") (Jvm.Term.int 2)) (Jvm.Term.long 753571)) (by decide +kernel))
  | 3, _ => exact va_eqtl (hq (Jvm.Cond.eq (Jvm.Term.elem (Jvm.Term.static "HireYard$Match" "DIGIT" "[J") (Jvm.Term.int 3)) (Jvm.Term.long 8281)) (by decide +kernel))
  | 4, _ => exact va_eqtl (hq (Jvm.Cond.eq (Jvm.Term.elem (Jvm.Term.static "HireYard$Match" "DIGIT" "[J") (Jvm.Term.int 4)) (Jvm.Term.long 91)) (by decide +kernel))
  | 5, _ => exact va_eqtl (hq (Jvm.Cond.eq (Jvm.Term.elem (Jvm.Term.static "HireYard$Match" "DIGIT" "[J") (Jvm.Term.int 5)) (Jvm.Term.long 1)) (by decide +kernel))
  | n + 6, hj => exact absurd hj (by omega)
theorem t_nm {args : Array Value} {s : State} {A : Nat → Prop} (hs : (Jvm.Cond.and given_1 narrow_1).before args s = true) (hA : ∀ a : Nat, a < s.heap.size → ¬ A a) : ∃ t : Nat, (Jvm.Term.static "HireYardModel" "NAMES" "[J").eval args s none [] s = some (.ref t) ∧ va_T .long t 14 (fun j => .long (mNm.getD j 0)) A s s.heap := by
  have hq := flat_of_before _ hs
  refine va_Tof (by decide) (hq (Jvm.Cond.arrayOf (Jvm.Term.static "HireYardModel" "NAMES" "[J") .long) (by decide +kernel)) (va_eqt (hq (Jvm.Cond.eq (Jvm.Term.length (Jvm.Term.static "HireYardModel" "NAMES" "[J")) (Jvm.Term.int 14)) (by decide +kernel))) (fun j hj => ?_) hA
  match j, hj with
  | 0, _ => exact va_eqtl (hq (Jvm.Cond.eq (Jvm.Term.elem (Jvm.Term.static "HireYardModel" "NAMES" "[J") (Jvm.Term.int 0)) (Jvm.Term.long 80155)) (by decide +kernel))
  | 1, _ => exact va_eqtl (hq (Jvm.Cond.eq (Jvm.Term.elem (Jvm.Term.static "HireYardModel" "NAMES" "[J") (Jvm.Term.int 1)) (Jvm.Term.long 1065)) (by decide +kernel))
  | 2, _ => exact va_eqtl (hq (Jvm.Cond.eq (Jvm.Term.elem (Jvm.Term.static "HireYardModel" "NAMES" "[J") (Jvm.Term.int 2)) (Jvm.Term.long 12325519)) (by decide +kernel))
  | 3, _ => exact va_eqtl (hq (Jvm.Cond.eq (Jvm.Term.elem (Jvm.Term.static "HireYardModel" "NAMES" "[J") (Jvm.Term.int 3)) (Jvm.Term.long 358472)) (by decide +kernel))
  | 4, _ => exact va_eqtl (hq (Jvm.Cond.eq (Jvm.Term.elem (Jvm.Term.static "HireYardModel" "NAMES" "[J") (Jvm.Term.int 4)) (Jvm.Term.long 355568)) (by decide +kernel))
  | 5, _ => exact va_eqtl (hq (Jvm.Cond.eq (Jvm.Term.elem (Jvm.Term.static "HireYardModel" "NAMES" "[J") (Jvm.Term.int 5)) (Jvm.Term.long 4562587)) (by decide +kernel))
  | 6, _ => exact va_eqtl (hq (Jvm.Cond.eq (Jvm.Term.elem (Jvm.Term.static "HireYardModel" "NAMES" "[J") (Jvm.Term.int 6)) (Jvm.Term.long 311436)) (by decide +kernel))
  | 7, _ => exact va_eqtl (hq (Jvm.Cond.eq (Jvm.Term.elem (Jvm.Term.static "HireYardModel" "NAMES" "[J") (Jvm.Term.int 7)) (Jvm.Term.long 355280)) (by decide +kernel))
  | 8, _ => exact va_eqtl (hq (Jvm.Cond.eq (Jvm.Term.elem (Jvm.Term.static "HireYardModel" "NAMES" "[J") (Jvm.Term.int 8)) (Jvm.Term.long 38567165)) (by decide +kernel))
  | 9, _ => exact va_eqtl (hq (Jvm.Cond.eq (Jvm.Term.elem (Jvm.Term.static "HireYardModel" "NAMES" "[J") (Jvm.Term.int 9)) (Jvm.Term.long 133554)) (by decide +kernel))
  | 10, _ => exact va_eqtl (hq (Jvm.Cond.eq (Jvm.Term.elem (Jvm.Term.static "HireYardModel" "NAMES" "[J") (Jvm.Term.int 10)) (Jvm.Term.long 158692)) (by decide +kernel))
  | 11, _ => exact va_eqtl (hq (Jvm.Cond.eq (Jvm.Term.elem (Jvm.Term.static "HireYardModel" "NAMES" "[J") (Jvm.Term.int 11)) (Jvm.Term.long 12532058)) (by decide +kernel))
  | 12, _ => exact va_eqtl (hq (Jvm.Cond.eq (Jvm.Term.elem (Jvm.Term.static "HireYardModel" "NAMES" "[J") (Jvm.Term.int 12)) (Jvm.Term.long 11570)) (by decide +kernel))
  | 13, _ => exact va_eqtl (hq (Jvm.Cond.eq (Jvm.Term.elem (Jvm.Term.static "HireYardModel" "NAMES" "[J") (Jvm.Term.int 13)) (Jvm.Term.long 14420)) (by decide +kernel))
  | n + 14, hj => exact absurd hj (by omega)

abbrev tTx : Jvm.Term := .string "HireYard$Tape" 81
abbrev tVl : Jvm.Term := .field tTx "java/lang/String" "value" "[B"
theorem t_el : ∀ j : Fin 94, Jvm.Cond.eq (.elem tVl (.int (Int32.ofNat j.1))) (.int (mTxt.getD j.1 0)) ∈ flatC (Jvm.Cond.and given_1 narrow_1) := by decide +kernel
/-- the text of words, at the start -/
theorem t_tx {args : Array Value} {s : State} {A : Nat → Prop} (hs : (Jvm.Cond.and given_1 narrow_1).before args s = true) (hr : (Jvm.Cond.stringRef "HireYard$Tape" 81 mTx).before args s = true) (hA : ∀ a : Nat, a < s.heap.size → ¬ A a) : ∃ t u : Nat, vk_R "HireYard$Tape" 81 mTx t s ∧ vk_S 1 [94] [mTxt] (fun _ => t) (fun _ => u) A s s.heap := by
  have hq := flat_of_before _ hs
  have h1 : ∀ i : Nat, i < 1 → i = 0 := fun i hi => by omega
  obtain ⟨adK, adV, hS, hT⟩ := vk_Sof (args := args) (s := s) (N := 1) (tm := fun _ => tTx) (len := [94]) (byt := [mTxt]) (A := A)
    (fun i hi => by rw [h1 i hi]; decide)
    (fun i _ => hq (Jvm.Cond.exactly tTx "java/lang/String") (by decide +kernel))
    (fun i _ => hq (Jvm.Cond.eq (.field tTx "java/lang/String" "coder" "B") (.int 0)) (by decide +kernel))
    (fun i _ => hq (Jvm.Cond.arrayOf tVl .byte) (by decide +kernel))
    (fun i hi => by rw [h1 i hi]; exact hq (Jvm.Cond.eq (.length tVl) (.int 94)) (by decide +kernel))
    (fun i hi j hj => by
      have e := h1 i hi
      subst e
      exact hq _ (t_el ⟨j, hj⟩))
    (fun i j hi hj hij => absurd ((h1 i hi).trans (h1 j hj).symm) hij) hA
  have hT0 := hT 0 (by decide)
  refine ⟨adK 0, adV 0, vk_R.of hr hT0, ⟨fun i hi => ?_, fun i j hi hj _ => (h1 i hi).trans (h1 j hj).symm⟩⟩
  · have := hS.1 0 (by decide)
    rw [h1 i hi]
    exact this
theorem t_cs {args : Array Value} {s : State} (hs : (Jvm.Cond.and given_1 narrow_1).before args s = true) : (Term.static "java/lang/String" "COMPACT_STRINGS" "Z").eval args s none [] s = some (.int 1) := va_eqt (flat_of_before _ hs (Jvm.Cond.eq (.static "java/lang/String" "COMPACT_STRINGS" "Z") (.int 1)) (by decide +kernel))
theorem t_si {args : Array Value} {s : State} (hs : (Jvm.Cond.and given_1 narrow_1).before args s = true) : (Jvm.Cond.isRef (.static "jdk/internal/util/Preconditions" "SIOOBE_FORMATTER" "Ljava/util/function/BiFunction;")).before args s = true := flat_of_before _ hs _ (by decide +kernel)
