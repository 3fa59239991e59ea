/-! WHAT IS CHECKED OF THE PRINTED NAMES, by the kernel: each instruction is the bytes', each link stands in the tables -/
def mnorm (J : Instr) : Option Instr := match J with
  | .aload_n k => some (.aload k)
  | .iload_n k => some (.iload k)
  | .lload_n k => some (.lload k)
  | .astore_n k => some (.astore k)
  | .istore_n k => some (.istore k)
  | .lstore_n k => some (.lstore k)
  | .bipush n => if (Int8.ofInt n).toInt32 = Int32.ofInt n then some (.iconst n) else none
  | .sipush n => if (Int16.ofInt n).toInt32 = Int32.ofInt n then some (.iconst n) else none
  | .lconst n => some (.jsr_w ((n : Nat) : Int))
  | J => some J
/-- the jumps go to places from 0 on -/
def mjok (pc : Nat) (J : Instr) : Bool := match J with
  | .ifCond _ o => decide (0 ≤ (pc : Int) + o)
  | .if_icmp _ o => decide (0 ≤ (pc : Int) + o)
  | .if_acmp _ o => decide (0 ≤ (pc : Int) + o)
  | .ifnull o => decide (0 ≤ (pc : Int) + o)
  | .ifnonnull o => decide (0 ≤ (pc : Int) + o)
  | .goto o => decide (0 ≤ (pc : Int) + o)
  | .tableswitch d _ _ os => decide (0 ≤ (pc : Int) + d) && os.toList.all (fun o => decide (0 ≤ (pc : Int) + o))
  | .lookupswitch d ps => decide (0 ≤ (pc : Int) + d) && ps.toList.all (fun o => decide (0 ≤ (pc : Int) + o.2)) && (ps.toList.zip (ps.toList.drop 1)).all (fun (a, next) => a.1 < next.1)
  | _ => true
def mfo (J : Instr) (i : Nat) : Bool := match J with
  | .getfield k => k == i
  | .putfield k => k == i
  | .getstatic k => k == i
  | .invokevirtual k => k == i
  | .invokestatic k => k == i
  | .invokespecial k => k == i
  | .new k => k == i
  | .anewarray k => k == i
  | .multianewarray k _ => k == i
  | _ => false
/-- the pool's entry of an instruction that has one -/
def mpk (o q i a b : Nat) (ks : List Nat) : Bool := match mPg o q with
  | some (i2, k, a2, b2, _, _) => (i2 == i) && ks.contains k && (a2 == a) && (b2 == b)
  | none => false
def mpv (o q i k : Nat) (v : Int) : Bool := match mPg o q with
  | some (i2, k2, _, _, _, v2) => (i2 == i) && (k2 == k) && (v2 == v)
  | none => false
/-- how many arguments, and whether static -/
def mmk (a b st : Nat) (ini : Bool) : Bool := match mrec a with
  | some R => Nat.blt a mLaw && (R.2.2.2.2.2.1 == st) && (R.2.2.2.2.2.2.1 == b) && (decide (R.1.name = "<init>") == ini)
  | none => false
/-- a field that is not final; or one in its own class's constructor -/
def mnf (a b : Nat) : Bool := match vwCl[a]? with
  | some (_, T, _) => decide ((T b).2.2.2 = false)
  | none => false
def mfin (y : MethodName) (a b : Nat) : Bool := match vwCl[a]? with
  | some (_, T, _) => decide (y.name = "<init>") && decide ((T b).1 = y.cls)
  | none => false
/-- how many bytes an instruction has (0: as many as it says) -/
def mlen (J : Instr) : Nat := match J with
  | .bipush _ => 2
  | .ldc _ => 2
  | .iload _ => 2
  | .lload _ => 2
  | .aload _ => 2
  | .istore _ => 2
  | .lstore _ => 2
  | .astore _ => 2
  | .newarray _ => 2
  | .sipush _ => 3
  | .ldc_w _ => 3
  | .ldc2_w _ => 3
  | .iinc _ _ => 3
  | .ifCond _ _ => 3
  | .if_icmp _ _ => 3
  | .if_acmp _ _ => 3
  | .ifnull _ => 3
  | .ifnonnull _ => 3
  | .goto _ => 3
  | .getfield _ => 3
  | .putfield _ => 3
  | .getstatic _ => 3
  | .invokevirtual _ => 3
  | .invokestatic _ => 3
  | .invokespecial _ => 3
  | .new _ => 3
  | .anewarray _ => 3
  | .checkcast _ => 3
  | .multianewarray _ _ => 4
  | .tableswitch _ _ _ _ => 0
  | .lookupswitch _ _ => 0
  | _ => 1
def okI (o : Nat) (y : MethodName) (cc : ByteArray) (pc : Nat) (r : mR) : Bool := match r with
  | (I, ln, a, b, q) => match decode cc pc with
    | .error _ => false
    | .ok (J, n) => (n == ln) && (mlen J == 0 || n == mlen J) && (match J with
      | .getfield i => (match I with
        | .getfield k => (k == i) && mpk o q i a b [0, 1]
        | _ => false)
      | .putfield i => (match I with
        | .putfield k => (k == i) && ((mpk o q i a b [0] && (mnf a b || mfin y a b)) || (mpk o q i a b [1] && mnf a b))
        | _ => false)
      | .getstatic i => (match I with
        | .getstatic k => (k == i) && mpk o q i a b [8]
        | _ => false)
      | .invokevirtual i => (match I with
        | .invokevirtual k => (k == i) && mpk o q i a 0 [2, 3] && mmk a b 0 false
        | .dmul => mpk o q i 3 0 [11]
        | .ddiv => mpk o q i 4 0 [11]
        | .fmul => mpk o q i 5 0 [11]
        | _ => false)
      | .invokestatic i => (match I with
        | .invokestatic k => (k == i) && mpk o q i a 0 [2, 3] && mmk a b 1 false
        | .fadd => mpk o q i 0 0 [11]
        | .fsub => mpk o q i 1 0 [11]
        | .dsub => mpk o q i 2 0 [11]
        | .frem => mpk o q i 6 0 [11]
        | _ => false)
      | .checkcast i => (match I with
        | .fdiv => mpk o q i 0 0 [12]
        | _ => false)
      | .invokespecial i => (match I with
        | .invokespecial k => (k == i) && mpk o q i a 0 [2, 3] && mmk a b 0 true
        | .pop2 => mpk o q i 0 0 [9]
        | _ => false)
      | .new i => (match I with
        | .new k => (k == i) && mpk o q i a b [4]
        | _ => false)
      | .anewarray i => (match I with
        | .anewarray k => (k == i) && mpk o q i a b [10]
        | _ => false)
      | .multianewarray i d => (match I with
        | .multianewarray k e => (k == i) && (e == d) && (d == 2) && mpk o q i a b [5]
        | _ => false)
      | .ldc i => (match I with
        | .iconst v => mpv o q i 6 v
        | .dadd => mpk o q i 0 0 [13]
        | _ => false)
      | .ldc_w i => (match I with
        | .iconst v => mpv o q i 6 v
        | _ => false)
      | .ldc2_w i => (match I with
        | .jsr_w v => mpv o q i 7 v
        | _ => false)
      | .pop2 => false
      | .fadd => false
      | .fsub => false
      | .dsub => false
      | .dadd => false
      | .dmul => false
      | .ddiv => false
      | .fmul => false
      | .fdiv => false
      | .frem => false
      | .jsr_w _ => false
      | J => decide (mnorm J = some I) && mjok pc J)
def okL (o : Nat) (y : MethodName) (cc : ByteArray) : Nat → List (Option mR) → Bool
  | _, [] => true
  | pc, none :: l => okL o y cc (pc + 1) l
  | pc, some r :: l => okI o y cc pc r && okL o y cc (pc + 1) l
def okCk (o : Nat) (y : MethodName) (cc : ByteArray) : Nat → List (List (Option mR)) → Bool
  | _, [] => true
  | pc, l :: t => okL o y cc pc l && okCk o y cc (pc + 16) t
/-- a method: its code, its words -/
def okM (R : mMR) (t : Nat × Nat × Nat × Nat) : Bool := match R, t with
  | (y, cc, mx, ret, o, st, na, k), (t1, t2, t3, t4) => okCk o y cc 0 k && decide ((mOw[o]?).map (fun q => q.1) = some y.cls) && decide (mwd t1 = some (.code y cc mx ret)) && decide (mwd t2 = some (.initialized y.cls)) &&
      decide (y.cls ≠ "java/lang/invoke/MethodHandle" ∧ y.cls ≠ "java/lang/invoke/VarHandle" ∧ (parseMethodDescriptor y.desc).map (fun d => d.parameters.length) = some na) && plainName y.cls &&
      decide (mx ≤ 45) &&
      (if st = 1 then decide (mwd t3 = some (.static y)) else decide (mwd t3 = some (.instanceMethod y)) && (decide (y.name = "<init>") || decide (mwd t4 = some (.selects y.cls y y))) && (decide (¬ y.name = "<init>") || decide (ret = none)))


/-- the JDK's functions that are called -/
def mJF : List MethodName := [Lib.Math.max.name, Lib.Math.min.name, Lib.MathLoose.min_long.x, ⟨"java/lang/String", "length", "()I"⟩, ⟨"java/lang/String", "charAt", "(I)C"⟩, ⟨"[I", "clone", "()Ljava/lang/Object;"⟩, arraycopyName]
def mTx : String := "days all weeks rest rate hours over rain broken fuel harm worth own sub from up to least most "
/-- an entry of a pool: what it names stands in the tables -/
def okP (own : String) (e : mPE) : Bool := match e with
  | (i, k, a, b, q, v) => match k with
    | 0 => (match vwCl[a]? with
      | some (_, T, N) => decide (b < N) && decide (mwd q = some (.fieldLink own i (T b).1 (T b).2.1 (T b).2.2.1))
      | none => false)
    | 1 => (match vwCl[a]?, mwd q with
      | some (_, T, N), some (.fieldLinkNest o2 i2 r n d _) => decide (b < N) && decide (o2 = own) && (i2 == i) && decide (r = (T b).1) && decide (n = (T b).2.1) && decide (d = (T b).2.2.1) 
      | _, _ => false)
    | 2 => (match mrec a with
      | some R => decide (mwd q = some (.methodLink own i R.1))
      | none => false)
    | 3 => (match mrec a, mwd q with
      | some R, some (.methodLinkNest o2 i2 y _) => decide (o2 = own) && (i2 == i) && decide (y = R.1)
      | _, _ => false)
    | 4 => (match vwCl[a]? with
      | some (C, _, _) => decide (mwd q = some (.classLink own i C))
      | none => false)
    | 5 => decide (mwd q = some (.classLink own i ("[" ++ (FieldType.array .int).toString)))
    | 6 => decide (mwd q = some (.constant own i (Int32.ofInt v)))
    | 7 => decide (mwd q = some (.constantLong own i (Int64.ofInt v)))
    | 8 => (match mStc[a]? with
      | some (C, n, d) => decide (mwd q = some (.fieldLink own i C n d))
      | none => false)
    | 9 => decide (mwd q = some (.methodLink own i objectInit))
    | 10 => (match vwCl[b]?, mAT[a]? with
      | some (C, _, _), some ty => decide (mwd q = some (.classLink own i C)) && decide (ty = .object C) && decide (mEl[a]? = some (some b))
      | _, _ => false)
    | 11 => (match mJF[a]? with
      | some y => decide (mwd q = some (.methodLink own i y))
      | none => false)
    | 12 => decide (mwd q = some (.classLink own i "[I"))
    | 13 => decide (own = "HireYard$Tape") && decide (i = 81) && decide (mwd q = some (.stringRef own i mTx))
    | _ => false
/-- the classes: their words, their fields' types -/
def okF (cl : List vw_C) (hs : List (Nat × Nat × List Nat)) (tys : List (List FieldType)) : Bool := (cl.zip (hs.zip tys)).all fun q => match q with
  | ((C, T, N), (t1, t2, l), ty) => decide (mwd t1 = some (.instantiable C N)) && decide (mwd t2 = some (.initialized C)) && decide (l.map (fun i => mwd i) = (u_ws C T N).map some) && decide (ty.length = N) && decide ((List.range N).map (fun k => parseFieldDescriptor (T k).2.2.1) = ty.map some) && (u_ws C T N).all goodWord
def okA : Bool := (mAT.zip mAh).all fun q => decide (mwd q.2 = some (.arrayClass q.1)) || decide (mwd q.2 = some (.arrayOver q.1))

theorem mwd_in {q : Nat} {w : Jvm.Cond} (h : mwd q = some w) : w ∈ lw_tbl := by
  unfold mwd at h
  split at h
  · rename_i l hl
    have h1 : l ∈ mTb := List.mem_of_getElem? hl
    have h2 : w ∈ l := List.mem_of_getElem? h
    unfold lw_tbl tables_1
    simp only [mTb, List.mem_cons, List.not_mem_nil, or_false] at h1
    simp only [List.mem_append]
    rcases h1 with rfl | rfl | rfl | rfl | rfl | rfl | rfl | rfl | rfl | rfl
    all_goals simp [h2]
  · cases h
theorem ck_F : okF vwCl mCh mTy = true := by decide +kernel
theorem ck_A : okA = true := by decide +kernel
theorem ck_P0 : mP_0.all (fun l => l.all (okP "HireYard$Bills")) = true := by decide +kernel
theorem ck_P1 : mP_1.all (fun l => l.all (okP "HireYard$Kind")) = true := by decide +kernel
theorem ck_P2 : mP_2.all (fun l => l.all (okP "HireYard$Log")) = true := by decide +kernel
theorem ck_P3 : mP_3.all (fun l => l.all (okP "HireYard$Lorry")) = true := by decide +kernel
theorem ck_P4 : mP_4.all (fun l => l.all (okP "HireYard$Machine")) = true := by decide +kernel
theorem ck_P5 : mP_5.all (fun l => l.all (okP "HireYard$Match")) = true := by decide +kernel
theorem ck_P6 : mP_6.all (fun l => l.all (okP "HireYard$Meter")) = true := by decide +kernel
theorem ck_P7 : mP_7.all (fun l => l.all (okP "HireYard$Order")) = true := by decide +kernel
theorem ck_P8 : mP_8.all (fun l => l.all (okP "HireYard$Roads")) = true := by decide +kernel
theorem ck_P9 : mP_9.all (fun l => l.all (okP "HireYard$Tape")) = true := by decide +kernel
theorem ck_P10 : mP_10.all (fun l => l.all (okP "HireYard$Terms")) = true := by decide +kernel
theorem ck_P11 : mP_11.all (fun l => l.all (okP "HireYard")) = true := by decide +kernel
theorem ck_P12 : mP_12.all (fun l => l.all (okP "HireYardModel")) = true := by decide +kernel
theorem ck_P13 : mP_13.all (fun l => l.all (okP "HireYardLaw")) = true := by decide +kernel
theorem ck_P14 : mP_14.all (fun l => l.all (okP "java/lang/Math")) = true := by decide +kernel
theorem ck_P15 : mP_15.all (fun l => l.all (okP "java/util/Arrays")) = true := by decide +kernel
theorem ck_P : mOw.all (fun q => q.2.all fun l => l.all (okP q.1)) = true := by
  simp only [mOw, List.all_cons, List.all_nil, Bool.and_true, ck_P0, ck_P1, ck_P2, ck_P3, ck_P4, ck_P5, ck_P6, ck_P7, ck_P8, ck_P9, ck_P10, ck_P11, ck_P12, ck_P13, ck_P14, ck_P15]
theorem ck_ai : Jvm.Cond.arrayClass .int ∈ lw_tbl := mwd_in (q := mAh.getD 0 0) (by decide +kernel)
theorem ck_az : Jvm.Cond.arrayClass .boolean ∈ lw_tbl := mwd_in (q := mAh.getD 1 0) (by decide +kernel)
theorem ck_al : Jvm.Cond.arrayClass .long ∈ lw_tbl := mwd_in (q := mAh.getD 2 0) (by decide +kernel)
theorem ck_ab : Jvm.Cond.arrayClass .byte ∈ lw_tbl := mwd_in (q := mAh.getD 8 0) (by decide +kernel)
theorem ck_am : Jvm.Cond.arrayOver (.array .int) ∈ lw_tbl := mwd_in (q := mAh.getD 7 0) (by decide +kernel)
theorem ck_ao : ∀ (t : Nat) (C : String), mAT[t]? = some (.object C) → Jvm.Cond.arrayOver (.object C) ∈ lw_tbl
  | 0, _, h => by cases h
  | 1, _, h => by cases h
  | 2, _, h => by cases h
  | 3, _, h => by cases h; exact mwd_in (q := mAh.getD 3 0) (by decide +kernel)
  | 4, _, h => by cases h; exact mwd_in (q := mAh.getD 4 0) (by decide +kernel)
  | 5, _, h => by cases h; exact mwd_in (q := mAh.getD 5 0) (by decide +kernel)
  | 6, _, h => by cases h; exact mwd_in (q := mAh.getD 6 0) (by decide +kernel)
  | 7, _, h => by cases h
  | 8, _, h => by cases h
  | n + 9, _, h => by cases h
theorem ck_oi : Jvm.Cond.instanceMethod Lib.objectInit ∈ lw_tbl := mwd_in (q := mOi.1) (by decide +kernel)
theorem ck_oc : Jvm.Cond.code Lib.objectInit ⟨#[0xb1]⟩ 1 none ∈ lw_tbl := mwd_in (q := mOi.2) (by decide +kernel)
theorem ck_ow : ∀ (ci : Nat) (C : String) (T : u_T) (N : Nat), vwCl[ci]? = some (C, T, N) → (mOw[ci]?).map (fun q => q.1) = some C
  | 0, _, _, _, h => by cases h; rfl
  | 1, _, _, _, h => by cases h; rfl
  | 2, _, _, _, h => by cases h; rfl
  | 3, _, _, _, h => by cases h; rfl
  | 4, _, _, _, h => by cases h; rfl
  | 5, _, _, _, h => by cases h; rfl
  | 6, _, _, _, h => by cases h; rfl
  | 7, _, _, _, h => by cases h; rfl
  | 8, _, _, _, h => by cases h; rfl
  | 9, _, _, _, h => by cases h; rfl
  | 10, _, _, _, h => by cases h; rfl
  | 11, _, _, _, h => by cases h; rfl
  | 12, _, _, _, h => by cases h; rfl
  | n + 13, _, _, _, h => by cases h
theorem ck_s0 : Jvm.Cond.laysStatic "HireYard$Match" "DIGIT" "[J" ∈ lw_tbl := mwd_in (q := mSw.getD 0 0) (by decide +kernel)
theorem ck_s1 : Jvm.Cond.laysStatic "HireYardModel" "NAMES" "[J" ∈ lw_tbl := mwd_in (q := mSw.getD 1 0) (by decide +kernel)
theorem ck_i0 : Jvm.Cond.initialized "HireYard$Match" ∈ lw_tbl := mwd_in (q := mSi.getD 0 0) (by decide +kernel)
theorem ck_i1 : Jvm.Cond.initialized "HireYardModel" ∈ lw_tbl := mwd_in (q := mSi.getD 1 0) (by decide +kernel)
