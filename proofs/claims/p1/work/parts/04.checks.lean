/-! WHAT IS CHECKED OF THE PRINTED NAMES, by the kernel: each instruction is the bytes', each link stands in the tables -/
def mnorm (J : Instr) : Option Instr := match J with
  | .aload_n k => some (.aload k)
  | .iload_n k => some (.iload k)
  | .lload_n k => some (.lload k)
  | .astore_n k => some (.astore k)
  | .istore_n k => some (.istore k)
  | .lstore_n k => some (.lstore k)
  | .bipush n => if (Int8.ofInt n).toInt32 = Int32.ofInt n then some (.iconst n) else none
  | .sipush n => if (Int16.ofInt n).toInt32 = Int32.ofInt n then some (.iconst n) else none
  | .lconst n => some (.jsr_w ((n : Nat) : Int))
  | J => some J
/-- the jumps go to places from 0 on -/
def mjok (pc : Nat) (J : Instr) : Bool := match J with
  | .ifCond _ o => decide (0 ≤ (pc : Int) + o)
  | .if_icmp _ o => decide (0 ≤ (pc : Int) + o)
  | .if_acmp _ o => decide (0 ≤ (pc : Int) + o)
  | .ifnull o => decide (0 ≤ (pc : Int) + o)
  | .ifnonnull o => decide (0 ≤ (pc : Int) + o)
  | .goto o => decide (0 ≤ (pc : Int) + o)
  | .tableswitch d _ _ os => decide (0 ≤ (pc : Int) + d) && os.toList.all (fun o => decide (0 ≤ (pc : Int) + o))
  | .lookupswitch d ps => decide (0 ≤ (pc : Int) + d) && ps.toList.all (fun o => decide (0 ≤ (pc : Int) + o.2)) && (ps.toList.zip (ps.toList.drop 1)).all (fun (a, next) => a.1 < next.1)
  | _ => true
def mfo (J : Instr) (i : Nat) : Bool := match J with
  | .getfield k => k == i
  | .putfield k => k == i
  | .getstatic k => k == i
  | .invokevirtual k => k == i
  | .invokestatic k => k == i
  | .invokespecial k => k == i
  | .new k => k == i
  | .anewarray k => k == i
  | .multianewarray k _ => k == i
  | _ => false
/-- the pool's entry of an instruction that has one -/
def mpk (o q i a b : Nat) (ks : List Nat) : Bool := match mPg o q with
  | some (i2, k, a2, b2, _, _) => (i2 == i) && ks.contains k && (a2 == a) && (b2 == b)
  | none => false
def mpv (o q i k : Nat) (v : Int) : Bool := match mPg o q with
  | some (i2, k2, _, _, _, v2) => (i2 == i) && (k2 == k) && (v2 == v)
  | none => false
/-- how many arguments, and whether static -/
def mmk (a b st : Nat) : Bool := match mrec a with
  | some R => (R.2.2.2.2.2.1 == st) && (R.2.2.2.2.2.2.1 == b)
  | none => false
def okI (o : Nat) (cc : ByteArray) (pc : Nat) (r : mR) : Bool := match r with
  | (I, ln, a, b, q) => match decode cc pc with
    | .error _ => false
    | .ok (J, n) => (n == ln) && (match J with
      | .getfield i => (match I with
        | .getfield k => (k == i) && mpk o q i a b [0, 1]
        | _ => false)
      | .putfield i => (match I with
        | .putfield k => (k == i) && mpk o q i a b [0, 1]
        | _ => false)
      | .getstatic i => (match I with
        | .getstatic k => (k == i) && mpk o q i a b [8]
        | _ => false)
      | .invokevirtual i => (match I with
        | .invokevirtual k => (k == i) && mpk o q i a 0 [2, 3] && mmk a b 0
        | _ => false)
      | .invokestatic i => (match I with
        | .invokestatic k => (k == i) && mpk o q i a 0 [2, 3] && mmk a b 1
        | _ => false)
      | .invokespecial i => (match I with
        | .invokespecial k => (k == i) && mpk o q i a 0 [2, 3] && mmk a b 0
        | .pop2 => mpk o q i 0 0 [9]
        | _ => false)
      | .new i => (match I with
        | .new k => (k == i) && mpk o q i a b [4]
        | _ => false)
      | .anewarray i => (match I with
        | .anewarray k => (k == i) && mpk o q i a b [4]
        | _ => false)
      | .multianewarray i d => (match I with
        | .multianewarray k e => (k == i) && (e == d) && (d == 2) && mpk o q i a b [5]
        | _ => false)
      | .ldc i => (match I with
        | .iconst v => mpv o q i 6 v
        | _ => false)
      | .ldc_w i => (match I with
        | .iconst v => mpv o q i 6 v
        | _ => false)
      | .ldc2_w i => (match I with
        | .jsr_w v => mpv o q i 7 v
        | _ => false)
      | .pop2 => false
      | .jsr_w _ => false
      | J => decide (mnorm J = some I) && mjok pc J)
def okL (o : Nat) (cc : ByteArray) : Nat → List (Option mR) → Bool
  | _, [] => true
  | pc, none :: l => okL o cc (pc + 1) l
  | pc, some r :: l => okI o cc pc r && okL o cc (pc + 1) l
def okC (o : Nat) (cc : ByteArray) : Nat → List (List (Option mR)) → Bool
  | _, [] => true
  | pc, l :: t => (l.length == 16 || t.isEmpty) && okL o cc pc l && okC o cc (pc + 16) t
/-- a method: its code, its words -/
def okM (R : mMR) (t : Nat × Nat × Nat × Nat) : Bool := match R, t with
  | (y, cc, mx, ret, o, st, na, k), (t1, t2, t3, t4) => okC o cc 0 k && decide ((mOw[o]?).map (fun q => q.1) = some y.cls) && decide (lw_tbl[t1]? = some (.code y cc mx ret)) && decide (lw_tbl[t2]? = some (.initialized y.cls)) &&
      decide (y.cls ≠ "java/lang/invoke/MethodHandle" ∧ y.cls ≠ "java/lang/invoke/VarHandle" ∧ (parseMethodDescriptor y.desc).map (fun d => d.parameters.length) = some na) && plainName y.cls &&
      (if st = 1 then decide (lw_tbl[t3]? = some (.static y)) else decide (lw_tbl[t3]? = some (.instanceMethod y)) && (decide (y.name = "<init>") || decide (lw_tbl[t4]? = some (.selects y.cls y y))) && (decide (¬ y.name = "<init>") || decide (ret = none)))

theorem ck_0 : (mM_0.zip mHt_0).all (fun q => okM q.1 q.2) = true := by decide +kernel
