/-! THE SMALL MACHINE: what the printed code does to a list of cells, by fuel; 03 says what it is, 05 that the real one does the same -/
abbrev mE : Type := (Nat × vp_A) ⊕ (Nat × List Value)
abbrev mL : Type := List (Option Value)
abbrev mO : Type := (Nat × mL × List Value × List mE) ⊕ ((Nat × List Value × List Value) ⊕ Option Value)
/-- the cells: the first four are given (the script, two tables, the text of words), the others are the run's own -/
def mget (ex h : List mE) (q : Nat) : Option mE := if q < 4 then ex[q]? else h[q - 4]?
def mput (h : List mE) (q : Nat) (e : mE) : List mE := h.set (q - 4) e
def mown (h : List mE) (q : Nat) : Option mE := if q < 4 then none else h[q - 4]?
def msz (e : mE) : Nat := match e with
  | .inl (_, (n, _)) => n
  | .inr (_, fs) => fs.length
def mhs (h : List mE) : Nat := (h.map msz).sum
def mfty (ci k : Nat) : Option FieldType := match mTy[ci]? with
  | some l => l[k]?
  | none => none
def lget (L : mL) (i : Nat) : Option Value := match L[i]? with
  | some (some v) => some v
  | _ => none
def lclr (L : mL) : Nat → mL
  | 0 => L
  | i + 1 => match L[i]? with
    | some (some (.long _)) => L.set i none
    | some (some (.double _)) => L.set i none
    | _ => L
def lset1 (L : mL) (i : Nat) (v : Value) : mL := (lclr L i).set i (some v)
def lset2 (L : mL) (i : Nat) (v : Value) : mL := ((lclr L i).set i (some v)).set (i + 1) none
/-- the locals with which a method begins -/
def lent1 : List Value → mL
  | [] => []
  | v :: vs => if v.category = 2 then some v :: none :: lent1 vs else some v :: lent1 vs
def lent (vs : List Value) (n : Nat) : mL := lent1 vs ++ List.replicate (n - (lent1 vs).length) none
def mcmp (c : ClassFile.Cond) (x y : Int32) : Bool := match c with
  | .eq => decide (x = y)
  | .ne => !decide (x = y)
  | .lt => decide (x < y)
  | .ge => decide (y ≤ x)
  | .gt => decide (y < x)
  | .le => decide (x ≤ y)
def macm (c : ACond) (e : Bool) (t f : Nat) : Nat := match c, e with
  | .eq, true => t
  | .eq, false => f
  | .ne, true => f
  | .ne, false => t
def mjmp (pc : Nat) (off : Int) : Nat := ((pc : Int) + off).toNat
def mib (i : Int32) (n : Nat) : Bool := !(decide (i < 0) || decide (n ≤ i.toNatClampNeg))
/-- a value may stand in a place of this type as it is -/
def mfit (ty : FieldType) (v : Value) : Bool := match ty, v with
  | .int, .int _ => true
  | .long, .long _ => true
  | .boolean, .int x => decide (x = 0) || decide (x = 1)
  | .object _, .null => true
  | .object _, .ref _ => true
  | .array _, .null => true
  | .array _, .ref _ => true
  | _, _ => false
def mcat (S : List Value) : Nat := (S.map fun v => v.category).sum
def mgo (pc : Nat) (L : mL) (S : List Value) (h : List mE) : Option mO := some (.inl (pc, L, S, h))
def mcall (mj : Nat) (as S : List Value) : Option mO := some (.inr (.inl (mj, as, S)))
/-- the arguments on the stack, the first one deepest -/
def mtake : Nat → List Value → List Value → Option (List Value × List Value)
  | 0, S, as => some (as, S)
  | n + 1, v :: S, as => mtake n S (v :: as)
  | _ + 1, [], _ => none
def mrows (n m q : Nat) : List mE := List.replicate n (.inl (0, (m, .inl (fun _ => 0))))
/-- the text of words -/
def mTxt : List Int32 := [100, 97, 121, 115, 32, 97, 108, 108, 32, 119, 101, 101, 107, 115, 32, 114, 101, 115, 116, 32, 114, 97, 116, 101, 32, 104, 111, 117, 114, 115, 32, 111, 118, 101, 114, 32, 114, 97, 105, 110, 32, 98, 114, 111, 107, 101, 110, 32, 102, 117, 101, 108, 32, 104, 97, 114, 109, 32, 119, 111, 114, 116, 104, 32, 111, 119, 110, 32, 115, 117, 98, 32, 102, 114, 111, 109, 32, 117, 112, 32, 116, 111, 32, 108, 101, 97, 115, 116, 32, 109, 111, 115, 116, 32]
/-- one instruction -/
def mx (ret : Option FieldType) (ex : List mE) (r : mR) (pc : Nat) (L : mL) (S : List Value) (h : List mE) : Option mO :=
  match r with
  | (I, ln, a, b, _) => match I with
    | .iconst v => mgo (pc + ln) L (.int (Int32.ofInt v) :: S) h
    | .jsr_w v => mgo (pc + ln) L (.long (Int64.ofInt v) :: S) h
    | .aconst_null => mgo (pc + ln) L (.null :: S) h
    | .iload i => (match lget L i with
      | some (.int x) => mgo (pc + ln) L (.int x :: S) h
      | _ => none)
    | .lload i => (match lget L i with
      | some (.long x) => mgo (pc + ln) L (.long x :: S) h
      | _ => none)
    | .aload i => (match lget L i with
      | some (.ref x) => mgo (pc + ln) L (.ref x :: S) h
      | some .null => mgo (pc + ln) L (.null :: S) h
      | _ => none)
    | .istore i => (match S with
      | .int x :: T => if i < L.length then mgo (pc + ln) (lset1 L i (.int x)) T h else none
      | _ => none)
    | .lstore i => (match S with
      | .long x :: T => if i + 1 < L.length then mgo (pc + ln) (lset2 L i (.long x)) T h else none
      | _ => none)
    | .astore i => (match S with
      | .ref x :: T => if i < L.length then mgo (pc + ln) (lset1 L i (.ref x)) T h else none
      | .null :: T => if i < L.length then mgo (pc + ln) (lset1 L i .null) T h else none
      | _ => none)
    | .iinc i n => (match lget L i with
      | some (.int x) => if i < L.length then mgo (pc + ln) (lset1 L i (.int (x + Int32.ofInt n))) S h else none
      | _ => none)
    | .pop => (match S with
      | v :: T => if v.category = 1 then mgo (pc + ln) L T h else none
      | _ => none)
    | .pop2 => (match S with
      | .ref _ :: T => if mcat T ≤ 8 then mgo (pc + ln) L T h else none
      | _ => none)
    | .dup => (match S with
      | v :: T => if v.category = 1 then mgo (pc + ln) L (v :: v :: T) h else none
      | _ => none)
    | .dup_x1 => (match S with
      | v :: w :: T => if v.category = 1 ∧ w.category = 1 then mgo (pc + ln) L (v :: w :: v :: T) h else none
      | _ => none)
    | .dup2 => (match S with
      | v :: w :: T => if v.category = 1 ∧ w.category = 1 then mgo (pc + ln) L (v :: w :: v :: w :: T) h else none
      | _ => none)
    | .iadd => (match S with
      | .int y :: .int x :: T => mgo (pc + ln) L (.int (x + y) :: T) h
      | _ => none)
    | .isub => (match S with
      | .int y :: .int x :: T => mgo (pc + ln) L (.int (x - y) :: T) h
      | _ => none)
    | .imul => (match S with
      | .int y :: .int x :: T => mgo (pc + ln) L (.int (x * y) :: T) h
      | _ => none)
    | .idiv => (match S with
      | .int y :: .int x :: T => if y = 0 then none else mgo (pc + ln) L (.int (x / y) :: T) h
      | _ => none)
    | .irem => (match S with
      | .int y :: .int x :: T => if y = 0 then none else mgo (pc + ln) L (.int (x - x / y * y) :: T) h
      | _ => none)
    | .iand => (match S with
      | .int y :: .int x :: T => mgo (pc + ln) L (.int (x &&& y) :: T) h
      | _ => none)
    | .ior => (match S with
      | .int y :: .int x :: T => mgo (pc + ln) L (.int (x ||| y) :: T) h
      | _ => none)
    | .ixor => (match S with
      | .int y :: .int x :: T => mgo (pc + ln) L (.int (x ^^^ y) :: T) h
      | _ => none)
    | .ishl => (match S with
      | .int y :: .int x :: T => mgo (pc + ln) L (.int (x <<< (y &&& 31)) :: T) h
      | _ => none)
    | .ishr => (match S with
      | .int y :: .int x :: T => mgo (pc + ln) L (.int (x >>> (y &&& 31)) :: T) h
      | _ => none)
    | .iushr => (match S with
      | .int y :: .int x :: T => mgo (pc + ln) L (.int ((x.toUInt32 >>> (y.toUInt32 &&& Int32.toUInt32 31)).toInt32) :: T) h
      | _ => none)
    | .ineg => (match S with
      | .int x :: T => mgo (pc + ln) L (.int (-x) :: T) h
      | _ => none)
    | .i2l => (match S with
      | .int x :: T => mgo (pc + ln) L (.long x.toInt64 :: T) h
      | _ => none)
    | .i2b => (match S with
      | .int x :: T => mgo (pc + ln) L (.int x.toInt8.toInt32 :: T) h
      | _ => none)
    | .l2i => (match S with
      | .long x :: T => mgo (pc + ln) L (.int x.toInt32 :: T) h
      | _ => none)
    | .ladd => (match S with
      | .long y :: .long x :: T => mgo (pc + ln) L (.long (x + y) :: T) h
      | _ => none)
    | .lsub => (match S with
      | .long y :: .long x :: T => mgo (pc + ln) L (.long (x - y) :: T) h
      | _ => none)
    | .lmul => (match S with
      | .long y :: .long x :: T => mgo (pc + ln) L (.long (x * y) :: T) h
      | _ => none)
    | .ldiv => (match S with
      | .long y :: .long x :: T => if y = 0 then none else mgo (pc + ln) L (.long (x / y) :: T) h
      | _ => none)
    | .lrem => (match S with
      | .long y :: .long x :: T => if y = 0 then none else mgo (pc + ln) L (.long (x - x / y * y) :: T) h
      | _ => none)
    | .lcmp => (match S with
      | .long y :: .long x :: T => mgo (pc + ln) L (.int (lg_cmp x y) :: T) h
      | _ => none)
    | .ifCond c off => (match S with
      | .int x :: T => mgo (if mcmp c x 0 then mjmp pc off else pc + ln) L T h
      | _ => none)
    | .if_icmp c off => (match S with
      | .int y :: .int x :: T => mgo (if mcmp c x y then mjmp pc off else pc + ln) L T h
      | _ => none)
    | .if_acmp c off => (match S with
      | .ref y :: .ref x :: T => if 4 ≤ x ∧ 4 ≤ y then mgo (macm c (decide (x = y)) (mjmp pc off) (pc + ln)) L T h else none
      | .null :: .ref _ :: T => mgo (macm c false (mjmp pc off) (pc + ln)) L T h
      | .ref _ :: .null :: T => mgo (macm c false (mjmp pc off) (pc + ln)) L T h
      | .null :: .null :: T => mgo (macm c true (mjmp pc off) (pc + ln)) L T h
      | _ => none)
    | .ifnull off => (match S with
      | .ref _ :: T => mgo (pc + ln) L T h
      | .null :: T => mgo (mjmp pc off) L T h
      | _ => none)
    | .ifnonnull off => (match S with
      | .ref _ :: T => mgo (mjmp pc off) L T h
      | .null :: T => mgo (pc + ln) L T h
      | _ => none)
    | .goto off => mgo (mjmp pc off) L S h
    | .tableswitch d lo hi offs => (match S with
      | .int x :: T => if x.toInt < lo ∨ hi < x.toInt then mgo (mjmp pc d) L T h else (match offs[(x.toInt - lo).toNat]? with
          | some o => mgo (mjmp pc o) L T h
          | none => none)
      | _ => none)
    | .lookupswitch d ps => (match S with
      | .int x :: T => mgo (mjmp pc (Op.lookupswitch.offset ps.toList d x.toInt)) L T h
      | _ => none)
    | .getfield _ => (match S with
      | .ref q :: T => (match mown h q with
          | some (.inr (ci, fs)) => if ci = a then (match fs[b]? with
              | some v => mgo (pc + ln) L (v :: T) h
              | none => none) else none
          | _ => none)
      | _ => none)
    | .putfield _ => (match S with
      | v :: .ref q :: T => (match mown h q with
          | some (.inr (ci, fs)) => if ci = a ∧ b < fs.length then (match mfty a b with
              | some ty => if mfit ty v then mgo (pc + ln) L T (mput h q (.inr (ci, fs.set b v))) else none
              | none => none) else none
          | _ => none)
      | _ => none)
    | .getstatic _ => mgo (pc + ln) L (.ref (a + 1) :: S) h
    | .arraylength => (match S with
      | .ref q :: T => (match mget ex h q with
          | some (.inl (t, (n, _))) => if t < 9 then mgo (pc + ln) L (.int (Int32.ofNat n) :: T) h else none
          | _ => none)
      | _ => none)
    | .iaload => (match S with
      | .int i :: .ref q :: T => (match mget ex h q with
          | some (.inl (0, (n, .inl f))) => if mib i n then mgo (pc + ln) L (.int (f i.toNatClampNeg) :: T) h else none
          | _ => none)
      | _ => none)
    | .baload => (match S with
      | .int i :: .ref q :: T => (match mown h q with
          | some (.inl (1, (n, .inl f))) => if mib i n then mgo (pc + ln) L (.int (f i.toNatClampNeg) :: T) h else none
          | some (.inl (8, (n, .inl f))) => if mib i n then mgo (pc + ln) L (.int (f i.toNatClampNeg) :: T) h else none
          | _ => none)
      | _ => none)
    | .laload => (match S with
      | .int i :: .ref q :: T => (match mget ex h q with
          | some (.inl (2, (n, .inr (.inl f)))) => if mib i n then mgo (pc + ln) L (.long (f i.toNatClampNeg) :: T) h else none
          | _ => none)
      | _ => none)
    | .aaload => (match S with
      | .int i :: .ref q :: T => (match mown h q with
          | some (.inl (t, (n, .inr (.inr (.inr (.inr f)))))) => if mib i n && decide (3 ≤ t ∧ t < 8) then mgo (pc + ln) L (va_rf (f i.toNatClampNeg) :: T) h else none
          | _ => none)
      | _ => none)
    | .iastore => (match S with
      | .int x :: .int i :: .ref q :: T => (match mown h q with
          | some (.inl (0, (n, .inl f))) => if mib i n then mgo (pc + ln) L T (mput h q (.inl (0, (n, .inl (upd f i.toNatClampNeg x))))) else none
          | _ => none)
      | _ => none)
    | .bastore => (match S with
      | .int x :: .int i :: .ref q :: T => (match mown h q with
          | some (.inl (1, (n, .inl f))) => if mib i n && (decide (x = 0) || decide (x = 1)) then mgo (pc + ln) L T (mput h q (.inl (1, (n, .inl (upd f i.toNatClampNeg x))))) else none
          | some (.inl (8, (n, .inl f))) => if mib i n then mgo (pc + ln) L T (mput h q (.inl (8, (n, .inl (upd f i.toNatClampNeg x.toInt8.toInt32))))) else none
          | _ => none)
      | _ => none)
    | .lastore => (match S with
      | .long x :: .int i :: .ref q :: T => (match mown h q with
          | some (.inl (2, (n, .inr (.inl f)))) => if mib i n then mgo (pc + ln) L T (mput h q (.inl (2, (n, .inr (.inl (vp_updL f i.toNatClampNeg x)))))) else none
          | _ => none)
      | _ => none)
    | .aastore => (match S with
      | .ref v :: .int i :: .ref q :: T => (match mown h q, mown h v with
          | some (.inl (t, (n, .inr (.inr (.inr (.inr f)))))), some (.inr (ci, _)) =>
              if mib i n && decide (mEl[t]? = some (some ci)) then mgo (pc + ln) L T (mput h q (.inl (t, (n, .inr (.inr (.inr (.inr (va_up f i.toNatClampNeg (some v))))))))) else none
          | _, _ => none)
      | .null :: .int i :: .ref q :: T => (match mown h q with
          | some (.inl (t, (n, .inr (.inr (.inr (.inr f)))))) => if mib i n && decide (3 ≤ t ∧ t < 7) then mgo (pc + ln) L T (mput h q (.inl (t, (n, .inr (.inr (.inr (.inr (va_up f i.toNatClampNeg none)))))))) else none
          | _ => none)
      | _ => none)
    | .newarray t => (match S with
      | .int n :: T => if ¬ n < 0 ∧ n.toNatClampNeg ≤ 4000000 then (match t with
          | .int => mgo (pc + ln) L (.ref (h.length + 4) :: T) (h ++ [.inl (0, (n.toNatClampNeg, .inl (fun _ => 0)))])
          | .boolean => mgo (pc + ln) L (.ref (h.length + 4) :: T) (h ++ [.inl (1, (n.toNatClampNeg, .inl (fun _ => 0)))])
          | .byte => mgo (pc + ln) L (.ref (h.length + 4) :: T) (h ++ [.inl (8, (n.toNatClampNeg, .inl (fun _ => 0)))])
          | .long => mgo (pc + ln) L (.ref (h.length + 4) :: T) (h ++ [.inl (2, (n.toNatClampNeg, .inr (.inl (fun _ => 0))))])
          | _ => none) else none
      | _ => none)
    | .anewarray _ => (match S with
      | .int n :: T => if ¬ n < 0 ∧ n.toNatClampNeg ≤ 4000000 then (match mEl[a]? with
          | some (some _) => mgo (pc + ln) L (.ref (h.length + 4) :: T) (h ++ [.inl (a, (n.toNatClampNeg, .inr (.inr (.inr (.inr (fun _ => none))))))])
          | _ => none) else none
      | _ => none)
    | .multianewarray _ _ => (match S with
      | .int k :: .int n :: T => if (¬ n < 0 ∧ n.toNatClampNeg ≤ 4000000) ∧ (¬ k < 0 ∧ k.toNatClampNeg ≤ 4000000) then
          mgo (pc + ln) L (.ref (h.length + 4) :: T) (h ++ (.inl (7, (n.toNatClampNeg, .inr (.inr (.inr (.inr (fun i => if i < n.toNatClampNeg then some (h.length + 4 + 1 + i) else none)))))) :: List.replicate n.toNatClampNeg (.inl (0, (k.toNatClampNeg, .inl (fun _ => 0))))))
          else none
      | _ => none)
    | .new _ => (match mTy[a]? with
      | some l => mgo (pc + ln) L (.ref (h.length + 4) :: S) (h ++ [.inr (a, l.map defaultValue)])
      | none => none)
    | .invokestatic _ => (match mtake b S [] with
      | some (as, T) => if mcat T ≤ 8 then mcall a as T else none
      | none => none)
    | .invokevirtual _ => (match mtake b S [] with
      | some (as, .ref q :: T) => (match mown h q, mrec a with
          | some (.inr (ci, _)), some R => if ci = R.2.2.2.2.1 ∧ mcat T ≤ 8 then mcall a (.ref q :: as) T else none
          | _, _ => none)
      | _ => none)
    | .invokespecial _ => (match mtake b S [] with
      | some (as, .ref q :: T) => if mcat T ≤ 8 then mcall a (.ref q :: as) T else none
      | _ => none)
    | .ireturn => (match S with
      | [.int x] => (match ret with
          | some .int => some (.inr (.inr (some (.int x))))
          | some .boolean => if decide (x = 0) || decide (x = 1) then some (.inr (.inr (some (.int x)))) else none
          | _ => none)
      | _ => none)
    | .lreturn => (match S with
      | [.long x] => (match ret with
          | some .long => some (.inr (.inr (some (.long x))))
          | _ => none)
      | _ => none)
    | .areturn => (match S with
      | [.ref x] => (match ret with
          | some (.object _) => some (.inr (.inr (some (.ref x))))
          | some (.array _) => some (.inr (.inr (some (.ref x))))
          | _ => none)
      | [.null] => (match ret with
          | some (.object _) => some (.inr (.inr (some .null)))
          | some (.array _) => some (.inr (.inr (some .null)))
          | _ => none)
      | _ => none)
    | .return_ => (match S with
      | [] => (match ret with
          | none => some (.inr (.inr none))
          | _ => none)
      | _ => none)
    | .fadd => (match S with
      | .int y :: .int x :: T => if mcat T ≤ 8 then mgo (pc + ln) L (.int (if x < y then y else x) :: T) h else none
      | _ => none)
    | .fsub => (match S with
      | .int y :: .int x :: T => if mcat T ≤ 8 then mgo (pc + ln) L (.int (if y < x then y else x) :: T) h else none
      | _ => none)
    | .dsub => (match S with
      | .long y :: .long x :: T => if mcat T ≤ 8 then mgo (pc + ln) L (.long (if y < x then y else x) :: T) h else none
      | _ => none)
    | .dadd => mgo (pc + ln) L (.ref 3 :: S) h
    | .dmul => (match S with
      | .ref 3 :: T => if mcat T ≤ 8 then mgo (pc + ln) L (.int 94 :: T) h else none
      | _ => none)
    | .ddiv => (match S with
      | .int i :: .ref 3 :: T => if mib i 94 && decide (mcat T ≤ 8) then mgo (pc + ln) L (.int (mTxt.getD i.toNatClampNeg 0) :: T) h else none
      | _ => none)
    | .fmul => (match S with
      | .ref q :: T => (match mown h q with
          | some (.inl (0, (n, .inl f))) => if mcat T ≤ 8 then mgo (pc + ln) L (.ref (h.length + 4) :: T) (h ++ [.inl (0, (n, .inl f))]) else none
          | _ => none)
      | _ => none)
    | .fdiv => (match S with
      | .ref q :: T => (match mown h q with
          | some (.inl (0, _)) => mgo (pc + ln) L (.ref q :: T) h
          | _ => none)
      | _ => none)
    | .frem => (match S with
      | .int k :: .int dp :: .ref v :: .int sp :: .ref u :: T => (match mown h u, mown h v with
          | some (.inl (0, (n, .inl f))), some (.inl (0, (n1, .inl g))) => if ((¬ k < 0 ∧ ¬ dp < 0 ∧ ¬ sp < 0) ∧ u ≠ v) ∧ (sp.toNatClampNeg + k.toNatClampNeg ≤ n ∧ dp.toNatClampNeg + k.toNatClampNeg ≤ n1 ∧ mcat T ≤ 8) then
              mgo (pc + ln) L T (mput h v (.inl (0, (n1, .inl (va_cpy f g sp.toNatClampNeg dp.toNatClampNeg k.toNatClampNeg))))) else none
          | _, _ => none)
      | _ => none)
    | _ => none
def mpush (v : Option Value) (S : List Value) : List Value := match v with
  | some v => v :: S
  | none => S
/-- a run: fuel, depth, method, place, locals, stack, cells; what is returned, and the cells then -/
def mrun (ex : List mE) : Nat → Nat → Nat → Nat → mL → List Value → List mE → Option (Option Value × List mE)
  | 0, _, _, _, _, _, _ => none
  | f + 1, d, m, pc, L, S, h => match mrec m with
    | none => none
    | some R => match mcd R.2.2.2.2.2.2.2 pc with
      | none => none
      | some r => match mx R.2.2.2.1 ex r pc L S h with
        | none => none
        | some (.inl (pc', L', S', h')) => mrun ex f d m pc' L' S' h'
        | some (.inr (.inr v)) => some (v, h)
        | some (.inr (.inl (m', as, T))) => match d, mrec m' with
          | d' + 1, some R' => if R'.2.2.1 < (lent1 as).length then none else (match mrun ex f d' m' 0 (lent as R'.2.2.1) [] h with
            | some (v, h') => mrun ex f d m (pc + r.2.1) L (mpush v T) h'
            | none => none)
          | _, _ => none
