/-! A SYMBOLIC MACHINE: ints are constants, an input with operations behind it, or unknown; a branch that isn't decided goes both ways -/
abbrev yX : Type := Nat × List (Nat × Int32)
abbrev yI : Type := Int32 ⊕ Option yX
abbrev yV : Type := yI ⊕ Value
abbrev yC : Type := (yI × List (Nat × yI)) ⊕ ((Option Nat × List (Nat × Option Nat)) ⊕ Nat)
abbrev yE : Type := (Nat × Nat × yC) ⊕ (Nat × List yV)
abbrev yF : Type := List (yX × Int × Int) × List (yX × Int)
abbrev yL : Type := List (Option yV)
abbrev yO : Type := (Nat × yL × List yV × List yE) ⊕ ((Nat × List yV × List yV) ⊕ Option yV)
def yop (o : Nat) (c x : Int32) : Int32 := match o with
  | 0 => x + c
  | 1 => x - c
  | 2 => c - x
  | 3 => x * c
  | 4 => x / c
  | 5 => x - x / c * c
  | 6 => x &&& c
  | 7 => (x.toUInt32 >>> (c.toUInt32 &&& Int32.toUInt32 31)).toInt32
  | 8 => x >>> (c &&& 31)
  | 9 => x.toInt8.toInt32
  | _ => -x
def yev (val : Nat → Int32) (e : yX) : Int32 := e.2.foldr (fun p x => yop p.1 p.2 x) (val e.1)
/-- x op c, for an x that is not known -/
def yun (o : Nat) (x : Option yX) (c : Int32) : yI := match x with
  | some (k, l) => .inr (some (k, (o, c) :: l))
  | none => .inr none
def ybin (I : Instr) (x y : yI) : Option yI := match I, x, y with
  | .iadd, .inl a, .inl b => some (.inl (a + b))
  | .iadd, .inr a, .inl b => some (if b = 0 then .inr a else yun 0 a b)
  | .iadd, .inl a, .inr b => some (if a = 0 then .inr b else yun 0 b a)
  | .isub, .inl a, .inl b => some (.inl (a - b))
  | .isub, .inr a, .inl b => some (yun 1 a b)
  | .isub, .inl a, .inr b => some (yun 2 b a)
  | .imul, .inl a, .inl b => some (.inl (a * b))
  | .imul, .inr a, .inl b => some (yun 3 a b)
  | .idiv, .inl a, .inl b => if b = 0 then none else some (.inl (a / b))
  | .idiv, .inr a, .inl b => if b = 0 then none else some (yun 4 a b)
  | .irem, .inl a, .inl b => if b = 0 then none else some (.inl (a - a / b * b))
  | .irem, .inr a, .inl b => if b = 0 then none else some (yun 5 a b)
  | .iand, .inl a, .inl b => some (.inl (a &&& b))
  | .iand, .inr a, .inl b => some (yun 6 a b)
  | .iushr, .inl a, .inl b => some (.inl ((a.toUInt32 >>> (b.toUInt32 &&& Int32.toUInt32 31)).toInt32))
  | .iushr, .inr a, .inl b => some (yun 7 a b)
  | .ishr, .inl a, .inl b => some (.inl (a >>> (b &&& 31)))
  | .ishr, .inr a, .inl b => some (yun 8 a b)
  | .iadd, _, _ => some (.inr none)
  | .isub, _, _ => some (.inr none)
  | .imul, _, _ => some (.inr none)
  | .iand, _, _ => some (.inr none)
  | _, _, _ => none
def ylo : Int := -2147483648
def yhi : Int := 2147483647
def yfd : List (yX × Int × Int) → yX → Int × Int
  | [], _ => (ylo, yhi)
  | (e2, r) :: F, e => if e2 = e then r else yfd F e
def yexc : List (yX × Int) → yX → Int → Bool
  | [], _, _ => false
  | (e2, k2) :: G, e, k => (decide (k2 = k) && decide (e2 = e)) || yexc G e k
def yup (G : List (yX × Int)) (e : yX) : Nat → Int → Int
  | 0, lo => lo
  | n + 1, lo => if yexc G e lo then yup G e n (lo + 1) else lo
def ydn (G : List (yX × Int)) (e : yX) : Nat → Int → Int
  | 0, hi => hi
  | n + 1, hi => if yexc G e hi then ydn G e n (hi - 1) else hi
/-- between what an expression lies -/
def yiv (F : yF) (e : yX) : Int × Int := match yfd F.1 e with
  | (lo, hi) => (yup F.2 e 64 lo, ydn F.2 e 64 hi)
def yadd (F : yF) (e : yX) (lo hi : Int) : yF := ((e, (lo, hi)) :: F.1, F.2)
def ynot (F : yF) (e : yX) (k : Int) : yF := (F.1, (e, k) :: F.2)
/-- e < k -/
def ylt (F : yF) (e : yX) (k : Int) : List (yF × Bool) := match yiv F e with
  | (lo, hi) => if hi < lo then [] else if hi < k then [(F, true)] else if k ≤ lo then [(F, false)] else [(yadd F e lo (k - 1), true), (yadd F e k hi, false)]
def yeq (F : yF) (e : yX) (k : Int) : List (yF × Bool) := match yiv F e with
  | (lo, hi) => if hi < lo then [] else if k < lo ∨ hi < k then [(F, false)] else if lo = hi then [(F, true)] else [(yadd F e k k, true), (ynot F e k, false)]
def yneg (l : List (yF × Bool)) : List (yF × Bool) := l.map fun q => (q.1, !q.2)
def ycx (F : yF) (c : ClassFile.Cond) (e : yX) (k : Int) : List (yF × Bool) := match c with
  | .lt => ylt F e k
  | .ge => yneg (ylt F e k)
  | .gt => yneg (ylt F e (k + 1))
  | .le => ylt F e (k + 1)
  | .eq => yeq F e k
  | .ne => yneg (yeq F e k)
def yflip (c : ClassFile.Cond) : ClassFile.Cond := match c with
  | .lt => .gt
  | .gt => .lt
  | .le => .ge
  | .ge => .le
  | .eq => .eq
  | .ne => .ne
def yself (c : ClassFile.Cond) : Bool := match c with
  | .lt => false
  | .gt => false
  | .le => true
  | .ge => true
  | .eq => true
  | .ne => false
def ycmp (F : yF) (c : ClassFile.Cond) (x y : yI) : List (yF × Bool) := match x, y with
  | .inl a, .inl b => [(F, mcmp c a b)]
  | .inr (some e), .inl b => ycx F c e b.toInt
  | .inl a, .inr (some e) => ycx F (yflip c) e a.toInt
  | .inr (some e), .inr (some e2) => if e = e2 then [(F, yself c)] else [(F, true), (F, false)]
  | _, _ => [(F, true), (F, false)]
/-! cells -/
def yown (h : List yE) (q : Nat) : Option yE := if q < 4 then none else h[q - 4]?
def yput (h : List yE) (q : Nat) (e : yE) : List yE := h.set (q - 4) e
def yget {α : Type} (d : α) : List (Nat × α) → Nat → α
  | [], _ => d
  | (k, v) :: r, j => if k = j then v else yget d r j
def ylget (L : yL) (i : Nat) : Option yV := match L[i]? with
  | some (some v) => some v
  | _ => none
def ycat (v : yV) : Nat := match v with
  | .inr v => v.category
  | .inl _ => 1
def yclr (L : yL) : Nat → yL
  | 0 => L
  | i + 1 => match L[i]? with
    | some (some (.inr (.long _))) => L.set i none
    | some (some (.inr (.double _))) => L.set i none
    | _ => L
def yset1 (L : yL) (i : Nat) (v : yV) : yL := (yclr L i).set i (some v)
def ylent1 : List yV → yL
  | [] => []
  | v :: vs => if ycat v = 2 then some v :: none :: ylent1 vs else some v :: ylent1 vs
def ylent (vs : List yV) (n : Nat) : yL := ylent1 vs ++ List.replicate (n - (ylent1 vs).length) none
def ytake : Nat → List yV → List yV → Option (List yV × List yV)
  | 0, S, as => some (as, S)
  | n + 1, v :: S, as => ytake n S (v :: as)
  | _ + 1, [], _ => none
def ymcat (S : List yV) : Nat := (S.map ycat).sum
def ydef (ty : FieldType) : yV := match ty with
  | .long => .inr (.long 0)
  | .object _ => .inr .null
  | .array _ => .inr .null
  | .int => .inl (.inl 0)
  | .boolean => .inl (.inl 0)
  | _ => .inr (defaultValue ty)
/-- 0 or 1 -/
def y01 (F : yF) (x : yI) : Bool := match x with
  | .inl a => decide (a = 0) || decide (a = 1)
  | .inr (some e) => (match yiv F e with
    | (lo, hi) => decide (0 ≤ lo) && decide (hi ≤ 1))
  | .inr none => false
def yfit (F : yF) (ty : FieldType) (v : yV) : Bool := match ty, v with
  | .int, .inl _ => true
  | .boolean, .inl x => y01 F x
  | .long, .inr (.long _) => true
  | .object _, .inr .null => true
  | .object _, .inr (.ref _) => true
  | .array _, .inr .null => true
  | .array _, .inr (.ref _) => true
  | _, _ => false
def ygo (F : yF) (pc : Nat) (L : yL) (S : List yV) (h : List yE) : Option (List (yF × yO)) := some [(F, .inl (pc, L, S, h))]
/-- an index: is it within, and which -/
def yix (F : yF) (i : yI) (n : Nat) : Option (Option Nat) := match i with
  | .inl c => if mib c n then some (some c.toNatClampNeg) else none
  | .inr (some e) => (match yiv F e with
    | (lo, hi) => if 0 ≤ lo ∧ hi < (n : Int) then some none else none)
  | .inr none => none
def yld (d : yI) (ups : List (Nat × yI)) (j : Option Nat) : yI := match j with
  | some j => yget d ups j
  | none => if ups.isEmpty then d else .inr none
def yst (d : yI) (ups : List (Nat × yI)) (j : Option Nat) (v : yI) : yI × List (Nat × yI) := match j with
  | some j => (d, (j, v) :: ups)
  | none => (.inr none, [])
def ysw (F : yF) (e : yX) (pc : Nat) (L : yL) (T : List yV) (h : List yE) (lo hi : Int) (d : Int) : Int → List Int → List (yF × yO)
  | k, [] => (if k ≤ hi then [(yadd F e k hi, .inl (mjmp pc d, L, T, h))] else [])
  | k, o :: os => (if lo ≤ k ∧ k ≤ hi then [(yadd F e k k, .inl (mjmp pc o, L, T, h))] else []) ++ ysw F e pc L T h lo hi d (k + 1) os
def ymx (Lc : Nat) (ret : Option FieldType) (F : yF) (r : mR) (pc : Nat) (L : yL) (S : List yV) (h : List yE) : Option (List (yF × yO)) :=
  match r with
  | (I, ln, a, b, _) => match I with
    | .iconst v => ygo F (pc + ln) L (.inl (.inl (Int32.ofInt v)) :: S) h
    | .jsr_w v => ygo F (pc + ln) L (.inr (.long (Int64.ofInt v)) :: S) h
    | .aconst_null => ygo F (pc + ln) L (.inr .null :: S) h
    | .iload i => (match ylget L i with
      | some (.inl x) => ygo F (pc + ln) L (.inl x :: S) h
      | _ => none)
    | .aload i => (match ylget L i with
      | some (.inr (.ref x)) => ygo F (pc + ln) L (.inr (.ref x) :: S) h
      | some (.inr .null) => ygo F (pc + ln) L (.inr .null :: S) h
      | _ => none)
    | .istore i => (match S with
      | .inl x :: T => if i < L.length then ygo F (pc + ln) (yset1 L i (.inl x)) T h else none
      | _ => none)
    | .astore i => (match S with
      | .inr (.ref x) :: T => if i < L.length then ygo F (pc + ln) (yset1 L i (.inr (.ref x))) T h else none
      | .inr .null :: T => if i < L.length then ygo F (pc + ln) (yset1 L i (.inr .null)) T h else none
      | _ => none)
    | .iinc i n => (match ylget L i with
      | some (.inl x) => if i < L.length then (match ybin .iadd x (.inl (Int32.ofInt n)) with
          | some z => ygo F (pc + ln) (yset1 L i (.inl z)) S h
          | none => none) else none
      | _ => none)
    | .pop => (match S with
      | v :: T => if ycat v = 1 then ygo F (pc + ln) L T h else none
      | _ => none)
    | .pop2 => (match S with
      | .inr (.ref _) :: T => if ymcat T ≤ 8 then ygo F (pc + ln) L T h else none
      | _ => none)
    | .dup => (match S with
      | v :: T => if ycat v = 1 then ygo F (pc + ln) L (v :: v :: T) h else none
      | _ => none)
    | .dup_x1 => (match S with
      | v :: w :: T => if ycat v = 1 ∧ ycat w = 1 then ygo F (pc + ln) L (v :: w :: v :: T) h else none
      | _ => none)
    | .dup2 => (match S with
      | v :: w :: T => if ycat v = 1 ∧ ycat w = 1 then ygo F (pc + ln) L (v :: w :: v :: w :: T) h else none
      | _ => none)
    | .iadd => (match S with
      | .inl y :: .inl x :: T => (match ybin .iadd x y with
          | some z => ygo F (pc + ln) L (.inl z :: T) h
          | none => none)
      | _ => none)
    | .isub => (match S with
      | .inl y :: .inl x :: T => (match ybin .isub x y with
          | some z => ygo F (pc + ln) L (.inl z :: T) h
          | none => none)
      | _ => none)
    | .imul => (match S with
      | .inl y :: .inl x :: T => (match ybin .imul x y with
          | some z => ygo F (pc + ln) L (.inl z :: T) h
          | none => none)
      | _ => none)
    | .idiv => (match S with
      | .inl y :: .inl x :: T => (match ybin .idiv x y with
          | some z => ygo F (pc + ln) L (.inl z :: T) h
          | none => none)
      | _ => none)
    | .irem => (match S with
      | .inl y :: .inl x :: T => (match ybin .irem x y with
          | some z => ygo F (pc + ln) L (.inl z :: T) h
          | none => none)
      | _ => none)
    | .iand => (match S with
      | .inl y :: .inl x :: T => (match ybin .iand x y with
          | some z => ygo F (pc + ln) L (.inl z :: T) h
          | none => none)
      | _ => none)
    | .iushr => (match S with
      | .inl y :: .inl x :: T => (match ybin .iushr x y with
          | some z => ygo F (pc + ln) L (.inl z :: T) h
          | none => none)
      | _ => none)
    | .ishr => (match S with
      | .inl y :: .inl x :: T => (match ybin .ishr x y with
          | some z => ygo F (pc + ln) L (.inl z :: T) h
          | none => none)
      | _ => none)
    | .i2b => (match S with
      | .inl (.inl x) :: T => ygo F (pc + ln) L (.inl (.inl x.toInt8.toInt32) :: T) h
      | .inl (.inr x) :: T => ygo F (pc + ln) L (.inl (yun 9 x 0) :: T) h
      | _ => none)
    | .ifCond c off => (match S with
      | .inl x :: T => some ((ycmp F c x (.inl 0)).map fun q => (q.1, .inl (if q.2 then mjmp pc off else pc + ln, L, T, h)))
      | _ => none)
    | .if_icmp c off => (match S with
      | .inl y :: .inl x :: T => some ((ycmp F c x y).map fun q => (q.1, .inl (if q.2 then mjmp pc off else pc + ln, L, T, h)))
      | _ => none)
    | .ifnull off => (match S with
      | .inr (.ref _) :: T => ygo F (pc + ln) L T h
      | .inr .null :: T => ygo F (mjmp pc off) L T h
      | _ => none)
    | .ifnonnull off => (match S with
      | .inr (.ref _) :: T => ygo F (mjmp pc off) L T h
      | .inr .null :: T => ygo F (pc + ln) L T h
      | _ => none)
    | .goto off => ygo F (mjmp pc off) L S h
    | .tableswitch d lo hi offs => (match S with
      | .inl (.inl x) :: T => if x.toInt < lo ∨ hi < x.toInt then ygo F (mjmp pc d) L T h else (match offs.toList[(x.toInt - lo).toNat]? with
          | some o => ygo F (mjmp pc o) L T h
          | none => none)
      | .inl (.inr (some e)) :: T => (match yiv F e with
          | (a, z) => if a = z then (if a < lo ∨ hi < a then ygo F (mjmp pc d) L T h else (match offs.toList[(a - lo).toNat]? with
              | some o => ygo F (mjmp pc o) L T h
              | none => none)) else if hi = lo + offs.toList.length - 1 then some ((if a ≤ lo - 1 then [(yadd F e a (lo - 1), .inl (mjmp pc d, L, T, h))] else []) ++ ysw F e pc L T h a z d lo offs.toList) else none)
      | _ => none)
    | .getfield _ => (match S with
      | .inr (.ref q) :: T => (match yown h q with
          | some (.inr (ci, fs)) => if ci = a then (match fs[b]? with
              | some v => ygo F (pc + ln) L (v :: T) h
              | none => none) else none
          | _ => none)
      | _ => none)
    | .putfield _ => (match S with
      | v :: .inr (.ref q) :: T => (match yown h q with
          | some (.inr (ci, fs)) => if ci = a ∧ b < fs.length then (match mfty a b with
              | some ty => if yfit F ty v then ygo F (pc + ln) L T (yput h q (.inr (ci, fs.set b v))) else none
              | none => none) else none
          | _ => none)
      | _ => none)
    | .getstatic _ => ygo F (pc + ln) L (.inr (.ref (a + 1)) :: S) h
    | .arraylength => (match S with
      | .inr (.ref q) :: T => if q = 0 then ygo F (pc + ln) L (.inl (.inl (Int32.ofNat Lc)) :: T) h else if q = 2 then ygo F (pc + ln) L (.inl (.inl (Int32.ofNat 14)) :: T) h else (match yown h q with
          | some (.inl (t, (n, _))) => if t < 9 then ygo F (pc + ln) L (.inl (.inl (Int32.ofNat n)) :: T) h else none
          | _ => none)
      | _ => none)
    | .iaload => (match S with
      | .inl i :: .inr (.ref q) :: T => if q = 0 then (match i with
          | .inl c => if mib c Lc then ygo F (pc + ln) L (.inl (.inr (some (c.toNatClampNeg, []))) :: T) h else none
          | _ => none) else (match yown h q with
          | some (.inl (0, (n, .inl (d, ups)))) => (match yix F i n with
              | some j => ygo F (pc + ln) L (.inl (yld d ups j) :: T) h
              | none => none)
          | _ => none)
      | _ => none)
    | .baload => (match S with
      | .inl i :: .inr (.ref q) :: T => (match yown h q with
          | some (.inl (1, (n, .inl (d, ups)))) => (match yix F i n with
              | some j => ygo F (pc + ln) L (.inl (yld d ups j) :: T) h
              | none => none)
          | some (.inl (8, (n, .inl (d, ups)))) => (match yix F i n with
              | some j => ygo F (pc + ln) L (.inl (yld d ups j) :: T) h
              | none => none)
          | _ => none)
      | _ => none)
    | .laload => (match S with
      | .inl (.inl i) :: .inr (.ref q) :: T => if q = 2 then (if mib i 14 then ygo F (pc + ln) L (.inr (.long (mNm.getD i.toNatClampNeg 0)) :: T) h else none) else none
      | _ => none)
    | .aaload => (match S with
      | .inl i :: .inr (.ref q) :: T => (match yown h q with
          | some (.inl (t, (n, .inr (.inl (d, ups))))) => if 3 ≤ t ∧ t < 8 then (match yix F i n with
              | some (some j) => ygo F (pc + ln) L (.inr (va_rf (yget d ups j)) :: T) h
              | some none => if ups.isEmpty then ygo F (pc + ln) L (.inr (va_rf d) :: T) h else none
              | none => none) else none
          | _ => none)
      | _ => none)
    | .iastore => (match S with
      | .inl x :: .inl i :: .inr (.ref q) :: T => (match yown h q with
          | some (.inl (0, (n, .inl (d, ups)))) => (match yix F i n with
              | some j => ygo F (pc + ln) L T (yput h q (.inl (0, (n, .inl (yst d ups j x)))))
              | none => none)
          | _ => none)
      | _ => none)
    | .bastore => (match S with
      | .inl x :: .inl i :: .inr (.ref q) :: T => (match yown h q with
          | some (.inl (1, (n, .inl (d, ups)))) => if y01 F x then (match yix F i n with
              | some j => ygo F (pc + ln) L T (yput h q (.inl (1, (n, .inl (yst d ups j x)))))
              | none => none) else none
          | some (.inl (8, (n, .inl (d, ups)))) => (match yix F i n with
              | some j => ygo F (pc + ln) L T (yput h q (.inl (8, (n, .inl (yst d ups j (match x with
                  | .inl c => .inl c.toInt8.toInt32
                  | .inr x => yun 9 x 0))))))
              | none => none)
          | _ => none)
      | _ => none)
    | .aastore => (match S with
      | .inr (.ref v) :: .inl (.inl i) :: .inr (.ref q) :: T => (match yown h q, yown h v with
          | some (.inl (t, (n, .inr (.inl (d, ups))))), some (.inr (ci, _)) =>
              if mib i n && decide (mEl[t]? = some (some ci)) then ygo F (pc + ln) L T (yput h q (.inl (t, (n, .inr (.inl (d, (i.toNatClampNeg, some v) :: ups)))))) else none
          | _, _ => none)
      | _ => none)
    | .newarray t => (match S with
      | .inl (.inl n) :: T => if ¬ n < 0 ∧ n.toNatClampNeg ≤ 4000000 then (match t with
          | .int => ygo F (pc + ln) L (.inr (.ref (h.length + 4)) :: T) (h ++ [.inl (0, (n.toNatClampNeg, .inl (.inl 0, [])))])
          | .boolean => ygo F (pc + ln) L (.inr (.ref (h.length + 4)) :: T) (h ++ [.inl (1, (n.toNatClampNeg, .inl (.inl 0, [])))])
          | .byte => ygo F (pc + ln) L (.inr (.ref (h.length + 4)) :: T) (h ++ [.inl (8, (n.toNatClampNeg, .inl (.inl 0, [])))])
          | .long => ygo F (pc + ln) L (.inr (.ref (h.length + 4)) :: T) (h ++ [.inl (2, (n.toNatClampNeg, .inr (.inr 0)))])
          | _ => none) else none
      | _ => none)
    | .anewarray _ => (match S with
      | .inl (.inl n) :: T => if ¬ n < 0 ∧ n.toNatClampNeg ≤ 4000000 then (match mEl[a]? with
          | some (some _) => ygo F (pc + ln) L (.inr (.ref (h.length + 4)) :: T) (h ++ [.inl (a, (n.toNatClampNeg, .inr (.inl (none, []))))])
          | _ => none) else none
      | _ => none)
    | .multianewarray _ _ => (match S with
      | .inl (.inl k) :: .inl (.inl n) :: T => if (¬ n < 0 ∧ n.toNatClampNeg ≤ 4000000) ∧ (¬ k < 0 ∧ k.toNatClampNeg ≤ 4000000) then
          ygo F (pc + ln) L (.inr (.ref (h.length + 4)) :: T) (h ++ (.inl (7, (n.toNatClampNeg, .inr (.inl (none, (List.range n.toNatClampNeg).map fun i => (i, some (h.length + 4 + 1 + i)))))) :: List.replicate n.toNatClampNeg (.inl (0, (k.toNatClampNeg, .inl (.inl 0, []))))))
          else none
      | _ => none)
    | .new _ => (match mTy[a]? with
      | some l => ygo F (pc + ln) L (.inr (.ref (h.length + 4)) :: S) (h ++ [.inr (a, l.map ydef)])
      | none => none)
    | .invokestatic _ => (match ytake b S [] with
      | some (as, T) => if ymcat T ≤ 8 then some [(F, .inr (.inl (a, as, T)))] else none
      | none => none)
    | .invokevirtual _ => (match ytake b S [] with
      | some (as, .inr (.ref q) :: T) => (match yown h q, mrec a with
          | some (.inr (ci, _)), some R => if ci = R.2.2.2.2.1 ∧ ymcat T ≤ 8 then some [(F, .inr (.inl (a, .inr (.ref q) :: as, T)))] else none
          | _, _ => none)
      | _ => none)
    | .invokespecial _ => (match ytake b S [] with
      | some (as, .inr (.ref q) :: T) => if ymcat T ≤ 8 then some [(F, .inr (.inl (a, .inr (.ref q) :: as, T)))] else none
      | _ => none)
    | .ireturn => (match S with
      | [.inl x] => (match ret with
          | some .int => some [(F, .inr (.inr (some (.inl x))))]
          | some .boolean => if y01 F x then some [(F, .inr (.inr (some (.inl x))))] else none
          | _ => none)
      | _ => none)
    | .areturn => (match S with
      | [.inr (.ref x)] => (match ret with
          | some (.object _) => some [(F, .inr (.inr (some (.inr (.ref x)))))]
          | some (.array _) => some [(F, .inr (.inr (some (.inr (.ref x)))))]
          | _ => none)
      | [.inr .null] => (match ret with
          | some (.object _) => some [(F, .inr (.inr (some (.inr .null))))]
          | some (.array _) => some [(F, .inr (.inr (some (.inr .null))))]
          | _ => none)
      | _ => none)
    | .return_ => (match S with
      | [] => (match ret with
          | none => some [(F, .inr (.inr none))]
          | _ => none)
      | _ => none)
    | _ => none
def ysz (e : yE) : Nat := match e with
  | .inl (_, (n, _)) => n
  | .inr (_, fs) => fs.length
abbrev yFr : Type := Nat × Nat × yL × List yV
def ypush (v : Option yV) (S : List yV) : List yV := match v with
  | some v => v :: S
  | none => S
/-- every way ends, within the room, and the first frame returns 1 -/
def sx (Lc : Nat) : Nat → yF → List yFr → List yE → Bool
  | 0, _, _, _ => false
  | f + 1, F, fr, h => match fr with
    | [] => false
    | (m, pc, L, S) :: rest => match mrec m with
      | none => false
      | some R => match mcd R.2.2.2.2.2.2.2 pc with
        | none => false
        | some r => match ymx Lc R.2.2.2.1 F r pc L S h with
          | none => false
          | some os => os.all fun q => match q.2 with
            | .inl (pc', L', S', h') => sx Lc f q.1 ((m, pc', L', S') :: rest) h'
            | .inr (.inl (m', as, T)) => (match mrec m' with
                | none => false
                | some R' => if R'.2.2.1 < (ylent1 as).length ∨ 300 ≤ rest.length then false else sx Lc f q.1 ((m', 0, ylent as R'.2.2.1, []) :: (m, pc + r.2.1, L, T) :: rest) h)
            | .inr (.inr v) => (match rest with
                | (m2, pc2, L2, S2) :: rest2 => sx Lc f q.1 ((m2, pc2, L2, ypush v S2) :: rest2) h
                | [] => (match v with
                    | some (.inl (.inl x)) => decide (x = 1) && decide (h.length ≤ 600000) && decide ((h.map ysz).sum ≤ 7302250)
                    | _ => false))
