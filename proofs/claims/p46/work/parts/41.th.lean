/-! TYPED CELLS: what each cell holds, and rows that read and write -/
abbrev FT : Type := Nat × Int × Int
abbrev TD : Type := Nat × Nat × List FT × Nat × Nat
/-- the types: kind (0 object, 1 ints, 2 longs, 3 references, 9 none), class or array, fields, lengths -/
def tyT_0 : List TD := [(9, 0, [], 0, 0),
  (0, 11, [(0, 0, 23999), (0, 0, 400), (4, 5, 0), (4, 6, 0), (4, 34, 0), (0, 0, 15), (4, 35, 0), (0, 0, 90), (4, 36, 0), (4, 37, 0), (0, 0, 30), (4, 38, 0), (0, 0, 100), (4, 39, 0), (4, 46, 0), (4, 50, 0), (4, 54, 0), (4, 60, 0)], 0, 0),
  (0, 8, [(4, 7, 0), (4, 8, 0), (4, 21, 0), (0, 0, 12)], 0, 0),
  (0, 2, [(4, 40, 0), (4, 41, 0), (4, 42, 0), (0, 0, 300), (4, 43, 0), (4, 44, 0), (4, 45, 0), (0, 0, 200)], 0, 0),
  (0, 5, [(4, 47, 0), (0, 0, 6), (0, (-2147483648), 2147483647), (4, 48, 0), (4, 49, 0)], 0, 0),
  (0, 3, [(4, 51, 0), (0, 0, 5), (4, 52, 0), (0, 0, 5), (4, 53, 0)], 0, 0),
  (0, 9, [(4, 55, 0), (0, 0, 200), (4, 56, 0), (4, 57, 0), (4, 58, 0), (0, 0, 201), (0, 0, 201), (0, (-2147483648), 2147483647), (4, 59, 0), (0, 0, 800)], 0, 0),
  (0, 0, [(4, 61, 0), (0, 0, 16), (4, 62, 0), (4, 63, 0)], 0, 0),
  (0, 12, [(0, (-2147483648), 2147483647), (0, 0, 23999), (0, 0, 12), (4, 65, 0), (4, 66, 0), (4, 67, 0), (4, 68, 0), (0, 0, 15), (4, 69, 0), (4, 70, 0), (4, 71, 0), (4, 72, 0), (4, 73, 0), (4, 74, 0), (4, 75, 0), (0, 0, 90), (4, 76, 0), (4, 77, 0), (4, 78, 0), (4, 79, 0), (4, 80, 0), (4, 81, 0), (4, 82, 0), (4, 83, 0), (4, 84, 0), (4, 85, 0), (4, 86, 0), (4, 87, 0), (4, 88, 0), (4, 89, 0), (4, 90, 0), (4, 91, 0), (0, 0, 490), (0, 0, 400), (4, 92, 0), (4, 93, 0), (4, 94, 0), (0, 0, 200), (4, 95, 0), (4, 96, 0), (4, 97, 0), (0, 0, 300), (4, 98, 0), (4, 99, 0), (4, 100, 0), (0, 0, 30), (4, 101, 0), (4, 102, 0), (0, 0, 100), (4, 103, 0), (4, 104, 0), (4, 105, 0), (4, 106, 0), (4, 107, 0), (4, 108, 0), (4, 109, 0), (4, 110, 0), (4, 111, 0), (4, 112, 0), (4, 113, 0), (4, 114, 0), (4, 115, 0), (0, 0, 6), (4, 116, 0), (0, 0, 1), (0, (-2147483648), 2147483647), (4, 117, 0), (4, 118, 0), (4, 119, 0), (4, 120, 0), (0, 0, 5), (4, 121, 0), (4, 122, 0), (0, 0, 11), (0, 0, 5), (4, 123, 0), (4, 124, 0), (0, 0, 200), (0, 0, 16), (4, 125, 0), (4, 126, 0), (4, 127, 0), (4, 128, 0), (4, 129, 0), (4, 130, 0), (4, 131, 0), (0, 0, 200), (0, 0, 200), (0, (-2147483648), 2147483647), (0, (-2147483648), 2147483647), (0, (-2147483648), 2147483647), (0, 0, 8), (0, 0, 15), (0, 0, 439), (4, 132, 0), (4, 133, 0), (0, (-2147483648), 2147483647)], 0, 0),
  (0, 1, [(0, 0, 14), (0, (-2147483648), 2147483647), (0, (-2147483648), 2147483647), (0, (-2147483648), 2147483647), (0, (-2147483648), 2147483647), (0, (-2147483648), 2147483647), (2, 112, 0), (2, 113, 0)], 0, 0),
  (0, 4, [(0, (-2147483648), 2147483647), (2, 9, 0), (2, 11, 0), (0, (-2147483648), 2147483647), (0, (-2147483648), 2147483647), (0, (-2147483648), 2147483647), (0, (-2147483648), 2147483647), (0, (-2147483648), 2147483647), (0, (-2147483648), 2147483647), (3, 12, 0), (3, 12, 0), (0, (-2147483648), 2147483647), (0, (-2147483648), 2147483647), (2, 114, 0), (2, 115, 0), (0, 0, 5)], 0, 0),
  (0, 6, [(2, 116, 0), (2, 117, 0), (0, 1, 401), (0, 0, 1)], 0, 0),
  (0, 7, [(0, (-2147483648), 2147483647), (0, (-2147483648), 2147483647), (0, (-2147483648), 2147483647), (0, (-2147483648), 2147483647), (0, (-2147483648), 2147483647), (2, 9, 0), (0, (-2147483648), 2147483647), (0, (-2147483648), 2147483647), (0, (-2147483648), 2147483647), (0, (-2147483648), 2147483647), (3, 10, 0), (0, (-2147483648), 2147483647), (0, (-2147483648), 2147483647), (2, 118, 0), (2, 119, 0), (2, 120, 0)], 0, 0),
  (0, 10, [(0, (-2147483648), 2147483647), (0, (-2147483648), 2147483647), (0, (-2147483648), 2147483647), (2, 121, 0)], 0, 0),
  (1, 1, [(0, 0, 1)], 1000, 1000),
  (3, 3, [(3, 9, 0)], 15, 15)]
def tyT_1 : List TD := [(3, 4, [(3, 10, 0)], 90, 90),
  (1, 0, [(0, 0, 11)], 30, 30),
  (1, 0, [(0, 0, 255)], 30, 30),
  (3, 5, [(3, 12, 0)], 100, 100),
  (1, 1, [(0, 0, 1)], 12, 12),
  (3, 7, [(2, 122, 0)], 12, 12),
  (3, 7, [(2, 123, 0)], 12, 12),
  (1, 0, [(0, (-2147483648), 2147483647)], 300, 300),
  (1, 0, [(0, (-2147483648), 2147483647)], 300, 300),
  (1, 0, [(0, (-2147483648), 2147483647)], 300, 300),
  (1, 0, [(0, (-2147483648), 2147483647)], 200, 200),
  (1, 0, [(0, (-2147483648), 2147483647)], 200, 200),
  (1, 0, [(0, (-2147483648), 2147483647)], 200, 200),
  (3, 5, [(3, 12, 0)], 6, 6),
  (2, 2, [(1, 0, 0)], 64, 64),
  (2, 2, [(1, 0, 0)], 6, 6)]
def tyT_2 : List TD := [(3, 4, [(3, 10, 0)], 5, 5),
  (3, 4, [(3, 10, 0)], 5, 5),
  (1, 0, [(0, 0, 4)], 5, 5),
  (1, 0, [(0, 0, 255)], 200, 200),
  (1, 0, [(0, (-2147483648), 2147483647)], 201, 201),
  (1, 0, [(0, (-2147483648), 2147483647)], 201, 201),
  (1, 0, [(0, (-2147483648), 2147483647)], 201, 201),
  (1, 0, [(0, (-2147483648), 2147483647)], 800, 800),
  (3, 6, [(3, 13, 0)], 16, 16),
  (1, 0, [(0, (-2147483648), 2147483647)], 14, 14),
  (1, 0, [(0, (-2147483648), 2147483647)], 64, 64),
  (1, 1, [(0, 0, 1)], 12, 12),
  (1, 0, [(0, 0, 300)], 144, 144),
  (1, 0, [(0, 0, 1000000)], 144, 144),
  (1, 1, [(0, 0, 1)], 1000, 1000),
  (1, 0, [(0, (-2147483648), 2147483647)], 15, 15)]
def tyT_3 : List TD := [(1, 0, [(0, (-2147483648), 2147483647)], 15, 15),
  (1, 0, [(0, (-2147483648), 2147483647)], 15, 15),
  (1, 0, [(0, (-2147483648), 2147483647)], 15, 15),
  (1, 0, [(0, (-2147483648), 2147483647)], 15, 15),
  (1, 1, [(0, 0, 1)], 225, 225),
  (1, 0, [(0, (-2147483648), 2147483647)], 240, 240),
  (1, 0, [(0, 0, 14)], 90, 90),
  (1, 0, [(0, (-2147483648), 2147483647)], 90, 90),
  (1, 0, [(0, (-2147483648), 2147483647)], 90, 90),
  (1, 0, [(0, 0, 11)], 90, 90),
  (1, 0, [(0, (-2147483648), 2147483647)], 90, 90),
  (1, 1, [(0, 0, 1)], 90, 90),
  (1, 0, [(0, (-2147483648), 2147483647)], 90, 90),
  (1, 0, [(0, (-2147483648), 2147483647)], 90, 90),
  (1, 0, [(0, (-2147483648), 2147483647)], 90, 90),
  (1, 0, [(0, (-2147483648), 2147483647)], 90, 90)]
def tyT_4 : List TD := [(1, 0, [(0, (-1), 99)], 90, 90),
  (1, 0, [(0, (-2147483648), 2147483647)], 90, 90),
  (1, 0, [(0, (-2147483648), 2147483647)], 90, 90),
  (1, 0, [(0, 0, 5)], 90, 90),
  (1, 0, [(0, (-2147483648), 2147483647)], 450, 450),
  (1, 0, [(0, 0, 9999)], 450, 450),
  (1, 0, [(0, (-2147483648), 2147483647)], 490, 490),
  (1, 0, [(0, (-2147483648), 2147483647)], 490, 490),
  (1, 0, [(0, (-2147483648), 2147483647)], 490, 490),
  (1, 0, [(0, (-2147483648), 2147483647)], 200, 200),
  (1, 0, [(0, (-2147483648), 2147483647)], 200, 200),
  (1, 0, [(0, (-2147483648), 2147483647)], 200, 200),
  (1, 0, [(0, (-2147483648), 2147483647)], 300, 300),
  (1, 0, [(0, (-2147483648), 2147483647)], 300, 300),
  (1, 0, [(0, (-2147483648), 2147483647)], 300, 300),
  (1, 0, [(0, 0, 11)], 30, 30)]
def tyT_5 : List TD := [(1, 0, [(0, (-2147483648), 2147483647)], 30, 30),
  (1, 0, [(0, 0, 29)], 100, 100),
  (1, 0, [(0, 0, 14)], 100, 100),
  (1, 0, [(0, 0, 23999)], 100, 100),
  (1, 0, [(0, (-2147483648), 2147483647)], 100, 100),
  (1, 0, [(0, (-2147483648), 2147483647)], 100, 100),
  (1, 0, [(0, (-2147483648), 2147483647)], 100, 100),
  (1, 0, [(0, (-2147483648), 2147483647)], 100, 100),
  (1, 0, [(0, (-1), 89)], 100, 100),
  (1, 0, [(0, (-1), 2147483647)], 100, 100),
  (1, 0, [(0, (-1), 23999)], 100, 100),
  (1, 0, [(0, (-2147483648), 2147483647)], 6000, 6000),
  (1, 0, [(0, (-2147483648), 2147483647)], 200, 200),
  (1, 0, [(0, (-2147483648), 2147483647)], 200, 200),
  (1, 0, [(0, 0, 99)], 6, 6),
  (1, 1, [(0, 0, 1)], 90, 90)]
def tyT_6 : List TD := [(1, 0, [(0, (-1), 89)], 6, 6),
  (2, 2, [(1, 0, 0)], 64, 64),
  (2, 2, [(1, 0, 0)], 540, 540),
  (1, 0, [(0, 0, 89)], 5, 5),
  (1, 0, [(0, (-1), 5)], 5, 5),
  (1, 0, [(0, (-2147483648), 2147483647)], 5, 5),
  (1, 8, [(0, (-128), 127)], 200, 200),
  (1, 0, [(0, (-2147483648), 2147483647)], 16, 16),
  (1, 0, [(0, (-2147483648), 2147483647)], 16, 16),
  (1, 0, [(0, (-2147483648), 2147483647)], 16, 16),
  (1, 0, [(0, 0, 220)], 17, 17),
  (1, 0, [(0, (-2147483648), 2147483647)], 3740, 3740),
  (1, 0, [(0, (-2147483648), 2147483647)], 3740, 3740),
  (1, 0, [(0, (-2147483648), 2147483647)], 3740, 3740),
  (1, 0, [(0, (-2147483648), 2147483647)], 14, 14),
  (1, 0, [(0, (-2147483648), 2147483647)], 220, 220)]
def tyT_7 : List TD := [(1, 0, [(0, (-2147483648), 2147483647)], 16, 16),
  (1, 1, [(0, 0, 1)], 15, 15),
  (1, 0, [(0, (-2147483648), 2147483647)], 5, 5),
  (1, 0, [(0, (-2147483648), 2147483647)], 5, 5),
  (1, 0, [(0, (-2147483648), 2147483647)], 4, 802),
  (1, 0, [(0, (-2147483648), 2147483647)], 4, 802),
  (1, 1, [(0, 0, 1)], 60, 60),
  (1, 0, [(0, (-2147483648), 2147483647)], 2, 2),
  (1, 0, [(0, (-2147483648), 2147483647)], 2, 2),
  (1, 0, [(0, (-2147483648), 2147483647)], 0, 800),
  (1, 0, [(0, 0, 300)], 12, 12),
  (1, 0, [(0, (-2147483648), 2147483647)], 12, 12)]
def tyT : List (List TD) := [tyT_0, tyT_1, tyT_2, tyT_3, tyT_4, tyT_5, tyT_6, tyT_7]
def tau0 : List Nat := [1, 14, 2, 20, 21, 122, 122, 122, 122, 122, 122, 122, 122, 122, 122, 122, 122, 22, 123, 123, 123, 123, 123, 123, 123, 123, 123, 123, 123, 123, 15, 16, 17, 18, 19, 3, 23, 24, 25, 26, 27, 28, 4, 29, 30, 31, 5, 32, 33, 34, 6, 35, 36, 37, 38, 39, 7, 40, 41, 42, 8, 43, 44, 45, 46, 47, 48, 49, 50, 51, 52, 53, 54, 55, 56, 57, 58, 59, 60, 61, 62, 63, 64, 65, 66, 67, 68, 69, 70, 71, 72, 73, 74, 75, 76, 77, 78, 79, 80, 81, 82, 83, 84, 85, 86, 87, 88, 89, 90, 91, 92, 93, 94, 95, 96, 97, 98, 99, 100, 101, 102, 103, 104, 105, 106, 107, 108, 109, 110, 111]
def tyd (t : Nat) : TD := match tyT[t / 16]? with
  | some l => (match l[t % 16]? with
    | some d => d
    | none => (9, 0, [], 0, 0))
  | none => (9, 0, [], 0, 0)
def ty (τ : List Nat) (q t : Nat) : Prop := 4 ≤ q ∧ τ[q - 4]? = some t
def okV (τ : List Nat) (ft : FT) (v : Value) : Prop := match ft with
  | (0, lo, hi) => ∃ x : Int32, v = .int x ∧ lo ≤ x.toInt ∧ x.toInt ≤ hi
  | (1, _, _) => ∃ x : Int64, v = .long x
  | (2, t, _) => ∃ q : Nat, v = .ref q ∧ ty τ q t.toNat
  | (3, t, _) => v = .null ∨ ∃ q : Nat, v = .ref q ∧ ty τ q t.toNat
  | (4, q, _) => v = .ref q.toNat
  | _ => False
def elt (l : List FT) : FT := l.getD 0 (0, 0, 0)
def okC (τ : List Nat) (td : TD) (e : mE) : Prop := match td with
  | (0, ci, fts, _, _) => ∃ fs, e = .inr (ci, fs) ∧ fs.length = fts.length ∧ ∀ (k : Nat) (ft : FT) (v : Value), fts[k]? = some ft → fs[k]? = some v → okV τ ft v
  | (1, c, fts, nlo, nhi) => ∃ n f, e = .inl (c, (n, .inl f)) ∧ nlo ≤ n ∧ n ≤ nhi ∧ ∀ i, (elt fts).2.1 ≤ (f i).toInt ∧ (f i).toInt ≤ (elt fts).2.2
  | (2, c, _, nlo, nhi) => ∃ n f, e = .inl (c, (n, .inr (.inl f))) ∧ nlo ≤ n ∧ n ≤ nhi
  | (3, c, fts, nlo, nhi) => ∃ n f, e = .inl (c, (n, .inr (.inr (.inr (.inr f))))) ∧ nlo ≤ n ∧ n ≤ nhi ∧ ∀ i, i < n → okV τ (elt fts) (va_rf (f i))
  | _ => True
def TW (τ : List Nat) (h : List mE) : Prop := h.length = τ.length ∧ ∀ (i t : Nat) (e : mE), τ[i]? = some t → h[i]? = some e → okC τ (tyd t) e
def PF (τ : List Nat) : Prop := ∀ i t : Nat, tau0[i]? = some t → τ[i]? = some t
abbrev EP : Type := List Nat → List mE → Prop
/-- typed cells, the given ones in their places, and what else is known (E) -/
def TH (E : EP) (τ : List Nat) (h : List mE) : Prop := TW τ h ∧ PF τ ∧ E τ h
def Tr : EP := fun _ _ => True
theorem tf {E : EP} {τ : List Nat} {h : List mE} (hT : TH E τ h) {q t : Nat} (h4 : Nat.ble 4 q = true) (ht : tau0[q - 4]? = some t) : ty τ q t := ⟨Nat.le_of_ble_eq_true h4, hT.2.1 _ _ ht⟩
theorem ty_q {τ : List Nat} {q t : Nat} (ht : ty τ q t) : 4 ≤ q := ht.1
theorem ty_1 {τ : List Nat} {q t u : Nat} (h1 : ty τ q t) (h2 : ty τ q u) : t = u := by
  have := h1.2.symm.trans h2.2
  cases this; rfl
/-- what is read -/
def rV (h : List mE) (q b : Nat) : Value := match mown h q with
  | some (.inr (_, fs)) => (match fs[b]? with
    | some v => v
    | none => .null)
  | _ => .null
def fI (h : List mE) (q b : Nat) : Int := match rV h q b with
  | .int x => x.toInt
  | _ => 0
def fR (h : List mE) (q b : Nat) : Option Nat := match rV h q b with
  | .ref q => some q
  | _ => none
def aF (h : List mE) (q : Nat) : Nat → Int32 := match mown h q with
  | some (.inl (_, (_, .inl f))) => f
  | _ => fun _ => 0
def aI (h : List mE) (q : Nat) (i : Int) : Int := (aF h q i.toNat).toInt
def aO (h : List mE) (q : Nat) : Nat → Option Nat := match mown h q with
  | some (.inl (_, (_, .inr (.inr (.inr (.inr f)))))) => f
  | _ => fun _ => none
def aR (h : List mE) (q : Nat) (i : Int) : Option Nat := aO h q i.toNat
def aN (h : List mE) (q : Nat) : Nat := match mown h q with
  | some (.inl (_, (n, _))) => n
  | _ => 0
def pfk (ft : FT) (y : Option FieldType) : Bool := match y with
  | some .int => ft.1 == 0
  | some .boolean => (ft.1 == 0) && decide (0 ≤ ft.2.1) && decide (ft.2.2 ≤ 1)
  | some (.object _) => Nat.ble 2 ft.1
  | some (.array _) => Nat.ble 2 ft.1
  | _ => false
def fld (t b : Nat) : Option (Nat × FT) := match tyd t with
  | (0, ci, fts, _, _) => (match fts[b]? with
    | some ft => if pfk ft (mfty ci b) = true then some (ci, ft) else none
    | none => none)
  | _ => none
/-- an array's type: which, its elements, its least and most length -/
def ary (t : Nat) : Option (Nat × Nat × FT × Nat × Nat) := match tyd t with
  | (0, _, _, _, _) => none
  | (k, c, fts, nlo, nhi) => if k < 4 then some (k, c, elt fts, nlo, nhi) else none
/-- since h0 what stood there is as it was, but for W -/
def Fr (σ : List Nat) (W : List (Nat × Nat)) (h0 h : List mE) : Prop := ∀ q t : Nat, ty σ q t → aN h q = aN h0 q ∧ ∀ b : Nat, (t, b) ∉ W → rV h q b = rV h0 q b ∧ (b = 0 → aF h q = aF h0 q ∧ aO h q = aO h0 q)
def Wsub (A B : List (Nat × Nat)) : Bool := A.all (fun p => B.contains p)
theorem Wsub_of {A B : List (Nat × Nat)} (h : Wsub A B = true) {p : Nat × Nat} (hp : p ∈ A) : p ∈ B := by
  have := List.all_eq_true.mp h p hp
  exact List.contains_iff_mem.mp this
/-- what is known stays, whatever is written in W -/
def Stb (E : EP) (W : List (Nat × Nat)) : Prop := ∀ (τ : List Nat) (h h' : List mE), Fr τ W h h' → E τ h → E τ h'
theorem Stb_T {W : List (Nat × Nat)} : Stb Tr W := fun _ _ _ _ _ => trivial
theorem TH_weak {E : EP} {τ : List Nat} {h : List mE} (hT : TH E τ h) : TH Tr τ h := ⟨hT.1, hT.2.1, trivial⟩
theorem TH_make {E F : EP} {τ : List Nat} {h : List mE} (hT : TH F τ h) (he : E τ h) : TH E τ h := ⟨hT.1, hT.2.1, he⟩
theorem Fr_rf (σ : List Nat) (W : List (Nat × Nat)) (h : List mE) : Fr σ W h h := fun _ _ _ => ⟨rfl, fun _ _ => ⟨rfl, fun _ => ⟨rfl, rfl⟩⟩⟩
theorem Fr_mono {σ : List Nat} {A B : List (Nat × Nat)} {h0 h : List mE} (hf : Fr σ A h0 h) (hs : Wsub A B = true) : Fr σ B h0 h := fun q t ht => ⟨(hf q t ht).1, fun b hb => (hf q t ht).2 b (fun z => hb (Wsub_of hs z))⟩
theorem Stb_mono {E : EP} {A B : List (Nat × Nat)} (hS : Stb E B) (hs : Wsub A B = true) : Stb E A := fun τ h h' hf => hS τ h h' (Fr_mono hf hs)
theorem Stb_1 {E : EP} {B : List (Nat × Nat)} {p : Nat × Nat} (hS : Stb E B) (hp : B.contains p = true) : Stb E [p] := Stb_mono hS (by simp only [Wsub, List.all_cons, List.all_nil, Bool.and_true]; exact hp)
theorem Fr_tr {σ : List Nat} {W : List (Nat × Nat)} {h0 h1 h2 : List mE} (h01 : Fr σ W h0 h1) (h12 : Fr σ W h1 h2) : Fr σ W h0 h2 := fun q t ht => ⟨((h12 q t ht).1).trans (h01 q t ht).1, fun b hb => by
  obtain ⟨a1, a2⟩ := (h01 q t ht).2 b hb
  obtain ⟨b1, b2⟩ := (h12 q t ht).2 b hb
  exact ⟨b1.trans a1, fun z => ⟨(b2 z).1.trans (a2 z).1, (b2 z).2.trans (a2 z).2⟩⟩⟩
theorem Fr_cp {σ : List Nat} {A W : List (Nat × Nat)} {h0 h1 h2 : List mE} (h01 : Fr σ W h0 h1) (h12 : Fr σ A h1 h2) (hs : Wsub A W = true) : Fr σ W h0 h2 := Fr_tr h01 (Fr_mono h12 hs)
theorem Fr_fI {σ : List Nat} {W : List (Nat × Nat)} {h0 h : List mE} (hf : Fr σ W h0 h) {q t b : Nat} (ht : ty σ q t) (hb : W.contains (t, b) = false) : fI h q b = fI h0 q b := by
  unfold fI
  rw [((hf q t ht).2 b (fun z => by rw [List.contains_iff_mem.mpr z] at hb; cases hb)).1]
theorem Fr_fR {σ : List Nat} {W : List (Nat × Nat)} {h0 h : List mE} (hf : Fr σ W h0 h) {q t b : Nat} (ht : ty σ q t) (hb : W.contains (t, b) = false) : fR h q b = fR h0 q b := by
  unfold fR
  rw [((hf q t ht).2 b (fun z => by rw [List.contains_iff_mem.mpr z] at hb; cases hb)).1]
theorem Fr_aF {σ : List Nat} {W : List (Nat × Nat)} {h0 h : List mE} (hf : Fr σ W h0 h) {q t : Nat} (ht : ty σ q t) (hb : W.contains (t, 0) = false) : aF h q = aF h0 q := (((hf q t ht).2 0 (fun z => by rw [List.contains_iff_mem.mpr z] at hb; cases hb)).2 rfl).1
theorem Fr_aI {σ : List Nat} {W : List (Nat × Nat)} {h0 h : List mE} (hf : Fr σ W h0 h) {q t : Nat} (ht : ty σ q t) (hb : W.contains (t, 0) = false) (i : Int) : aI h q i = aI h0 q i := by
  unfold aI
  rw [Fr_aF hf ht hb]
theorem Fr_aR {σ : List Nat} {W : List (Nat × Nat)} {h0 h : List mE} (hf : Fr σ W h0 h) {q t : Nat} (ht : ty σ q t) (hb : W.contains (t, 0) = false) (i : Int) : aR h q i = aR h0 q i := by
  unfold aR
  rw [(((hf q t ht).2 0 (fun z => by rw [List.contains_iff_mem.mpr z] at hb; cases hb)).2 rfl).2]
section CEL
variable {τ σ : List Nat} {W : List (Nat × Nat)} {h h0 h' : List mE} {q q' t b b' n i : Nat} {e e0 : mE} {v : Value}
theorem mown_put (hq : mown h q = some e0) : mown (mput h q e) q = some e := by
  obtain ⟨h4, hq⟩ := g_own hq
  have hl := (List.getElem?_eq_some_iff.mp hq).1
  unfold mown mput
  rw [if_neg (by omega), List.getElem?_set_self hl]
theorem mown_put_ne (h4 : 4 ≤ q) (hn : q' ≠ q) : mown (mput h q e) q' = mown h q' := by
  unfold mown mput
  by_cases h5 : q' < 4
  · rw [if_pos h5, if_pos h5]
  · rw [if_neg h5, if_neg h5, List.getElem?_set_ne (by omega)]
theorem TW_at (hT : TW τ h) (ht : ty τ q t) : ∃ e, mown h q = some e ∧ okC τ (tyd t) e := by
  obtain ⟨h4, ht⟩ := ht
  have hl : q - 4 < h.length := by rw [hT.1]; exact (List.getElem?_eq_some_iff.mp ht).1
  refine ⟨h[q - 4], ?_, hT.2 _ _ _ ht (List.getElem?_eq_getElem hl)⟩
  unfold mown
  rw [if_neg (by omega), List.getElem?_eq_getElem hl]
theorem TW_put (hT : TW τ h) (hq : mown h q = some e0) (ht : ty τ q t) (hok : okC τ (tyd t) e) : TW τ (mput h q e) := by
  obtain ⟨h4, hq⟩ := g_own hq
  have hl := (List.getElem?_eq_some_iff.mp hq).1
  refine ⟨by unfold mput; rw [List.length_set, hT.1], fun j u x hj hx => ?_⟩
  unfold mput at hx
  by_cases hjq : j = q - 4
  · subst hjq
    rw [List.getElem?_set_self hl] at hx
    cases hx
    have := ht.2.symm.trans hj
    cases this
    exact hok
  · rw [List.getElem?_set_ne (Ne.symm hjq)] at hx
    exact hT.2 _ _ _ hj hx
theorem TH_put {E : EP} {W : List (Nat × Nat)} (hT : TH E τ h) (hq : mown h q = some e0) (ht : ty τ q t) (hok : okC τ (tyd t) e) (hf : Fr τ W h (mput h q e)) (hS : Stb E W) : TH E τ (mput h q e) := ⟨TW_put hT.1 hq ht hok, hT.2.1, hS _ _ _ hf hT.2.2⟩
theorem fld_of {ci : Nat} {ft : FT} (hd : fld t b = some (ci, ft)) : ∃ fts nlo nhi, tyd t = (0, ci, fts, nlo, nhi) ∧ fts[b]? = some ft ∧ pfk ft (mfty ci b) = true := by
  unfold fld at hd
  split at hd
  · rename_i ci' fts nlo nhi he
    split at hd
    · rename_i ft' hf
      split at hd
      · rename_i hp
        cases hd
        exact ⟨fts, nlo, nhi, he, hf, hp⟩
      · cases hd
    · cases hd
  · cases hd
/-- a typed object's field -/
theorem TW_fld {ci : Nat} {ft : FT} (hT : TW τ h) (ht : ty τ q t) (hd : fld t b = some (ci, ft)) : ∃ fs v, mown h q = some (.inr (ci, fs)) ∧ fs[b]? = some v ∧ okV τ ft v ∧ rV h q b = v ∧ b < fs.length := by
  obtain ⟨fts, nlo, nhi, he, hf, -⟩ := fld_of hd
  obtain ⟨x, hx, hok⟩ := TW_at hT ht
  rw [he] at hok
  obtain ⟨fs, rfl, hlen, hall⟩ := hok
  have hb : b < fs.length := by rw [hlen]; exact (List.getElem?_eq_some_iff.mp hf).1
  refine ⟨fs, fs[b], hx, List.getElem?_eq_getElem hb, hall _ _ _ hf (List.getElem?_eq_getElem hb), ?_, hb⟩
  unfold rV
  rw [hx]
  dsimp only
  rw [List.getElem?_eq_getElem hb]
theorem TW_cls {ci : Nat} {ft : FT} (hT : TW τ h) (ht : ty τ q t) (hd : fld t b = some (ci, ft)) : ∃ fs, mown h q = some (.inr (ci, fs)) := by
  obtain ⟨fs, v, h1, -⟩ := TW_fld hT ht hd
  exact ⟨fs, h1⟩
/-- a field has been written -/
def FUp (h : List mE) (q b : Nat) (v : Value) (h' : List mE) : Prop := ∃ ci fs, mown h q = some (.inr (ci, fs)) ∧ b < fs.length ∧ h' = mput h q (.inr (ci, fs.set b v))
theorem FUp_rV (hu : FUp h q b v h') : rV h' q b = v := by
  obtain ⟨ci, fs, h1, h2, rfl⟩ := hu
  unfold rV
  rw [mown_put h1]
  dsimp only
  rw [List.getElem?_set_self h2]
theorem FUp_ne (hu : FUp h q b v h') (hn : ¬ (q' = q ∧ b' = b)) : rV h' q' b' = rV h q' b' := by
  obtain ⟨ci, fs, h1, h2, rfl⟩ := hu
  unfold rV
  by_cases e : q' = q
  · subst e
    rw [mown_put h1, h1]
    dsimp only
    rw [List.getElem?_set_ne (fun z => hn ⟨rfl, z.symm⟩)]
  · rw [mown_put_ne (g_own h1).1 e]
theorem FUp_arr (hu : FUp h q b v h') : aF h' q' = aF h q' ∧ aO h' q' = aO h q' ∧ aN h' q' = aN h q' := by
  obtain ⟨ci, fs, h1, h2, rfl⟩ := hu
  unfold aF aO aN
  by_cases e : q' = q
  · subst e
    rw [mown_put h1, h1]
    exact ⟨rfl, rfl, rfl⟩
  · rw [mown_put_ne (g_own h1).1 e]
    exact ⟨rfl, rfl, rfl⟩
theorem FUp_fI {z : Int} (hu : FUp h q b (vI z) h') (h1 : -2147483648 ≤ z) (h2 : z ≤ 2147483647) : fI h' q b = z := by
  unfold fI
  rw [FUp_rV hu]
  exact to_of h1 h2
theorem FUp_fIne (hu : FUp h q b v h') (hn : ¬ (q' = q ∧ b' = b)) : fI h' q' b' = fI h q' b' := by
  unfold fI
  rw [FUp_ne hu hn]
theorem FUp_fRne (hu : FUp h q b v h') (hn : ¬ (q' = q ∧ b' = b)) : fR h' q' b' = fR h q' b' := by
  unfold fR
  rw [FUp_ne hu hn]
theorem FUp_fR {r : Nat} (hu : FUp h q b (.ref r) h') : fR h' q b = some r := by
  unfold fR
  rw [FUp_rV hu]
theorem FUp_fRn (hu : FUp h q b .null h') : fR h' q b = none := by
  unfold fR
  rw [FUp_rV hu]
theorem FUp_aI (hu : FUp h q b v h') (i : Int) : aI h' q' i = aI h q' i := by
  unfold aI
  rw [(FUp_arr hu).1]
theorem FUp_aR (hu : FUp h q b v h') (i : Int) : aR h' q' i = aR h q' i := by
  unfold aR
  rw [(FUp_arr hu).2.1]
theorem FUp_Fr (hF : Fr σ W h0 h) (hu : FUp h q b v h') (hw : ∀ u, ty σ q u → (u, b) ∈ W) : Fr σ W h0 h' := fun q' u hq' => by
  obtain ⟨a1, a2⟩ := hF q' u hq'
  obtain ⟨c1, c2, c3⟩ := FUp_arr (q' := q') hu
  refine ⟨c3.trans a1, fun b' hb' => ?_⟩
  obtain ⟨d1, d2⟩ := a2 b' hb'
  refine ⟨(FUp_ne hu (fun z => ?_)).trans d1, fun z => ⟨c1.trans (d2 z).1, c2.trans (d2 z).2⟩⟩
  obtain ⟨rfl, rfl⟩ := z
  exact hb' (hw u hq')
/-- an int array's element has been written -/
def AUp (h : List mE) (q : Nat) (i x : Int) (h' : List mE) : Prop := ∃ c n f, mown h q = some (.inl (c, (n, .inl f))) ∧ h' = mput h q (.inl (c, (n, .inl (upd f i.toNat (Int32.ofInt x)))))
theorem AUp_aF {i x : Int} (hu : AUp h q i x h') : aF h' q = upd (aF h q) i.toNat (Int32.ofInt x) := by
  obtain ⟨c, n, f, h1, rfl⟩ := hu
  unfold aF
  rw [mown_put h1, h1]
theorem AUp_aI {i x j : Int} (hu : AUp h q i x h') (h1 : -2147483648 ≤ x) (h2 : x ≤ 2147483647) (hi : 0 ≤ i) (hj : 0 ≤ j) : aI h' q j = if j = i then x else aI h q j := by
  unfold aI
  rw [AUp_aF hu]
  unfold upd
  by_cases e : j = i
  · subst e
    rw [if_pos rfl, if_pos rfl, to_of h1 h2]
  · rw [if_neg (by omega), if_neg e]
theorem AUp_ne {i x : Int} (hu : AUp h q i x h') (hn : q' ≠ q) : aF h' q' = aF h q' := by
  obtain ⟨c, n, f, h1, rfl⟩ := hu
  unfold aF
  rw [mown_put_ne (g_own h1).1 hn]
theorem AUp_aIne {i x : Int} (hu : AUp h q i x h') (hn : q' ≠ q) (j : Int) : aI h' q' j = aI h q' j := by
  unfold aI
  rw [AUp_ne hu hn]
theorem AUp_o {i x : Int} (hu : AUp h q i x h') : aO h' q' = aO h q' ∧ aN h' q' = aN h q' ∧ ∀ b, rV h' q' b = rV h q' b := by
  obtain ⟨c, n, f, h1, rfl⟩ := hu
  unfold aO aN rV
  by_cases e : q' = q
  · subst e
    rw [mown_put h1, h1]
    exact ⟨rfl, rfl, fun _ => rfl⟩
  · rw [mown_put_ne (g_own h1).1 e]
    exact ⟨rfl, rfl, fun _ => rfl⟩
theorem AUp_fI {i x : Int} (hu : AUp h q i x h') : fI h' q' b = fI h q' b := by
  unfold fI
  rw [(AUp_o hu).2.2]
theorem AUp_fR {i x : Int} (hu : AUp h q i x h') : fR h' q' b = fR h q' b := by
  unfold fR
  rw [(AUp_o hu).2.2]
theorem AUp_aR {i x : Int} (hu : AUp h q i x h') (j : Int) : aR h' q' j = aR h q' j := by
  unfold aR
  rw [(AUp_o hu).1]
theorem AUp_Fr {i x : Int} (hF : Fr σ W h0 h) (hu : AUp h q i x h') (hw : ∀ u, ty σ q u → (u, 0) ∈ W) : Fr σ W h0 h' := fun q' u hq' => by
  obtain ⟨a1, a2⟩ := hF q' u hq'
  obtain ⟨c1, c2, c3⟩ := AUp_o (q' := q') hu
  refine ⟨c2.trans a1, fun b' hb' => ?_⟩
  obtain ⟨d1, d2⟩ := a2 b' hb'
  refine ⟨(c3 b').trans d1, fun z => ⟨?_, c1.trans (d2 z).2⟩⟩
  subst z
  refine Eq.trans (AUp_ne hu (fun e => ?_)) (d2 rfl).1
  subst e
  exact hb' (hw u hq')
/-- a reference array's element has been written -/
def OUp (h : List mE) (q : Nat) (i : Int) (x : Option Nat) (h' : List mE) : Prop := ∃ c n f, mown h q = some (.inl (c, (n, .inr (.inr (.inr (.inr f)))))) ∧ h' = mput h q (.inl (c, (n, .inr (.inr (.inr (.inr (va_up f i.toNat x)))))))
theorem OUp_aR {i j : Int} {x : Option Nat} (hu : OUp h q i x h') (hi : 0 ≤ i) (hj : 0 ≤ j) : aR h' q j = if j = i then x else aR h q j := by
  obtain ⟨c, n, f, h1, rfl⟩ := hu
  unfold aR aO
  rw [mown_put h1, h1]
  dsimp only
  unfold va_up
  by_cases e : j = i
  · subst e
    rw [if_pos rfl, if_pos rfl]
  · rw [if_neg (by omega), if_neg e]
theorem OUp_ne {i : Int} {x : Option Nat} (hu : OUp h q i x h') (hn : q' ≠ q) : aO h' q' = aO h q' := by
  obtain ⟨c, n, f, h1, rfl⟩ := hu
  unfold aO
  rw [mown_put_ne (g_own h1).1 hn]
theorem OUp_aRne {i : Int} {x : Option Nat} (hu : OUp h q i x h') (hn : q' ≠ q) (j : Int) : aR h' q' j = aR h q' j := by
  unfold aR
  rw [OUp_ne hu hn]
theorem OUp_o {i : Int} {x : Option Nat} (hu : OUp h q i x h') : aF h' q' = aF h q' ∧ aN h' q' = aN h q' ∧ ∀ b, rV h' q' b = rV h q' b := by
  obtain ⟨c, n, f, h1, rfl⟩ := hu
  unfold aF aN rV
  by_cases e : q' = q
  · subst e
    rw [mown_put h1, h1]
    exact ⟨rfl, rfl, fun _ => rfl⟩
  · rw [mown_put_ne (g_own h1).1 e]
    exact ⟨rfl, rfl, fun _ => rfl⟩
theorem OUp_fI {i : Int} {x : Option Nat} (hu : OUp h q i x h') : fI h' q' b = fI h q' b := by
  unfold fI
  rw [(OUp_o hu).2.2]
theorem OUp_fR {i : Int} {x : Option Nat} (hu : OUp h q i x h') : fR h' q' b = fR h q' b := by
  unfold fR
  rw [(OUp_o hu).2.2]
theorem OUp_aI {i : Int} {x : Option Nat} (hu : OUp h q i x h') (j : Int) : aI h' q' j = aI h q' j := by
  unfold aI
  rw [(OUp_o hu).1]
theorem OUp_Fr {i : Int} {x : Option Nat} (hF : Fr σ W h0 h) (hu : OUp h q i x h') (hw : ∀ u, ty σ q u → (u, 0) ∈ W) : Fr σ W h0 h' := fun q' u hq' => by
  obtain ⟨a1, a2⟩ := hF q' u hq'
  obtain ⟨c1, c2, c3⟩ := OUp_o (q' := q') hu
  refine ⟨c2.trans a1, fun b' hb' => ?_⟩
  obtain ⟨d1, d2⟩ := a2 b' hb'
  refine ⟨(c3 b').trans d1, fun z => ⟨c1.trans (d2 z).1, ?_⟩⟩
  subst z
  refine Eq.trans (OUp_ne hu (fun e => ?_)) (d2 rfl).2
  subst e
  exact hb' (hw u hq')
/-- a long array's element has been written: nothing that is read here changes -/
def JUp (h h' : List mE) : Prop := ∀ q : Nat, aF h' q = aF h q ∧ aO h' q = aO h q ∧ aN h' q = aN h q ∧ ∀ b, rV h' q b = rV h q b
theorem JUp_Fr (hF : Fr σ W h0 h) (hu : JUp h h') : Fr σ W h0 h' := fun q u hq => by
  obtain ⟨a1, a2⟩ := hF q u hq
  obtain ⟨c1, c2, c3, c4⟩ := hu q
  refine ⟨c3.trans a1, fun b hb => ?_⟩
  obtain ⟨d1, d2⟩ := a2 b hb
  exact ⟨(c4 b).trans d1, fun z => ⟨c1.trans (d2 z).1, c2.trans (d2 z).2⟩⟩
theorem FUp_1 (hu : FUp h q b v h') (ht : ty τ q t) : Fr τ [(t, b)] h h' := FUp_Fr (Fr_rf _ _ _) hu (fun u hu' => by rw [ty_1 hu' ht]; exact List.mem_singleton.mpr rfl)
theorem AUp_1 {i x : Int} (hu : AUp h q i x h') (ht : ty τ q t) : Fr τ [(t, 0)] h h' := AUp_Fr (Fr_rf _ _ _) hu (fun u hu' => by rw [ty_1 hu' ht]; exact List.mem_singleton.mpr rfl)
theorem OUp_1 {i : Int} {x : Option Nat} (hu : OUp h q i x h') (ht : ty τ q t) : Fr τ [(t, 0)] h h' := OUp_Fr (Fr_rf _ _ _) hu (fun u hu' => by rw [ty_1 hu' ht]; exact List.mem_singleton.mpr rfl)
theorem JUp_0 (hu : JUp h h') : Fr τ W h h' := JUp_Fr (Fr_rf _ _ _) hu
theorem JUp_fR (hu : JUp h h') : fR h' q b = fR h q b := by
  unfold fR
  rw [(hu q).2.2.2]
theorem JUp_aR (hu : JUp h h') (i : Int) : aR h' q i = aR h q i := by
  unfold aR
  rw [(hu q).2.1]
theorem JUp_fI (hu : JUp h h') : fI h' q b = fI h q b := by
  unfold fI
  rw [(hu q).2.2.2]
theorem JUp_aI (hu : JUp h h') (i : Int) : aI h' q i = aI h q i := by
  unfold aI
  rw [(hu q).1]
end CEL
